/-! THE MODEL's points, pure part -/
/-- a run of places from a base on takes new values -/
def OF (ba : Nat) (u v : Nat → FF) (k : Nat) (y : Nat → FF) : Prop := ∀ j : Nat, y j = if ba ≤ j ∧ j < ba + k then v (j - ba) else u j
theorem OF.start {ba : Nat} {u v : Nat → FF} : OF ba u v 0 u := fun j => by rw [if_neg (by omega)]
theorem OF.step {ba k : Nat} {u v y : Nat → FF} {x : FF} (h : OF ba u v k y) (hx : x = v k) : OF ba u v (k + 1) (nu y (ba + k) x) := fun j => by
  by_cases e : j = ba + k
  · subst e
    rw [nu_s, if_pos (by omega), hx, show ba + k - ba = k by omega]
  · rw [nu_n e, h j]
    by_cases q : ba ≤ j ∧ j < ba + k
    · rw [if_pos q, if_pos (by omega)]
    · rw [if_neg q, if_neg (by omega)]
theorem OF.inn {ba k b : Nat} {u v y : Nat → FF} (h : OF ba u v k y) (hb : b < k) : y (ba + b) = v b := by
  rw [h, if_pos (by omega), show ba + b - ba = b by omega]
theorem OF.out {ba k j : Nat} {u v y : Nat → FF} (h : OF ba u v k y) (hj : j < ba ∨ ba + k ≤ j) : y j = u j := by
  rw [h, if_neg (by omega)]
/-- rows in the table -/
def LY (F : Nat → Nat → FF) (i k : Nat) (y : Nat → FF) : Prop := ∀ a b : Nat, b < 5 → (a < i ∨ (a = i ∧ b < k)) → y (5 * a + b) = F a b
theorem LY.start {F : Nat → Nat → FF} {y : Nat → FF} : LY F 0 0 y := fun a b _ h => by omega
theorem LY.step {F : Nat → Nat → FF} {i k : Nat} {y : Nat → FF} {x : FF} (h : LY F i k y) (hk : k < 5) (hx : x = F i k) : LY F i (k + 1) (nu y (5 * i + k) x) := fun a b hb hab => by
  by_cases e : 5 * a + b = 5 * i + k
  · have e1 : a = i := by omega
    have e2 : b = k := by omega
    subst e1 e2
    rw [nu_s, hx]
  · rw [nu_n e]
    exact h a b hb (by omega)
theorem LY.row {F : Nat → Nat → FF} {i k : Nat} {y : Nat → FF} (h : LY F i k y) (hk : 5 ≤ k) : LY F (i + 1) 0 y := fun a b hb hab => h a b hb (by omega)
theorem LY.cg {F F2 : Nat → Nat → FF} {i k : Nat} {y : Nat → FF} (h : LY F i k y) (hf : ∀ a b : Nat, b < 5 → (a < i ∨ (a = i ∧ b < k)) → F a b = F2 a b) : LY F2 i k y := fun a b hb hab => (h a b hb hab).trans (hf a b hb hab)
theorem LY.insp {F : Nat → Nat → FF} {i V : Nat} {y : Nat → FF} (h : LY F i 0 y) (hV : V ≤ 4) {v : Nat → FF} : InSp (V + 1) (rw5 y) i v ↔ InSp (V + 1) F i v :=
  ⟨fun q => q.cg (fun a ha j hj => h a j (by omega) (by omega)), fun q => q.cg (fun a ha j hj => (h a j (by omega) (by omega)).symm)⟩
/-- what is right of the points -/
def PV (N V : Nat) (P : PS) : Prop := (∃ (T : Nat → Nat → Bool) (K : Nat → Nat → Nat → FF), XSp N V P T K) ∧ (∀ k : Nat, k < P.1 → P.2.1 k < N ∧ P.2.2.1 k < P.2.2.2.1 (P.2.1 k)) ∧ (∀ i j : Nat, i < N → j < P.2.2.2.1 i → Zb (V + 1) (P.2.2.2.2.1 i j)) ∧ P.1 = csum P.2.2.2.1 N
theorem PV.cnt {N V : Nat} {P : PS} (h : PV N V P) {i : Nat} (hi : i < N) : P.2.2.2.1 i ≤ V + 1 := by
  obtain ⟨⟨T, K, hs⟩, -⟩ := h
  rw [(hs i hi).1]
  exact cntT_le _ _
theorem PV.all {N V : Nat} {P : PS} (h : PV N V P) : P.1 ≤ N * (V + 1) := by
  rw [h.2.2.2]
  exact csum_le (fun i hi => h.cnt hi)
theorem PV.all40 {N V : Nat} {P : PS} (h : PV N V P) (hN : N ≤ 8) (hV : V ≤ 4) : P.1 ≤ 40 := Nat.le_trans h.all (Nat.mul_le_mul hN (by omega : V + 1 ≤ 5))
theorem PV.ps0 {N V : Nat} : PV N V PS0 := ⟨⟨fun _ _ => false, fun _ _ _ => 0, fun i hi => ⟨(cntT_0 (fun _ _ => rfl)).symm, RRf.empty (fun _ _ => rfl)⟩⟩, fun k hk => absurd hk (Nat.not_lt_zero k), fun i j _ hj => absurd hj (Nat.not_lt_zero j), (csum_0 N).symm⟩
theorem lead_last {n : Nat} {v : Nat → FF} : ∀ q m : Nat, m + q = n → (∀ j : Nat, m ≤ j → j < n → v j = 0) ∨ ∃ k : Nat, m ≤ k ∧ k < n ∧ v k ≠ 0 ∧ ∀ j : Nat, k < j → j < n → v j = 0
  | 0, m, h => Or.inl (fun j a b => by omega)
  | q + 1, m, h => by
    rcases lead_last (n := n) (v := v) q (m + 1) (by omega) with h1 | ⟨k, a1, a2, a3, a4⟩
    · by_cases e : v m = 0
      · refine Or.inl (fun j a b => ?_)
        by_cases e2 : j = m
        · rw [e2]; exact e
        · exact h1 j (by omega) b
      · exact Or.inr ⟨m, Nat.le_refl m, by omega, e, fun j a b => h1 j (by omega) b⟩
    · exact Or.inr ⟨k, by omega, a2, a3, a4⟩
theorem lead_ex {n : Nat} {v : Nat → FF} (h : ¬ ∀ j : Nat, j < n → v j = 0) : ∃ k0 : Nat, isLead n v k0 := by
  have hn : 0 < n := Nat.pos_of_ne_zero (fun z => h (fun j hj => absurd hj (by omega)))
  by_cases e : v 0 = 0
  · rcases lead_last (n := n) (v := v) (n - 1) 1 (by omega) with h1 | ⟨k, a1, a2, a3, a4⟩
    · exfalso
      refine h (fun j hj => ?_)
      by_cases e2 : j = 0
      · rw [e2]; exact e
      · exact h1 j (by omega) hj
    · exact ⟨k, a2, a3, fun _ => ⟨e, a4⟩⟩
  · exact ⟨0, hn, e, fun z => absurd rfl z⟩
/-- the rank tells whether a point is new -/
theorem PV.rank {N V node : Nat} {P : PS} (h : PV N V P) (hn : node < N) {v : Nat → FF} {t : Nat → Bool} {kp : Nat → Nat → FF} (hr : RRf (V + 1) t kp (InSp (V + 1) (nu (P.2.2.2.2.1 node) (P.2.2.2.1 node) v) (P.2.2.2.1 node + 1))) :
    (InSp (V + 1) (P.2.2.2.2.1 node) (P.2.2.2.1 node) v → cntT t (V + 1) = P.2.2.2.1 node) ∧ (¬ InSp (V + 1) (P.2.2.2.2.1 node) (P.2.2.2.1 node) v → cntT t (V + 1) = P.2.2.2.1 node + 1) := by
  obtain ⟨⟨T, K, hs⟩, -⟩ := h
  obtain ⟨q1, q2⟩ := hs node hn
  have L1 := InSp.lin (V + 1) (P.2.2.2.2.1 node) (P.2.2.2.1 node)
  have L2 := InSp.lin (V + 1) (nu (P.2.2.2.2.1 node) (P.2.2.2.1 node) v) (P.2.2.2.1 node + 1)
  constructor
  · intro hv
    have h2 := hr.ex (fun u => (InSp_push u).symm.trans (Sad_in L1 hv))
    rw [q1]
    exact (cntT_cg (q2.one h2 L1).1).symm
  · intro hv
    have hex : ∃ k0 : Nat, isLead (V + 1) (sp_red (V + 1) (T node) (K node) (V + 1) v) k0 := by
      have hz : ¬ ∀ j : Nat, j < V + 1 → sp_red (V + 1) (T node) (K node) (V + 1) v j = 0 := fun z => hv ((red_S L1 q2 v).mp z)
      exact lead_ex hz
    obtain ⟨k0, hl⟩ := hex
    have h2 := (RRf.add L1 q2 v hl finv_ok).ex (fun u => InSp_push u)
    have ht0 : T node k0 = false := red_nt L1 q2 v k0 hl.1 hl.2.1
    have hc := cntT_add ht0 (n := V + 1)
    rw [if_pos hl.1] at hc
    rw [q1, ← hc]
    exact (cntT_cg (h2.one hr L2).1).symm
theorem PV.meet {N V node : Nat} {P : PS} (h : PV N V P) (hn : node < N) {v : Nat → FF} (hv : Zb (V + 1) v) (fz : Int32) : PV N V (meetF (V + 1) P node v fz) := by
  by_cases hin : InSp (V + 1) (P.2.2.2.2.1 node) (P.2.2.2.1 node) v
  · rw [meetF_t hin]; exact h
  · obtain ⟨⟨T, K, hs⟩, h2, h3, h4⟩ := h
    obtain ⟨q1, q2⟩ := hs node hn
    have L1 := InSp.lin (V + 1) (P.2.2.2.2.1 node) (P.2.2.2.1 node)
    have hz : ¬ ∀ j : Nat, j < V + 1 → sp_red (V + 1) (T node) (K node) (V + 1) v j = 0 := fun z => hin ((red_S L1 q2 v).mp z)
    obtain ⟨k0, hl⟩ := lead_ex hz
    have ht0 : T node k0 = false := red_nt L1 q2 v k0 hl.1 hl.2.1
    have hc := cntT_add ht0 (n := V + 1)
    rw [if_pos hl.1] at hc
    rw [meetF_f hin]
    refine ⟨⟨nu T node (nu (T node) k0 true), nu K node (sp_kp (V + 1) (T node) (K node) (sp_red (V + 1) (T node) (K node) (V + 1) v) k0), fun i hi => ?_⟩, fun k hk => ?_, fun i j hi hj => ?_, ?_⟩
    · show nu P.2.2.2.1 node (P.2.2.2.1 node + 1) i = cntT (nu T node (nu (T node) k0 true) i) (V + 1) ∧ RRf (V + 1) (nu T node (nu (T node) k0 true) i) (nu K node (sp_kp (V + 1) (T node) (K node) (sp_red (V + 1) (T node) (K node) (V + 1) v) k0) i) (InSp (V + 1) (nu P.2.2.2.2.1 node (nu (P.2.2.2.2.1 node) (P.2.2.2.1 node) v) i) (nu P.2.2.2.1 node (P.2.2.2.1 node + 1) i))
      by_cases e : i = node
      · subst e
        simp only [nu_s]
        exact ⟨by omega, (RRf.add L1 q2 v hl finv_ok).ex (fun u => InSp_push u)⟩
      · simp only [nu_n e]
        exact hs i hi
    · show nu P.2.1 P.1 node k < N ∧ nu P.2.2.1 P.1 (P.2.2.2.1 node) k < nu P.2.2.2.1 node (P.2.2.2.1 node + 1) (nu P.2.1 P.1 node k)
      have hk2 : k < P.1 + 1 := hk
      by_cases e : k = P.1
      · subst e
        simp only [nu_s]
        exact ⟨hn, Nat.lt_succ_self _⟩
      · obtain ⟨a1, a2⟩ := h2 k (by omega)
        simp only [nu_n e]
        refine ⟨a1, ?_⟩
        by_cases e2 : P.2.1 k = node
        · rw [e2, nu_s]
          rw [e2] at a2
          omega
        · rw [nu_n e2]
          exact a2
    · show Zb (V + 1) (nu P.2.2.2.2.1 node (nu (P.2.2.2.2.1 node) (P.2.2.2.1 node) v) i j)
      have hj2 : j < nu P.2.2.2.1 node (P.2.2.2.1 node + 1) i := hj
      by_cases e : i = node
      · subst e
        rw [nu_s] at hj2 ⊢
        by_cases e2 : j = P.2.2.2.1 i
        · rw [e2, nu_s]; exact hv
        · rw [nu_n e2]; exact h3 i j hi (by omega)
      · rw [nu_n e] at hj2 ⊢
        exact h3 i j hi hj2
    · show P.1 + 1 = csum (nu P.2.2.2.1 node (P.2.2.2.1 node + 1)) N
      have := csum_up (f := P.2.2.2.1) (k := node) (x := P.2.2.2.1 node + 1) hn
      omega
/-- the model's arrays of points -/
def QP (N : Nat) (P : PS) (mn : Nat → Nat) (pq : Nat → FF) (cm : Nat → Int32) (nd nx : Nat → Nat) : Prop :=
  (∀ i : Nat, i < N → mn i = P.2.2.2.1 i) ∧ (∀ i j k : Nat, i < N → j < P.2.2.2.1 i → k < 5 → pq (25 * i + 5 * j + k) = P.2.2.2.2.1 i j k) ∧ (∀ i j : Nat, i < N → j < P.2.2.2.1 i → cm (5 * i + j) = P.2.2.2.2.2 i j) ∧ ∀ k : Nat, k < P.1 → nd k = P.2.1 k ∧ nx k = P.2.2.1 k
theorem QP.push {N V node : Nat} {P : PS} {mn : Nat → Nat} {pq y v : Nat → FF} {cm : Nat → Int32} {nd nx : Nat → Nat} {fz : Int32} (h : QP N P mn pq cm nd nx) (hp : PV N V P) (hV : V ≤ 4) (hn : node < N) (hc : P.2.2.2.1 node < 5) (hy : OF (25 * node + 5 * mn node) pq v 5 y) (hin : ¬ InSp (V + 1) (P.2.2.2.2.1 node) (P.2.2.2.1 node) v) :
    QP N (meetF (V + 1) P node v fz) (nu mn node (mn node + 1)) y (nu cm (5 * node + mn node) fz) (nu nd P.1 node) (nu nx P.1 (mn node)) := by
  have hcl := fun i hi => hp.cnt (i := i) hi
  obtain ⟨h1, h2, h3, h4⟩ := h
  have e0 := h1 node hn
  rw [meetF_f hin, e0]
  rw [e0] at hy
  refine ⟨fun i hi => ?_, fun i j k hi hj hk => ?_, fun i j hi hj => ?_, fun k hk => ?_⟩
  · show nu mn node (P.2.2.2.1 node + 1) i = nu P.2.2.2.1 node (P.2.2.2.1 node + 1) i
    by_cases e : i = node
    · subst e; rw [nu_s, nu_s]
    · rw [nu_n e, nu_n e]; exact h1 i hi
  · show y (25 * i + 5 * j + k) = nu P.2.2.2.2.1 node (nu (P.2.2.2.2.1 node) (P.2.2.2.1 node) v) i j k
    have hj2 : j < nu P.2.2.2.1 node (P.2.2.2.1 node + 1) i := hj
    have hci := hcl i hi
    by_cases e : i = node
    · subst e
      rw [nu_s] at hj2
      rw [nu_s]
      by_cases e2 : j = P.2.2.2.1 i
      · rw [e2, nu_s]
        exact hy.inn hk
      · rw [nu_n e2, hy.out (by omega)]
        exact h2 i j k hi (by omega) hk
    · rw [nu_n e] at hj2
      rw [nu_n e, hy.out (by omega)]
      exact h2 i j k hi hj2 hk
  · show nu cm (5 * node + P.2.2.2.1 node) fz (5 * i + j) = nu P.2.2.2.2.2 node (nu (P.2.2.2.2.2 node) (P.2.2.2.1 node) fz) i j
    have hj2 : j < nu P.2.2.2.1 node (P.2.2.2.1 node + 1) i := hj
    have hci := hcl i hi
    by_cases e : i = node
    · subst e
      rw [nu_s] at hj2
      rw [nu_s]
      by_cases e2 : j = P.2.2.2.1 i
      · rw [e2, nu_s, nu_s]
      · rw [nu_n e2, nu_n (by omega)]
        exact h3 i j hi (by omega)
    · rw [nu_n e] at hj2
      rw [nu_n e, nu_n (by omega)]
      exact h3 i j hi hj2
  · show nu nd P.1 node k = nu P.2.1 P.1 node k ∧ nu nx P.1 (P.2.2.2.1 node) k = nu P.2.2.1 P.1 (P.2.2.2.1 node) k
    have hk2 : k < P.1 + 1 := hk
    by_cases e : k = P.1
    · subst e
      simp only [nu_s]
      exact ⟨trivial, trivial⟩
    · simp only [nu_n e]
      exact h4 k (by omega)
def lbQ (j : Nat) : Prop := j = 1012 ∨ j = 1013 ∨ j = 1014 ∨ j = 1016 ∨ j = 1017 ∨ j = 1026 ∨ j = 1027
def QA (G : cx_G) (g : Nat → va_E) (N V : Nat) (P : PS) : Prop := ∃ (mn : Nat → Nat) (pq : Nat → FF) (cm : Nat → Int32) (nd nx : Nat → Nat) (tb : Nat → FF) (pz : Nat → Int32), g 1012 = nA G 8 mn ∧ g 1013 = nA G 200 (vN pq) ∧ g 1014 = iA G 40 cm ∧ g 1016 = nA G 41 nd ∧ g 1017 = nA G 41 nx ∧ g 1026 = nA G 150 (vN tb) ∧ g 1027 = iA G 5 pz ∧ QP N P mn pq cm nd nx ∧ PV N V P
theorem QA.kept {G : cx_G} {g g1 : Nat → va_E} {N V : Nat} {P : PS} (h : QA G g N V P) (hk : ∀ j : Nat, lbQ j → g1 j = g j) : QA G g1 N V P := by
  obtain ⟨mn, pq, cm, nd, nx, tb, pz, h1, h2, h3, h4, h5, h6, h7, h8⟩ := h
  unfold lbQ at hk
  exact ⟨mn, pq, cm, nd, nx, tb, pz, (hk _ (by omega)).trans h1, (hk _ (by omega)).trans h2, (hk _ (by omega)).trans h3, (hk _ (by omega)).trans h4, (hk _ (by omega)).trans h5, (hk _ (by omega)).trans h6, (hk _ (by omega)).trans h7, h8⟩
/-- one point worked off by one edge: one or two new points -/
noncomputable def passF (w : Nat) (et ek ev : Nat → Nat) (eg : Nat → Nat → FF) (k e : Nat) (P : PS) : Nat → PS
  | 0 => P
  | x + 1 => follF w et ek ev eg k e x (passF w et ek ev eg k e P x)
theorem meetF_at {w : Nat} {P : PS} {node k : Nat} {v : Nat → FF} {fz : Int32} (hk : k < P.1) : (meetF w P node v fz).2.1 k = P.2.1 k ∧ (meetF w P node v fz).2.2.1 k = P.2.2.1 k := by
  unfold meetF
  split
  · exact ⟨rfl, rfl⟩
  · exact ⟨nu_n (by omega), nu_n (by omega)⟩
theorem passF_at {w : Nat} {et ek ev : Nat → Nat} {eg : Nat → Nat → FF} {k e : Nat} {P : PS} (hk : k < P.1) : ∀ x : Nat, k < (passF w et ek ev eg k e P x).1 ∧ (passF w et ek ev eg k e P x).2.1 k = P.2.1 k ∧ (passF w et ek ev eg k e P x).2.2.1 k = P.2.2.1 k
  | 0 => ⟨hk, rfl, rfl⟩
  | x + 1 => by
    obtain ⟨h1, h2, h3⟩ := passF_at (w := w) (et := et) (ek := ek) (ev := ev) (eg := eg) (e := e) hk x
    obtain ⟨q1, q2⟩ := meetF_at (w := w) (node := et e) (v := stepF w (ek e) (ev e) (eg e) (ff x) ((passF w et ek ev eg k e P x).2.2.2.2.1 ((passF w et ek ev eg k e P x).2.1 k) ((passF w et ek ev eg k e P x).2.2.1 k))) (fz := nI (10000 * e + 1000 * (passF w et ek ev eg k e P x).2.1 k + 10 * (passF w et ek ev eg k e P x).2.2.1 k + x)) h1
    exact ⟨Nat.lt_of_lt_of_le h1 meetF_le, q1.trans h2, q2.trans h3⟩
theorem passF_s {w : Nat} {et ek ev : Nat → Nat} {eg : Nat → Nat → FF} {k e a b : Nat} {P : PS} (hk : k < P.1) (ha : P.2.1 k = a) (hb : P.2.2.1 k = b) (x : Nat) : meetF w (passF w et ek ev eg k e P x) (et e) (stepF w (ek e) (ev e) (eg e) (ff x) ((passF w et ek ev eg k e P x).2.2.2.2.1 a b)) (nI (10000 * e + 1000 * a + 10 * b + x)) = passF w et ek ev eg k e P (x + 1) := by
  obtain ⟨-, h2, h3⟩ := passF_at (w := w) (et := et) (ek := ek) (ev := ev) (eg := eg) (e := e) hk x
  show _ = follF w et ek ev eg k e x (passF w et ek ev eg k e P x)
  unfold follF
  rw [h2, h3, ha, hb]
