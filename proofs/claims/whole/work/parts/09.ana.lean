/-! the analysis of the class: its cells, and the points that they stand for -/
/-- which labels an AffineHulls has: N nodes, V variables, M = N (V + 1) points -/
def lbX (N V M j : Nat) : Prop := j < 8 ∨ (100 ≤ j ∧ j < 100 + 10 * N ∧ j % 10 < V + 5) ∨ (180 ≤ j ∧ j < 185 + V) ∨ (200 ≤ j ∧ j < 200 + 2 * N) ∨ (300 ≤ j ∧ j < 340) ∨ (400 ≤ j ∧ j < 448) ∨ (500 ≤ j ∧ j < 500 + 2 * M)
def XAn (G : cx_G) (ad : Nat → Nat) (g : Nat → va_E) (N V M : Nat) (nd ix : Nat → Nat) (og : Nat → Int32) (rw : Nat → Nat → FF) (ct : Nat → Nat) (mb : Nat → Nat → Nat) (T : Nat → Nat → Bool) (K : Nat → Nat → Nat → FF) (R : Nat → Nat → FF) : Prop :=
  (∀ i : Nat, i < N → g (200 + 2 * i) = .inr (1, [.ref (ad (100 + 10 * i)), .ref (ad (201 + 2 * i)), .int (nI (ct i))])) ∧
  (∀ i : Nat, i < N → g (201 + 2 * i) = nA G (V + 1) (mb i)) ∧
  (∀ i : Nat, i < N → SpanAt G ad g (100 + 10 * i) (V + 1) (T i) (K i) (R i)) ∧
  (∀ i : Nat, i < M → g (500 + 2 * i) = .inr (3, [.int (nI (nd i)), .int (nI (ix i)), .int (og i), .ref (ad (501 + 2 * i))])) ∧
  (∀ i : Nat, i < M → g (501 + 2 * i) = nA G (V + 1) (vN (rw i)))
def lbA (j : Nat) : Prop := (100 ≤ j ∧ j < 180) ∨ (200 ≤ j ∧ j < 300) ∨ 500 ≤ j
theorem XAn.kept {G : cx_G} {ad : Nat → Nat} {g g1 : Nat → va_E} {N V M : Nat} {nd ix : Nat → Nat} {og : Nat → Int32} {rw : Nat → Nat → FF} {ct : Nat → Nat} {mb : Nat → Nat → Nat} {T : Nat → Nat → Bool} {K : Nat → Nat → Nat → FF} {R : Nat → Nat → FF} (h : XAn G ad g N V M nd ix og rw ct mb T K R) (hN : N ≤ 8) (hV : V ≤ 4) (hk : ∀ j : Nat, lbA j → g1 j = g j) : XAn G ad g1 N V M nd ix og rw ct mb T K R := by
  obtain ⟨h1, h2, h3, h4, h5⟩ := h
  exact ⟨fun i hi => (hk _ (by unfold lbA; omega)).trans (h1 i hi), fun i hi => (hk _ (by unfold lbA; omega)).trans (h2 i hi), fun i hi => (h3 i hi).kept (fun j a b => hk j (by unfold lbA; omega)), fun i hi => (hk _ (by unfold lbA; omega)).trans (h4 i hi), fun i hi => (hk _ (by unfold lbA; omega)).trans (h5 i hi)⟩
/-- a point more -/
theorem XAn.upd {G : cx_G} {ad : Nat → Nat} {g u : Nat → va_E} {N V M : Nat} {nd ix : Nat → Nat} {og : Nat → Int32} {rw : Nat → Nat → FF} {ct : Nat → Nat} {mb : Nat → Nat → Nat} {T : Nat → Nat → Bool} {K : Nat → Nat → Nat → FF} {R : Nat → Nat → FF} {node al c2 : Nat} {fz : Int32} {v r2 : Nat → FF} {t2 : Nat → Bool} {kp2 : Nat → Nat → FF} {mb2 : Nat → Nat} {n2 i2 : Nat}
    (h : XAn G ad g N V M nd ix og rw ct mb T K R) (hN : N ≤ 8) (hV : V ≤ 4) (hnode : node < N)
    (fr : ∀ j : Nat, (j ≠ 0 ∧ (j < 100 + 10 * node ∨ 100 + 10 * node + 4 + (V + 1) ≤ j) ∧ j ≠ 200 + 2 * node ∧ j ≠ 201 + 2 * node ∧ j ≠ 500 + 2 * al ∧ j ≠ 501 + 2 * al) → u j = g j)
    (c_h : u (200 + 2 * node) = .inr (1, [.ref (ad (100 + 10 * node)), .ref (ad (201 + 2 * node)), .int (nI c2)])) (c_m : u (201 + 2 * node) = nA G (V + 1) mb2) (sp : SpanAt G ad u (100 + 10 * node) (V + 1) t2 kp2 r2)
    (c_p : al < M → u (500 + 2 * al) = .inr (3, [.int (nI n2), .int (nI i2), .int fz, .ref (ad (501 + 2 * al))])) (c_pr : al < M → u (501 + 2 * al) = nA G (V + 1) (vN v)) :
    XAn G ad u N V M (nu nd al n2) (nu ix al i2) (nu og al fz) (nu rw al v) (nu ct node c2) (nu mb node mb2) (nu T node t2) (nu K node kp2) (nu R node r2) := by
  obtain ⟨h1, h2, h3, h4, h5⟩ := h
  refine ⟨fun i hi => ?_, fun i hi => ?_, fun i hi => ?_, fun i hi => ?_, fun i hi => ?_⟩
  · by_cases e : i = node
    · subst e; rw [nu_s]; exact c_h
    · rw [nu_n e]; exact (fr _ (by omega)).trans (h1 i hi)
  · by_cases e : i = node
    · subst e; rw [nu_s]; exact c_m
    · rw [nu_n e]; exact (fr _ (by omega)).trans (h2 i hi)
  · by_cases e : i = node
    · subst e; rw [nu_s, nu_s, nu_s]; exact sp
    · rw [nu_n e, nu_n e, nu_n e]; exact (h3 i hi).kept (fun j a b => fr j (by omega))
  · by_cases e : i = al
    · subst e; rw [nu_s, nu_s, nu_s]; exact c_p hi
    · rw [nu_n e, nu_n e, nu_n e]; exact (fr _ (by omega)).trans (h4 i hi)
  · by_cases e : i = al
    · subst e; rw [nu_s]; exact c_pr hi
    · rw [nu_n e]; exact (fr _ (by omega)).trans (h5 i hi)
/-- the points: all, of each arrival node and number, of each node how many, their values, where they came from -/
abbrev PS : Type := Nat × (Nat → Nat) × (Nat → Nat) × (Nat → Nat) × (Nat → Nat → Nat → FF) × (Nat → Nat → Int32)
def csum (f : Nat → Nat) : Nat → Nat
  | 0 => 0
  | k + 1 => csum f k + f k
theorem csum_cg {f f' : Nat → Nat} : ∀ {n : Nat}, (∀ i : Nat, i < n → f i = f' i) → csum f n = csum f' n
  | 0, _ => rfl
  | n + 1, h => by
    show csum f n + f n = csum f' n + f' n
    rw [csum_cg (n := n) (fun i hi => h i (by omega)), h n (by omega)]
theorem csum_up {f : Nat → Nat} {k x : Nat} : ∀ {n : Nat}, k < n → csum (nu f k x) n + f k = csum f n + x
  | 0, h => absurd h (Nat.not_lt_zero k)
  | n + 1, h => by
    show csum (nu f k x) n + nu f k x n + f k = csum f n + f n + x
    by_cases e : k = n
    · subst e
      rw [nu_s, csum_cg (n := k) (f' := f) (fun i hi => nu_n (by omega))]
      omega
    · have h2 := csum_up (f := f) (k := k) (x := x) (n := n) (by omega)
      rw [nu_n (by omega)]
      omega
theorem csum_le {f : Nat → Nat} {c : Nat} : ∀ {n : Nat}, (∀ i : Nat, i < n → f i ≤ c) → csum f n ≤ n * c
  | 0, _ => Nat.zero_le _
  | n + 1, h => by
    show csum f n + f n ≤ (n + 1) * c
    have h1 := csum_le (f := f) (n := n) (fun i hi => h i (by omega))
    have h2 := h n (by omega)
    rw [Nat.succ_mul]
    omega
theorem csum_full {f : Nat → Nat} {c : Nat} : ∀ {n : Nat}, (∀ i : Nat, i < n → f i ≤ c) → n * c ≤ csum f n → ∀ i : Nat, i < n → f i = c
  | 0, _, _, i, hi => absurd hi (Nat.not_lt_zero i)
  | n + 1, h, h0, i, hi => by
    have h1 := csum_le (f := f) (n := n) (fun i hi => h i (by omega))
    have h2 := h n (by omega)
    have h3 : (n + 1) * c ≤ csum f n + f n := h0
    rw [Nat.succ_mul] at h3
    by_cases e : i = n
    · rw [e]; omega
    · exact csum_full (f := f) (n := n) (fun i hi => h i (by omega)) (by omega) i (by omega)
theorem csum_0 : ∀ n : Nat, csum (fun _ => 0) n = 0
  | 0 => rfl
  | n + 1 => by
    show csum (fun _ => 0) n + 0 = 0
    rw [csum_0 n]
noncomputable def meetF (w : Nat) (P : PS) (node : Nat) (v : Nat → FF) (fz : Int32) : PS :=
  @ite _ (InSp w (P.2.2.2.2.1 node) (P.2.2.2.1 node) v) (Classical.propDecidable _) P
    (P.1 + 1, nu P.2.1 P.1 node, nu P.2.2.1 P.1 (P.2.2.2.1 node), nu P.2.2.2.1 node (P.2.2.2.1 node + 1), nu P.2.2.2.2.1 node (nu (P.2.2.2.2.1 node) (P.2.2.2.1 node) v), nu P.2.2.2.2.2 node (nu (P.2.2.2.2.2 node) (P.2.2.2.1 node) fz))
theorem meetF_t {w : Nat} {P : PS} {node : Nat} {v : Nat → FF} {fz : Int32} (h : InSp w (P.2.2.2.2.1 node) (P.2.2.2.1 node) v) : meetF w P node v fz = P := if_pos h
theorem meetF_f {w : Nat} {P : PS} {node : Nat} {v : Nat → FF} {fz : Int32} (h : ¬ InSp w (P.2.2.2.2.1 node) (P.2.2.2.1 node) v) : meetF w P node v fz = (P.1 + 1, nu P.2.1 P.1 node, nu P.2.2.1 P.1 (P.2.2.2.1 node), nu P.2.2.2.1 node (P.2.2.2.1 node + 1), nu P.2.2.2.2.1 node (nu (P.2.2.2.2.1 node) (P.2.2.2.1 node) v), nu P.2.2.2.2.2 node (nu (P.2.2.2.2.2 node) (P.2.2.2.1 node) fz)) := if_neg h
/-- a row has 0s beyond its n places -/
def Zb (n : Nat) (v : Nat → FF) : Prop := ∀ j : Nat, n ≤ j → v j = 0
theorem cpv_z {n : Nat} {v w : Nat → FF} (hv : Zb n v) (hw : Zb n w) : cpv n v w = v := by
  funext j
  unfold cpv
  by_cases h : j < n
  · rw [if_pos h]
  · rw [if_neg h, hw j (by omega), hv j (by omega)]
/-- what the class's cells say of the points, without the spans -/
def XPt (N V M : Nat) (P : PS) (nd ix : Nat → Nat) (og : Nat → Int32) (rw : Nat → Nat → FF) (ct : Nat → Nat) (mb : Nat → Nat → Nat) : Prop :=
  (∀ k : Nat, k < P.1 → nd k = P.2.1 k ∧ ix k = P.2.2.1 k ∧ P.2.1 k < N ∧ P.2.2.1 k < P.2.2.2.1 (P.2.1 k) ∧ rw k = P.2.2.2.2.1 (P.2.1 k) (P.2.2.1 k)) ∧
  (∀ i : Nat, i < N → ct i = P.2.2.2.1 i ∧ P.2.2.2.1 i ≤ V + 1 ∧ ∀ j : Nat, j < P.2.2.2.1 i → mb i j < P.1 ∧ rw (mb i j) = P.2.2.2.2.1 i j ∧ og (mb i j) = P.2.2.2.2.2 i j) ∧
  P.1 = csum P.2.2.2.1 N ∧ (∀ k : Nat, Zb (V + 1) (rw k)) ∧ P.1 ≤ M
def XSp (N V : Nat) (P : PS) (T : Nat → Nat → Bool) (K : Nat → Nat → Nat → FF) : Prop :=
  ∀ i : Nat, i < N → P.2.2.2.1 i = cntT (T i) (V + 1) ∧ RRf (V + 1) (T i) (K i) (InSp (V + 1) (P.2.2.2.2.1 i) (P.2.2.2.1 i))
def XA (G : cx_G) (ad : Nat → Nat) (g : Nat → va_E) (N V M : Nat) (P : PS) : Prop :=
  ∃ (nd ix : Nat → Nat) (og : Nat → Int32) (rw : Nat → Nat → FF) (ct : Nat → Nat) (mb : Nat → Nat → Nat) (T : Nat → Nat → Bool) (K : Nat → Nat → Nat → FF) (R : Nat → Nat → FF), XAn G ad g N V M nd ix og rw ct mb T K R ∧ XPt N V M P nd ix og rw ct mb ∧ XSp N V P T K
theorem XA.kept {G : cx_G} {ad : Nat → Nat} {g g1 : Nat → va_E} {N V M : Nat} {P : PS} (h : XA G ad g N V M P) (hN : N ≤ 8) (hV : V ≤ 4) (hk : ∀ j : Nat, lbA j → g1 j = g j) : XA G ad g1 N V M P := by
  obtain ⟨nd, ix, og, rw, ct, mb, T, K, R, h1, h2⟩ := h
  exact ⟨nd, ix, og, rw, ct, mb, T, K, R, h1.kept hN hV hk, h2⟩
theorem nu_id {α : Type} (f : Nat → α) (k : Nat) : nu f k (f k) = f := by
  funext j
  by_cases h : j = k <;> simp [nu, h]
/-- no point more: the span's rest has changed alone, or nothing -/
theorem XPt.full {N V M : Nat} {P : PS} {nd ix : Nat → Nat} {og : Nat → Int32} {rw : Nat → Nat → FF} {ct : Nat → Nat} {mb : Nat → Nat → Nat} {T : Nat → Nat → Bool} {K : Nat → Nat → Nat → FF} (h : XPt N V M P nd ix og rw ct mb) (hs : XSp N V P T K) (hM : M = N * (V + 1)) (hal : M ≤ P.1) {node : Nat} (hnode : node < N) (v : Nat → FF) : InSp (V + 1) (P.2.2.2.2.1 node) (P.2.2.2.1 node) v := by
  obtain ⟨h1, h2, h3, -, -⟩ := h
  have hc := csum_full (f := P.2.2.2.1) (c := V + 1) (n := N) (fun i hi => (h2 i hi).2.1) (by rw [← hM, ← h3]; exact hal) node hnode
  obtain ⟨q1, q2⟩ := hs node hnode
  have hall := cntT_full (q1.symm.trans hc)
  exact (red_S (InSp.lin _ _ _) q2 v).mp (fun j hj => red_zero (InSp.lin _ _ _) q2 v hj (hall j hj))
theorem InSp_push {w m : Nat} {rows : Nat → Nat → FF} {v : Nat → FF} (u : Nat → FF) : Sad (InSp w rows m) v u ↔ InSp w (nu rows m v) (m + 1) u := by
  rw [InSp.add, nu_s]
  constructor
  · rintro ⟨a, h⟩
    exact ⟨a, h.cg (fun i hi j _ => by rw [nu_n (by omega)])⟩
  · rintro ⟨a, h⟩
    exact ⟨a, h.cg (fun i hi j _ => by rw [nu_n (by omega)])⟩
theorem Sad_cg {n : Nat} {S : (Nat → FF) → Prop} (hL : Lin n S) {v v2 u : Nat → FF} (h : ∀ j : Nat, j < n → v2 j = v j) : Sad S v2 u ↔ Sad S v u := by
  constructor
  · rintro ⟨a, ha⟩
    exact ⟨a, hL.cg ha (fun j hj => by rw [h j hj])⟩
  · rintro ⟨a, ha⟩
    exact ⟨a, hL.cg ha (fun j hj => by rw [h j hj])⟩
theorem XP.push {N V M : Nat} {P : PS} {nd ix : Nat → Nat} {og : Nat → Int32} {rw : Nat → Nat → FF} {ct : Nat → Nat} {mb : Nat → Nat → Nat} {T : Nat → Nat → Bool} {K : Nat → Nat → Nat → FF} (h : XPt N V M P nd ix og rw ct mb) (hs : XSp N V P T K) {node : Nat} (hnode : node < N) (hal : P.1 < M) {v v2 : Nat → FF} (hv : Zb (V + 1) v) (hv2 : ∀ j : Nat, j < V + 1 → v2 j = v j) {fz : Int32} {k0 : Nat} (hl : isLead (V + 1) (sp_red (V + 1) (T node) (K node) (V + 1) v2) k0) :
    XPt N V M (meetF (V + 1) P node v fz) (nu nd P.1 node) (nu ix P.1 (ct node)) (nu og P.1 fz) (nu rw P.1 v) (nu ct node (ct node + 1)) (nu mb node (nu (mb node) (ct node) P.1)) ∧
    XSp N V (meetF (V + 1) P node v fz) (nu T node (nu (T node) k0 true)) (nu K node (sp_kp (V + 1) (T node) (K node) (sp_red (V + 1) (T node) (K node) (V + 1) v2) k0)) ∧ (meetF (V + 1) P node v fz).1 = P.1 + 1 := by
  obtain ⟨h1, h2, h3, h4, h5⟩ := h
  obtain ⟨q1, q2⟩ := hs node hnode
  obtain ⟨p1, p2, p3⟩ := h2 node hnode
  have hn : ¬ InSp (V + 1) (P.2.2.2.2.1 node) (P.2.2.2.1 node) v := fun z => hl.2.1 ((red_S (InSp.lin _ _ _) q2 v2).mpr ((InSp.lin _ _ _).cg z (fun j hj => (hv2 j hj).symm)) k0 hl.1)
  have ht0 : T node k0 = false := red_nt (InSp.lin _ _ _) q2 v2 k0 hl.1 hl.2.1
  have hc1 := cntT_add ht0 (n := V + 1)
  rw [if_pos hl.1] at hc1
  have hc2 := cntT_le (nu (T node) k0 true) (V + 1)
  rw [meetF_f hn, p1]
  refine ⟨⟨fun k hk => ?_, fun i hi => ?_, ?_, fun k => ?_, ?_⟩, fun i hi => ?_, rfl⟩
  · show nu nd P.1 node k = nu P.2.1 P.1 node k ∧ nu ix P.1 (P.2.2.2.1 node) k = nu P.2.2.1 P.1 (P.2.2.2.1 node) k ∧ nu P.2.1 P.1 node k < N ∧ nu P.2.2.1 P.1 (P.2.2.2.1 node) k < nu P.2.2.2.1 node (P.2.2.2.1 node + 1) (nu P.2.1 P.1 node k) ∧ nu rw P.1 v k = nu P.2.2.2.2.1 node (nu (P.2.2.2.2.1 node) (P.2.2.2.1 node) v) (nu P.2.1 P.1 node k) (nu P.2.2.1 P.1 (P.2.2.2.1 node) k)
    have hk2 : k < P.1 + 1 := hk
    by_cases e : k = P.1
    · subst e
      simp only [nu_s]
      exact ⟨trivial, trivial, hnode, Nat.lt_succ_self _, trivial⟩
    · obtain ⟨a1, a2, a3, a4, a5⟩ := h1 k (by omega)
      simp only [nu_n e]
      refine ⟨a1, a2, a3, ?_, ?_⟩
      · by_cases e2 : P.2.1 k = node
        · rw [e2, nu_s]
          rw [e2] at a4
          omega
        · rw [nu_n e2]
          exact a4
      · rw [a5]
        by_cases e2 : P.2.1 k = node
        · rw [e2, nu_s]
          rw [e2] at a4
          rw [nu_n (by omega)]
        · rw [nu_n e2]
  · show nu ct node (P.2.2.2.1 node + 1) i = nu P.2.2.2.1 node (P.2.2.2.1 node + 1) i ∧ nu P.2.2.2.1 node (P.2.2.2.1 node + 1) i ≤ V + 1 ∧ ∀ j : Nat, j < nu P.2.2.2.1 node (P.2.2.2.1 node + 1) i → nu mb node (nu (mb node) (P.2.2.2.1 node) P.1) i j < P.1 + 1 ∧ nu rw P.1 v (nu mb node (nu (mb node) (P.2.2.2.1 node) P.1) i j) = nu P.2.2.2.2.1 node (nu (P.2.2.2.2.1 node) (P.2.2.2.1 node) v) i j ∧ nu og P.1 fz (nu mb node (nu (mb node) (P.2.2.2.1 node) P.1) i j) = nu P.2.2.2.2.2 node (nu (P.2.2.2.2.2 node) (P.2.2.2.1 node) fz) i j
    by_cases e : i = node
    · subst e
      simp only [nu_s]
      refine ⟨trivial, by omega, fun j hj => ?_⟩
      by_cases e2 : j = P.2.2.2.1 i
      · subst e2
        simp only [nu_s]
        exact ⟨by omega, trivial, trivial⟩
      · simp only [nu_n e2]
        obtain ⟨b1, b2, b3⟩ := p3 j (by omega)
        rw [nu_n (show mb i j ≠ P.1 by omega), nu_n (show mb i j ≠ P.1 by omega)]
        exact ⟨by omega, b2, b3⟩
    · simp only [nu_n e]
      obtain ⟨a1, a2, a3⟩ := h2 i hi
      refine ⟨a1, a2, fun j hj => ?_⟩
      obtain ⟨b1, b2, b3⟩ := a3 j hj
      rw [nu_n (show mb i j ≠ P.1 by omega), nu_n (show mb i j ≠ P.1 by omega)]
      exact ⟨by omega, b2, b3⟩
  · show P.1 + 1 = csum (nu P.2.2.2.1 node (P.2.2.2.1 node + 1)) N
    have := csum_up (f := P.2.2.2.1) (k := node) (x := P.2.2.2.1 node + 1) hnode
    omega
  · by_cases e : k = P.1
    · subst e
      rw [nu_s]
      exact hv
    · rw [nu_n e]
      exact h4 k
  · show P.1 + 1 ≤ M
    omega
  · show nu P.2.2.2.1 node (P.2.2.2.1 node + 1) i = cntT (nu T node (nu (T node) k0 true) i) (V + 1) ∧ RRf (V + 1) (nu T node (nu (T node) k0 true) i) (nu K node (sp_kp (V + 1) (T node) (K node) (sp_red (V + 1) (T node) (K node) (V + 1) v2) k0) i) (InSp (V + 1) (nu P.2.2.2.2.1 node (nu (P.2.2.2.2.1 node) (P.2.2.2.1 node) v) i) (nu P.2.2.2.1 node (P.2.2.2.1 node + 1) i))
    by_cases e : i = node
    · subst e
      simp only [nu_s]
      exact ⟨by omega, (RRf.add (InSp.lin _ _ _) q2 v2 hl finv_ok).ex (fun u => (Sad_cg (InSp.lin _ _ _) hv2).trans (InSp_push u))⟩
    · simp only [nu_n e]
      exact hs i hi
theorem cpv_in {n : Nat} {v w : Nat → FF} : ∀ j : Nat, j < n → cpv n v w j = v j := fun _ h => if_pos h
/-- behind addPoint: nothing new -/
theorem addp_f {G : cx_G} {ad : Nat → Nat} {g u : Nat → va_E} {N V M : Nat} {P : PS} {nd ix : Nat → Nat} {og : Nat → Int32} {rw : Nat → Nat → FF} {ct : Nat → Nat} {mb : Nat → Nat → Nat} {T : Nat → Nat → Bool} {K : Nat → Nat → Nat → FF} {R : Nat → Nat → FF} {node : Nat} {v v2 : Nat → FF} {t2 : Nat → Bool} {kp2 : Nat → Nat → FF} {rb : Bool}
    (h : XAn G ad g N V M nd ix og rw ct mb T K R) (hxp : XPt N V M P nd ix og rw ct mb) (hxs : XSp N V P T K) (hN : N ≤ 8) (hV : V ≤ 4) (hnode : node < N) (hv2 : ∀ j : Nat, j < V + 1 → v2 j = v j)
    (fr : ∀ j : Nat, (j < 100 + 10 * node ∨ 100 + 10 * node + 4 + (V + 1) ≤ j) → u j = g j) (sp : SpanAt G ad u (100 + 10 * node) (V + 1) t2 kp2 (sp_red (V + 1) (T node) (K node) (V + 1) v2)) (hadd : AddR (V + 1) (T node) (K node) (sp_red (V + 1) (T node) (K node) (V + 1) v2) rb t2 kp2) (hrb : rb = false) (fz : Int32) :
    meetF (V + 1) P node v fz = P ∧ XA G ad u N V M P := by
  rcases hadd with ⟨-, hz, rfl, rfl⟩ | ⟨k0, -, h1, -⟩
  · have hin := (InSp.lin _ _ _).cg ((red_S (InSp.lin _ _ _) (hxs node hnode).2 v2).mp hz) hv2
    have q := XAn.upd (al := M) (c2 := ct node) (fz := og M) (v := rw M) (mb2 := mb node) (n2 := nd M) (i2 := ix M) h hN hV hnode (fun j hj => fr j (by omega)) ((fr _ (by omega)).trans (h.1 node hnode)) ((fr _ (by omega)).trans (h.2.1 node hnode)) sp (fun z => absurd z (Nat.lt_irrefl M)) (fun z => absurd z (Nat.lt_irrefl M))
    rw [nu_id nd, nu_id ix, nu_id og, nu_id rw, nu_id ct, nu_id mb, nu_id T, nu_id K] at q
    exact ⟨meetF_t hin, nd, ix, og, rw, ct, mb, T, K, _, q, hxp, hxs⟩
  · rw [h1] at hrb
    cases hrb
theorem addp_ct {N V M : Nat} {P : PS} {nd ix : Nat → Nat} {og : Nat → Int32} {rw : Nat → Nat → FF} {ct : Nat → Nat} {mb : Nat → Nat → Nat} {T : Nat → Nat → Bool} {K : Nat → Nat → Nat → FF} {node : Nat} {v2 : Nat → FF} {t2 : Nat → Bool} {kp2 : Nat → Nat → FF} {rb : Bool}
    (hxp : XPt N V M P nd ix og rw ct mb) (hxs : XSp N V P T K) (hnode : node < N) (hadd : AddR (V + 1) (T node) (K node) (sp_red (V + 1) (T node) (K node) (V + 1) v2) rb t2 kp2) (hrb : rb = true) : ct node < V + 1 := by
  rcases hadd with ⟨h1, -⟩ | ⟨k0, hl, -, -⟩
  · rw [h1] at hrb
    cases hrb
  · obtain ⟨q1, q2⟩ := hxs node hnode
    have ht0 := red_nt (InSp.lin _ _ _) q2 v2 k0 hl.1 hl.2.1
    have hc1 := cntT_add ht0 (n := V + 1)
    rw [if_pos hl.1] at hc1
    have hc2 := cntT_le (nu (T node) k0 true) (V + 1)
    rw [(hxp.2.1 node hnode).1]
    omega
theorem addp_t {G : cx_G} {ad : Nat → Nat} {g u : Nat → va_E} {N V M : Nat} {P : PS} {nd ix : Nat → Nat} {og : Nat → Int32} {rw : Nat → Nat → FF} {ct : Nat → Nat} {mb : Nat → Nat → Nat} {T : Nat → Nat → Bool} {K : Nat → Nat → Nat → FF} {R : Nat → Nat → FF} {node : Nat} {v v2 : Nat → FF} {t2 : Nat → Bool} {kp2 : Nat → Nat → FF} {rb : Bool} {fz : Int32}
    (h : XAn G ad g N V M nd ix og rw ct mb T K R) (hxp : XPt N V M P nd ix og rw ct mb) (hxs : XSp N V P T K) (hN : N ≤ 8) (hV : V ≤ 4) (hnode : node < N) (hal : P.1 < M) (hv : Zb (V + 1) v) (hv2 : ∀ j : Nat, j < V + 1 → v2 j = v j)
    (fr : ∀ j : Nat, (j ≠ 0 ∧ (j < 100 + 10 * node ∨ 100 + 10 * node + 4 + (V + 1) ≤ j) ∧ j ≠ 200 + 2 * node ∧ j ≠ 201 + 2 * node ∧ j ≠ 500 + 2 * P.1 ∧ j ≠ 501 + 2 * P.1) → u j = g j) (sp : SpanAt G ad u (100 + 10 * node) (V + 1) t2 kp2 (sp_red (V + 1) (T node) (K node) (V + 1) v2)) (hadd : AddR (V + 1) (T node) (K node) (sp_red (V + 1) (T node) (K node) (V + 1) v2) rb t2 kp2) (hrb : rb = true)
    (c_h : u (200 + 2 * node) = .inr (1, [.ref (ad (100 + 10 * node)), .ref (ad (201 + 2 * node)), .int (nI (ct node + 1))])) (c_m : u (201 + 2 * node) = nA G (V + 1) (nu (mb node) (ct node) P.1))
    (c_p : u (500 + 2 * P.1) = .inr (3, [.int (nI node), .int (nI (ct node)), .int fz, .ref (ad (501 + 2 * P.1))])) (c_pr : u (501 + 2 * P.1) = nA G (V + 1) (vN v)) :
    (meetF (V + 1) P node v fz).1 = P.1 + 1 ∧ XA G ad u N V M (meetF (V + 1) P node v fz) := by
  rcases hadd with ⟨h1, -⟩ | ⟨k0, hl, -, rfl, rfl⟩
  · rw [h1] at hrb
    cases hrb
  · obtain ⟨a1, a2, a3⟩ := XP.push hxp hxs hnode hal hv hv2 (fz := fz) hl
    exact ⟨a3, _, _, _, _, _, _, _, _, _, XAn.upd h hN hV hnode fr c_h c_m sp (fun _ => c_p) (fun _ => c_pr), a1, a2⟩
theorem fl0_z {n : Nat} {v : Nat → FF} (h : Zb n v) : fl0 n v = fun _ => 0 := by
  funext j
  unfold fl0
  by_cases q : j < n
  · rw [if_pos q]
  · rw [if_neg q]; exact h j (by omega)
theorem Zb.nu {n : Nat} {v : Nat → FF} (h : Zb n v) {k : Nat} (hk : k < n) (x : FF) : Zb n (nu v k x) := fun j hj => by rw [nu_n (by omega)]; exact h j hj
theorem Zb.zero (n : Nat) : Zb n (fun _ => 0) := fun _ _ => rfl
theorem stepF_z {n kd vr : Nat} {f w : Nat → FF} {x : FF} (h : Zb n w) (hv : kd = 1 ∨ kd = 2 → vr < n) : Zb n (stepF n kd vr f x w) := by
  unfold stepF
  by_cases h1 : kd = 1
  · rw [if_pos h1]; exact h.nu (hv (Or.inl h1)) _
  · rw [if_neg h1]
    by_cases h2 : kd = 2
    · rw [if_pos h2]; exact h.nu (hv (Or.inr h2)) _
    · rw [if_neg h2]; exact h
/-- the first points; a point worked off; all of them -/
def fpt (i : Nat) : Nat → FF := nu (nu (fun _ => 0) i 1) 0 1
theorem fpt_z {V i : Nat} (h : i ≤ V) : Zb (V + 1) (fpt i) := ((Zb.zero _).nu (by omega) 1).nu (by omega) 1
def PS0 : PS := (0, fun _ => 0, fun _ => 0, fun _ => 0, fun _ _ _ => 0, fun _ _ => 0)
noncomputable def firstF (w en : Nat) : Nat → PS
  | 0 => PS0
  | k + 1 => meetF w (firstF w en k) en (fpt k) (-1)
noncomputable def follF (w : Nat) (et ek ev : Nat → Nat) (eg : Nat → Nat → FF) (k e x : Nat) (P : PS) : PS :=
  meetF w P (et e) (stepF w (ek e) (ev e) (eg e) (ff x) (P.2.2.2.2.1 (P.2.1 k) (P.2.2.1 k))) (nI (10000 * e + 1000 * P.2.1 k + 10 * P.2.2.1 k + x))
noncomputable def workF (w : Nat) (ef et ek ev : Nat → Nat) (eg : Nat → Nat → FF) (k : Nat) : Nat → PS → PS
  | 0, P => P
  | e + 1, P =>
    if ef e = (workF w ef et ek ev eg k e P).2.1 k then
      (if ek e = 2 then follF w et ek ev eg k e 1 (follF w et ek ev eg k e 0 (workF w ef et ek ev eg k e P)) else follF w et ek ev eg k e 0 (workF w ef et ek ev eg k e P))
    else workF w ef et ek ev eg k e P
noncomputable def runF (w ec : Nat) (ef et ek ev : Nat → Nat) (eg : Nat → Nat → FF) : Nat → Nat → PS → PS
  | 0, _, P => P
  | f + 1, k, P => if k < P.1 then runF w ec ef et ek ev eg f (k + 1) (workF w ef et ek ev eg k ec P) else P
noncomputable def anaF (w M en ec : Nat) (ef et ek ev : Nat → Nat) (eg : Nat → Nat → FF) : PS := runF w ec ef et ek ev eg M 0 (firstF w en w)
/-- the edges' cells, and what is right of them -/
def XE (G : cx_G) (ad : Nat → Nat) (g : Nat → va_E) (V : Nat) (ef et ek : Nat → Nat) (ez : Nat → Int32) (eg : Nat → Nat → FF) : Prop :=
  (∀ i : Nat, i < 20 → g (300 + 2 * i) = .inr (0, [.int (nI (ef i)), .int (nI (et i)), .int (nI (ek i)), .int (ez i), .ref (ad (301 + 2 * i))])) ∧ ∀ i : Nat, i < 20 → g (301 + 2 * i) = nA G (V + 1) (vN (eg i))
theorem XE.kept {G : cx_G} {ad : Nat → Nat} {g g1 : Nat → va_E} {V : Nat} {ef et ek : Nat → Nat} {ez : Nat → Int32} {eg : Nat → Nat → FF} (h : XE G ad g V ef et ek ez eg) (hk : ∀ j : Nat, 300 ≤ j → j < 340 → g1 j = g j) : XE G ad g1 V ef et ek ez eg :=
  ⟨fun i hi => (hk _ (by omega) (by omega)).trans (h.1 i hi), fun i hi => (hk _ (by omega) (by omega)).trans (h.2 i hi)⟩
def EV (N V ec : Nat) (ef et ek : Nat → Nat) (ez : Nat → Int32) (ev : Nat → Nat) (eg : Nat → Nat → FF) : Prop :=
  ec ≤ 20 ∧ (∀ i : Nat, i < ec → ef i < N ∧ et i < N ∧ ek i ≤ 4 ∧ (ek i = 1 ∨ ek i = 2 → ez i = nI (ev i) ∧ 1 ≤ ev i ∧ ev i < V + 1)) ∧ ∀ i : Nat, Zb (V + 1) (eg i)
theorem XA.pt {G : cx_G} {ad : Nat → Nat} {g : Nat → va_E} {N V M : Nat} {P : PS} (h : XA G ad g N V M P) {k : Nat} (hk : k < P.1) : k < M ∧ P.2.1 k < N ∧ P.2.2.1 k < V + 1 ∧ Zb (V + 1) (P.2.2.2.2.1 (P.2.1 k) (P.2.2.1 k)) ∧
    (∃ ok : Int32, g (500 + 2 * k) = .inr (3, [.int (nI (P.2.1 k)), .int (nI (P.2.2.1 k)), .int ok, .ref (ad (501 + 2 * k))])) ∧ g (501 + 2 * k) = nA G (V + 1) (vN (P.2.2.2.2.1 (P.2.1 k) (P.2.2.1 k))) := by
  obtain ⟨nd, ix, og, rw, ct, mb, T, K, R, hxn, hxp, hxs⟩ := h
  obtain ⟨a1, a2, a3, a4, a5⟩ := hxp.1 k hk
  have a6 := (hxp.2.1 _ a3).2.1
  have hkM : k < M := Nat.lt_of_lt_of_le hk hxp.2.2.2.2
  have b1 := hxn.2.2.2.1 k hkM
  have b2 := hxn.2.2.2.2 k hkM
  rw [a1, a2] at b1
  rw [a5] at b2
  exact ⟨hkM, a3, by omega, by rw [← a5]; exact hxp.2.2.2.1 k, ⟨_, b1⟩, b2⟩
theorem meetF_le {w : Nat} {P : PS} {node : Nat} {v : Nat → FF} {fz : Int32} : P.1 ≤ (meetF w P node v fz).1 := by
  unfold meetF
  split
  · exact Nat.le_refl _
  · exact Nat.le_succ _
theorem workF_le {w : Nat} {ef et ek ev : Nat → Nat} {eg : Nat → Nat → FF} {k : Nat} {P : PS} : ∀ e : Nat, P.1 ≤ (workF w ef et ek ev eg k e P).1
  | 0 => Nat.le_refl _
  | e + 1 => by
    have h := workF_le (w := w) (ef := ef) (et := et) (ek := ek) (ev := ev) (eg := eg) (k := k) (P := P) e
    show P.1 ≤ (if ef e = (workF w ef et ek ev eg k e P).2.1 k then (if ek e = 2 then follF w et ek ev eg k e 1 (follF w et ek ev eg k e 0 (workF w ef et ek ev eg k e P)) else follF w et ek ev eg k e 0 (workF w ef et ek ev eg k e P)) else workF w ef et ek ev eg k e P).1
    split
    · split
      · exact Nat.le_trans h (Nat.le_trans meetF_le meetF_le)
      · exact Nat.le_trans h meetF_le
    · exact h
theorem XA.le {G : cx_G} {ad : Nat → Nat} {g : Nat → va_E} {N V M : Nat} {P : PS} (h : XA G ad g N V M P) : P.1 ≤ M := by
  obtain ⟨nd, ix, og, rw, ct, mb, T, K, R, hxn, hxp, hxs⟩ := h
  exact hxp.2.2.2.2
/-- forgetting: the first k nodes have no points -/
def XF (G : cx_G) (ad : Nat → Nat) (g : Nat → va_E) (N V M k : Nat) : Prop :=
  ∃ (nd ix : Nat → Nat) (og : Nat → Int32) (rw : Nat → Nat → FF) (ct : Nat → Nat) (mb : Nat → Nat → Nat) (T : Nat → Nat → Bool) (K : Nat → Nat → Nat → FF) (R : Nat → Nat → FF), XAn G ad g N V M nd ix og rw ct mb T K R ∧ (∀ i : Nat, Zb (V + 1) (rw i)) ∧ ∀ i : Nat, i < k → ct i = 0 ∧ ∀ j : Nat, j < V + 1 → T i j = false
theorem XF.kept {G : cx_G} {ad : Nat → Nat} {g g1 : Nat → va_E} {N V M k : Nat} (h : XF G ad g N V M k) (hN : N ≤ 8) (hV : V ≤ 4) (hk : ∀ j : Nat, lbA j → g1 j = g j) : XF G ad g1 N V M k := by
  obtain ⟨nd, ix, og, rw, ct, mb, T, K, R, h1, h2⟩ := h
  exact ⟨nd, ix, og, rw, ct, mb, T, K, R, h1.kept hN hV hk, h2⟩
theorem XF.of {G : cx_G} {ad : Nat → Nat} {g : Nat → va_E} {N V M : Nat} {P : PS} (h : XA G ad g N V M P) : XF G ad g N V M 0 := by
  obtain ⟨nd, ix, og, rw, ct, mb, T, K, R, hxn, hxp, hxs⟩ := h
  exact ⟨nd, ix, og, rw, ct, mb, T, K, R, hxn, hxp.2.2.2.1, fun i hi => absurd hi (Nat.not_lt_zero i)⟩
theorem XF.done {G : cx_G} {ad : Nat → Nat} {g : Nat → va_E} {N V M : Nat} (h : XF G ad g N V M N) : XA G ad g N V M PS0 := by
  obtain ⟨nd, ix, og, rw, ct, mb, T, K, R, hxn, hz, hc⟩ := h
  refine ⟨nd, ix, og, rw, ct, mb, T, K, R, hxn, ⟨fun k hk => absurd hk (Nat.not_lt_zero k), fun i hi => ⟨(hc i hi).1, Nat.zero_le _, fun j hj => absurd hj (Nat.not_lt_zero j)⟩, (csum_0 N).symm, hz, Nat.zero_le _⟩, fun i hi => ⟨(cntT_0 (hc i hi).2).symm, RRf.empty (hc i hi).2⟩⟩
theorem XF.step {G : cx_G} {ad : Nat → Nat} {g u : Nat → va_E} {N V M k : Nat} {nd ix : Nat → Nat} {og : Nat → Int32} {rw : Nat → Nat → FF} {ct : Nat → Nat} {mb : Nat → Nat → Nat} {T : Nat → Nat → Bool} {K : Nat → Nat → Nat → FF} {R : Nat → Nat → FF} {t2 : Nat → Bool} (hxn : XAn G ad g N V M nd ix og rw ct mb T K R) (hz : ∀ i : Nat, Zb (V + 1) (rw i)) (hc : ∀ i : Nat, i < k → ct i = 0 ∧ ∀ j : Nat, j < V + 1 → T i j = false) (hN : N ≤ 8) (hV : V ≤ 4) (hk : k < N)
    (fr : ∀ j : Nat, (j ≠ 100 + 10 * k + 2 ∧ j ≠ 200 + 2 * k) → u j = g j) (c_h : u (200 + 2 * k) = .inr (1, [.ref (ad (100 + 10 * k)), .ref (ad (201 + 2 * k)), .int (nI 0)])) (ht2 : ∀ j : Nat, j < V + 1 → t2 j = false) (sp : SpanAt G ad u (100 + 10 * k) (V + 1) t2 (K k) (R k)) : XF G ad u N V M (k + 1) := by
  have q := XAn.upd (al := M) (c2 := 0) (fz := og M) (v := rw M) (mb2 := mb k) (n2 := nd M) (i2 := ix M) hxn hN hV hk (fun j hj => fr j (by omega)) c_h ((fr _ (by omega)).trans (hxn.2.1 k hk)) sp (fun z => absurd z (Nat.lt_irrefl M)) (fun z => absurd z (Nat.lt_irrefl M))
  rw [nu_id nd, nu_id ix, nu_id og, nu_id rw, nu_id mb, nu_id K, nu_id R] at q
  refine ⟨_, _, _, _, _, _, _, _, _, q, hz, fun i hi => ?_⟩
  by_cases e : i = k
  · subst e
    rw [nu_s, nu_s]
    exact ⟨rfl, ht2⟩
  · rw [nu_n e, nu_n e]
    exact hc i (by omega)
theorem wk_no {w : Nat} {ef et ek ev : Nat → Nat} {eg : Nat → Nat → FF} {k e : Nat} {P : PS} (h : ef e ≠ (workF w ef et ek ev eg k e P).2.1 k) : workF w ef et ek ev eg k (e + 1) P = workF w ef et ek ev eg k e P := if_neg h
theorem wk_1 {w : Nat} {ef et ek ev : Nat → Nat} {eg : Nat → Nat → FF} {k e : Nat} {P : PS} (h : ef e = (workF w ef et ek ev eg k e P).2.1 k) (h2 : ek e ≠ 2) : workF w ef et ek ev eg k (e + 1) P = follF w et ek ev eg k e 0 (workF w ef et ek ev eg k e P) := (if_pos h).trans (if_neg h2)
theorem wk_2 {w : Nat} {ef et ek ev : Nat → Nat} {eg : Nat → Nat → FF} {k e : Nat} {P : PS} (h : ef e = (workF w ef et ek ev eg k e P).2.1 k) (h2 : ek e = 2) : workF w ef et ek ev eg k (e + 1) P = follF w et ek ev eg k e 1 (follF w et ek ev eg k e 0 (workF w ef et ek ev eg k e P)) := (if_pos h).trans (if_pos h2)
theorem run_end {w ec : Nat} {ef et ek ev : Nat → Nat} {eg : Nat → Nat → FF} {f i : Nat} {P : PS} (h : f = 0 ∨ P.1 ≤ i) : runF w ec ef et ek ev eg f i P = P := by
  cases f with
  | zero => rfl
  | succ f =>
    have h2 : ¬ i < P.1 := by omega
    exact if_neg h2
theorem run_go {w ec : Nat} {ef et ek ev : Nat → Nat} {eg : Nat → Nat → FF} {M i : Nat} {P : PS} (h : i < M) (h2 : i < P.1) : runF w ec ef et ek ev eg (M - i) i P = runF w ec ef et ek ev eg (M - (i + 1)) (i + 1) (workF w ef et ek ev eg i ec P) := by
  rw [show M - i = (M - (i + 1)) + 1 by omega]
  exact if_pos h2
