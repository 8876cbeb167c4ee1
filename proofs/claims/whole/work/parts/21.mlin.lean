/-! THE MODEL's elimination, pure part -/
def rw5 (tb : Nat → FF) (r : Nat) : Nat → FF := fun k => tb (5 * r + k)
/-- the columns worked through before step x: 0, V, V - 1, .. -/
def pcd (V x c : Nat) : Prop := c < V + 1 ∧ (c = 0 → 0 < x) ∧ (c ≠ 0 → V + 1 - c < x)
def colF (V x : Nat) : Nat := if x = 0 then 0 else V + 1 - x
theorem colF_lt {V x : Nat} (h : x ≤ V) : colF V x < V + 1 := by unfold colF; split <;> omega
theorem pcd_succ {V x c : Nat} (hx : x ≤ V) : pcd V (x + 1) c ↔ pcd V x c ∨ c = colF V x := by
  unfold pcd colF
  split <;> omega
theorem pcd_col {V x : Nat} (hx : x ≤ V) : ¬ pcd V x (colF V x) := by
  unfold pcd colF
  split <;> omega
theorem pcd_bef {V x c j : Nat} (h : pcd V x c) (hb : bef j c) (hj : j < V + 1) : pcd V x j := by
  unfold pcd bef at *
  omega
theorem pcd_col_bef {V x j : Nat} (hx : x ≤ V) (hb : bef j (colF V x)) (hj : j < V + 1) : pcd V x j := by
  have h := (pcd_succ (c := colF V x) hx).mpr (Or.inr rfl)
  have h2 := pcd_bef h hb hj
  rcases (pcd_succ hx).mp h2 with q | q
  · exact q
  · exfalso
    rw [q] at hb
    unfold bef at hb
    omega
theorem pcd_all {V c : Nat} (h : c < V + 1) : pcd V (V + 1) c := by unfold pcd; omega
theorem pcd_0 {V c : Nat} : ¬ pcd V 0 c := by unfold pcd; omega
def GJ (V sz x d : Nat) (tb : Nat → FF) (t : Nat → Bool) (pv ro : Nat → Nat) (S : (Nat → FF) → Prop) : Prop :=
  (∀ v : Nat → FF, InSp (V + 1) (rw5 tb) sz v ↔ S v) ∧ d ≤ sz ∧ d = cntT t (V + 1) ∧
  (∀ c : Nat, c < V + 1 → t c = true → pcd V x c ∧ pv c < d ∧ ro (pv c) = c ∧ rw5 tb (pv c) c = 1 ∧ (∀ r : Nat, r < sz → r ≠ pv c → rw5 tb r c = 0) ∧ ∀ j : Nat, j < V + 1 → bef j c → rw5 tb (pv c) j = 0) ∧
  (∀ c : Nat, pcd V x c → t c = false → ∀ r : Nat, d ≤ r → r < sz → rw5 tb r c = 0) ∧
  ∀ r : Nat, r < d → ro r < V + 1 ∧ t (ro r) = true ∧ pv (ro r) = r
theorem GJ.start {V sz : Nat} {tb : Nat → FF} {pv ro : Nat → Nat} : GJ V sz 0 0 tb (fun _ => false) pv ro (InSp (V + 1) (rw5 tb) sz) :=
  ⟨fun _ => Iff.rfl, Nat.zero_le _, (cntT_0 (fun _ _ => rfl)).symm, fun c _ h => (by cases h), fun c h => absurd h pcd_0, fun r h => absurd h (Nat.not_lt_zero r)⟩
theorem GJ.skip {V sz x d : Nat} {tb : Nat → FF} {t : Nat → Bool} {pv ro : Nat → Nat} {S : (Nat → FF) → Prop} (h : GJ V sz x d tb t pv ro S) (hx : x ≤ V) (hz : ∀ r : Nat, d ≤ r → r < sz → rw5 tb r (colF V x) = 0) : GJ V sz (x + 1) d tb t pv ro S := by
  obtain ⟨h1, h2, h3, h4, h5, h6⟩ := h
  refine ⟨h1, h2, h3, fun c hc ht => ?_, fun c hc ht r a b => ?_, h6⟩
  · obtain ⟨q1, q2⟩ := h4 c hc ht
    exact ⟨(pcd_succ hx).mpr (Or.inl q1), q2⟩
  · rcases (pcd_succ hx).mp hc with q | q
    · exact h5 c q ht r a b
    · rw [q]; exact hz r a b
theorem GJ.free {V sz x d : Nat} {tb : Nat → FF} {t : Nat → Bool} {pv ro : Nat → Nat} {S : (Nat → FF) → Prop} (h : GJ V sz x d tb t pv ro S) (hx : x ≤ V) : t (colF V x) = false := by
  cases q : t (colF V x)
  · rfl
  · exact absurd (h.2.2.2.1 _ (colF_lt hx) q).1 (pcd_col hx)
/-- a pivot row i, exchanged with row d, made 1 at its place, taken away from all others -/
theorem GJ.step {V sz x d i : Nat} {tb tb2 : Nat → FF} {t : Nat → Bool} {pv ro : Nat → Nat} {S : (Nat → FF) → Prop} (h : GJ V sz x d tb t pv ro S) (hx : x ≤ V) (hd : d ≤ i) (hi : i < sz) (hn : rw5 tb i (colF V x) ≠ 0)
    (hr : ∀ r k : Nat, r < sz → k < 5 → rw5 tb2 r k = if r = d then finv (rw5 tb i (colF V x)) * rw5 tb i k else rw5 tb (if r = i then d else r) k - rw5 tb (if r = i then d else r) (colF V x) * (finv (rw5 tb i (colF V x)) * rw5 tb i k)) (hV : V ≤ 4) :
    GJ V sz (x + 1) (d + 1) tb2 (nu t (colF V x) true) (nu pv (colF V x) d) (nu ro d (colF V x)) S := by
  have ht0 := h.free hx
  obtain ⟨h1, h2, h3, h4, h5, h6⟩ := h
  have hcl := colF_lt hx
  have hinv := finv_ok _ hn
  have hpc : ¬ pcd V x (colF V x) := pcd_col hx
  have hps := fun c => pcd_succ (c := c) hx
  have hcb := fun j => pcd_col_bef (j := j) hx
  generalize hc0 : colF V x = c0 at *
  generalize hf : finv (rw5 tb i c0) = f at *
  -- what row i has at the columns before
  have hy : ∀ c : Nat, pcd V x c → rw5 tb i c = 0 := by
    intro c hc
    cases q : t c
    · exact h5 c hc q i hd hi
    · obtain ⟨-, p2, -, -, p5, -⟩ := h4 c hc.1 q
      exact p5 i hi (by omega)
  have hrd : ∀ k : Nat, k < 5 → rw5 tb2 d k = f * rw5 tb i k := fun k hk => by rw [hr d k (by omega) hk, if_pos rfl]
  have hro : ∀ r k : Nat, r < sz → r ≠ d → k < 5 → rw5 tb2 r k = rw5 tb (if r = i then d else r) k - rw5 tb (if r = i then d else r) c0 * (f * rw5 tb i k) := fun r k a b q => by rw [hr r k a q, if_neg b]
  have hsg : ∀ r : Nat, r < sz → (if r = i then d else r) < sz := fun r a => by split <;> omega
  have tt : ∀ k : Nat, nu t c0 true k = true → k = c0 ∨ (k ≠ c0 ∧ t k = true) := by
    intro k hk
    by_cases e : k = c0
    · exact Or.inl e
    · rw [nu_n e] at hk
      exact Or.inr ⟨e, hk⟩
  refine ⟨fun v => ?_, by omega, ?_, fun c hc ht => ?_, fun c hc ht r hrr hrs => ?_, fun r hrr => ?_⟩
  · rw [← h1]
    have L1 := InSp.lin (V + 1) (rw5 tb) sz
    have L2 := InSp.lin (V + 1) (rw5 tb2) sz
    have hyi : InSp (V + 1) (rw5 tb2) sz (rw5 tb i) := L2.ad (rw5 tb i c0) L2.2.1 (InSp.self (rows := rw5 tb2) (i := d) (by omega)) (fun j hj => by rw [hrd j (by omega)]; grind)
    constructor
    · refine fun hv => InSp.le L1 (fun r hrs => ?_) hv
      by_cases e : r = d
      · subst e
        exact L1.ad f L1.2.1 (InSp.self (rows := rw5 tb) hi) (fun j hj => by rw [hrd j (by omega)]; grind)
      · exact L1.ad (-(rw5 tb (if r = i then d else r) c0 * f)) (InSp.self (rows := rw5 tb) (hsg r hrs)) (InSp.self (rows := rw5 tb) hi) (fun j hj => by rw [hro r j hrs e (by omega)]; grind)
    · refine fun hv => InSp.le L2 (fun r hrs => ?_) hv
      by_cases e : r = i
      · rw [e]; exact hyi
      · by_cases e2 : r = d
        · -- row d went to place i
          have e3 : i ≠ d := fun z => e (by rw [e2, z])
          refine L2.ad (rw5 tb d c0 * f) (InSp.self (rows := rw5 tb2) hi) hyi (fun j hj => ?_)
          have := hro i j hi e3 (by omega)
          rw [if_pos rfl] at this
          rw [this, e2]
          grind
        · refine L2.ad (rw5 tb r c0 * f) (InSp.self (rows := rw5 tb2) hrs) hyi (fun j hj => ?_)
          have := hro r j hrs e2 (by omega)
          rw [if_neg e] at this
          rw [this]
          grind
  · rw [cntT_add ht0, if_pos hcl, ← h3]
  · rcases tt c ht with e | ⟨e, q⟩
    · subst e
      rw [nu_s]
      refine ⟨(hps c).mpr (Or.inr rfl), Nat.lt_succ_self d, nu_s _ _ _, ?_, fun r hrs hne => ?_, fun j hj hb => ?_⟩
      · rw [hrd c (by omega)]
        grind
      · rw [hro r c hrs hne (by omega)]
        grind
      · rw [hrd j (by omega), hy j (hcb j hb hj)]
        grind
    · obtain ⟨p1, p2, p3, p4, p5, p6⟩ := h4 c hc q
      rw [nu_n e]
      have e1 : pv c ≠ d := by omega
      have e2 : pv c ≠ i := by omega
      have yc := hy c p1
      refine ⟨(hps c).mpr (Or.inl p1), by omega, by rw [nu_n e1]; exact p3, ?_, fun r hrs hne => ?_, fun j hj hb => ?_⟩
      · rw [hro (pv c) c (by omega) e1 (by omega), if_neg e2, p4, yc]
        grind
      · by_cases e3 : r = d
        · rw [e3, hrd c (by omega), yc]
          grind
        · rw [hro r c hrs e3 (by omega), p5 (if r = i then d else r) (hsg r hrs) (by split <;> omega), yc]
          grind
      · rw [hro (pv c) j (by omega) e1 (by omega), if_neg e2, p6 j hj hb, hy j (pcd_bef p1 hb hj)]
        grind
  · have e : c ≠ c0 := fun z => by rw [z, nu_s] at ht; cases ht
    rw [nu_n e] at ht
    have p1 : pcd V x c := by
      rcases (hps c).mp hc with q | q
      · exact q
      · exact absurd q e
    have hc5 := p1.1
    rw [hro r c hrs (by omega) (by omega), h5 c p1 ht (if r = i then d else r) (by split <;> omega) (hsg r hrs), hy c p1]
    grind
  · by_cases e : r = d
    · subst e
      rw [nu_s, nu_s, nu_s]
      exact ⟨hcl, rfl, rfl⟩
    · obtain ⟨q1, q2, q3⟩ := h6 r (by omega)
      have e2 : ro r ≠ c0 := fun z => by rw [z, ht0] at q2; cases q2
      rw [nu_n e, nu_n e2, nu_n e2]
      exact ⟨q1, q2, q3⟩
theorem lsum_z {cf : Nat → FF} {rows : Nat → Nat → FF} {j : Nat} : ∀ {m : Nat}, (∀ r : Nat, r < m → cf r * rows r j = 0) → lsum cf rows m j = 0
  | 0, _ => rfl
  | m + 1, h => by
    show lsum cf rows m j + cf m * rows m j = 0
    rw [lsum_z (m := m) (fun r hr => h r (by omega)), h m (by omega)]
    grind
theorem lsum_1 {cf : Nat → FF} {rows : Nat → Nat → FF} {j q : Nat} (h1 : rows q j = 1) : ∀ {m : Nat}, q < m → (∀ r : Nat, r < m → r ≠ q → rows r j = 0) → lsum cf rows m j = cf q
  | 0, h, _ => absurd h (Nat.not_lt_zero q)
  | m + 1, h, h2 => by
    show lsum cf rows m j + cf m * rows m j = cf q
    by_cases e : q = m
    · subst e
      rw [lsum_z (m := q) (fun r hr => by rw [h2 r (by omega) (by omega)]; grind), h1]
      grind
    · rw [lsum_1 h1 (m := m) (by omega) (fun r hr hn => h2 r (by omega) hn), h2 m (by omega) (by omega)]
      grind
theorem GJ.done {V sz d : Nat} {tb : Nat → FF} {t : Nat → Bool} {pv ro : Nat → Nat} {S : (Nat → FF) → Prop} (h : GJ V sz (V + 1) d tb t pv ro S) : RRf (V + 1) t (fun c => rw5 tb (pv c)) S ∧ d = cntT t (V + 1) ∧ ∀ c : Nat, c < V + 1 → t c = true → pv c < sz := by
  obtain ⟨h1, h2, h3, h4, h5, h6⟩ := h
  refine ⟨⟨fun k hk ht => ?_, fun v hv hz j hj => ?_⟩, h3, fun c hc ht => by have := (h4 c hc ht).2.1; omega⟩
  · obtain ⟨p1, p2, p3, p4, p5, p6⟩ := h4 k hk ht
    refine ⟨(h1 _).mp (InSp.self (rows := rw5 tb) (by omega)), p4, fun j hj htj hne => ?_, p6⟩
    obtain ⟨q1, q2, q3, q4, q5, q6⟩ := h4 j hj htj
    exact q5 (pv k) (by omega) (fun z => hne (by rw [← p3, ← q3, z]))
  · obtain ⟨cf, hcf⟩ := (h1 v).mpr hv
    have h0 : ∀ r : Nat, r < d → cf r = 0 := by
      intro r hr
      obtain ⟨q1, q2, q3⟩ := h6 r hr
      obtain ⟨-, p2, -, p4, p5, -⟩ := h4 (ro r) q1 q2
      rw [q3] at p4 p5
      have e := lsum_1 (cf := cf) p4 (m := sz) (by omega) p5
      rw [← e, ← hcf (ro r) q1]
      exact hz (ro r) q1 q2
    rw [hcf j hj]
    refine lsum_z (fun r hr => ?_)
    rcases Nat.lt_or_ge r d with q | q
    · rw [h0 r q]; grind
    · have : rw5 tb r j = 0 := by
        cases ht : t j
        · exact h5 j (pcd_all hj) ht r q hr
        · obtain ⟨-, p2, -, -, p5, -⟩ := h4 j hj ht
          exact p5 r hr (by omega)
      rw [this]; grind
theorem swF_d {tb : Nat → FF} {i d k : Nat} (hk : k < 5) : swF tb i d (5 * d + k) = rw5 tb i k := by
  unfold swF rw5
  have e1 : (5 * d + k) / 5 = d := by omega
  have e2 : (5 * d + k) % 5 = k := by omega
  rw [e1, e2]
  by_cases q : d = i
  · rw [if_pos q, q]
  · rw [if_neg q, if_pos rfl]
def scF (tb : Nat → FF) (d : Nat) (f : FF) : Nat → FF := fun j => if j / 5 = d then f * tb j else tb j
theorem sc_step {r tb : Nat → FF} {d k : Nat} {f : FF} (hk : k < 5) (hr : ∀ j : Nat, r j = if j % 5 < k then scF tb d f j else tb j) : ∀ j : Nat, nu r (5 * d + k) (f * r (5 * d + k)) j = if j % 5 < k + 1 then scF tb d f j else tb j := by
  intro j
  have ea : r (5 * d + k) = tb (5 * d + k) := by rw [hr, if_neg (by omega)]
  by_cases h2 : j = 5 * d + k
  · subst h2
    rw [nu_s, if_pos (by omega), ea]
    unfold scF
    rw [if_pos (by omega)]
  · rw [nu_n h2, hr]
    by_cases h3 : j % 5 < k
    · rw [if_pos h3, if_pos (by omega)]
    · rw [if_neg h3]
      by_cases h4 : j % 5 < k + 1
      · rw [if_pos h4]
        unfold scF
        rw [if_neg (by omega)]
      · rw [if_neg h4]
theorem sc_done {r tb : Nat → FF} {d k : Nat} {f : FF} (hk : 5 ≤ k) (hr : ∀ j : Nat, r j = if j % 5 < k then scF tb d f j else tb j) : r = scF tb d f := by
  funext j
  rw [hr, if_pos (by omega)]
/-- the rows before rr have lost what they had in column q -/
def ELr (tb : Nat → FF) (d q rr : Nat) (y : Nat → FF) : Prop := ∀ j : Nat, y j = if j / 5 < rr ∧ j / 5 ≠ d then tb j - tb (5 * (j / 5) + q) * tb (5 * d + j % 5) else tb j
theorem ELr.start {tb : Nat → FF} {d q : Nat} : ELr tb d q 0 tb := fun j => by rw [if_neg (fun z => Nat.not_lt_zero _ z.1)]
theorem ELr.skip {tb y : Nat → FF} {d q : Nat} (h : ELr tb d q d y) : ELr tb d q (d + 1) y := fun j => by
  rw [h j]
  by_cases e : j / 5 < d ∧ j / 5 ≠ d
  · rw [if_pos e, if_pos ⟨by omega, e.2⟩]
  · rw [if_neg e, if_neg (by omega)]
theorem ELr.step {tb y : Nat → FF} {d q rr : Nat} (h : ELr tb d q rr y) (hn : rr ≠ d) (hq : q < 5) : ELr tb d q (rr + 1) (mnF y rr d (y (5 * rr + q))) := fun j => by
  have e1 : y (5 * rr + q) = tb (5 * rr + q) := by rw [h, if_neg (by omega)]
  have e2 : y (5 * d + j % 5) = tb (5 * d + j % 5) := by rw [h, if_neg (by omega)]
  unfold mnF
  rw [e1, e2]
  by_cases e : j / 5 = rr
  · have e3 : y j = tb j := by rw [h, if_neg (by omega)]
    rw [if_pos e, if_pos ⟨by omega, by omega⟩, e3, e]
  · rw [if_neg e, h]
    by_cases e3 : j / 5 < rr ∧ j / 5 ≠ d
    · rw [if_pos e3, if_pos ⟨by omega, e3.2⟩]
    · rw [if_neg e3, if_neg (by omega)]
theorem ELr.rows {tb y : Nat → FF} {i d q rr sz : Nat} {f : FF} (h : ELr (scF (swF tb i d) d f) d q rr y) (hs : sz ≤ rr) (hq : q < 5) : ∀ r k : Nat, r < sz → k < 5 → rw5 y r k = if r = d then f * rw5 tb i k else rw5 tb (if r = i then d else r) k - rw5 tb (if r = i then d else r) q * (f * rw5 tb i k) := by
  intro r k hr hk
  have e1 : (5 * r + k) / 5 = r := by omega
  have e2 : (5 * r + k) % 5 = k := by omega
  have a1 : ∀ k : Nat, k < 5 → scF (swF tb i d) d f (5 * d + k) = f * rw5 tb i k := fun k hk => by
    unfold scF
    rw [if_pos (by omega), swF_d hk]
  show y (5 * r + k) = _
  rw [h, e1, e2]
  by_cases e : r = d
  · rw [if_neg (by omega), if_pos e, e, a1 k hk]
  · have a2 : ∀ k : Nat, k < 5 → scF (swF tb i d) d f (5 * r + k) = rw5 tb (if r = i then d else r) k := fun k hk => by
      have e3 : (5 * r + k) / 5 = r := by omega
      have e4 : (5 * r + k) % 5 = k := by omega
      unfold scF swF rw5
      rw [e3, e4, if_neg e]
      by_cases e5 : r = i
      · rw [if_pos e5, if_pos e5]
      · rw [if_neg e5, if_neg e, if_neg e5]
    rw [if_pos ⟨by omega, e⟩, if_neg e, a1 k hk, a2 k hk, a2 q hq]
/-- the pivots' array -/
def PZ (V x : Nat) (t : Nat → Bool) (pv : Nat → Nat) (pz : Nat → Int32) : Prop := ∀ k : Nat, pcd V x k → (t k = true → pz k = nI (pv k)) ∧ (t k = false → pz k = -1)
theorem PZ.skip {V x : Nat} {t : Nat → Bool} {pv : Nat → Nat} {pz : Nat → Int32} (h : PZ V x t pv pz) (hx : x ≤ V) (ht : t (colF V x) = false) : PZ V (x + 1) t pv (nu pz (colF V x) (-1)) := fun k hk => by
  by_cases e : k = colF V x
  · subst e
    rw [nu_s, ht]
    exact ⟨fun z => absurd z (by decide), fun _ => rfl⟩
  · rw [nu_n e]
    rcases (pcd_succ hx).mp hk with q | q
    · exact h k q
    · exact absurd q e
theorem PZ.step {V x d : Nat} {t : Nat → Bool} {pv : Nat → Nat} {pz : Nat → Int32} (h : PZ V x t pv pz) (hx : x ≤ V) : PZ V (x + 1) (nu t (colF V x) true) (nu pv (colF V x) d) (nu (nu pz (colF V x) (-1)) (colF V x) (nI d)) := fun k hk => by
  by_cases e : k = colF V x
  · subst e
    rw [nu_s, nu_s, nu_s]
    exact ⟨fun _ => rfl, fun z => absurd z (by decide)⟩
  · rw [nu_n e, nu_n e, nu_n e, nu_n e]
    rcases (pcd_succ hx).mp hk with q | q
    · exact h k q
    · exact absurd q e
/-- what rank lays: reduced rows of the table's span -/
def RK (V sz : Nat) (tb tb2 : Nat → FF) (pz : Nat → Int32) (t : Nat → Bool) (pv : Nat → Nat) : Prop := RRf (V + 1) t (fun k => rw5 tb2 (pv k)) (InSp (V + 1) (rw5 tb) sz) ∧ ∀ k : Nat, k < V + 1 → (t k = true → pz k = nI (pv k) ∧ pv k < sz) ∧ (t k = false → pz k = -1)
theorem RK.of {V sz d : Nat} {tb tb2 : Nat → FF} {pz : Nat → Int32} {t : Nat → Bool} {pv ro : Nat → Nat} (h : GJ V sz (V + 1) d tb2 t pv ro (InSp (V + 1) (rw5 tb) sz)) (hz : PZ V (V + 1) t pv pz) : RK V sz tb tb2 pz t pv ∧ d = cntT t (V + 1) := by
  obtain ⟨h1, h2, h3⟩ := h.done
  exact ⟨⟨h1, fun k hk => ⟨fun q => ⟨(hz k (pcd_all hk)).1 q, h3 k hk q⟩, fun q => (hz k (pcd_all hk)).2 q⟩⟩, h2⟩
/-- rows in flat arrays -/
def FR (fm : Nat → FF) (eg : Nat → Nat → FF) : Prop := ∀ i k : Nat, k < 5 → fm (5 * i + k) = eg i k
theorem dot_cg {u v w z : Nat → FF} : ∀ {n : Nat}, (∀ k : Nat, k < n → u k = w k) → (∀ k : Nat, k < n → v k = z k) → dot u v n = dot w z n
  | 0, _, _ => rfl
  | n + 1, h, h2 => by
    show dot u v n + u n * v n = dot w z n + w n * z n
    rw [dot_cg (n := n) (fun k hk => h k (by omega)) (fun k hk => h2 k (by omega)), h n (by omega), h2 n (by omega)]
theorem dot_zb {u v : Nat → FF} {w : Nat} (h : Zb w u) : ∀ {n : Nat}, w ≤ n → dot u v n = dot u v w
  | 0, hn => by rw [show w = 0 by omega]
  | n + 1, hn => by
    by_cases e : w = n + 1
    · rw [e]
    · show dot u v n + u n * v n = dot u v w
      rw [dot_zb h (n := n) (by omega), h n (by omega)]
      grind
theorem dot_FR {fm : Nat → FF} {eg : Nat → Nat → FF} {rr : Nat → FF} {i V : Nat} (h : FR fm eg) (hz : Zb (V + 1) (eg i)) (hV : V ≤ 4) : dot (rw5 fm i) rr 5 = dot (eg i) rr (V + 1) := by
  rw [dot_cg (u := rw5 fm i) (w := eg i) (z := rr) (fun k hk => h i k hk) (fun _ _ => rfl), dot_zb hz (by omega)]
theorem Zb.five {V : Nat} {v : Nat → FF} (h : Zb (V + 1) v) (hV : V ≤ 4) : Zb 5 v := fun j hj => h j (by omega)
theorem cp_step {r u v : Nat → FF} {k : Nat} (hr : ∀ j : Nat, r j = if j < k then v j else u j) : ∀ j : Nat, nu r k (v k) j = if j < k + 1 then v j else u j := by
  intro j
  by_cases h : j = k
  · subst h
    rw [nu_s, if_pos (Nat.lt_succ_self j)]
  · rw [nu_n h, hr j]
    by_cases h2 : j < k
    · rw [if_pos h2, if_pos (by omega)]
    · rw [if_neg h2, if_neg (by omega)]
theorem cp_done {r u v : Nat → FF} {k : Nat} (hk : 5 ≤ k) (hu : Zb 5 u) (hv : Zb 5 v) (hr : ∀ j : Nat, r j = if j < k then v j else u j) : r = v := by
  funext j
  rw [hr]
  by_cases h : j < k
  · rw [if_pos h]
  · rw [if_neg h, hu j (by omega), hv j (by omega)]
theorem cp_0 {u v : Nat → FF} : ∀ j : Nat, u j = if j < 0 then v j else u j := fun j => by rw [if_neg (Nat.not_lt_zero _)]
