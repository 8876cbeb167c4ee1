/-! equations and notes: pure part -/
theorem XA.hull {G : cx_G} {ad : Nat → Nat} {g : Nat → va_E} {N V M : Nat} {P : PS} (h : XA G ad g N V M P) {node : Nat} (hn : node < N) : ∃ (mbn : Nat → Nat) (t : Nat → Bool) (kp : Nat → Nat → FF) (rs : Nat → FF),
    g (200 + 2 * node) = .inr (1, [.ref (ad (100 + 10 * node)), .ref (ad (201 + 2 * node)), .int (nI (P.2.2.2.1 node))]) ∧ g (201 + 2 * node) = nA G (V + 1) mbn ∧ P.2.2.2.1 node ≤ V + 1 ∧ SpanAt G ad g (100 + 10 * node) (V + 1) t kp rs ∧ P.2.2.2.1 node = cntT t (V + 1) ∧ RRf (V + 1) t kp (InSp (V + 1) (P.2.2.2.2.1 node) (P.2.2.2.1 node)) ∧
    ∀ i : Nat, i < P.2.2.2.1 node → mbn i < M ∧ (∃ a b : Nat, g (500 + 2 * mbn i) = .inr (3, [.int (nI a), .int (nI b), .int (P.2.2.2.2.2 node i), .ref (ad (501 + 2 * mbn i))])) ∧ g (501 + 2 * mbn i) = nA G (V + 1) (vN (P.2.2.2.2.1 node i)) := by
  obtain ⟨nd, ix, og, rw, ct, mb, T, K, R, hxn, hxp, hxs⟩ := h
  obtain ⟨a1, a2, a3⟩ := hxp.2.1 node hn
  have b1 := hxn.1 node hn
  rw [a1] at b1
  refine ⟨mb node, T node, K node, R node, b1, hxn.2.1 node hn, a2, hxn.2.2.1 node hn, (hxs node hn).1, (hxs node hn).2, fun i hi => ?_⟩
  obtain ⟨c1, c2, c3⟩ := a3 i hi
  have hM : mb node i < M := Nat.lt_of_lt_of_le c1 hxp.2.2.2.2
  have d1 := hxn.2.2.2.1 _ hM
  have d2 := hxn.2.2.2.2 _ hM
  rw [c3] at d1
  rw [c2] at d2
  exact ⟨hM, ⟨_, _, d1⟩, d2⟩
def hldF (w : Nat) (d : Nat → FF) (pt : Nat → Nat → FF) (m : Nat) : Bool := decide (∀ i : Nat, i < m → dot d (pt i) w = 0)
theorem hld_t {w m : Nat} {d : Nat → FF} {pt : Nat → Nat → FF} (h : ∀ i : Nat, i < m → dot d (pt i) w = 0) : nI 1 = if hldF w d pt m = true then 1 else 0 := by
  have e : hldF w d pt m = true := decide_eq_true h
  rw [e]
  decide
theorem hld_f {w m i : Nat} {d : Nat → FF} {pt : Nat → Nat → FF} (hi : i < m) (h : dot d (pt i) w ≠ 0) : nI 0 = if hldF w d pt m = true then 1 else 0 := by
  have e : hldF w d pt m = false := decide_eq_false (fun z => h (z i hi))
  rw [e]
  decide
/-- equation i of a reduced form -/
def eqv (w : Nat) (t : Nat → Bool) (kp : Nat → Nat → FF) (i : Nat) : Nat → FF := fun k => if k < w then van t kp (fpl t (w - 1) 1 i) k else 0
theorem eqv_z (w : Nat) (t : Nat → Bool) (kp : Nat → Nat → FF) (i : Nat) : Zb w (eqv w t kp i) := fun j hj => if_neg (by omega)
/-- free places -/
def cntF (t : Nat → Bool) : Nat → Nat → Nat
  | 0, _ => 0
  | fu + 1, k => (if t k = true then 0 else 1) + cntF t fu (k + 1)
theorem cntF_T (t : Nat → Bool) : ∀ fu k : Nat, cntF t fu k + cntT t (k + fu) = fu + cntT t k
  | 0, k => by show 0 + cntT t k = 0 + cntT t k; rfl
  | fu + 1, k => by
    have h := cntF_T t fu (k + 1)
    have h2 : cntT t (k + 1) = cntT t k + (if t k = true then 1 else 0) := rfl
    show (if t k = true then 0 else 1) + cntF t fu (k + 1) + cntT t (k + (fu + 1)) = fu + 1 + cntT t k
    rw [show k + (fu + 1) = k + 1 + fu by omega]
    by_cases q : t k = true
    · rw [if_pos q] at h2 ⊢
      omega
    · rw [if_neg q] at h2 ⊢
      omega
theorem fpl_in (t : Nat → Bool) : ∀ (fu k i : Nat), i < cntF t fu k → k ≤ fpl t fu k i ∧ fpl t fu k i < k + fu ∧ t (fpl t fu k i) = false
  | 0, _, i, h => absurd h (Nat.not_lt_zero i)
  | fu + 1, k, i, h => by
    have h2 : i < (if t k = true then 0 else 1) + cntF t fu (k + 1) := h
    show k ≤ (if t k = true then fpl t fu (k + 1) i else if i = 0 then k else fpl t fu (k + 1) (i - 1)) ∧ (if t k = true then fpl t fu (k + 1) i else if i = 0 then k else fpl t fu (k + 1) (i - 1)) < k + (fu + 1) ∧ t (if t k = true then fpl t fu (k + 1) i else if i = 0 then k else fpl t fu (k + 1) (i - 1)) = false
    by_cases q : t k = true
    · rw [if_pos q] at h2
      rw [if_pos q]
      obtain ⟨a, b, c⟩ := fpl_in t fu (k + 1) i (by omega)
      exact ⟨by omega, by omega, c⟩
    · rw [if_neg q] at h2
      rw [if_neg q]
      by_cases e : i = 0
      · rw [if_pos e]
        exact ⟨Nat.le_refl k, by omega, by cases q2 : t k; rfl; exact absurd q2 q⟩
      · rw [if_neg e]
        obtain ⟨a, b, c⟩ := fpl_in t fu (k + 1) (i - 1) (by omega)
        exact ⟨by omega, by omega, c⟩
theorem fpl_out (t : Nat → Bool) : ∀ (fu k i : Nat), cntF t fu k ≤ i → fpl t fu k i = 0
  | 0, _, _, _ => rfl
  | fu + 1, k, i, h => by
    have h2 : (if t k = true then 0 else 1) + cntF t fu (k + 1) ≤ i := h
    show (if t k = true then fpl t fu (k + 1) i else if i = 0 then k else fpl t fu (k + 1) (i - 1)) = 0
    by_cases q : t k = true
    · rw [if_pos q] at h2
      rw [if_pos q]
      exact fpl_out t fu (k + 1) i (by omega)
    · rw [if_neg q] at h2
      rw [if_neg q, if_neg (by omega)]
      exact fpl_out t fu (k + 1) (i - 1) (by omega)
theorem fpl_cg {t t' : Nat → Bool} : ∀ (fu k i : Nat), (∀ j : Nat, k ≤ j → j < k + fu → t j = t' j) → fpl t fu k i = fpl t' fu k i
  | 0, _, _, _ => rfl
  | fu + 1, k, i, h => by
    show (if t k = true then fpl t fu (k + 1) i else if i = 0 then k else fpl t fu (k + 1) (i - 1)) = (if t' k = true then fpl t' fu (k + 1) i else if i = 0 then k else fpl t' fu (k + 1) (i - 1))
    rw [h k (Nat.le_refl k) (by omega), fpl_cg fu (k + 1) i (fun j a b => h j (by omega) (by omega)), fpl_cg fu (k + 1) (i - 1) (fun j a b => h j (by omega) (by omega))]
/-- the free place of equation i: in range, and free -/
theorem fpl_w {w : Nat} {t : Nat → Bool} (hw : 0 < w) {i : Nat} (hi : i < w - cntT t w) : fpl t (w - 1) 1 i < w ∧ t (fpl t (w - 1) 1 i) = false := by
  have h1 := cntF_T t (w - 1) 1
  rw [show 1 + (w - 1) = w by omega] at h1
  have h2 : cntT t 1 = 0 + (if t 0 = true then 1 else 0) := rfl
  have h3 := cntT_le t w
  rcases Nat.lt_or_ge i (cntF t (w - 1) 1) with q | q
  · obtain ⟨a, b, c⟩ := fpl_in t (w - 1) 1 i q
    exact ⟨by omega, c⟩
  · rw [fpl_out t (w - 1) 1 i q]
    refine ⟨hw, ?_⟩
    cases q2 : t 0
    · rfl
    · rw [q2, if_pos rfl] at h2
      omega
theorem eqv_one {w : Nat} {t t' : Nat → Bool} {kp kp' : Nat → Nat → FF} {S : (Nat → FF) → Prop} (hw : 0 < w) (hL : Lin w S) (h : RRf w t kp S) (h' : RRf w t' kp' S) {i : Nat} (hi : i < w - cntT t w) : eqv w t kp i = eqv w t' kp' i := by
  obtain ⟨e1, e2⟩ := h.one h' hL
  obtain ⟨f1, f2⟩ := fpl_w hw hi
  have e3 : fpl t (w - 1) 1 i = fpl t' (w - 1) 1 i := fpl_cg (w - 1) 1 i (fun j a b => e1 j (by omega))
  funext k
  unfold eqv
  by_cases hk : k < w
  · rw [if_pos hk, if_pos hk, ← e3]
    unfold van
    by_cases q : k = fpl t (w - 1) 1 i
    · rw [if_pos q, if_pos q]
    · rw [if_neg q, if_neg q, ← e1 k hk]
      by_cases q2 : t k = true
      · rw [if_pos q2, if_pos q2, e2 k hk q2 _ f1]
      · rw [if_neg q2, if_neg q2]
  · rw [if_neg hk, if_neg hk]
/-- THE equations of some rows -/
noncomputable def eqF (w : Nat) (rows : Nat → Nat → FF) (m : Nat) : Nat → Nat → FF := @dite _ (∃ q : (Nat → Bool) × (Nat → Nat → FF), RRf w q.1 q.2 (InSp w rows m)) (Classical.propDecidable _) (fun h => eqv w (Classical.choose h).1 (Classical.choose h).2) (fun _ _ _ => 0)
theorem eqF_of {w : Nat} {t : Nat → Bool} {kp rows : Nat → Nat → FF} {m i : Nat} (hw : 0 < w) (h : RRf w t kp (InSp w rows m)) (hi : i < w - cntT t w) : eqv w t kp i = eqF w rows m i := by
  have hex : ∃ q : (Nat → Bool) × (Nat → Nat → FF), RRf w q.1 q.2 (InSp w rows m) := ⟨(t, kp), h⟩
  have e : eqF w rows m = eqv w (Classical.choose hex).1 (Classical.choose hex).2 := dif_pos hex
  rw [e]
  exact eqv_one hw (InSp.lin w rows m) h (Classical.choose_spec hex) hi
theorem eqF_z (w : Nat) (rows : Nat → Nat → FF) (m i : Nat) : Zb w (eqF w rows m i) := by
  unfold eqF
  split
  · exact eqv_z w _ _ i
  · exact fun _ _ => rfl
/-- the notes' cells -/
def XN (G : cx_G) (ad : Nat → Nat) (g : Nat → va_E) (V : Nat) (nn : Nat → Nat) (ng : Nat → Nat → FF) : Prop :=
  (∀ i : Nat, i < 24 → g (400 + 2 * i) = .inr (2, [.int (nI (nn i)), .ref (ad (401 + 2 * i))])) ∧ ∀ i : Nat, i < 24 → g (401 + 2 * i) = nA G (V + 1) (vN (ng i))
theorem XN.kept {G : cx_G} {ad : Nat → Nat} {g g1 : Nat → va_E} {V : Nat} {nn : Nat → Nat} {ng : Nat → Nat → FF} (h : XN G ad g V nn ng) (hk : ∀ j : Nat, 400 ≤ j → j < 448 → g1 j = g j) : XN G ad g1 V nn ng :=
  ⟨fun i hi => (hk _ (by omega) (by omega)).trans (h.1 i hi), fun i hi => (hk _ (by omega) (by omega)).trans (h.2 i hi)⟩
theorem XN.set {G : cx_G} {ad : Nat → Nat} {g u : Nat → va_E} {V k nd : Nat} {nn : Nat → Nat} {ng : Nat → Nat → FF} {v : Nat → FF} (h : XN G ad g V nn ng) (hk : ∀ j : Nat, (j ≠ 400 + 2 * k ∧ j ≠ 401 + 2 * k) → u j = g j) (h1 : u (400 + 2 * k) = .inr (2, [.int (nI nd), .ref (ad (401 + 2 * k))])) (h2 : u (401 + 2 * k) = nA G (V + 1) (vN v)) : XN G ad u V (nu nn k nd) (nu ng k v) := by
  refine ⟨fun i hi => ?_, fun i hi => ?_⟩
  · by_cases e : i = k
    · subst e; rw [nu_s]; exact h1
    · rw [nu_n e]; exact (hk _ (by omega)).trans (h.1 i hi)
  · by_cases e : i = k
    · subst e; rw [nu_s]; exact h2
    · rw [nu_n e]; exact (hk _ (by omega)).trans (h.2 i hi)
/-- a node's equations become notes -/
def eqnN (node : Nat) (nc : Nat) (nn : Nat → Nat) : Nat → (Nat → Nat)
  | 0 => nn
  | i + 1 => nu (eqnN node nc nn i) (nc + i) node
def eqnG (q : Nat → Nat → FF) (nc : Nat) (ng : Nat → Nat → FF) : Nat → (Nat → Nat → FF)
  | 0 => ng
  | i + 1 => nu (eqnG q nc ng i) (nc + i) (q i)
theorem eqnG_z {w nc : Nat} {q ng : Nat → Nat → FF} (hq : ∀ i : Nat, Zb w (q i)) (hg : ∀ i : Nat, Zb w (ng i)) : ∀ k i : Nat, Zb w (eqnG q nc ng k i)
  | 0, i => hg i
  | k + 1, i => by
    show Zb w (nu (eqnG q nc ng k) (nc + k) (q k) i)
    by_cases e : i = nc + k
    · rw [e, nu_s]; exact hq k
    · rw [nu_n e]; exact eqnG_z hq hg k i
/-- the span of notes at a node, and an edge's form -/
def S00 (w : Nat) : (Nat → FF) → Prop := fun v => ∀ j : Nat, j < w → v j = 0
theorem S00.lin (w : Nat) : Lin w (S00 w) := ⟨fun u v e hu j hj => (e j hj).symm.trans (hu j hj), fun _ _ => rfl, fun u v a hu hv j hj => by show u j + a * v j = 0; rw [hu j hj, hv j hj]; grind⟩
theorem RRf.S00 {w : Nat} {t : Nat → Bool} {kp : Nat → Nat → FF} (h : ∀ k : Nat, k < w → t k = false) : RRf w t kp (S00 w) := ⟨fun k hk ht => (by rw [h k hk] at ht; cases ht), fun v hv _ => hv⟩
def nsF (w : Nat) (nn : Nat → Nat) (ng : Nat → Nat → FF) (node : Nat) : Nat → ((Nat → FF) → Prop)
  | 0 => S00 w
  | k + 1 => if nn k = node then Sad (nsF w nn ng node k) (ng k) else nsF w nn ng node k
theorem nsF.lin {w : Nat} {nn : Nat → Nat} {ng : Nat → Nat → FF} {node : Nat} : ∀ k : Nat, Lin w (nsF w nn ng node k)
  | 0 => S00.lin w
  | k + 1 => by
    show Lin w (if nn k = node then Sad (nsF w nn ng node k) (ng k) else nsF w nn ng node k)
    split
    · exact Lin.sad (nsF.lin k) _
    · exact nsF.lin k
def sbF (w nc : Nat) (nn : Nat → Nat) (ng : Nat → Nat → FF) (node kd : Nat) (f : Nat → FF) : (Nat → FF) → Prop := if kd = 3 then Sad (nsF w nn ng node nc) f else nsF w nn ng node nc
theorem sbF.lin {w nc : Nat} {nn : Nat → Nat} {ng : Nat → Nat → FF} {node kd : Nat} {f : Nat → FF} : Lin w (sbF w nc nn ng node kd f) := by
  unfold sbF
  split
  · exact Lin.sad (nsF.lin nc) _
  · exact nsF.lin nc
theorem Sad_in {n : Nat} {S : (Nat → FF) → Prop} (hL : Lin n S) {v u : Nat → FF} (h : S v) : Sad S v u ↔ S u := by
  constructor
  · rintro ⟨a, ha⟩
    exact hL.ad a ha h (fun j _ => by grind)
  · exact fun hu => Sad.old hL v hu
theorem AddR.rrf {n : Nat} {t t2 : Nat → Bool} {kp kp2 : Nat → Nat → FF} {S : (Nat → FF) → Prop} {v v2 : Nat → FF} {rb : Bool} (hL : Lin n S) (h : RRf n t kp S) (he : ∀ j : Nat, j < n → v2 j = v j) (hadd : AddR n t kp (sp_red n t kp n v2) rb t2 kp2) : RRf n t2 kp2 (Sad S v) := by
  rcases hadd with ⟨-, hz, rfl, rfl⟩ | ⟨k0, hl, -, rfl, rfl⟩
  · have hv : S v := hL.cg ((red_S hL h v2).mp hz) he
    exact h.ex (fun u => (Sad_in hL hv).symm)
  · exact (RRf.add hL h v2 hl finv_ok).ex (fun u => Sad_cg hL he)
/-- an edge keeps the notes -/
def keepP (w nc : Nat) (nn : Nat → Nat) (ng : Nat → Nat → FF) (fr to kd vr : Nat) (f : Nat → FF) (k : Nat) : Prop :=
  ∀ i : Nat, i < k → nn i = to → sbF w nc nn ng fr kd f (backF w kd vr f (ff 0) (ng i)) ∧ (kd = 2 → sbF w nc nn ng fr kd f (backF w kd vr f (ff 1) (ng i)))
def soundP (w nc en ec : Nat) (nn : Nat → Nat) (ng : Nat → Nat → FF) (ef et ek ev : Nat → Nat) (eg : Nat → Nat → FF) : Prop :=
  (∀ i : Nat, i < nc → nn i ≠ en) ∧ ∀ e : Nat, e < ec → keepP w nc nn ng (ef e) (et e) (ek e) (ev e) (eg e) nc
def tr (r : Int32) (p : Prop) : Prop := (r = nI 1 ∧ p) ∨ (r = nI 0 ∧ ¬ p)
theorem backF_z {n kd vr : Nat} {f w : Nat → FF} {x : FF} (h : Zb n w) (hn : 0 < n) (hv : kd = 1 ∨ kd = 2 → vr < n) : Zb n (backF n kd vr f x w) := by
  unfold backF
  by_cases h1 : kd = 1
  · rw [if_pos h1]
    intro j hj
    unfold am
    rw [if_neg (by omega)]
    exact h.nu (hv (Or.inl h1)) 0 j hj
  · rw [if_neg h1]
    by_cases h2 : kd = 2
    · rw [if_pos h2]; exact (h.nu (hv (Or.inr h2)) _).nu hn _
    · rw [if_neg h2]; exact h
theorem fill_step {f r v : Nat → FF} {k : Nat} (hr : ∀ j : Nat, r j = if j < k then f j else v j) : ∀ j : Nat, nu r k (f k) j = if j < k + 1 then f j else v j := by
  intro j
  by_cases h : j = k
  · subst h
    rw [nu_s, if_pos (Nat.lt_succ_self j)]
  · rw [nu_n h, hr j]
    by_cases h2 : j < k
    · rw [if_pos h2, if_pos (by omega)]
    · rw [if_neg h2, if_neg (by omega)]
theorem fill_eqv {w k i : Nat} {t : Nat → Bool} {kp rows : Nat → Nat → FF} {m : Nat} {r v : Nat → FF} (hr : ∀ j : Nat, r j = if j < k then van t kp (fpl t (w - 1) 1 i) j else v j) (hk : k = w) (hv : Zb w v) (hw : 0 < w) (hrr : RRf w t kp (InSp w rows m)) (hi : i < w - cntT t w) : r = eqF w rows m i := by
  rw [← eqF_of hw hrr hi]
  funext j
  rw [hr j, hk]
  unfold eqv
  by_cases h : j < w
  · rw [if_pos h, if_pos h]
  · rw [if_neg h, if_neg h]; exact hv j (by omega)
theorem ns_t {w : Nat} {nn : Nat → Nat} {ng : Nat → Nat → FF} {node k : Nat} (h : nn k = node) : nsF w nn ng node (k + 1) = Sad (nsF w nn ng node k) (ng k) := if_pos h
theorem ns_f {w : Nat} {nn : Nat → Nat} {ng : Nat → Nat → FF} {node k : Nat} (h : nn k ≠ node) : nsF w nn ng node (k + 1) = nsF w nn ng node k := if_neg h
theorem az_iff {n : Nat} {t : Nat → Bool} {kp : Nat → Nat → FF} {S : (Nat → FF) → Prop} {v rs : Nat → FF} (hL : Lin n S) (h : RRf n t kp S) : allZ n (sp_red n t kp n (cpv n v rs)) = true ↔ S v := by
  have h1 : allZ n (sp_red n t kp n (cpv n v rs)) = true ↔ ∀ j : Nat, j < n → sp_red n t kp n (cpv n v rs) j = 0 := by
    unfold allZ
    exact decide_eq_true_iff
  rw [h1, red_S hL h]
  exact ⟨fun q => hL.cg q cpv_in, fun q => hL.cg q (fun j hj => (cpv_in j hj).symm)⟩
theorem kp_no {w nc : Nat} {nn : Nat → Nat} {ng : Nat → Nat → FF} {fr to kd vr : Nat} {f : Nat → FF} {k : Nat} (h : keepP w nc nn ng fr to kd vr f k) (hn : nn k ≠ to) : keepP w nc nn ng fr to kd vr f (k + 1) := fun i hi ht => by
  by_cases e : i = k
  · rw [e] at ht; exact absurd ht hn
  · exact h i (by omega) ht
theorem kp_1 {w nc : Nat} {nn : Nat → Nat} {ng : Nat → Nat → FF} {fr to kd vr : Nat} {f : Nat → FF} {k : Nat} (h : keepP w nc nn ng fr to kd vr f k) (h0 : sbF w nc nn ng fr kd f (backF w kd vr f (ff 0) (ng k))) (h2 : kd = 2 → sbF w nc nn ng fr kd f (backF w kd vr f (ff 1) (ng k))) : keepP w nc nn ng fr to kd vr f (k + 1) := fun i hi ht => by
  by_cases e : i = k
  · rw [e]; exact ⟨h0, h2⟩
  · exact h i (by omega) ht
