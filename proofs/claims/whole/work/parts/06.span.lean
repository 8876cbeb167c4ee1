/-- a Span at the labels b .. b + 3 + n: which places are taken, the kept rows, the rest -/
def SpanAt (G : cx_G) (ad : Nat → Nat) (g : Nat → va_E) (b n : Nat) (t : Nat → Bool) (kp : Nat → Nat → FF) (rs : Nat → FF) : Prop :=
  g b = .inr (4, [.ref (ad (b + 1)), .ref (ad (b + 2)), .ref (ad (b + 3))]) ∧ g (b + 1) = rA (G.2 6) n (fun i => if i < n then some (ad (b + 4 + i)) else none) ∧ g (b + 2) = zA G n t ∧ g (b + 3) = nA G n (vN rs) ∧ ∀ i : Nat, i < n → g (b + 4 + i) = nA G n (vN (kp i))
theorem SpanAt.kept {G : cx_G} {ad : Nat → Nat} {g g1 : Nat → va_E} {b n : Nat} {t : Nat → Bool} {kp : Nat → Nat → FF} {rs : Nat → FF} (h : SpanAt G ad g b n t kp rs) (hk : ∀ j : Nat, b ≤ j → j < b + 4 + n → g1 j = g j) : SpanAt G ad g1 b n t kp rs := by
  obtain ⟨h1, h2, h3, h4, h5⟩ := h
  exact ⟨(hk _ (by omega) (by omega)).trans h1, (hk _ (by omega) (by omega)).trans h2, (hk _ (by omega) (by omega)).trans h3, (hk _ (by omega) (by omega)).trans h4, fun i hi => (hk _ (by omega) (by omega)).trans (h5 i hi)⟩
theorem fam_up {G : cx_G} {g g2 : Nat → va_E} {b n k0 : Nat} {kp : Nat → Nat → FF} {x : Nat → FF} (h : ∀ i : Nat, i < n → g (b + 4 + i) = nA G n (vN (kp i))) (hf : ∀ j : Nat, j ≠ b + 4 + k0 → g2 j = g j) (hx : g2 (b + 4 + k0) = nA G n (vN x)) : ∀ i : Nat, i < n → g2 (b + 4 + i) = nA G n (vN (nu kp k0 x i)) := by
  intro i hi
  by_cases e : i = k0
  · subst e
    rw [nu_s]
    exact hx
  · rw [nu_n e]
    exact (hf _ (by omega)).trans (h i hi)
/-- a row without what the kept rows 0 .. k - 1 take away -/
def sp_red (n : Nat) (t : Nat → Bool) (kp : Nat → Nat → FF) : Nat → (Nat → FF) → (Nat → FF)
  | 0, v => v
  | k + 1, v => if t k = true then am n (sp_red n t kp k v) (- (sp_red n t kp k v k)) (kp k) else sp_red n t kp k v
def isLead (n : Nat) (v : Nat → FF) (k : Nat) : Prop := k < n ∧ v k ≠ 0 ∧ (k ≠ 0 → v 0 = 0 ∧ ∀ j : Nat, k < j → j < n → v j = 0)
def sp_fresh (n : Nat) (kp : Nat → Nat → FF) (r : Nat → FF) (k0 : Nat) : Nat → FF := am n (fl0 n (kp k0)) (finv (r k0)) r
def sp_kp (n : Nat) (t : Nat → Bool) (kp : Nat → Nat → FF) (r : Nat → FF) (k0 : Nat) : Nat → Nat → FF := fun i => if i = k0 then sp_fresh n kp r k0 else if i < n ∧ t i = true then am n (kp i) (- (kp i k0)) (sp_fresh n kp r k0) else kp i
def AddR (n : Nat) (t : Nat → Bool) (kp : Nat → Nat → FF) (r : Nat → FF) (rb : Bool) (t2 : Nat → Bool) (kp2 : Nat → Nat → FF) : Prop :=
  (rb = false ∧ (∀ j : Nat, j < n → r j = 0) ∧ t2 = t ∧ kp2 = kp) ∨ (∃ k0 : Nat, isLead n r k0 ∧ rb = true ∧ t2 = nu t k0 true ∧ kp2 = sp_kp n t kp r k0)
def allZ (n : Nat) (v : Nat → FF) : Bool := decide (∀ j : Nat, j < n → v j = 0)
def fpl (t : Nat → Bool) : Nat → Nat → Nat → Nat
  | 0, _, _ => 0
  | fu + 1, k, left => if t k = true then fpl t fu (k + 1) left else if left = 0 then k else fpl t fu (k + 1) (left - 1)
def van (t : Nat → Bool) (kp : Nat → Nat → FF) (fr k : Nat) : FF := if k = fr then 1 else if t k = true then - (kp k fr) else 0

theorem cl_step {r v : Nat → Bool} {k : Nat} (hr : ∀ j : Nat, r j = if j < k then false else v j) : ∀ j : Nat, nu r k false j = if j < k + 1 then false else v j := by
  intro j
  by_cases h : j = k
  · subst h
    rw [nu_s, if_pos (Nat.lt_succ_self j)]
  · rw [nu_n h, hr j]
    by_cases h2 : j < k
    · rw [if_pos h2, if_pos (by omega)]
    · rw [if_neg h2, if_neg (by omega)]
theorem red_t {n k : Nat} {t : Nat → Bool} {kp : Nat → Nat → FF} {v r : Nat → FF} (h : r = sp_red n t kp k v) (ht : t k = true) : am n r (- (r k)) (kp k) = sp_red n t kp (k + 1) v := by
  rw [h]
  exact (if_pos ht).symm
theorem red_f {n k : Nat} {t : Nat → Bool} {kp : Nat → Nat → FF} {v r : Nat → FF} (h : r = sp_red n t kp k v) (ht : t k = false) : r = sp_red n t kp (k + 1) v := by
  rw [h]
  exact (if_neg (by rw [ht]; decide)).symm

set_option maxRecDepth 20000 in
theorem wd_X4_clear_0 : Cond.fieldLink RX4 16 "AffineHulls$Span" "taken" "[Z" ∈ wsX4_clear := by decide +kernel
set_option maxRecDepth 20000 in
theorem in_X4_clear_X4 : ∀ w ∈ u_ws RX4 TX4 3, w ∈ wsX4_clear := by decide +kernel
abbrev rm_X4_clear : Room := { frames := 0, cells := 0, slots := 0, locals := 0 }
set_option maxHeartbeats 4000000 in
set_option maxRecDepth 100000 in
theorem c_X4_clear {l : Launch} {G : cx_G} {L : List Nat} {ad : Nat → Nat} {g : Nat → va_E} (hD : cx_D L ad) {b n : Nat} {t : Nat → Bool} {kp : Nat → Nat → FF} {rs : Nat → FF} (hm : ∀ j : Nat, j < 4 + n → b + j ∈ L) (hn : n < 1000) (hn0 : 0 < n) (hsp : SpanAt G ad g b n t kp rs) : MV l yX4_clear wsX4_clear rm_X4_clear G L ad g [.ref (ad b)] (fun u => (∀ j : Nat, j ≠ b + 2 → u j = g j) ∧ ∃ t2 : Nat → Bool, (∀ j : Nat, j < n → t2 j = false) ∧ SpanAt G ad u b n t2 kp rs) := by
  refine cx_ofV (cc := cX4_clear) (maxL := 2) (by decide +kernel) rfl (Nat.le_of_ble_eq_true rfl) ?_
  intro p e s m args below meth c Q hx hb hts hown hml hP hK hS hz hret ls hl
  have hown : s.vm.findClass RX4 = some m.cls := hown
  have hl : lv_has ls 2 [(0, .ref (ad b))] := hl
  have fr : ∀ j : Nat, j ≠ b + 2 → g j = g j := fun _ _ => rfl
  obtain ⟨c_s, c_k, c_t, c_r, c_q⟩ := hsp
  refine lv_iconst (v := nI 0) hx hb dX4_clear_0 (by decide) ?_
  refine lv_istore_n (lv' := [(1, .int (nI 0)), (0, .ref (ad b))]) hx hb dX4_clear_1 rfl hl (by decide) rfl (fun ls hl => ?_)
  have LP2 : ∀ (fu : Nat) (k : Nat) (t1 : Nat → Bool), (k ≤ n) → (∀ j : Nat, t1 j = if j < k then false else t j) → (n - k) < fu → ∀ (ga1 : Nat → va_E) (H : Heap) (locs : List Loc) (ls : Array Slot), (ga1 b = .inr (4, [.ref (ad (b + 1)), .ref (ad (b + 2)), .ref (ad (b + 3))])) → (ga1 (b + 1) = rA (G.2 6) n (fun i => if i < n then some (ad (b + 4 + i)) else none)) → (ga1 (b + 2) = zA G n t1) → (ga1 (b + 3) = nA G n (vN rs)) → (∀ i : Nat, i < n → ga1 (b + 4 + i) = nA G n (vN (kp i))) → (∀ j : Nat, j ≠ b + 2 → ga1 j = g j) → va_P G.1 vwCl (wl L ad ga1) H → va_S (cx_A L ad s.heap.size) s.heap H locs → lv_has ls 2 [(1, .int (nI k)), (0, .ref (ad b))] → W p l e rm_X4_clear s m args below meth c H locs 0 0 Q (F0 m 2 ls []) := by
    intro fu
    induction fu with
    | zero => intro k t1 hkn ht hfu; exact absurd hfu (Nat.not_lt_zero _)
    | succ fu ih2 =>
      intro k t1 hkn ht hfu2 ga1 H locs ls c_s c_k c_t c_r c_q fr hP hS hl
      refine lv_iload_n hx hb dX4_clear_2 rfl (lv_at hl 0 rfl) ?_
      refine lv_aload_n hx hb dX4_clear_3 rfl (lv_at hl 1 rfl) ?_
      refine ax_get (k := b) (v := .ref (ad (b + 2))) hx hb hts in_X4_clear_X4 hown hK hP (hm 0 (by omega)) c_s rfl 1 (by decide) (hts _ wd_X4_clear_0) (fun _ h9 => h9) rfl dX4_clear_4 ?_
      refine ax_alen (k := b + 2) (n := n) hx hb hK hP (hm 2 (by omega)) 1 rfl c_t rfl dX4_clear_7 ?_
      refine ax_icge (a := k) (b := n) (tgt := 24) hx hb dX4_clear_8 (by decide) (by omega) (by omega) (fun h8 => ?_) (fun h8 => ?_)
      · skip
        exact hret ga1 _ _ _ _ ⟨fr, t1, fun j hj => by rw [ht j, if_pos (by omega)], c_s, c_k, c_t, c_r, c_q⟩ hP hS dX4_clear_24
      · skip
        refine lv_aload_n hx hb dX4_clear_11 rfl (lv_at hl 1 rfl) ?_
        refine ax_get (k := b) (v := .ref (ad (b + 2))) hx hb hts in_X4_clear_X4 hown hK hP (hm 0 (by omega)) c_s rfl 1 (by decide) (hts _ wd_X4_clear_0) (fun _ h9 => h9) rfl dX4_clear_12 ?_
        refine lv_iload_n hx hb dX4_clear_15 rfl (lv_at hl 0 rfl) ?_
        refine lv_iconst (v := nI 0) hx hb dX4_clear_16 (by decide) ?_
        refine ax_zast (k := b + 2) (i := k) (b := false) hx hb hK hP hD hS (hm 2 (by omega)) c_t (by omega) (by omega) (by decide) dX4_clear_17 (fun H locs g2 eg2 hP hS => ?_)
        have c_s : g2 b = .inr (4, [.ref (ad (b + 1)), .ref (ad (b + 2)), .ref (ad (b + 3))]) := (cx_ne eg2 b (by omega)).trans c_s
        have c_k : g2 (b + 1) = rA (G.2 6) n (fun i => if i < n then some (ad (b + 4 + i)) else none) := (cx_ne eg2 (b + 1) (by omega)).trans c_k
        have c_r : g2 (b + 3) = nA G n (vN rs) := (cx_ne eg2 (b + 3) (by omega)).trans c_r
        have c_q : ∀ i : Nat, i < n → g2 (b + 4 + i) = nA G n (vN (kp i)) := fun i hi => (cx_ne eg2 _ (by omega)).trans (c_q i hi)
        have c_t : g2 (b + 2) = zA G n (nu t1 k false) := cx_eq eg2
        have fr : ∀ j : Nat, j ≠ b + 2 → g2 j = g j := fun j hj => (cx_ne eg2 j (by omega)).trans (fr j hj)
        refine lv_iinc (v := nI (k + 1)) (lv' := [(1, .int (nI (k + 1))), (0, .ref (ad b))]) hx hb dX4_clear_18 hl (k := 0) rfl (nI_1 _) (by decide) rfl (fun ls hl => ?_)
        refine lv_goto (tgt := 2) hx hb dX4_clear_21 (by decide) ?_
        exact ih2 (k + 1) (nu t1 k false) h8 (cl_step ht) (by omega) g2 _ _ _ c_s c_k c_t c_r c_q  fr hP hS (lv_sub hl [0, 1] rfl)
  exact LP2 ((n - 0) + 1) 0 t (Nat.zero_le n) (fun j => (if_neg (Nat.not_lt_zero j)).symm) (Nat.lt_succ_self _) g _ _ _ c_s c_k c_t c_r c_q  fr hP hS (lv_sub hl [0, 1] rfl)

set_option maxRecDepth 20000 in
theorem wd_X4_reduce_0 : Cond.fieldLink RX4 20 "AffineHulls$Span" "rest" "[I" ∈ wsX4_reduce := by decide +kernel
set_option maxRecDepth 20000 in
theorem in_X4_reduce_X4 : ∀ w ∈ u_ws RX4 TX4 3, w ∈ wsX4_reduce := by decide +kernel
set_option maxRecDepth 20000 in
theorem wd_X4_reduce_2 : Cond.initialized RX5 ∈ wsX4_reduce := by decide +kernel
set_option maxRecDepth 20000 in
theorem wd_X4_reduce_3 : Cond.static yX5_copy ∈ wsX4_reduce := by decide +kernel
set_option maxRecDepth 20000 in
theorem wd_X4_reduce_4 : Cond.fieldLink RX4 16 "AffineHulls$Span" "taken" "[Z" ∈ wsX4_reduce := by decide +kernel
set_option maxRecDepth 20000 in
theorem wd_X4_reduce_5 : Cond.constant RX4 46 (65521) ∈ wsX4_reduce := by decide +kernel
set_option maxRecDepth 20000 in
theorem wd_X4_reduce_6 : Cond.fieldLink RX4 11 "AffineHulls$Span" "kept" "[[I" ∈ wsX4_reduce := by decide +kernel
set_option maxRecDepth 20000 in
theorem wd_X4_reduce_7 : Cond.static yX5_addMultiple ∈ wsX4_reduce := by decide +kernel
abbrev rm_X4_reduce : Room := { frames := 2, cells := 0, slots := 0, locals := 81 }
set_option maxHeartbeats 4000000 in
set_option maxRecDepth 100000 in
theorem c_X4_reduce {l : Launch} {G : cx_G} {L : List Nat} {ad : Nat → Nat} {g : Nat → va_E} (hD : cx_D L ad) {b n : Nat} {t : Nat → Bool} {kp : Nat → Nat → FF} {rs : Nat → FF}  {a : Nat} {v : Nat → FF} (ha : a ∈ L) (hab : a < b ∨ b + 4 + n ≤ a) (c_a : g a = nA G n (vN v)) (hm : ∀ j : Nat, j < 4 + n → b + j ∈ L) (hn : n < 1000) (hn0 : 0 < n) (hsp : SpanAt G ad g b n t kp rs) : MV l yX4_reduce wsX4_reduce rm_X4_reduce G L ad g [.ref (ad b), .ref (ad a)] (fun u => (∀ j : Nat, j ≠ b + 3 → u j = g j) ∧ SpanAt G ad u b n t kp (sp_red n t kp n (cpv n v rs))) := by
  refine cx_ofV (cc := cX4_reduce) (maxL := 3) (by decide +kernel) rfl (Nat.le_of_ble_eq_true rfl) ?_
  intro p e s m args below meth c Q hx hb hts hown hml hP hK hS hz hret ls hl
  have hown : s.vm.findClass RX4 = some m.cls := hown
  have hl : lv_has ls 3 [(0, .ref (ad b)), (1, .ref (ad a))] := hl
  have fr : ∀ j : Nat, j ≠ b + 3 → g j = g j := fun _ _ => rfl
  obtain ⟨c_s, c_k, c_t, c_r, c_q⟩ := hsp
  refine lv_aload_n hx hb dX4_reduce_0 rfl (lv_at hl 1 rfl) ?_
  refine lv_aload_n hx hb dX4_reduce_1 rfl (lv_at hl 0 rfl) ?_
  refine ax_get (k := b) (v := .ref (ad (b + 3))) hx hb hts in_X4_reduce_X4 hown hK hP (hm 0 (by omega)) c_s rfl 2 (by decide) (hts _ wd_X4_reduce_0) (fun _ h9 => h9) rfl dX4_reduce_2 ?_
  refine cx_SNv (As := [.ref (ad a), .ref (ad (b + 3))]) (rest := []) ⟨hx, hb, hml, hown, hts⟩ (c_X5_copy hD (a := a) (b := b + 3) (n := n) (v := v) (w := rs) (by omega) ha (hm 3 (by omega)) hn c_a c_r) ⟨va_cnB 2 hts gX4_reduce_X5_copy_n47 rfl rfl rfl (hK.2 (.methodLinkNest RX4 47 yX5_copy RX5) (by decide +kernel)) (hts _ wd_X4_reduce_2) (by decide +kernel) ⟨Nat.le_of_ble_eq_true rfl, Nat.le_of_ble_eq_true rfl⟩, hts _ wd_X4_reduce_3, trivial⟩ hK hP hS hz ⟨Nat.zero_le _, Nat.zero_le _⟩ rfl hl.1 rfl (Nat.le_of_ble_eq_true rfl) dX4_reduce_5 (fun g1 H locs hp1 hP hS => ?_)
  obtain ⟨hp1a, hp1b⟩ := hp1
  have c_s : g1 b = .inr (4, [.ref (ad (b + 1)), .ref (ad (b + 2)), .ref (ad (b + 3))]) := (hp1a b (by omega)).trans c_s
  have c_k : g1 (b + 1) = rA (G.2 6) n (fun i => if i < n then some (ad (b + 4 + i)) else none) := (hp1a (b + 1) (by omega)).trans c_k
  have c_t : g1 (b + 2) = zA G n t := (hp1a (b + 2) (by omega)).trans c_t
  have c_q : ∀ i : Nat, i < n → g1 (b + 4 + i) = nA G n (vN (kp i)) := fun i hi => (hp1a _ (by omega)).trans (c_q i hi)
  have c_a : g1 a = nA G n (vN v) := (hp1a a (by omega)).trans c_a
  have fr : ∀ j : Nat, j ≠ b + 3 → g1 j = g j := fun j hj => (hp1a j (by omega)).trans (fr j hj)
  have c_r := hp1b
  refine lv_iconst (v := nI 0) hx hb dX4_reduce_8 (by decide) ?_
  refine lv_istore_n (lv' := [(2, .int (nI 0)), (0, .ref (ad b)), (1, .ref (ad a))]) hx hb dX4_reduce_9 rfl hl (by decide) rfl (fun ls hl => ?_)
  have LP10 : ∀ (fu : Nat) (k : Nat) (r : Nat → FF), (k ≤ n) → (r = sp_red n t kp k (cpv n v rs)) → (n - k) < fu → ∀ (ga2 : Nat → va_E) (H : Heap) (locs : List Loc) (ls : Array Slot), (ga2 b = .inr (4, [.ref (ad (b + 1)), .ref (ad (b + 2)), .ref (ad (b + 3))])) → (ga2 (b + 1) = rA (G.2 6) n (fun i => if i < n then some (ad (b + 4 + i)) else none)) → (ga2 (b + 2) = zA G n t) → (ga2 (b + 3) = nA G n (vN r)) → (∀ i : Nat, i < n → ga2 (b + 4 + i) = nA G n (vN (kp i))) → (ga2 a = nA G n (vN v)) → (∀ j : Nat, j ≠ b + 3 → ga2 j = g j) → va_P G.1 vwCl (wl L ad ga2) H → va_S (cx_A L ad s.heap.size) s.heap H locs → lv_has ls 3 [(2, .int (nI k)), (0, .ref (ad b)), (1, .ref (ad a))] → W p l e rm_X4_reduce s m args below meth c H locs 0 0 Q (F0 m 10 ls []) := by
    intro fu
    induction fu with
    | zero => intro k r hkn hr hfu; exact absurd hfu (Nat.not_lt_zero _)
    | succ fu ih10 =>
      intro k r hkn hr hfu10 ga2 H locs ls c_s c_k c_t c_r c_q c_a fr hP hS hl
      refine lv_iload_n hx hb dX4_reduce_10 rfl (lv_at hl 0 rfl) ?_
      refine lv_aload_n hx hb dX4_reduce_11 rfl (lv_at hl 1 rfl) ?_
      refine ax_get (k := b) (v := .ref (ad (b + 2))) hx hb hts in_X4_reduce_X4 hown hK hP (hm 0 (by omega)) c_s rfl 1 (by decide) (hts _ wd_X4_reduce_4) (fun _ h9 => h9) rfl dX4_reduce_12 ?_
      refine ax_alen (k := b + 2) (n := n) hx hb hK hP (hm 2 (by omega)) 1 rfl c_t rfl dX4_reduce_15 ?_
      refine ax_icge (a := k) (b := n) (tgt := 56) hx hb dX4_reduce_16 (by decide) (by omega) (by omega) (fun h16 => ?_) (fun h16 => ?_)
      · skip
        exact hret ga2 _ _ _ _ ⟨fr, c_s, c_k, c_t, by rw [c_r, hr, show k = n by omega], c_q⟩ hP hS dX4_reduce_56
      · skip
        refine lv_aload_n hx hb dX4_reduce_19 rfl (lv_at hl 1 rfl) ?_
        refine ax_get (k := b) (v := .ref (ad (b + 2))) hx hb hts in_X4_reduce_X4 hown hK hP (hm 0 (by omega)) c_s rfl 1 (by decide) (hts _ wd_X4_reduce_4) (fun _ h9 => h9) rfl dX4_reduce_20 ?_
        refine lv_iload_n hx hb dX4_reduce_23 rfl (lv_at hl 0 rfl) ?_
        refine ax_zald (k := b + 2) (i := k) hx hb hK hP (hm 2 (by omega)) c_t (by omega) (by omega) dX4_reduce_24 ?_
        refine ax_zeq (b := (t k)) (tgt := 50) hx hb dX4_reduce_25 (by decide) (fun h25 => ?_) (fun h25 => ?_)
        · skip
          refine lv_iinc (v := nI (k + 1)) (lv' := [(2, .int (nI (k + 1))), (0, .ref (ad b)), (1, .ref (ad a))]) hx hb dX4_reduce_50 hl (k := 0) rfl (nI_1 _) (by decide) rfl (fun ls hl => ?_)
          refine lv_goto (tgt := 10) hx hb dX4_reduce_53 (by decide) ?_
          exact ih10 (k + 1) r h16 (red_f hr h25) (by omega) ga2 _ _ _ c_s c_k c_t c_r c_q c_a  fr hP hS (lv_sub hl [0, 1, 2] rfl)
        · skip
          have b1 := vN_lt r k
          refine lv_aload_n hx hb dX4_reduce_28 rfl (lv_at hl 1 rfl) ?_
          refine ax_get (k := b) (v := .ref (ad (b + 3))) hx hb hts in_X4_reduce_X4 hown hK hP (hm 0 (by omega)) c_s rfl 2 (by decide) (hts _ wd_X4_reduce_0) (fun _ h9 => h9) rfl dX4_reduce_29 ?_
          refine lv_ldc (v := 65521) hx hb hown (hts _ wd_X4_reduce_5) dX4_reduce_32 ?_
          rw [show (65521 : Int32) = nI 65521 from by decide]
          refine lv_aload_n hx hb dX4_reduce_34 rfl (lv_at hl 1 rfl) ?_
          refine ax_get (k := b) (v := .ref (ad (b + 3))) hx hb hts in_X4_reduce_X4 hown hK hP (hm 0 (by omega)) c_s rfl 2 (by decide) (hts _ wd_X4_reduce_0) (fun _ h9 => h9) rfl dX4_reduce_35 ?_
          refine lv_iload_n hx hb dX4_reduce_38 rfl (lv_at hl 0 rfl) ?_
          refine ax_iald (k := b + 3) (i := k) (v := nI ((vN r) k)) hx hb hK hP (hm 3 (by omega)) c_r (by omega) (by omega) rfl dX4_reduce_39 ?_
          refine ax_sub (a := 65521) (b := (vN r) k) hx hb dX4_reduce_40 (by omega) ?_
          refine lv_aload_n hx hb dX4_reduce_41 rfl (lv_at hl 1 rfl) ?_
          refine ax_get (k := b) (v := .ref (ad (b + 1))) hx hb hts in_X4_reduce_X4 hown hK hP (hm 0 (by omega)) c_s rfl 0 (by decide) (hts _ wd_X4_reduce_6) (fun _ h9 => h9) rfl dX4_reduce_42 ?_
          refine lv_iload_n hx hb dX4_reduce_45 rfl (lv_at hl 0 rfl) ?_
          refine ax_aald (k := b + 1) (i := k) (b := ad (b + 4 + k)) hx hb hK hP (hm 1 (by omega)) 6 rfl rfl c_k (by omega) (by omega) (if_pos (by omega)) dX4_reduce_46 ?_
          refine cx_SNv (As := [.ref (ad (b + 3)), .int (nI (65521 - ((vN r) k))), .ref (ad (b + 4 + k))]) (rest := []) ⟨hx, hb, hml, hown, hts⟩ (c_X5_addMultiple hD (a := b + 3) (b := b + 4 + k) (n := n) (f := 65521 - vN r k) (v := r) (w := kp k) (cf := - (r k)) (by omega) (hm 3 (by omega)) (by have := hm (4 + k) (by omega); rwa [← Nat.add_assoc] at this) hn (Nat.sub_le _ _) (ff_sub (r k) rfl) c_r (c_q k (by omega))) ⟨va_cnB 3 hts gX4_reduce_X5_addMultiple_n42 rfl rfl rfl (hK.2 (.methodLinkNest RX4 42 yX5_addMultiple RX5) (by decide +kernel)) (hts _ wd_X4_reduce_2) (by decide +kernel) ⟨Nat.le_of_ble_eq_true rfl, Nat.le_of_ble_eq_true rfl⟩, hts _ wd_X4_reduce_7, trivial⟩ hK hP hS hz ⟨Nat.zero_le _, Nat.zero_le _⟩ rfl hl.1 rfl (Nat.le_of_ble_eq_true rfl) dX4_reduce_47 (fun g3 H locs hp3 hP hS => ?_)
          obtain ⟨hp3a, hp3b⟩ := hp3
          have c_s : g3 b = .inr (4, [.ref (ad (b + 1)), .ref (ad (b + 2)), .ref (ad (b + 3))]) := (hp3a b (by omega)).trans c_s
          have c_k : g3 (b + 1) = rA (G.2 6) n (fun i => if i < n then some (ad (b + 4 + i)) else none) := (hp3a (b + 1) (by omega)).trans c_k
          have c_t : g3 (b + 2) = zA G n t := (hp3a (b + 2) (by omega)).trans c_t
          have c_q : ∀ i : Nat, i < n → g3 (b + 4 + i) = nA G n (vN (kp i)) := fun i hi => (hp3a _ (by omega)).trans (c_q i hi)
          have c_a : g3 a = nA G n (vN v) := (hp3a a (by omega)).trans c_a
          have fr : ∀ j : Nat, j ≠ b + 3 → g3 j = g j := fun j hj => (hp3a j (by omega)).trans (fr j hj)
          have c_r := hp3b
          refine lv_iinc (v := nI (k + 1)) (lv' := [(2, .int (nI (k + 1))), (0, .ref (ad b)), (1, .ref (ad a))]) hx hb dX4_reduce_50 hl (k := 0) rfl (nI_1 _) (by decide) rfl (fun ls hl => ?_)
          refine lv_goto (tgt := 10) hx hb dX4_reduce_53 (by decide) ?_
          exact ih10 (k + 1) (am n r (- (r k)) (kp k)) h16 (red_t hr h25) (by omega) g3 _ _ _ c_s c_k c_t c_r c_q c_a  fr hP hS (lv_sub hl [0, 1, 2] rfl)
  exact LP10 ((n - 0) + 1) 0 (cpv n v rs) (Nat.zero_le n) rfl (Nat.lt_succ_self _) g1 _ _ _ c_s c_k c_t c_r c_q c_a  fr hP hS (lv_sub hl [0, 1, 2] rfl)

theorem fn0 {a : FF} (h : a.val ≠ 0) : a ≠ 0 := fun z => h (by rw [z]; rfl)

set_option maxRecDepth 20000 in
theorem wd_X4_leadingPlace_0 : Cond.fieldLink RX4 20 "AffineHulls$Span" "rest" "[I" ∈ wsX4_leadingPlace := by decide +kernel
set_option maxRecDepth 20000 in
theorem in_X4_leadingPlace_X4 : ∀ w ∈ u_ws RX4 TX4 3, w ∈ wsX4_leadingPlace := by decide +kernel
abbrev rm_X4_leadingPlace : Room := { frames := 0, cells := 0, slots := 0, locals := 0 }
set_option maxHeartbeats 4000000 in
set_option maxRecDepth 100000 in
theorem c_X4_leadingPlace {l : Launch} {G : cx_G} {L : List Nat} {ad : Nat → Nat} {g : Nat → va_E} (hD : cx_D L ad) {b n : Nat} {t : Nat → Bool} {kp : Nat → Nat → FF} {rs : Nat → FF} (hm : ∀ j : Nat, j < 4 + n → b + j ∈ L) (hn : n < 1000) (hn0 : 0 < n) (hsp : SpanAt G ad g b n t kp rs) : MI l yX4_leadingPlace wsX4_leadingPlace rm_X4_leadingPlace G L ad g [.ref (ad b)] (fun r u => ((∃ k0 : Nat, isLead n rs k0 ∧ r = nI k0) ∨ ((∀ j : Nat, j < n → rs j = 0) ∧ r = -1)) ∧ u = g) := by
  refine cx_ofI (cc := cX4_leadingPlace) (maxL := 2) (by decide +kernel) rfl (Nat.le_of_ble_eq_true rfl) ?_
  intro p e s m args below meth c Q hx hb hts hown hml hP hK hS hz hret ls hl
  have hown : s.vm.findClass RX4 = some m.cls := hown
  have hl : lv_has ls 2 [(0, .ref (ad b))] := hl
  obtain ⟨c_s, c_k, c_t, c_r, c_q⟩ := hsp
  refine lv_aload_n hx hb dX4_leadingPlace_0 rfl (lv_at hl 0 rfl) ?_
  refine ax_get (k := b) (v := .ref (ad (b + 3))) hx hb hts in_X4_leadingPlace_X4 hown hK hP (hm 0 (by omega)) c_s rfl 2 (by decide) (hts _ wd_X4_leadingPlace_0) (fun _ h9 => h9) rfl dX4_leadingPlace_1 ?_
  refine lv_iconst (v := nI 0) hx hb dX4_leadingPlace_4 (by decide) ?_
  refine ax_iald (k := b + 3) (i := 0) (v := nI ((vN rs) 0)) hx hb hK hP (hm 3 (by omega)) c_r (by omega) (by omega) rfl dX4_leadingPlace_5 ?_
  have b0 := vN_lt rs 0
  refine ax_ifeq (a := (vN rs) 0) (tgt := 11) hx hb dX4_leadingPlace_6 (by decide) (by omega) (fun h6 => ?_) (fun h6 => ?_)
  · skip
    refine lv_aload_n hx hb dX4_leadingPlace_11 rfl (lv_at hl 0 rfl) ?_
    refine ax_get (k := b) (v := .ref (ad (b + 3))) hx hb hts in_X4_leadingPlace_X4 hown hK hP (hm 0 (by omega)) c_s rfl 2 (by decide) (hts _ wd_X4_leadingPlace_0) (fun _ h9 => h9) rfl dX4_leadingPlace_12 ?_
    refine ax_alen (k := b + 3) (n := n) hx hb hK hP (hm 3 (by omega)) 0 rfl c_r rfl dX4_leadingPlace_15 ?_
    refine lv_iconst (v := nI 1) hx hb dX4_leadingPlace_16 (by decide) ?_
    refine ax_sub (a := n) (b := 1) hx hb dX4_leadingPlace_17 (by omega) ?_
    refine lv_istore_n (lv' := [(1, .int (nI (n - 1))), (0, .ref (ad b))]) hx hb dX4_leadingPlace_18 rfl hl (by decide) rfl (fun ls hl => ?_)
    have LP19 : ∀ (fu : Nat) (k : Nat), (k < n) → (∀ j : Nat, k < j → j < n → rs j = 0) → k < fu → ∀ (ls : Array Slot), lv_has ls 2 [(1, .int (nI k)), (0, .ref (ad b))] → W p l e rm_X4_leadingPlace s m args below meth c s.heap [] 0 0 Q (F0 m 19 ls []) := by
      intro fu
      induction fu with
      | zero => intro k hkn hz hfu; exact absurd hfu (Nat.not_lt_zero _)
      | succ fu ih19 =>
        intro k hkn hz hfu19 ls hl
        refine lv_iload_n hx hb dX4_leadingPlace_19 rfl (lv_at hl 0 rfl) ?_
        refine ax_ifle (a := k) (tgt := 40) hx hb dX4_leadingPlace_20 (by decide) (by omega) (fun h20 => ?_) (fun h20 => ?_)
        · skip
          refine lv_iconst (v := (-1)) hx hb dX4_leadingPlace_40 (by decide) ?_
          exact hret (-1) g _ _ _ _ rfl ⟨Or.inr ⟨fun j hj => by rcases Nat.eq_zero_or_pos j with q | q; rw [q]; exact Fin.ext h6; exact hz j (by omega) hj, rfl⟩, rfl⟩ hP hS dX4_leadingPlace_41
        · skip
          refine lv_aload_n hx hb dX4_leadingPlace_23 rfl (lv_at hl 1 rfl) ?_
          refine ax_get (k := b) (v := .ref (ad (b + 3))) hx hb hts in_X4_leadingPlace_X4 hown hK hP (hm 0 (by omega)) c_s rfl 2 (by decide) (hts _ wd_X4_leadingPlace_0) (fun _ h9 => h9) rfl dX4_leadingPlace_24 ?_
          refine lv_iload_n hx hb dX4_leadingPlace_27 rfl (lv_at hl 0 rfl) ?_
          refine ax_iald (k := b + 3) (i := k) (v := nI ((vN rs) k)) hx hb hK hP (hm 3 (by omega)) c_r (by omega) (by omega) rfl dX4_leadingPlace_28 ?_
          have b1 := vN_lt rs k
          refine ax_ifeq (a := (vN rs) k) (tgt := 34) hx hb dX4_leadingPlace_29 (by decide) (by omega) (fun h29 => ?_) (fun h29 => ?_)
          · skip
            refine lv_iinc (v := nI (k - 1)) (lv' := [(1, .int (nI (k - 1))), (0, .ref (ad b))]) hx hb dX4_leadingPlace_34 hl (k := 0) rfl (sb_m1 (by omega)) (by decide) rfl (fun ls hl => ?_)
            refine lv_goto (tgt := 19) hx hb dX4_leadingPlace_37 (by decide) ?_
            exact ih19 (k - 1) (by omega) (fun j h1 h2 => by rcases Nat.lt_or_ge k j with q | q; exact hz j q h2; rw [show j = k by omega]; exact Fin.ext h29) (by omega) _ (lv_sub hl [0, 1] rfl)
          · skip
            refine lv_iload_n hx hb dX4_leadingPlace_32 rfl (lv_at hl 0 rfl) ?_
            exact hret (nI k) g _ _ _ _ rfl ⟨Or.inl ⟨k, ⟨hkn, fn0 h29, fun _ => ⟨Fin.ext h6, hz⟩⟩, rfl⟩, rfl⟩ hP hS dX4_leadingPlace_33
    exact LP19 ((n - 1) + 1) (n - 1) (by omega) (fun j h1 h2 => absurd h1 (by omega)) (Nat.lt_succ_self _) _ (lv_sub hl [0, 1] rfl)
  · skip
    refine lv_iconst (v := nI 0) hx hb dX4_leadingPlace_9 (by decide) ?_
    exact hret (nI 0) g _ _ _ _ rfl ⟨Or.inl ⟨0, ⟨hn0, fn0 h6, fun z => absurd rfl z⟩, rfl⟩, rfl⟩ hP hS dX4_leadingPlace_10

theorem ld_neg {n : Nat} {v : Nat → FF} {r : Int32} (hn : n < 1000) (h : (∃ k0 : Nat, isLead n v k0 ∧ r = nI k0) ∨ ((∀ j : Nat, j < n → v j = 0) ∧ r = -1)) (h0 : ¬ 0 ≤ r) : ∀ j : Nat, j < n → v j = 0 := by
  rcases h with ⟨k0, hl, e⟩ | ⟨hz, e⟩
  · exact absurd (by rw [e]; exact nI_pos' (by have := hl.1; omega)) h0
  · exact hz
theorem ld_pos {n : Nat} {v : Nat → FF} {r : Int32} (h : (∃ k0 : Nat, isLead n v k0 ∧ r = nI k0) ∨ ((∀ j : Nat, j < n → v j = 0) ∧ r = -1)) (h0 : 0 ≤ r) : ∃ k0 : Nat, isLead n v k0 ∧ r = nI k0 := by
  rcases h with h | ⟨hz, e⟩
  · exact h
  · exact absurd h0 (by rw [e]; decide)
theorem az_t {n : Nat} {v : Nat → FF} (h : ∀ j : Nat, j < n → v j = 0) : nI 1 = if allZ n v = true then 1 else 0 := by
  have h2 : allZ n v = true := decide_eq_true h
  rw [h2]
  decide
theorem az_f {n : Nat} {v : Nat → FF} (h : ∃ k0 : Nat, isLead n v k0) : nI 0 = if allZ n v = true then 1 else 0 := by
  obtain ⟨k0, hl⟩ := h
  have h2 : allZ n v = false := decide_eq_false (fun z => hl.2.1 (z k0 hl.1))
  rw [h2]
  decide

abbrev rm_X4_contains : Room := { frames := 3, cells := 0, slots := 0, locals := 103 }
set_option maxHeartbeats 4000000 in
set_option maxRecDepth 100000 in
theorem c_X4_contains {l : Launch} {G : cx_G} {L : List Nat} {ad : Nat → Nat} {g : Nat → va_E} (hD : cx_D L ad) {b n : Nat} {t : Nat → Bool} {kp : Nat → Nat → FF} {rs : Nat → FF}  {a : Nat} {v : Nat → FF} (ha : a ∈ L) (hab : a < b ∨ b + 4 + n ≤ a) (c_a : g a = nA G n (vN v)) (hm : ∀ j : Nat, j < 4 + n → b + j ∈ L) (hn : n < 1000) (hn0 : 0 < n) (hsp : SpanAt G ad g b n t kp rs) : MI l yX4_contains wsX4_contains rm_X4_contains G L ad g [.ref (ad b), .ref (ad a)] (fun r u => r = (if allZ n (sp_red n t kp n (cpv n v rs)) = true then 1 else 0) ∧ (∀ j : Nat, j ≠ b + 3 → u j = g j) ∧ SpanAt G ad u b n t kp (sp_red n t kp n (cpv n v rs))) := by
  refine cx_ofI (cc := cX4_contains) (maxL := 2) (by decide +kernel) rfl (Nat.le_of_ble_eq_true rfl) ?_
  intro p e s m args below meth c Q hx hb hts hown hml hP hK hS hz hret ls hl
  have hown : s.vm.findClass RX4 = some m.cls := hown
  have hl : lv_has ls 2 [(0, .ref (ad b)), (1, .ref (ad a))] := hl
  have fr : ∀ j : Nat, j ≠ b + 3 → g j = g j := fun _ _ => rfl
  obtain ⟨c_s, c_k, c_t, c_r, c_q⟩ := hsp
  refine lv_aload_n hx hb dX4_contains_0 rfl (lv_at hl 0 rfl) ?_
  refine lv_aload_n hx hb dX4_contains_1 rfl (lv_at hl 1 rfl) ?_
  refine cx_Vv (As := [.ref (ad a)]) (rest := []) ⟨hx, hb, hml, hown, hts⟩ (c_X4_reduce hD (b := b) (n := n) (a := a) (v := v) (rs := rs) ha hab c_a hm hn hn0 ⟨c_s, c_k, c_t, c_r, c_q⟩) (cwV 1 hts gX4_contains_X4_reduce rfl rfl rfl (by decide +kernel) ⟨Nat.le_of_ble_eq_true rfl, Nat.le_of_ble_eq_true rfl⟩) hK hP hS hz (hm 0 (by omega)) c_s rfl ⟨Nat.zero_le _, Nat.zero_le _⟩ rfl hl.1 rfl (Nat.le_of_ble_eq_true rfl) dX4_contains_2 (fun g1 H locs hp1 hP hS => ?_)
  obtain ⟨hp1a, hsp2⟩ := hp1
  have hsp3 := hsp2
  obtain ⟨c_s, c_k, c_t, c_r, c_q⟩ := hsp2
  have c_a : g1 a = nA G n (vN v) := (hp1a a (by omega)).trans c_a
  have fr : ∀ j : Nat, j ≠ b + 3 → g1 j = g j := fun j hj => (hp1a j (by omega)).trans (fr j hj)
  refine lv_aload_n hx hb dX4_contains_5 rfl (lv_at hl 0 rfl) ?_
  refine cx_Vi (As := []) (rest := []) ⟨hx, hb, hml, hown, hts⟩ (c_X4_leadingPlace hD (b := b) (n := n) (t := t) (kp := kp) (rs := sp_red n t kp n (cpv n v rs)) hm hn hn0 hsp3) (cwV 0 hts gX4_contains_X4_leadingPlace rfl rfl rfl (by decide +kernel) ⟨Nat.le_of_ble_eq_true rfl, Nat.le_of_ble_eq_true rfl⟩) hK hP hS hz (hm 0 (by omega)) c_s rfl ⟨Nat.zero_le _, Nat.zero_le _⟩ rfl hl.1 rfl (Nat.le_of_ble_eq_true rfl) dX4_contains_6 (fun r2 g2 H locs hp2 hP hS => ?_)
  obtain ⟨hld, ehp2g⟩ := hp2
  rw [ehp2g] at hP
  refine lv_if_ge (x := r2) (tgt := 16) hx hb dX4_contains_9 (by decide) (fun h9 => ?_) (fun h9 => ?_)
  · skip
    refine lv_iconst (v := nI 0) hx hb dX4_contains_16 (by decide) ?_
    exact hret (nI 0) g1 _ _ _ _ (by decide) ⟨az_f (by obtain ⟨k0, q, _⟩ := ld_pos hld h9; exact ⟨k0, q⟩), fr, hsp3⟩ hP hS dX4_contains_17
  · skip
    refine lv_iconst (v := nI 1) hx hb dX4_contains_12 (by decide) ?_
    refine lv_goto (tgt := 17) hx hb dX4_contains_13 (by decide) ?_
    exact hret (nI 1) g1 _ _ _ _ (by decide) ⟨az_t (ld_neg hn hld h9), fr, hsp3⟩ hP hS dX4_contains_17
