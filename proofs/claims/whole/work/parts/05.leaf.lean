theorem am_step {n : Nat} {r v w : Nat → FF} {c : FF} {k : Nat} (hr : ∀ j : Nat, r j = if j < k then v j + c * w j else v j) : ∀ j : Nat, nu r k (r k + c * w k) j = if j < k + 1 then v j + c * w j else v j := by
  intro j
  have hk := hr k
  rw [if_neg (Nat.lt_irrefl k)] at hk
  by_cases h : j = k
  · subst h
    rw [nu_s, if_pos (Nat.lt_succ_self j), hk]
  · rw [nu_n h, hr j]
    by_cases h2 : j < k
    · rw [if_pos h2, if_pos (by omega)]
    · rw [if_neg h2, if_neg (by omega)]

set_option maxRecDepth 20000 in
theorem wd_X5_addMultiple_0 : Cond.constantLong RX5 275 (65521) ∈ wsX5_addMultiple := by decide +kernel
abbrev rm_X5_addMultiple : Room := { frames := 0, cells := 0, slots := 0, locals := 0 }
set_option maxHeartbeats 4000000 in
set_option maxRecDepth 100000 in
theorem c_X5_addMultiple {l : Launch} {G : cx_G} {L : List Nat} {ad : Nat → Nat} {g : Nat → va_E} (hD : cx_D L ad) {a b n f : Nat} {v w : Nat → FF} {cf : FF} (hab : a ≠ b) (ha : a ∈ L) (hb2 : b ∈ L) (hn : n < 1000) (hf : f ≤ 65521) (hfc : ff f = cf) (c_a : g a = nA G n (vN v)) (c_b : g b = nA G n (vN w)) : MV l yX5_addMultiple wsX5_addMultiple rm_X5_addMultiple G L ad g [.ref (ad a), .int (nI f), .ref (ad b)] (fun u => (∀ j : Nat, j ≠ a → u j = g j) ∧ u a = nA G n (vN (am n v cf w))) := by
  refine cx_ofV (cc := cX5_addMultiple) (maxL := 4) (by decide +kernel) rfl (Nat.le_of_ble_eq_true rfl) ?_
  intro p e s m args below meth c Q hx hb hts hown hml hP hK hS hz hret ls hl
  have hown : s.vm.findClass RX5 = some m.cls := hown
  have hl : lv_has ls 4 [(0, .ref (ad a)), (1, .int (nI f)), (2, .ref (ad b))] := hl
  have fr : ∀ j : Nat, j ≠ a → g j = g j := fun _ _ => rfl
  refine lv_iconst (v := nI 0) hx hb dX5_addMultiple_0 (by decide) ?_
  refine lv_istore_n (lv' := [(3, .int (nI 0)), (0, .ref (ad a)), (1, .int (nI f)), (2, .ref (ad b))]) hx hb dX5_addMultiple_1 rfl hl (by decide) rfl (fun ls hl => ?_)
  have LP2 : ∀ (fu : Nat) (k : Nat) (r : Nat → FF), (k ≤ n) → (∀ j : Nat, r j = if j < k then v j + ff f * w j else v j) → (n - k) < fu → ∀ (ga1 : Nat → va_E) (H : Heap) (locs : List Loc) (ls : Array Slot), (ga1 a = nA G n (vN r)) → (ga1 b = nA G n (vN w)) → (∀ j : Nat, j ≠ a → ga1 j = g j) → va_P G.1 vwCl (wl L ad ga1) H → va_S (cx_A L ad s.heap.size) s.heap H locs → lv_has ls 4 [(3, .int (nI k)), (0, .ref (ad a)), (1, .int (nI f)), (2, .ref (ad b))] → W p l e rm_X5_addMultiple s m args below meth c H locs 0 0 Q (F0 m 2 ls []) := by
    intro fu
    induction fu with
    | zero => intro k r hkn hr hfu; exact absurd hfu (Nat.not_lt_zero _)
    | succ fu ih2 =>
      intro k r hkn hr hfu2 ga1 H locs ls c_a c_b fr hP hS hl
      refine lv_iload_n hx hb dX5_addMultiple_2 rfl (lv_at hl 0 rfl) ?_
      refine lv_aload_n hx hb dX5_addMultiple_3 rfl (lv_at hl 1 rfl) ?_
      refine ax_alen (k := a) (n := n) hx hb hK hP ha 0 rfl c_a rfl dX5_addMultiple_4 ?_
      refine ax_icge (a := k) (b := n) (tgt := 34) hx hb dX5_addMultiple_5 (by decide) (by omega) (by omega) (fun h5 => ?_) (fun h5 => ?_)
      · skip
        exact hret ga1 _ _ _ _ ⟨fr, by rw [c_a, show r = am n v cf w from funext fun j => by rw [hr j, show k = n by omega, hfc]; rfl]⟩ hP hS dX5_addMultiple_34
      · skip
        have b1 := vN_lt r k
        have b2 := vN_lt w k
        have b3 : f * vN w k ≤ 65521 * 65521 := mul_le3 hf (Nat.le_of_lt b2)
        refine lv_aload_n hx hb dX5_addMultiple_8 rfl (lv_at hl 1 rfl) ?_
        refine lv_iload_n hx hb dX5_addMultiple_9 rfl (lv_at hl 0 rfl) ?_
        refine lv_aload_n hx hb dX5_addMultiple_10 rfl (lv_at hl 1 rfl) ?_
        refine lv_iload_n hx hb dX5_addMultiple_11 rfl (lv_at hl 0 rfl) ?_
        refine ax_iald (k := a) (i := k) (v := nI ((vN r) k)) hx hb hK hP ha c_a (by omega) (by omega) rfl dX5_addMultiple_12 ?_
        refine ax_i2l (a := (vN r) k) hx hb dX5_addMultiple_13 (by omega) ?_
        refine lv_iload_n hx hb dX5_addMultiple_14 rfl (lv_at hl 2 rfl) ?_
        refine ax_i2l (a := f) hx hb dX5_addMultiple_15 (by omega) ?_
        refine lv_aload_n hx hb dX5_addMultiple_16 rfl (lv_at hl 3 rfl) ?_
        refine lv_iload_n hx hb dX5_addMultiple_17 rfl (lv_at hl 0 rfl) ?_
        refine ax_iald (k := b) (i := k) (v := nI ((vN w) k)) hx hb hK hP hb2 c_b (by omega) (by omega) rfl dX5_addMultiple_18 ?_
        refine ax_i2l (a := (vN w) k) hx hb dX5_addMultiple_19 (by omega) ?_
        refine ax_lmul (a := f) (b := (vN w) k) hx hb dX5_addMultiple_20 ?_
        refine ax_ladd (a := (vN r) k) (b := f * ((vN w) k)) hx hb dX5_addMultiple_21 ?_
        refine lv_ldc2 (v := 65521) hx hb hown (hts _ wd_X5_addMultiple_0) dX5_addMultiple_22 ?_
        refine ax_lremM (a := (vN r) k + (f * ((vN w) k))) hx hb dX5_addMultiple_25 (by omega) ?_
        refine ax_l2i (a := ((vN r) k + (f * ((vN w) k))) % 65521) hx hb dX5_addMultiple_26 ?_
        rw [show (vN r k + f * vN w k) % 65521 = (r k + ff f * w k).val from ff_lin _ _ _]
        refine ax_iast (k := a) (i := k) (f' := (fun j => nI ((nu (vN r) k ((r k + ff f * w k).val)) j))) hx hb hK hP hD hS ha c_a (by omega) (by omega) (up_n _ _ _) dX5_addMultiple_27 (fun H locs g2 eg2 hP hS => ?_)
        have c_b : g2 b = nA G n (vN w) := (cx_ne eg2 b (by omega)).trans c_b
        have c_a : g2 a = nA G n (nu (vN r) k ((r k + ff f * w k).val)) := cx_eq eg2
        have fr : ∀ j : Nat, j ≠ a → g2 j = g j := fun j hj => (cx_ne eg2 j (by omega)).trans (fr j hj)
        have c_a : g2 a = nA G n (vN (nu r k (r k + ff f * w k))) := by rw [← vN_nu]; exact c_a
        refine lv_iinc (v := nI (k + 1)) (lv' := [(3, .int (nI (k + 1))), (0, .ref (ad a)), (1, .int (nI f)), (2, .ref (ad b))]) hx hb dX5_addMultiple_28 hl (k := 0) rfl (nI_1 _) (by decide) rfl (fun ls hl => ?_)
        refine lv_goto (tgt := 2) hx hb dX5_addMultiple_31 (by decide) ?_
        exact ih2 (k + 1) (nu r k (r k + ff f * w k)) h5 (am_step (n := n) hr) (by omega) g2 _ _ _ c_a c_b  fr hP hS (lv_sub hl [0, 1, 2, 3] rfl)
  exact LP2 ((n - 0) + 1) 0 v (Nat.zero_le n) (fun j => (if_neg (Nat.not_lt_zero j)).symm) (Nat.lt_succ_self _) g _ _ _ c_a c_b  fr hP hS (lv_sub hl [0, 1, 2, 3] rfl)

set_option maxRecDepth 20000 in
theorem wd_X5_valueOf_0 : Cond.constantLong RX5 275 (65521) ∈ wsX5_valueOf := by decide +kernel
abbrev rm_X5_valueOf : Room := { frames := 0, cells := 0, slots := 0, locals := 0 }
set_option maxHeartbeats 4000000 in
set_option maxRecDepth 100000 in
theorem c_X5_valueOf {l : Launch} {G : cx_G} {L : List Nat} {ad : Nat → Nat} {g : Nat → va_E} (hD : cx_D L ad) {a b n : Nat} {v w : Nat → FF} (ha : a ∈ L) (hb2 : b ∈ L) (hn : n < 1000) (c_a : g a = nA G n (vN v)) (c_b : g b = nA G n (vN w)) : MI l yX5_valueOf wsX5_valueOf rm_X5_valueOf G L ad g [.ref (ad a), .ref (ad b)] (fun r u => r = nI (dot v w n).val ∧ u = g) := by
  refine cx_ofI (cc := cX5_valueOf) (maxL := 5) (by decide +kernel) rfl (Nat.le_of_ble_eq_true rfl) ?_
  intro p e s m args below meth c Q hx hb hts hown hml hP hK hS hz hret ls hl
  have hown : s.vm.findClass RX5 = some m.cls := hown
  have hl : lv_has ls 5 [(0, .ref (ad a)), (1, .ref (ad b))] := hl
  refine lv_lconst (v := lN 0) hx hb dX5_valueOf_0 rfl ?_
  refine lv_lstore_n (lv' := [(2, .long (lN 0)), (0, .ref (ad a)), (1, .ref (ad b))]) hx hb dX5_valueOf_1 rfl hl (by decide) rfl (fun ls hl => ?_)
  refine lv_iconst (v := nI 0) hx hb dX5_valueOf_2 (by decide) ?_
  refine lv_istore (lv' := [(4, .int (nI 0)), (2, .long (lN 0)), (0, .ref (ad a)), (1, .ref (ad b))]) hx hb dX5_valueOf_3 hl (by decide) rfl (fun ls hl => ?_)
  have LP5 : ∀ (fu : Nat) (k : Nat), (k ≤ n) → (n - k) < fu → ∀ (ls : Array Slot), lv_has ls 5 [(2, .long (lN (dotN v w k))), (4, .int (nI k)), (0, .ref (ad a)), (1, .ref (ad b))] → W p l e rm_X5_valueOf s m args below meth c s.heap [] 0 0 Q (F0 m 5 ls []) := by
    intro fu
    induction fu with
    | zero => intro k hkn hfu; exact absurd hfu (Nat.not_lt_zero _)
    | succ fu ih5 =>
      intro k hkn hfu5 ls hl
      refine lv_iload hx hb dX5_valueOf_5 (lv_at hl 1 rfl) ?_
      refine lv_aload_n hx hb dX5_valueOf_7 rfl (lv_at hl 2 rfl) ?_
      refine ax_alen (k := a) (n := n) hx hb hK hP ha 0 rfl c_a rfl dX5_valueOf_8 ?_
      refine ax_icge (a := k) (b := n) (tgt := 32) hx hb dX5_valueOf_9 (by decide) (by omega) (by omega) (fun h9 => ?_) (fun h9 => ?_)
      · skip
        refine lv_lload_n hx hb dX5_valueOf_32 rfl (lv_at hl 0 rfl) ?_
        refine lv_ldc2 (v := 65521) hx hb hown (hts _ wd_X5_valueOf_0) dX5_valueOf_33 ?_
        have b3 := dotN_le v w k
        refine ax_lremM (a := dotN v w k) hx hb dX5_valueOf_36 (by omega) ?_
        rw [show dotN v w k % 65521 = (dot v w n).val by rw [dotN_mod, show k = n by omega]]
        refine ax_l2i (a := (dot v w n).val) hx hb dX5_valueOf_37 ?_
        exact hret (nI ((dot v w n).val)) g _ _ _ _ rfl ⟨rfl, rfl⟩ hP hS dX5_valueOf_38
      · skip
        have b1 := vN_lt v k
        have b2 := vN_lt w k
        refine lv_lload_n hx hb dX5_valueOf_12 rfl (lv_at hl 0 rfl) ?_
        refine lv_aload_n hx hb dX5_valueOf_13 rfl (lv_at hl 2 rfl) ?_
        refine lv_iload hx hb dX5_valueOf_14 (lv_at hl 1 rfl) ?_
        refine ax_iald (k := a) (i := k) (v := nI ((vN v) k)) hx hb hK hP ha c_a (by omega) (by omega) rfl dX5_valueOf_16 ?_
        refine ax_i2l (a := (vN v) k) hx hb dX5_valueOf_17 (by omega) ?_
        refine lv_aload_n hx hb dX5_valueOf_18 rfl (lv_at hl 3 rfl) ?_
        refine lv_iload hx hb dX5_valueOf_19 (lv_at hl 1 rfl) ?_
        refine ax_iald (k := b) (i := k) (v := nI ((vN w) k)) hx hb hK hP hb2 c_b (by omega) (by omega) rfl dX5_valueOf_21 ?_
        refine ax_i2l (a := (vN w) k) hx hb dX5_valueOf_22 (by omega) ?_
        refine ax_lmul (a := (vN v) k) (b := (vN w) k) hx hb dX5_valueOf_23 ?_
        refine ax_ladd (a := dotN v w k) (b := ((vN v) k) * ((vN w) k)) hx hb dX5_valueOf_24 ?_
        refine lv_lstore_n (lv' := [(2, .long (lN (dotN v w k + (((vN v) k) * ((vN w) k))))), (4, .int (nI k)), (0, .ref (ad a)), (1, .ref (ad b))]) hx hb dX5_valueOf_25 rfl hl (by decide) rfl (fun ls hl => ?_)
        refine lv_iinc (v := nI (k + 1)) (lv' := [(4, .int (nI (k + 1))), (2, .long (lN (dotN v w k + (((vN v) k) * ((vN w) k))))), (0, .ref (ad a)), (1, .ref (ad b))]) hx hb dX5_valueOf_26 hl (k := 1) rfl (nI_1 _) (by decide) rfl (fun ls hl => ?_)
        refine lv_goto (tgt := 5) hx hb dX5_valueOf_29 (by decide) ?_
        exact ih5 (k + 1) h9 (by omega) _ (lv_sub hl [1, 0, 2, 3] rfl)
  exact LP5 ((n - 0) + 1) 0 (Nat.zero_le n) (Nat.lt_succ_self _) _ (lv_sub hl [1, 0, 2, 3] rfl)

set_option maxRecDepth 20000 in
theorem wd_X5_copy_0 : Cond.methodLink RX5 277 arraycopyName ∈ wsX5_copy := by decide +kernel
set_option maxRecDepth 20000 in
theorem wd_X5_copy_1 : Cond.native arraycopyName ∈ wsX5_copy := by decide +kernel
set_option maxRecDepth 20000 in
theorem wd_X5_copy_2 : Cond.static arraycopyName ∈ wsX5_copy := by decide +kernel
set_option maxRecDepth 20000 in
theorem wd_X5_copy_3 : Cond.initialized "java/lang/System" ∈ wsX5_copy := by decide +kernel
abbrev rm_X5_copy : Room := { frames := 1, cells := 0, slots := 0, locals := 60 }
set_option maxHeartbeats 4000000 in
set_option maxRecDepth 100000 in
theorem c_X5_copy {l : Launch} {G : cx_G} {L : List Nat} {ad : Nat → Nat} {g : Nat → va_E} (hD : cx_D L ad) {a b n : Nat} {v w : Nat → FF} (hab : a ≠ b) (ha : a ∈ L) (hb2 : b ∈ L) (hn : n < 1000) (c_a : g a = nA G n (vN v)) (c_b : g b = nA G n (vN w)) : MV l yX5_copy wsX5_copy rm_X5_copy G L ad g [.ref (ad a), .ref (ad b)] (fun u => (∀ j : Nat, j ≠ b → u j = g j) ∧ u b = nA G n (vN (cpv n v w))) := by
  refine cx_ofV (cc := cX5_copy) (maxL := 2) (by decide +kernel) rfl (Nat.le_of_ble_eq_true rfl) ?_
  intro p e s m args below meth c Q hx hb hts hown hml hP hK hS hz hret ls hl
  have hown : s.vm.findClass RX5 = some m.cls := hown
  have hl : lv_has ls 2 [(0, .ref (ad a)), (1, .ref (ad b))] := hl
  have fr : ∀ j : Nat, j ≠ b → g j = g j := fun _ _ => rfl
  refine lv_aload_n hx hb dX5_copy_0 rfl (lv_at hl 0 rfl) ?_
  refine lv_iconst (v := nI 0) hx hb dX5_copy_1 (by decide) ?_
  refine lv_aload_n hx hb dX5_copy_2 rfl (lv_at hl 1 rfl) ?_
  refine lv_iconst (v := nI 0) hx hb dX5_copy_3 (by decide) ?_
  refine lv_aload_n hx hb dX5_copy_4 rfl (lv_at hl 1 rfl) ?_
  refine ax_alen (k := b) (n := n) hx hb hK hP hb2 0 rfl c_b rfl dX5_copy_5 ?_
  refine ax_copy (k0 := a) (k1 := b) (n := n) (f := (fun j => nI ((vN v) j))) (f1 := (fun j => nI ((vN w) j))) hx hb (hml.trans hl.1.symm) hown (hts _ wd_X5_copy_0) (hts _ wd_X5_copy_1) (hts _ wd_X5_copy_2) (hts _ wd_X5_copy_3) hK hP hD hS ha hb2 c_a c_b (by omega) (by decide) (by decide) dX5_copy_6 (fun H locs g1 eg1 hP hS => ?_)
  have eg1 : g1 = va_up g b (nA G n (fun j => if j < n then (vN v) j else (vN w) j)) := eg1.trans (congrArg (fun f => va_up g b (iA G n f)) (funext fun j => by dsimp only; split <;> rfl))
  have c_a : g1 a = nA G n (vN v) := (cx_ne eg1 a (by omega)).trans c_a
  have c_b : g1 b = nA G n (fun j => if j < n then (vN v) j else (vN w) j) := cx_eq eg1
  have fr : ∀ j : Nat, j ≠ b → g1 j = g j := fun j hj => (cx_ne eg1 j (by omega)).trans (fr j hj)
  exact hret g1 _ _ _ _ ⟨fr, c_b.trans (congrArg (nA G n) (funext fun j => by simp only [vN, cpv]; split <;> rfl))⟩ hP hS dX5_copy_9

theorem fl_step {r v : Nat → FF} {k : Nat} (hr : ∀ j : Nat, r j = if j < k then 0 else v j) : ∀ j : Nat, nu r k 0 j = if j < k + 1 then 0 else v j := by
  intro j
  by_cases h : j = k
  · subst h
    rw [nu_s, if_pos (Nat.lt_succ_self j)]
  · rw [nu_n h, hr j]
    by_cases h2 : j < k
    · rw [if_pos h2, if_pos (by omega)]
    · rw [if_neg h2, if_neg (by omega)]

abbrev rm_J7_fill_53178 : Room := { frames := 0, cells := 0, slots := 0, locals := 0 }
set_option maxHeartbeats 4000000 in
set_option maxRecDepth 100000 in
theorem c_J7_fill_53178 {l : Launch} {G : cx_G} {L : List Nat} {ad : Nat → Nat} {g : Nat → va_E} (hD : cx_D L ad) {a n : Nat} {v : Nat → FF} (ha : a ∈ L) (hn : n < 1000) (c_a : g a = nA G n (vN v)) : MV l yJ7_fill_53178 wsJ7_fill_53178 rm_J7_fill_53178 G L ad g [.ref (ad a), .int (nI 0)] (fun u => (∀ j : Nat, j ≠ a → u j = g j) ∧ u a = nA G n (vN (fl0 n v))) := by
  refine cx_ofV (cc := cJ7_fill_53178) (maxL := 4) (by decide +kernel) rfl (Nat.le_of_ble_eq_true rfl) ?_
  intro p e s m args below meth c Q hx hb hts hown hml hP hK hS hz hret ls hl
  have hown : s.vm.findClass RJ7 = some m.cls := hown
  have hl : lv_has ls 4 [(0, .ref (ad a)), (1, .int (nI 0))] := hl
  have fr : ∀ j : Nat, j ≠ a → g j = g j := fun _ _ => rfl
  refine lv_iconst (v := nI 0) hx hb dJ7_fill_53178_0 (by decide) ?_
  refine lv_istore_n (lv' := [(2, .int (nI 0)), (0, .ref (ad a)), (1, .int (nI 0))]) hx hb dJ7_fill_53178_1 rfl hl (by decide) rfl (fun ls hl => ?_)
  refine lv_aload_n hx hb dJ7_fill_53178_2 rfl (lv_at hl 1 rfl) ?_
  refine ax_alen (k := a) (n := n) hx hb hK hP ha 0 rfl c_a rfl dJ7_fill_53178_3 ?_
  refine lv_istore_n (lv' := [(3, .int (nI n)), (2, .int (nI 0)), (0, .ref (ad a)), (1, .int (nI 0))]) hx hb dJ7_fill_53178_4 rfl hl (by decide) rfl (fun ls hl => ?_)
  have LP5 : ∀ (fu : Nat) (k : Nat) (r : Nat → FF), (k ≤ n) → (∀ j : Nat, r j = if j < k then 0 else v j) → (n - k) < fu → ∀ (ga1 : Nat → va_E) (H : Heap) (locs : List Loc) (ls : Array Slot), (ga1 a = nA G n (vN r)) → (∀ j : Nat, j ≠ a → ga1 j = g j) → va_P G.1 vwCl (wl L ad ga1) H → va_S (cx_A L ad s.heap.size) s.heap H locs → lv_has ls 4 [(3, .int (nI n)), (2, .int (nI k)), (0, .ref (ad a)), (1, .int (nI 0))] → W p l e rm_J7_fill_53178 s m args below meth c H locs 0 0 Q (F0 m 5 ls []) := by
    intro fu
    induction fu with
    | zero => intro k r hkn hr hfu; exact absurd hfu (Nat.not_lt_zero _)
    | succ fu ih5 =>
      intro k r hkn hr hfu5 ga1 H locs ls c_a fr hP hS hl
      refine lv_iload_n hx hb dJ7_fill_53178_5 rfl (lv_at hl 1 rfl) ?_
      refine lv_iload_n hx hb dJ7_fill_53178_6 rfl (lv_at hl 0 rfl) ?_
      refine ax_icge (a := k) (b := n) (tgt := 20) hx hb dJ7_fill_53178_7 (by decide) (by omega) (by omega) (fun h7 => ?_) (fun h7 => ?_)
      · skip
        exact hret ga1 _ _ _ _ ⟨fr, by rw [c_a, show r = fl0 n v from funext fun j => by rw [hr j, show k = n by omega]; rfl]⟩ hP hS dJ7_fill_53178_20
      · skip
        refine lv_aload_n hx hb dJ7_fill_53178_10 rfl (lv_at hl 2 rfl) ?_
        refine lv_iload_n hx hb dJ7_fill_53178_11 rfl (lv_at hl 1 rfl) ?_
        refine lv_iload_n hx hb dJ7_fill_53178_12 rfl (lv_at hl 3 rfl) ?_
        refine ax_iast (k := a) (i := k) (f' := (fun j => nI ((nu (vN r) k 0) j))) hx hb hK hP hD hS ha c_a (by omega) (by omega) (up_n _ _ _) dJ7_fill_53178_13 (fun H locs g2 eg2 hP hS => ?_)
        have c_a : g2 a = nA G n (nu (vN r) k 0) := cx_eq eg2
        have fr : ∀ j : Nat, j ≠ a → g2 j = g j := fun j hj => (cx_ne eg2 j (by omega)).trans (fr j hj)
        have c_a : g2 a = nA G n (vN (nu r k 0)) := by rw [← vN_nu]; exact c_a
        refine lv_iinc (v := nI (k + 1)) (lv' := [(2, .int (nI (k + 1))), (3, .int (nI n)), (0, .ref (ad a)), (1, .int (nI 0))]) hx hb dJ7_fill_53178_14 hl (k := 1) rfl (nI_1 _) (by decide) rfl (fun ls hl => ?_)
        refine lv_goto (tgt := 5) hx hb dJ7_fill_53178_17 (by decide) ?_
        exact ih5 (k + 1) (nu r k 0) h7 (fl_step hr) (by omega) g2 _ _ _ c_a  fr hP hS (lv_sub hl [1, 0, 2, 3] rfl)
  exact LP5 ((n - 0) + 1) 0 v (Nat.zero_le n) (fun j => (if_neg (Nat.not_lt_zero j)).symm) (Nat.lt_succ_self _) g _ _ _ c_a  fr hP hS (lv_sub hl [0, 1, 2, 3] rfl)

set_option maxRecDepth 20000 in
theorem wd_X0_set_0 : Cond.fieldLink RX0 15 "AffineHulls$Edge" "from" "I" ∈ wsX0_set := by decide +kernel
set_option maxRecDepth 20000 in
theorem in_X0_set_X0 : ∀ w ∈ u_ws RX0 TX0 5, w ∈ wsX0_set := by decide +kernel
set_option maxRecDepth 20000 in
theorem wd_X0_set_2 : Cond.fieldLink RX0 19 "AffineHulls$Edge" "to" "I" ∈ wsX0_set := by decide +kernel
set_option maxRecDepth 20000 in
theorem wd_X0_set_3 : Cond.fieldLink RX0 22 "AffineHulls$Edge" "kind" "I" ∈ wsX0_set := by decide +kernel
set_option maxRecDepth 20000 in
theorem wd_X0_set_4 : Cond.fieldLink RX0 25 "AffineHulls$Edge" "variable" "I" ∈ wsX0_set := by decide +kernel
set_option maxRecDepth 20000 in
theorem wd_X0_set_5 : Cond.fieldLink RX0 9 "AffineHulls$Edge" "form" "[I" ∈ wsX0_set := by decide +kernel
set_option maxRecDepth 20000 in
theorem wd_X0_set_6 : Cond.initialized RX5 ∈ wsX0_set := by decide +kernel
set_option maxRecDepth 20000 in
theorem wd_X0_set_7 : Cond.static yX5_copy ∈ wsX0_set := by decide +kernel
abbrev rm_X0_set : Room := { frames := 2, cells := 0, slots := 0, locals := 81 }
set_option maxHeartbeats 4000000 in
set_option maxRecDepth 100000 in
theorem c_X0_set {l : Launch} {G : cx_G} {L : List Nat} {ad : Nat → Nat} {g : Nat → va_E} (hD : cx_D L ad) {k kf b n : Nat} {v w : Nat → FF} {p0 p1 p2 p3 q0 q1 q2 q3 : Int32} (h1 : k ≠ kf) (h2 : k ≠ b) (h3 : b ≠ kf) (hk : k ∈ L) (hkf : kf ∈ L) (hbm : b ∈ L) (hn : n < 1000) (c_o : g k = .inr (0, [.int q0, .int q1, .int q2, .int q3, .ref (ad kf)])) (c_f : g kf = nA G n (vN w)) (c_b : g b = nA G n (vN v)) : MV l yX0_set wsX0_set rm_X0_set G L ad g [.ref (ad k), .int p0, .int p1, .int p2, .int p3, .ref (ad b)] (fun u => (∀ j : Nat, (j ≠ k ∧ j ≠ kf) → u j = g j) ∧ u k = .inr (0, [.int p0, .int p1, .int p2, .int p3, .ref (ad kf)]) ∧ u kf = nA G n (vN (cpv n v w))) := by
  refine cx_ofV (cc := cX0_set) (maxL := 6) (by decide +kernel) rfl (Nat.le_of_ble_eq_true rfl) ?_
  intro p e s m args below meth c Q hx hb hts hown hml hP hK hS hz hret ls hl
  have hown : s.vm.findClass RX0 = some m.cls := hown
  have hl : lv_has ls 6 [(0, .ref (ad k)), (1, .int p0), (2, .int p1), (3, .int p2), (4, .int p3), (5, .ref (ad b))] := hl
  have fr : ∀ j : Nat, (j ≠ k ∧ j ≠ kf) → g j = g j := fun _ _ => rfl
  refine lv_aload_n hx hb dX0_set_0 rfl (lv_at hl 0 rfl) ?_
  refine lv_iload_n hx hb dX0_set_1 rfl (lv_at hl 1 rfl) ?_
  refine ax_put (k := k) (v := .int p0) (fs' := [.int p0, .int q1, .int q2, .int q3, .ref (ad kf)]) hx hb hts in_X0_set_X0 tyX0 tyX0_ok nmX0 hown hK hP hD hS hk c_o rfl 0 (by decide) (hts _ wd_X0_set_0) (fun _ h9 => h9) rfl (ty := .int) (by decide +kernel) rfl rfl (Nat.le_of_ble_eq_true rfl) rfl dX0_set_2 (fun H locs g1 eg1 hP hS => ?_)
  have c_f : g1 kf = nA G n (vN w) := (cx_ne eg1 kf (by omega)).trans c_f
  have c_b : g1 b = nA G n (vN v) := (cx_ne eg1 b (by omega)).trans c_b
  have c_o : g1 k = .inr (0, [.int p0, .int q1, .int q2, .int q3, .ref (ad kf)]) := cx_eq eg1
  have fr : ∀ j : Nat, (j ≠ k ∧ j ≠ kf) → g1 j = g j := fun j hj => (cx_ne eg1 j (by omega)).trans (fr j hj)
  refine lv_aload_n hx hb dX0_set_5 rfl (lv_at hl 0 rfl) ?_
  refine lv_iload_n hx hb dX0_set_6 rfl (lv_at hl 2 rfl) ?_
  refine ax_put (k := k) (v := .int p1) (fs' := [.int p0, .int p1, .int q2, .int q3, .ref (ad kf)]) hx hb hts in_X0_set_X0 tyX0 tyX0_ok nmX0 hown hK hP hD hS hk c_o rfl 1 (by decide) (hts _ wd_X0_set_2) (fun _ h9 => h9) rfl (ty := .int) (by decide +kernel) rfl rfl (Nat.le_of_ble_eq_true rfl) rfl dX0_set_7 (fun H locs g2 eg2 hP hS => ?_)
  have c_f : g2 kf = nA G n (vN w) := (cx_ne eg2 kf (by omega)).trans c_f
  have c_b : g2 b = nA G n (vN v) := (cx_ne eg2 b (by omega)).trans c_b
  have c_o : g2 k = .inr (0, [.int p0, .int p1, .int q2, .int q3, .ref (ad kf)]) := cx_eq eg2
  have fr : ∀ j : Nat, (j ≠ k ∧ j ≠ kf) → g2 j = g j := fun j hj => (cx_ne eg2 j (by omega)).trans (fr j hj)
  refine lv_aload_n hx hb dX0_set_10 rfl (lv_at hl 0 rfl) ?_
  refine lv_iload_n hx hb dX0_set_11 rfl (lv_at hl 3 rfl) ?_
  refine ax_put (k := k) (v := .int p2) (fs' := [.int p0, .int p1, .int p2, .int q3, .ref (ad kf)]) hx hb hts in_X0_set_X0 tyX0 tyX0_ok nmX0 hown hK hP hD hS hk c_o rfl 2 (by decide) (hts _ wd_X0_set_3) (fun _ h9 => h9) rfl (ty := .int) (by decide +kernel) rfl rfl (Nat.le_of_ble_eq_true rfl) rfl dX0_set_12 (fun H locs g3 eg3 hP hS => ?_)
  have c_f : g3 kf = nA G n (vN w) := (cx_ne eg3 kf (by omega)).trans c_f
  have c_b : g3 b = nA G n (vN v) := (cx_ne eg3 b (by omega)).trans c_b
  have c_o : g3 k = .inr (0, [.int p0, .int p1, .int p2, .int q3, .ref (ad kf)]) := cx_eq eg3
  have fr : ∀ j : Nat, (j ≠ k ∧ j ≠ kf) → g3 j = g j := fun j hj => (cx_ne eg3 j (by omega)).trans (fr j hj)
  refine lv_aload_n hx hb dX0_set_15 rfl (lv_at hl 0 rfl) ?_
  refine lv_iload hx hb dX0_set_16 (lv_at hl 4 rfl) ?_
  refine ax_put (k := k) (v := .int p3) (fs' := [.int p0, .int p1, .int p2, .int p3, .ref (ad kf)]) hx hb hts in_X0_set_X0 tyX0 tyX0_ok nmX0 hown hK hP hD hS hk c_o rfl 3 (by decide) (hts _ wd_X0_set_4) (fun _ h9 => h9) rfl (ty := .int) (by decide +kernel) rfl rfl (Nat.le_of_ble_eq_true rfl) rfl dX0_set_18 (fun H locs g4 eg4 hP hS => ?_)
  have c_f : g4 kf = nA G n (vN w) := (cx_ne eg4 kf (by omega)).trans c_f
  have c_b : g4 b = nA G n (vN v) := (cx_ne eg4 b (by omega)).trans c_b
  have c_o : g4 k = .inr (0, [.int p0, .int p1, .int p2, .int p3, .ref (ad kf)]) := cx_eq eg4
  have fr : ∀ j : Nat, (j ≠ k ∧ j ≠ kf) → g4 j = g j := fun j hj => (cx_ne eg4 j (by omega)).trans (fr j hj)
  refine lv_aload hx hb dX0_set_21 (lv_at hl 5 rfl) ?_
  refine lv_aload_n hx hb dX0_set_23 rfl (lv_at hl 0 rfl) ?_
  refine ax_get (k := k) (v := .ref (ad kf)) hx hb hts in_X0_set_X0 hown hK hP hk c_o rfl 4 (by decide) (hts _ wd_X0_set_5) (fun _ h9 => h9) rfl dX0_set_24 ?_
  refine cx_SNv (As := [.ref (ad b), .ref (ad kf)]) (rest := []) ⟨hx, hb, hml, hown, hts⟩ (c_X5_copy hD (a := b) (b := kf) (n := n) (v := v) (w := w) (by omega) hbm hkf hn c_b c_f) ⟨va_cnB 2 hts gX0_set_X5_copy_n28 rfl rfl rfl (hK.2 (.methodLinkNest RX0 28 yX5_copy RX5) (by decide +kernel)) (hts _ wd_X0_set_6) (by decide +kernel) ⟨Nat.le_of_ble_eq_true rfl, Nat.le_of_ble_eq_true rfl⟩, hts _ wd_X0_set_7, trivial⟩ hK hP hS hz ⟨Nat.zero_le _, Nat.zero_le _⟩ rfl hl.1 rfl (Nat.le_of_ble_eq_true rfl) dX0_set_27 (fun g5 H locs hp5 hP hS => ?_)
  obtain ⟨hp5a, hp5b⟩ := hp5
  have c_o : g5 k = .inr (0, [.int p0, .int p1, .int p2, .int p3, .ref (ad kf)]) := (hp5a k (by omega)).trans c_o
  have c_b : g5 b = nA G n (vN v) := (hp5a b (by omega)).trans c_b
  have fr : ∀ j : Nat, (j ≠ k ∧ j ≠ kf) → g5 j = g j := fun j hj => (hp5a j (by omega)).trans (fr j hj)
  have c_f := hp5b
  exact hret g5 _ _ _ _ ⟨fr, c_o, c_f⟩ hP hS dX0_set_30

set_option maxRecDepth 20000 in
theorem wd_X2_set_0 : Cond.fieldLink RX2 13 "AffineHulls$Note" "node" "I" ∈ wsX2_set := by decide +kernel
set_option maxRecDepth 20000 in
theorem in_X2_set_X2 : ∀ w ∈ u_ws RX2 TX2 2, w ∈ wsX2_set := by decide +kernel
set_option maxRecDepth 20000 in
theorem wd_X2_set_2 : Cond.fieldLink RX2 7 "AffineHulls$Note" "form" "[I" ∈ wsX2_set := by decide +kernel
set_option maxRecDepth 20000 in
theorem wd_X2_set_3 : Cond.initialized RX5 ∈ wsX2_set := by decide +kernel
set_option maxRecDepth 20000 in
theorem wd_X2_set_4 : Cond.static yX5_copy ∈ wsX2_set := by decide +kernel
abbrev rm_X2_set : Room := { frames := 2, cells := 0, slots := 0, locals := 81 }
set_option maxHeartbeats 4000000 in
set_option maxRecDepth 100000 in
theorem c_X2_set {l : Launch} {G : cx_G} {L : List Nat} {ad : Nat → Nat} {g : Nat → va_E} (hD : cx_D L ad) {k kf b n : Nat} {v w : Nat → FF} {p0 q0 : Int32} (h1 : k ≠ kf) (h2 : k ≠ b) (h3 : b ≠ kf) (hk : k ∈ L) (hkf : kf ∈ L) (hbm : b ∈ L) (hn : n < 1000) (c_o : g k = .inr (2, [.int q0, .ref (ad kf)])) (c_f : g kf = nA G n (vN w)) (c_b : g b = nA G n (vN v)) : MV l yX2_set wsX2_set rm_X2_set G L ad g [.ref (ad k), .int p0, .ref (ad b)] (fun u => (∀ j : Nat, (j ≠ k ∧ j ≠ kf) → u j = g j) ∧ u k = .inr (2, [.int p0, .ref (ad kf)]) ∧ u kf = nA G n (vN (cpv n v w))) := by
  refine cx_ofV (cc := cX2_set) (maxL := 3) (by decide +kernel) rfl (Nat.le_of_ble_eq_true rfl) ?_
  intro p e s m args below meth c Q hx hb hts hown hml hP hK hS hz hret ls hl
  have hown : s.vm.findClass RX2 = some m.cls := hown
  have hl : lv_has ls 3 [(0, .ref (ad k)), (1, .int p0), (2, .ref (ad b))] := hl
  have fr : ∀ j : Nat, (j ≠ k ∧ j ≠ kf) → g j = g j := fun _ _ => rfl
  refine lv_aload_n hx hb dX2_set_0 rfl (lv_at hl 0 rfl) ?_
  refine lv_iload_n hx hb dX2_set_1 rfl (lv_at hl 1 rfl) ?_
  refine ax_put (k := k) (v := .int p0) (fs' := [.int p0, .ref (ad kf)]) hx hb hts in_X2_set_X2 tyX2 tyX2_ok nmX2 hown hK hP hD hS hk c_o rfl 0 (by decide) (hts _ wd_X2_set_0) (fun _ h9 => h9) rfl (ty := .int) (by decide +kernel) rfl rfl (Nat.le_of_ble_eq_true rfl) rfl dX2_set_2 (fun H locs g1 eg1 hP hS => ?_)
  have c_f : g1 kf = nA G n (vN w) := (cx_ne eg1 kf (by omega)).trans c_f
  have c_b : g1 b = nA G n (vN v) := (cx_ne eg1 b (by omega)).trans c_b
  have c_o : g1 k = .inr (2, [.int p0, .ref (ad kf)]) := cx_eq eg1
  have fr : ∀ j : Nat, (j ≠ k ∧ j ≠ kf) → g1 j = g j := fun j hj => (cx_ne eg1 j (by omega)).trans (fr j hj)
  refine lv_aload_n hx hb dX2_set_5 rfl (lv_at hl 2 rfl) ?_
  refine lv_aload_n hx hb dX2_set_6 rfl (lv_at hl 0 rfl) ?_
  refine ax_get (k := k) (v := .ref (ad kf)) hx hb hts in_X2_set_X2 hown hK hP hk c_o rfl 1 (by decide) (hts _ wd_X2_set_2) (fun _ h9 => h9) rfl dX2_set_7 ?_
  refine cx_SNv (As := [.ref (ad b), .ref (ad kf)]) (rest := []) ⟨hx, hb, hml, hown, hts⟩ (c_X5_copy hD (a := b) (b := kf) (n := n) (v := v) (w := w) (by omega) hbm hkf hn c_b c_f) ⟨va_cnB 2 hts gX2_set_X5_copy_n17 rfl rfl rfl (hK.2 (.methodLinkNest RX2 17 yX5_copy RX5) (by decide +kernel)) (hts _ wd_X2_set_3) (by decide +kernel) ⟨Nat.le_of_ble_eq_true rfl, Nat.le_of_ble_eq_true rfl⟩, hts _ wd_X2_set_4, trivial⟩ hK hP hS hz ⟨Nat.zero_le _, Nat.zero_le _⟩ rfl hl.1 rfl (Nat.le_of_ble_eq_true rfl) dX2_set_10 (fun g2 H locs hp2 hP hS => ?_)
  obtain ⟨hp2a, hp2b⟩ := hp2
  have c_o : g2 k = .inr (2, [.int p0, .ref (ad kf)]) := (hp2a k (by omega)).trans c_o
  have c_b : g2 b = nA G n (vN v) := (hp2a b (by omega)).trans c_b
  have fr : ∀ j : Nat, (j ≠ k ∧ j ≠ kf) → g2 j = g j := fun j hj => (hp2a j (by omega)).trans (fr j hj)
  have c_f := hp2b
  exact hret g2 _ _ _ _ ⟨fr, c_o, c_f⟩ hP hS dX2_set_13

set_option maxRecDepth 20000 in
theorem wd_X3_set_0 : Cond.fieldLink RX3 13 "AffineHulls$Point" "node" "I" ∈ wsX3_set := by decide +kernel
set_option maxRecDepth 20000 in
theorem in_X3_set_X3 : ∀ w ∈ u_ws RX3 TX3 4, w ∈ wsX3_set := by decide +kernel
set_option maxRecDepth 20000 in
theorem wd_X3_set_2 : Cond.fieldLink RX3 17 "AffineHulls$Point" "index" "I" ∈ wsX3_set := by decide +kernel
set_option maxRecDepth 20000 in
theorem wd_X3_set_3 : Cond.fieldLink RX3 20 "AffineHulls$Point" "origin" "I" ∈ wsX3_set := by decide +kernel
set_option maxRecDepth 20000 in
theorem wd_X3_set_4 : Cond.fieldLink RX3 7 "AffineHulls$Point" "row" "[I" ∈ wsX3_set := by decide +kernel
set_option maxRecDepth 20000 in
theorem wd_X3_set_5 : Cond.initialized RX5 ∈ wsX3_set := by decide +kernel
set_option maxRecDepth 20000 in
theorem wd_X3_set_6 : Cond.static yX5_copy ∈ wsX3_set := by decide +kernel
abbrev rm_X3_set : Room := { frames := 2, cells := 0, slots := 0, locals := 81 }
set_option maxHeartbeats 4000000 in
set_option maxRecDepth 100000 in
theorem c_X3_set {l : Launch} {G : cx_G} {L : List Nat} {ad : Nat → Nat} {g : Nat → va_E} (hD : cx_D L ad) {k kf b n : Nat} {v w : Nat → FF} {p0 p1 p2 q0 q1 q2 : Int32} (h1 : k ≠ kf) (h2 : k ≠ b) (h3 : b ≠ kf) (hk : k ∈ L) (hkf : kf ∈ L) (hbm : b ∈ L) (hn : n < 1000) (c_o : g k = .inr (3, [.int q0, .int q1, .int q2, .ref (ad kf)])) (c_f : g kf = nA G n (vN w)) (c_b : g b = nA G n (vN v)) : MV l yX3_set wsX3_set rm_X3_set G L ad g [.ref (ad k), .int p0, .int p1, .int p2, .ref (ad b)] (fun u => (∀ j : Nat, (j ≠ k ∧ j ≠ kf) → u j = g j) ∧ u k = .inr (3, [.int p0, .int p1, .int p2, .ref (ad kf)]) ∧ u kf = nA G n (vN (cpv n v w))) := by
  refine cx_ofV (cc := cX3_set) (maxL := 5) (by decide +kernel) rfl (Nat.le_of_ble_eq_true rfl) ?_
  intro p e s m args below meth c Q hx hb hts hown hml hP hK hS hz hret ls hl
  have hown : s.vm.findClass RX3 = some m.cls := hown
  have hl : lv_has ls 5 [(0, .ref (ad k)), (1, .int p0), (2, .int p1), (3, .int p2), (4, .ref (ad b))] := hl
  have fr : ∀ j : Nat, (j ≠ k ∧ j ≠ kf) → g j = g j := fun _ _ => rfl
  refine lv_aload_n hx hb dX3_set_0 rfl (lv_at hl 0 rfl) ?_
  refine lv_iload_n hx hb dX3_set_1 rfl (lv_at hl 1 rfl) ?_
  refine ax_put (k := k) (v := .int p0) (fs' := [.int p0, .int q1, .int q2, .ref (ad kf)]) hx hb hts in_X3_set_X3 tyX3 tyX3_ok nmX3 hown hK hP hD hS hk c_o rfl 0 (by decide) (hts _ wd_X3_set_0) (fun _ h9 => h9) rfl (ty := .int) (by decide +kernel) rfl rfl (Nat.le_of_ble_eq_true rfl) rfl dX3_set_2 (fun H locs g1 eg1 hP hS => ?_)
  have c_f : g1 kf = nA G n (vN w) := (cx_ne eg1 kf (by omega)).trans c_f
  have c_b : g1 b = nA G n (vN v) := (cx_ne eg1 b (by omega)).trans c_b
  have c_o : g1 k = .inr (3, [.int p0, .int q1, .int q2, .ref (ad kf)]) := cx_eq eg1
  have fr : ∀ j : Nat, (j ≠ k ∧ j ≠ kf) → g1 j = g j := fun j hj => (cx_ne eg1 j (by omega)).trans (fr j hj)
  refine lv_aload_n hx hb dX3_set_5 rfl (lv_at hl 0 rfl) ?_
  refine lv_iload_n hx hb dX3_set_6 rfl (lv_at hl 2 rfl) ?_
  refine ax_put (k := k) (v := .int p1) (fs' := [.int p0, .int p1, .int q2, .ref (ad kf)]) hx hb hts in_X3_set_X3 tyX3 tyX3_ok nmX3 hown hK hP hD hS hk c_o rfl 1 (by decide) (hts _ wd_X3_set_2) (fun _ h9 => h9) rfl (ty := .int) (by decide +kernel) rfl rfl (Nat.le_of_ble_eq_true rfl) rfl dX3_set_7 (fun H locs g2 eg2 hP hS => ?_)
  have c_f : g2 kf = nA G n (vN w) := (cx_ne eg2 kf (by omega)).trans c_f
  have c_b : g2 b = nA G n (vN v) := (cx_ne eg2 b (by omega)).trans c_b
  have c_o : g2 k = .inr (3, [.int p0, .int p1, .int q2, .ref (ad kf)]) := cx_eq eg2
  have fr : ∀ j : Nat, (j ≠ k ∧ j ≠ kf) → g2 j = g j := fun j hj => (cx_ne eg2 j (by omega)).trans (fr j hj)
  refine lv_aload_n hx hb dX3_set_10 rfl (lv_at hl 0 rfl) ?_
  refine lv_iload_n hx hb dX3_set_11 rfl (lv_at hl 3 rfl) ?_
  refine ax_put (k := k) (v := .int p2) (fs' := [.int p0, .int p1, .int p2, .ref (ad kf)]) hx hb hts in_X3_set_X3 tyX3 tyX3_ok nmX3 hown hK hP hD hS hk c_o rfl 2 (by decide) (hts _ wd_X3_set_3) (fun _ h9 => h9) rfl (ty := .int) (by decide +kernel) rfl rfl (Nat.le_of_ble_eq_true rfl) rfl dX3_set_12 (fun H locs g3 eg3 hP hS => ?_)
  have c_f : g3 kf = nA G n (vN w) := (cx_ne eg3 kf (by omega)).trans c_f
  have c_b : g3 b = nA G n (vN v) := (cx_ne eg3 b (by omega)).trans c_b
  have c_o : g3 k = .inr (3, [.int p0, .int p1, .int p2, .ref (ad kf)]) := cx_eq eg3
  have fr : ∀ j : Nat, (j ≠ k ∧ j ≠ kf) → g3 j = g j := fun j hj => (cx_ne eg3 j (by omega)).trans (fr j hj)
  refine lv_aload hx hb dX3_set_15 (lv_at hl 4 rfl) ?_
  refine lv_aload_n hx hb dX3_set_17 rfl (lv_at hl 0 rfl) ?_
  refine ax_get (k := k) (v := .ref (ad kf)) hx hb hts in_X3_set_X3 hown hK hP hk c_o rfl 3 (by decide) (hts _ wd_X3_set_4) (fun _ h9 => h9) rfl dX3_set_18 ?_
  refine cx_SNv (As := [.ref (ad b), .ref (ad kf)]) (rest := []) ⟨hx, hb, hml, hown, hts⟩ (c_X5_copy hD (a := b) (b := kf) (n := n) (v := v) (w := w) (by omega) hbm hkf hn c_b c_f) ⟨va_cnB 2 hts gX3_set_X5_copy_n23 rfl rfl rfl (hK.2 (.methodLinkNest RX3 23 yX5_copy RX5) (by decide +kernel)) (hts _ wd_X3_set_5) (by decide +kernel) ⟨Nat.le_of_ble_eq_true rfl, Nat.le_of_ble_eq_true rfl⟩, hts _ wd_X3_set_6, trivial⟩ hK hP hS hz ⟨Nat.zero_le _, Nat.zero_le _⟩ rfl hl.1 rfl (Nat.le_of_ble_eq_true rfl) dX3_set_21 (fun g4 H locs hp4 hP hS => ?_)
  obtain ⟨hp4a, hp4b⟩ := hp4
  have c_o : g4 k = .inr (3, [.int p0, .int p1, .int p2, .ref (ad kf)]) := (hp4a k (by omega)).trans c_o
  have c_b : g4 b = nA G n (vN v) := (hp4a b (by omega)).trans c_b
  have fr : ∀ j : Nat, (j ≠ k ∧ j ≠ kf) → g4 j = g j := fun j hj => (hp4a j (by omega)).trans (fr j hj)
  have c_f := hp4b
  exact hret g4 _ _ _ _ ⟨fr, c_o, c_f⟩ hP hS dX3_set_24

def opn (kd : Nat) (d : FF) : Bool := if kd = 3 then decide (d = 0) else if kd = 4 then decide (d ≠ 0) else true
def stepF (n kd vr : Nat) (f : Nat → FF) (x : FF) (w : Nat → FF) : Nat → FF := if kd = 1 then nu w vr (dot f w n) else if kd = 2 then nu w vr x else w
def backF (n kd vr : Nat) (f : Nat → FF) (x : FF) (w : Nat → FF) : Nat → FF := if kd = 1 then am n (nu w vr 0) (w vr) f else if kd = 2 then nu (nu w vr 0) 0 (nu w vr 0 0 + w vr * x) else w
theorem opn_3t {kd : Nat} {d : FF} (h : kd = 3) (h2 : d.val = 0) : nI 1 = if opn kd d = true then 1 else 0 := by
  have h3 : d = 0 := Fin.ext h2
  subst h h3
  decide
theorem opn_3f {kd : Nat} {d : FF} (h : kd = 3) (h2 : d.val ≠ 0) : nI 0 = if opn kd d = true then 1 else 0 := by
  have h3 : d ≠ 0 := fun z => h2 (by rw [z]; rfl)
  have h4 : opn kd d = false := by simp [opn, h, h3]
  rw [h4]
  decide
theorem opn_4t {kd : Nat} {d : FF} (h : kd = 4) (h2 : d.val ≠ 0) : nI 1 = if opn kd d = true then 1 else 0 := by
  have h3 : d ≠ 0 := fun z => h2 (by rw [z]; rfl)
  have h4 : opn kd d = true := by simp [opn, h, h3]
  rw [h4]
  decide
theorem opn_4f {kd : Nat} {d : FF} (h : kd = 4) (h2 : d.val = 0) : nI 0 = if opn kd d = true then 1 else 0 := by
  have h3 : d = 0 := Fin.ext h2
  subst h h3
  decide
theorem opn_n {kd : Nat} {d : FF} (h : kd ≠ 3) (h2 : kd ≠ 4) : nI 1 = if opn kd d = true then 1 else 0 := by
  have h4 : opn kd d = true := by simp [opn, h, h2]
  rw [h4]
  decide
theorem ff_v0 {a : FF} : a.val = 0 ↔ a = 0 := ⟨fun h => Fin.ext h, fun h => by rw [h]; rfl⟩

set_option maxRecDepth 20000 in
theorem wd_X0_isOpen_0 : Cond.fieldLink RX0 22 "AffineHulls$Edge" "kind" "I" ∈ wsX0_isOpen := by decide +kernel
set_option maxRecDepth 20000 in
theorem in_X0_isOpen_X0 : ∀ w ∈ u_ws RX0 TX0 5, w ∈ wsX0_isOpen := by decide +kernel
set_option maxRecDepth 20000 in
theorem wd_X0_isOpen_2 : Cond.fieldLink RX0 9 "AffineHulls$Edge" "form" "[I" ∈ wsX0_isOpen := by decide +kernel
set_option maxRecDepth 20000 in
theorem wd_X0_isOpen_3 : Cond.initialized RX5 ∈ wsX0_isOpen := by decide +kernel
set_option maxRecDepth 20000 in
theorem wd_X0_isOpen_4 : Cond.static yX5_valueOf ∈ wsX0_isOpen := by decide +kernel
abbrev rm_X0_isOpen : Room := { frames := 1, cells := 0, slots := 0, locals := 24 }
set_option maxHeartbeats 4000000 in
set_option maxRecDepth 100000 in
theorem c_X0_isOpen {l : Launch} {G : cx_G} {L : List Nat} {ad : Nat → Nat} {g : Nat → va_E} (hD : cx_D L ad) {k kf b n kd : Nat} {f w : Nat → FF} {fr0 to0 vz : Int32} (hk : k ∈ L) (hkf : kf ∈ L) (hbm : b ∈ L) (hn : n < 1000) (hkd : kd < 1000) (c_o : g k = .inr (0, [.int fr0, .int to0, .int (nI kd), .int vz, .ref (ad kf)])) (c_f : g kf = nA G n (vN f)) (c_b : g b = nA G n (vN w)) : MI l yX0_isOpen wsX0_isOpen rm_X0_isOpen G L ad g [.ref (ad k), .ref (ad b)] (fun r u => r = (if opn kd (dot f w n) = true then 1 else 0) ∧ u = g) := by
  refine cx_ofI (cc := cX0_isOpen) (maxL := 2) (by decide +kernel) rfl (Nat.le_of_ble_eq_true rfl) ?_
  intro p e s m args below meth c Q hx hb hts hown hml hP hK hS hz hret ls hl
  have hown : s.vm.findClass RX0 = some m.cls := hown
  have hl : lv_has ls 2 [(0, .ref (ad k)), (1, .ref (ad b))] := hl
  refine lv_aload_n hx hb dX0_isOpen_0 rfl (lv_at hl 0 rfl) ?_
  refine ax_get (k := k) (v := .int (nI kd)) hx hb hts in_X0_isOpen_X0 hown hK hP hk c_o rfl 2 (by decide) (hts _ wd_X0_isOpen_0) (fun _ h9 => h9) rfl dX0_isOpen_1 ?_
  refine lv_iconst (v := nI 3) hx hb dX0_isOpen_4 (by decide) ?_
  refine ax_icne (a := kd) (b := 3) (tgt := 25) hx hb dX0_isOpen_5 (by decide) (by omega) (by omega) (fun h5 => ?_) (fun h5 => ?_)
  · skip
    refine lv_aload_n hx hb dX0_isOpen_25 rfl (lv_at hl 0 rfl) ?_
    refine ax_get (k := k) (v := .int (nI kd)) hx hb hts in_X0_isOpen_X0 hown hK hP hk c_o rfl 2 (by decide) (hts _ wd_X0_isOpen_0) (fun _ h9 => h9) rfl dX0_isOpen_26 ?_
    refine lv_iconst (v := nI 4) hx hb dX0_isOpen_29 (by decide) ?_
    refine ax_icne (a := kd) (b := 4) (tgt := 44) hx hb dX0_isOpen_30 (by decide) (by omega) (by omega) (fun h30 => ?_) (fun h30 => ?_)
    · skip
      refine lv_iconst (v := nI 1) hx hb dX0_isOpen_44 (by decide) ?_
      refine lv_goto (tgt := 49) hx hb dX0_isOpen_45 (by decide) ?_
      exact hret (nI 1) g _ _ _ _ (by decide) ⟨opn_n h5 h30, rfl⟩ hP hS dX0_isOpen_49
    · skip
      refine lv_aload_n hx hb dX0_isOpen_33 rfl (lv_at hl 0 rfl) ?_
      refine ax_get (k := k) (v := .ref (ad kf)) hx hb hts in_X0_isOpen_X0 hown hK hP hk c_o rfl 4 (by decide) (hts _ wd_X0_isOpen_2) (fun _ h9 => h9) rfl dX0_isOpen_34 ?_
      refine lv_aload_n hx hb dX0_isOpen_37 rfl (lv_at hl 1 rfl) ?_
      refine cx_SNi (As := [.ref (ad kf), .ref (ad b)]) (rest := []) ⟨hx, hb, hml, hown, hts⟩ (c_X5_valueOf hD (a := kf) (b := b) (n := n) (v := f) (w := w) hkf hbm hn c_f c_b) ⟨va_cnB 2 hts gX0_isOpen_X5_valueOf_n32 rfl rfl rfl (hK.2 (.methodLinkNest RX0 32 yX5_valueOf RX5) (by decide +kernel)) (hts _ wd_X0_isOpen_3) (by decide +kernel) ⟨Nat.le_of_ble_eq_true rfl, Nat.le_of_ble_eq_true rfl⟩, hts _ wd_X0_isOpen_4, trivial⟩ hK hP hS hz ⟨Nat.zero_le _, Nat.zero_le _⟩ rfl hl.1 rfl (Nat.le_of_ble_eq_true rfl) dX0_isOpen_38 (fun r1 g1 H locs hp1 hP hS => ?_)
      obtain ⟨rfl, ehp1⟩ := hp1
      rw [ehp1] at hP
      have b0 := (dot f w n).isLt
      refine ax_ifeq (a := (dot f w n).val) (tgt := 48) hx hb dX0_isOpen_41 (by decide) (by omega) (fun h41 => ?_) (fun h41 => ?_)
      · skip
        refine lv_iconst (v := nI 0) hx hb dX0_isOpen_48 (by decide) ?_
        exact hret (nI 0) g _ _ _ _ (by decide) ⟨opn_4f h30 h41, rfl⟩ hP hS dX0_isOpen_49
      · skip
        refine lv_iconst (v := nI 1) hx hb dX0_isOpen_44 (by decide) ?_
        refine lv_goto (tgt := 49) hx hb dX0_isOpen_45 (by decide) ?_
        exact hret (nI 1) g _ _ _ _ (by decide) ⟨opn_4t h30 h41, rfl⟩ hP hS dX0_isOpen_49
  · skip
    refine lv_aload_n hx hb dX0_isOpen_8 rfl (lv_at hl 0 rfl) ?_
    refine ax_get (k := k) (v := .ref (ad kf)) hx hb hts in_X0_isOpen_X0 hown hK hP hk c_o rfl 4 (by decide) (hts _ wd_X0_isOpen_2) (fun _ h9 => h9) rfl dX0_isOpen_9 ?_
    refine lv_aload_n hx hb dX0_isOpen_12 rfl (lv_at hl 1 rfl) ?_
    refine cx_SNi (As := [.ref (ad kf), .ref (ad b)]) (rest := []) ⟨hx, hb, hml, hown, hts⟩ (c_X5_valueOf hD (a := kf) (b := b) (n := n) (v := f) (w := w) hkf hbm hn c_f c_b) ⟨va_cnB 2 hts gX0_isOpen_X5_valueOf_n32 rfl rfl rfl (hK.2 (.methodLinkNest RX0 32 yX5_valueOf RX5) (by decide +kernel)) (hts _ wd_X0_isOpen_3) (by decide +kernel) ⟨Nat.le_of_ble_eq_true rfl, Nat.le_of_ble_eq_true rfl⟩, hts _ wd_X0_isOpen_4, trivial⟩ hK hP hS hz ⟨Nat.zero_le _, Nat.zero_le _⟩ rfl hl.1 rfl (Nat.le_of_ble_eq_true rfl) dX0_isOpen_13 (fun r2 g2 H locs hp2 hP hS => ?_)
    obtain ⟨rfl, ehp2⟩ := hp2
    rw [ehp2] at hP
    have b0 := (dot f w n).isLt
    refine ax_ifne (a := (dot f w n).val) (tgt := 23) hx hb dX0_isOpen_16 (by decide) (by omega) (fun h16 => ?_) (fun h16 => ?_)
    · skip
      refine lv_iconst (v := nI 0) hx hb dX0_isOpen_23 (by decide) ?_
      exact hret (nI 0) g _ _ _ _ (by decide) ⟨opn_3f h5 h16, rfl⟩ hP hS dX0_isOpen_24
    · skip
      refine lv_iconst (v := nI 1) hx hb dX0_isOpen_19 (by decide) ?_
      refine lv_goto (tgt := 24) hx hb dX0_isOpen_20 (by decide) ?_
      exact hret (nI 1) g _ _ _ _ (by decide) ⟨opn_3t h5 h16, rfl⟩ hP hS dX0_isOpen_24

set_option maxRecDepth 20000 in
theorem wd_X0_step_0 : Cond.fieldLink RX0 22 "AffineHulls$Edge" "kind" "I" ∈ wsX0_step := by decide +kernel
set_option maxRecDepth 20000 in
theorem in_X0_step_X0 : ∀ w ∈ u_ws RX0 TX0 5, w ∈ wsX0_step := by decide +kernel
set_option maxRecDepth 20000 in
theorem wd_X0_step_2 : Cond.fieldLink RX0 25 "AffineHulls$Edge" "variable" "I" ∈ wsX0_step := by decide +kernel
set_option maxRecDepth 20000 in
theorem wd_X0_step_3 : Cond.fieldLink RX0 9 "AffineHulls$Edge" "form" "[I" ∈ wsX0_step := by decide +kernel
set_option maxRecDepth 20000 in
theorem wd_X0_step_4 : Cond.initialized RX5 ∈ wsX0_step := by decide +kernel
set_option maxRecDepth 20000 in
theorem wd_X0_step_5 : Cond.static yX5_valueOf ∈ wsX0_step := by decide +kernel
abbrev rm_X0_step : Room := { frames := 1, cells := 0, slots := 0, locals := 24 }
set_option maxHeartbeats 4000000 in
set_option maxRecDepth 100000 in
theorem c_X0_step {l : Launch} {G : cx_G} {L : List Nat} {ad : Nat → Nat} {g : Nat → va_E} (hD : cx_D L ad) {k kf b n kd vr : Nat} {f w : Nat → FF} {xf : FF} {fr0 to0 vz : Int32} (h1 : b ≠ k) (h2 : b ≠ kf) (hk : k ∈ L) (hkf : kf ∈ L) (hbm : b ∈ L) (hn : n < 1000) (hkd : kd < 1000) (hv : kd = 1 ∨ kd = 2 → vz = nI vr ∧ vr < n) (c_o : g k = .inr (0, [.int fr0, .int to0, .int (nI kd), .int vz, .ref (ad kf)])) (c_f : g kf = nA G n (vN f)) (c_b : g b = nA G n (vN w)) : MV l yX0_step wsX0_step rm_X0_step G L ad g [.ref (ad k), .ref (ad b), .int (nI xf.val)] (fun u => (∀ j : Nat, j ≠ b → u j = g j) ∧ u b = nA G n (vN (stepF n kd vr f xf w))) := by
  refine cx_ofV (cc := cX0_step) (maxL := 3) (by decide +kernel) rfl (Nat.le_of_ble_eq_true rfl) ?_
  intro p e s m args below meth c Q hx hb hts hown hml hP hK hS hz hret ls hl
  have hown : s.vm.findClass RX0 = some m.cls := hown
  have hl : lv_has ls 3 [(0, .ref (ad k)), (1, .ref (ad b)), (2, .int (nI xf.val))] := hl
  have fr : ∀ j : Nat, j ≠ b → g j = g j := fun _ _ => rfl
  refine lv_aload_n hx hb dX0_step_0 rfl (lv_at hl 0 rfl) ?_
  refine ax_get (k := k) (v := .int (nI kd)) hx hb hts in_X0_step_X0 hown hK hP hk c_o rfl 2 (by decide) (hts _ wd_X0_step_0) (fun _ h9 => h9) rfl dX0_step_1 ?_
  refine lv_iconst (v := nI 1) hx hb dX0_step_4 (by decide) ?_
  refine ax_icne (a := kd) (b := 1) (tgt := 25) hx hb dX0_step_5 (by decide) (by omega) (by omega) (fun h5 => ?_) (fun h5 => ?_)
  · skip
    refine lv_aload_n hx hb dX0_step_25 rfl (lv_at hl 0 rfl) ?_
    refine ax_get (k := k) (v := .int (nI kd)) hx hb hts in_X0_step_X0 hown hK hP hk c_o rfl 2 (by decide) (hts _ wd_X0_step_0) (fun _ h9 => h9) rfl dX0_step_26 ?_
    refine lv_iconst (v := nI 2) hx hb dX0_step_29 (by decide) ?_
    refine ax_icne (a := kd) (b := 2) (tgt := 40) hx hb dX0_step_30 (by decide) (by omega) (by omega) (fun h30 => ?_) (fun h30 => ?_)
    · skip
      exact hret g _ _ _ _ ⟨fr, by rw [c_b]; unfold stepF; rw [if_neg h5, if_neg h30]⟩ hP hS dX0_step_40
    · skip
      refine lv_aload_n hx hb dX0_step_33 rfl (lv_at hl 1 rfl) ?_
      refine lv_aload_n hx hb dX0_step_34 rfl (lv_at hl 0 rfl) ?_
      refine ax_get (k := k) (v := .int vz) hx hb hts in_X0_step_X0 hown hK hP hk c_o rfl 3 (by decide) (hts _ wd_X0_step_2) (fun _ h9 => h9) rfl dX0_step_35 ?_
      obtain ⟨ev, hvn⟩ := hv (by omega)
      rw [ev]
      refine lv_iload_n hx hb dX0_step_38 rfl (lv_at hl 2 rfl) ?_
      refine ax_iast (k := b) (i := vr) (f' := (fun j => nI ((nu (vN w) vr xf.val) j))) hx hb hK hP hD hS hbm c_b (by omega) (by omega) (up_n _ _ _) dX0_step_39 (fun H locs g1 eg1 hP hS => ?_)
      have c_o : g1 k = .inr (0, [.int fr0, .int to0, .int (nI kd), .int vz, .ref (ad kf)]) := (cx_ne eg1 k (by omega)).trans c_o
      have c_f : g1 kf = nA G n (vN f) := (cx_ne eg1 kf (by omega)).trans c_f
      have c_b : g1 b = nA G n (nu (vN w) vr xf.val) := cx_eq eg1
      have fr : ∀ j : Nat, j ≠ b → g1 j = g j := fun j hj => (cx_ne eg1 j (by omega)).trans (fr j hj)
      exact hret g1 _ _ _ _ ⟨fr, by rw [c_b, vN_nu]; unfold stepF; rw [if_neg h5, if_pos h30]⟩ hP hS dX0_step_40
  · skip
    refine lv_aload_n hx hb dX0_step_8 rfl (lv_at hl 1 rfl) ?_
    refine lv_aload_n hx hb dX0_step_9 rfl (lv_at hl 0 rfl) ?_
    refine ax_get (k := k) (v := .int vz) hx hb hts in_X0_step_X0 hown hK hP hk c_o rfl 3 (by decide) (hts _ wd_X0_step_2) (fun _ h9 => h9) rfl dX0_step_10 ?_
    obtain ⟨ev, hvn⟩ := hv (by omega)
    rw [ev]
    refine lv_aload_n hx hb dX0_step_13 rfl (lv_at hl 0 rfl) ?_
    refine ax_get (k := k) (v := .ref (ad kf)) hx hb hts in_X0_step_X0 hown hK hP hk c_o rfl 4 (by decide) (hts _ wd_X0_step_3) (fun _ h9 => h9) rfl dX0_step_14 ?_
    refine lv_aload_n hx hb dX0_step_17 rfl (lv_at hl 1 rfl) ?_
    refine cx_SNi (As := [.ref (ad kf), .ref (ad b)]) (rest := [.int (nI vr), .ref (ad b)]) ⟨hx, hb, hml, hown, hts⟩ (c_X5_valueOf hD (a := kf) (b := b) (n := n) (v := f) (w := w) hkf hbm hn c_f c_b) ⟨va_cnB 2 hts gX0_step_X5_valueOf_n32 rfl rfl rfl (hK.2 (.methodLinkNest RX0 32 yX5_valueOf RX5) (by decide +kernel)) (hts _ wd_X0_step_4) (by decide +kernel) ⟨Nat.le_of_ble_eq_true rfl, Nat.le_of_ble_eq_true rfl⟩, hts _ wd_X0_step_5, trivial⟩ hK hP hS hz ⟨Nat.zero_le _, Nat.zero_le _⟩ rfl hl.1 rfl (Nat.le_of_ble_eq_true rfl) dX0_step_18 (fun r2 g2 H locs hp2 hP hS => ?_)
    obtain ⟨rfl, ehp2⟩ := hp2
    rw [ehp2] at hP
    refine ax_iast (k := b) (i := vr) (f' := (fun j => nI ((nu (vN w) vr ((dot f w n).val)) j))) hx hb hK hP hD hS hbm c_b (by omega) (by omega) (up_n _ _ _) dX0_step_21 (fun H locs g3 eg3 hP hS => ?_)
    have c_o : g3 k = .inr (0, [.int fr0, .int to0, .int (nI kd), .int vz, .ref (ad kf)]) := (cx_ne eg3 k (by omega)).trans c_o
    have c_f : g3 kf = nA G n (vN f) := (cx_ne eg3 kf (by omega)).trans c_f
    have c_b : g3 b = nA G n (nu (vN w) vr ((dot f w n).val)) := cx_eq eg3
    have fr : ∀ j : Nat, j ≠ b → g3 j = g j := fun j hj => (cx_ne eg3 j (by omega)).trans (fr j hj)
    refine lv_goto (tgt := 40) hx hb dX0_step_22 (by decide) ?_
    exact hret g3 _ _ _ _ ⟨fr, by rw [c_b, vN_nu]; unfold stepF; rw [if_pos h5]⟩ hP hS dX0_step_40

abbrev rm_J9_floorMod_7cf53 : Room := { frames := 0, cells := 0, slots := 0, locals := 0 }
set_option maxHeartbeats 4000000 in
set_option maxRecDepth 100000 in
theorem c_J9_floorMod_7cf53 {l : Launch} {G : cx_G} {L : List Nat} {ad : Nat → Nat} {g : Nat → va_E} (hD : cx_D L ad) {x : Int32} : MI l yJ9_floorMod_7cf53 wsJ9_floorMod_7cf53 rm_J9_floorMod_7cf53 G L ad g [.int x, .int (nI 65521)] (fun r u => r = nI (fi x.toInt).val ∧ u = g) := by
  refine cx_ofI (cc := cJ9_floorMod_7cf53) (maxL := 3) (by decide +kernel) rfl (Nat.le_of_ble_eq_true rfl) ?_
  intro p e s m args below meth c Q hx hb hts hown hml hP hK hS hz hret ls hl
  have hown : s.vm.findClass RJ9 = some m.cls := hown
  have hl : lv_has ls 3 [(0, .int x), (1, .int (nI 65521))] := hl
  refine lv_iload_n hx hb dJ9_floorMod_7cf53_0 rfl (lv_at hl 0 rfl) ?_
  refine lv_iload_n hx hb dJ9_floorMod_7cf53_1 rfl (lv_at hl 1 rfl) ?_
  refine lv_irem hx hb dJ9_floorMod_7cf53_2 (by decide) ?_
  refine lv_topi (fun r er => ?_)
  refine lv_istore_n (lv' := [(2, .int r), (0, .int x), (1, .int (nI 65521))]) hx hb dJ9_floorMod_7cf53_3 rfl hl (by decide) rfl (fun ls hl => ?_)
  refine lv_iload_n hx hb dJ9_floorMod_7cf53_4 rfl (lv_at hl 1 rfl) ?_
  refine lv_iload_n hx hb dJ9_floorMod_7cf53_5 rfl (lv_at hl 2 rfl) ?_
  refine lv_ixor hx hb dJ9_floorMod_7cf53_6 ?_
  refine lv_if_ge (x := x ^^^ nI 65521) (tgt := 18) hx hb dJ9_floorMod_7cf53_7 (by decide) (fun h7 => ?_) (fun h7 => ?_)
  · skip
    refine lv_iload_n hx hb dJ9_floorMod_7cf53_18 rfl (lv_at hl 0 rfl) ?_
    exact hret r g _ _ _ _ rfl ⟨fm_1 er h7, rfl⟩ hP hS dJ9_floorMod_7cf53_19
  · skip
    refine lv_iload_n hx hb dJ9_floorMod_7cf53_10 rfl (lv_at hl 0 rfl) ?_
    refine lv_if_eq (x := r) (tgt := 18) hx hb dJ9_floorMod_7cf53_11 (by decide) (fun h11 => ?_) (fun h11 => ?_)
    · skip
      refine lv_iload_n hx hb dJ9_floorMod_7cf53_18 rfl (lv_at hl 0 rfl) ?_
      exact hret r g _ _ _ _ rfl ⟨fm_2 er h11, rfl⟩ hP hS dJ9_floorMod_7cf53_19
    · skip
      refine lv_iload_n hx hb dJ9_floorMod_7cf53_14 rfl (lv_at hl 0 rfl) ?_
      refine lv_iload_n hx hb dJ9_floorMod_7cf53_15 rfl (lv_at hl 2 rfl) ?_
      refine lv_iadd hx hb dJ9_floorMod_7cf53_16 ?_
      exact hret (r + (nI 65521)) g _ _ _ _ rfl ⟨fm_3 er h7 h11, rfl⟩ hP hS dJ9_floorMod_7cf53_17

set_option maxRecDepth 20000 in
theorem wd_X5_number_0 : Cond.constant RX5 271 (65521) ∈ wsX5_number := by decide +kernel
abbrev rm_X5_number : Room := { frames := 1, cells := 0, slots := 0, locals := 22 }
set_option maxHeartbeats 4000000 in
set_option maxRecDepth 100000 in
theorem c_X5_number {l : Launch} {G : cx_G} {L : List Nat} {ad : Nat → Nat} {g : Nat → va_E} (hD : cx_D L ad) {x : Int32} : MI l yX5_number wsX5_number rm_X5_number G L ad g [.int x] (fun r u => r = nI (fi x.toInt).val ∧ u = g) := by
  refine cx_ofI (cc := cX5_number) (maxL := 1) (by decide +kernel) rfl (Nat.le_of_ble_eq_true rfl) ?_
  intro p e s m args below meth c Q hx hb hts hown hml hP hK hS hz hret ls hl
  have hown : s.vm.findClass RX5 = some m.cls := hown
  have hl : lv_has ls 1 [(0, .int x)] := hl
  refine lv_iload_n hx hb dX5_number_0 rfl (lv_at hl 0 rfl) ?_
  refine lv_ldcw (v := 65521) hx hb hown (hts _ wd_X5_number_0) dX5_number_1 ?_
  rw [show (65521 : Int32) = nI 65521 from by decide]
  refine cx_Si (As := [.int x, .int (nI 65521)]) (rest := []) ⟨hx, hb, hml, hown, hts⟩ (c_J9_floorMod_7cf53 hD (x := x)) (va_cwS 2 hts gX5_number_J9_floorMod_7cf53 rfl rfl rfl (by decide +kernel) ⟨Nat.le_of_ble_eq_true rfl, Nat.le_of_ble_eq_true rfl⟩) hK hP hS hz ⟨Nat.zero_le _, Nat.zero_le _⟩ rfl hl.1 rfl (Nat.le_of_ble_eq_true rfl) dX5_number_4 (fun r1 g1 H locs hp1 hP hS => ?_)
  obtain ⟨er1, ehp1g⟩ := hp1
  rw [ehp1g] at hP
  rw [er1]
  exact hret (nI ((fi (x).toInt).val)) g _ _ _ _ rfl ⟨rfl, rfl⟩ hP hS dX5_number_7

theorem inv_s1 {x pv sv : FF} {R : Nat} (h : pv * ff_pow sv R = finv x) (h1 : R % 2 = 1) : (pv * sv) * ff_pow (sv * sv) (R / 2) = finv x := by
  rw [← h, ff_pow_half sv R, if_pos h1]
  grind
theorem inv_s0 {x pv sv : FF} {R : Nat} (h : pv * ff_pow sv R = finv x) (h1 : R % 2 ≠ 1) : pv * ff_pow (sv * sv) (R / 2) = finv x := by
  rw [← h, ff_pow_half sv R, if_neg h1]
  grind
theorem inv_e {x pv sv : FF} {R : Nat} (h : pv * ff_pow sv R = finv x) (h1 : R = 0) : pv = finv x := by
  subst h1
  rw [← h]
  show pv = pv * 1
  grind
theorem inv_0 (x : FF) : 1 * ff_pow x 65519 = finv x := by
  show 1 * ff_pow x 65519 = ff_pow x 65519
  grind
theorem fv_mul (a b : FF) : a.val * b.val % 65521 = (a * b).val := (Fin.val_mul a b).symm
theorem fv_le (a b : FF) : a.val * b.val ≤ 65521 * 65521 := mul_le3 (Nat.le_of_lt a.isLt) (Nat.le_of_lt b.isLt)

set_option maxRecDepth 20000 in
theorem wd_X5_inverse_0 : Cond.constant RX5 283 (65519) ∈ wsX5_inverse := by decide +kernel
set_option maxRecDepth 20000 in
theorem wd_X5_inverse_1 : Cond.constantLong RX5 275 (65521) ∈ wsX5_inverse := by decide +kernel
abbrev rm_X5_inverse : Room := { frames := 0, cells := 0, slots := 0, locals := 0 }
set_option maxHeartbeats 4000000 in
set_option maxRecDepth 100000 in
theorem c_X5_inverse {l : Launch} {G : cx_G} {L : List Nat} {ad : Nat → Nat} {g : Nat → va_E} (hD : cx_D L ad) {x : FF} : MI l yX5_inverse wsX5_inverse rm_X5_inverse G L ad g [.int (nI x.val)] (fun r u => r = nI (finv x).val ∧ u = g) := by
  refine cx_ofI (cc := cX5_inverse) (maxL := 6) (by decide +kernel) rfl (Nat.le_of_ble_eq_true rfl) ?_
  intro p e s m args below meth c Q hx hb hts hown hml hP hK hS hz hret ls hl
  have hown : s.vm.findClass RX5 = some m.cls := hown
  have hl : lv_has ls 6 [(0, .int (nI x.val))] := hl
  refine lv_lconst (v := lN 1) hx hb dX5_inverse_0 rfl ?_
  refine lv_lstore_n (lv' := [(1, .long (lN 1)), (0, .int (nI x.val))]) hx hb dX5_inverse_1 rfl hl (by decide) rfl (fun ls hl => ?_)
  refine lv_iload_n hx hb dX5_inverse_2 rfl (lv_at hl 1 rfl) ?_
  have bx := x.isLt
  refine ax_i2l (a := x.val) hx hb dX5_inverse_3 (by omega) ?_
  refine lv_lstore_n (lv' := [(3, .long (lN x.val)), (1, .long (lN 1)), (0, .int (nI x.val))]) hx hb dX5_inverse_4 rfl hl (by decide) rfl (fun ls hl => ?_)
  refine lv_ldcw (v := 65519) hx hb hown (hts _ wd_X5_inverse_0) dX5_inverse_5 ?_
  rw [show (65519 : Int32) = nI 65519 from by decide]
  refine lv_istore (lv' := [(5, .int (nI 65519)), (3, .long (lN x.val)), (1, .long (lN 1)), (0, .int (nI x.val))]) hx hb dX5_inverse_8 hl (by decide) rfl (fun ls hl => ?_)
  have LP10 : ∀ (fu : Nat) (R : Nat) (pv : FF) (sv : FF), (R < 65520) → (pv * ff_pow sv R = finv x) → R < fu → ∀ (ls : Array Slot), lv_has ls 6 [(5, .int (nI R)), (3, .long (lN sv.val)), (1, .long (lN pv.val)), (0, .int (nI x.val))] → W p l e rm_X5_inverse s m args below meth c s.heap [] 0 0 Q (F0 m 10 ls []) := by
    intro fu
    induction fu with
    | zero => intro R pv sv hR hi hfu; exact absurd hfu (Nat.not_lt_zero _)
    | succ fu ih10 =>
      intro R pv sv hR hi hfu10 ls hl
      refine lv_iload hx hb dX5_inverse_10 (lv_at hl 0 rfl) ?_
      refine ax_ifle (a := R) (tgt := 48) hx hb dX5_inverse_12 (by decide) (by omega) (fun h12 => ?_) (fun h12 => ?_)
      · skip
        refine lv_lload_n hx hb dX5_inverse_48 rfl (lv_at hl 2 rfl) ?_
        refine ax_l2i (a := pv.val) hx hb dX5_inverse_49 ?_
        exact hret (nI pv.val) g _ _ _ _ rfl ⟨by rw [inv_e hi h12], rfl⟩ hP hS dX5_inverse_50
      · skip
        refine lv_iload hx hb dX5_inverse_15 (lv_at hl 0 rfl) ?_
        refine lv_iconst (v := nI 1) hx hb dX5_inverse_17 (by decide) ?_
        refine lv_iand hx hb dX5_inverse_18 ?_
        rw [pk_andN (n := R) (by omega) 1 (by decide)]
        refine lv_iconst (v := nI 1) hx hb dX5_inverse_19 (by decide) ?_
        refine ax_icne (a := R % 2 ^ 1) (b := 1) (tgt := 31) hx hb dX5_inverse_20 (by decide) (by omega) (by omega) (fun h20 => ?_) (fun h20 => ?_)
        · skip
          have bs := fv_le sv sv
          refine lv_lload_n hx hb dX5_inverse_31 rfl (lv_at hl 1 rfl) ?_
          refine lv_lload_n hx hb dX5_inverse_32 rfl (lv_at hl 1 rfl) ?_
          refine ax_lmul (a := sv.val) (b := sv.val) hx hb dX5_inverse_33 ?_
          refine lv_ldc2 (v := 65521) hx hb hown (hts _ wd_X5_inverse_1) dX5_inverse_34 ?_
          refine ax_lremM (a := sv.val * sv.val) hx hb dX5_inverse_37 (by omega) ?_
          rw [fv_mul sv sv]
          refine lv_lstore_n (lv' := [(3, .long (lN ((sv * sv).val))), (5, .int (nI R)), (1, .long (lN pv.val)), (0, .int (nI x.val))]) hx hb dX5_inverse_38 rfl hl (by decide) rfl (fun ls hl => ?_)
          refine lv_iload hx hb dX5_inverse_39 (lv_at hl 1 rfl) ?_
          refine lv_iconst (v := nI 1) hx hb dX5_inverse_41 (by decide) ?_
          refine lv_ishr hx hb dX5_inverse_42 ?_
          rw [pk_shrN (n := R) (by omega) (nI 1 &&& 31) 1 (by decide)]
          refine lv_istore (lv' := [(5, .int (nI (R / 2 ^ 1))), (3, .long (lN ((sv * sv).val))), (1, .long (lN pv.val)), (0, .int (nI x.val))]) hx hb dX5_inverse_43 hl (by decide) rfl (fun ls hl => ?_)
          refine lv_goto (tgt := 10) hx hb dX5_inverse_45 (by decide) ?_
          exact ih10 (R / 2 ^ 1) pv (sv * sv) (by omega) (inv_s0 hi h20) (by omega) _ (lv_sub hl [0, 1, 2, 3] rfl)
        · skip
          have bp := fv_le pv sv
          refine lv_lload_n hx hb dX5_inverse_23 rfl (lv_at hl 2 rfl) ?_
          refine lv_lload_n hx hb dX5_inverse_24 rfl (lv_at hl 1 rfl) ?_
          refine ax_lmul (a := pv.val) (b := sv.val) hx hb dX5_inverse_25 ?_
          refine lv_ldc2 (v := 65521) hx hb hown (hts _ wd_X5_inverse_1) dX5_inverse_26 ?_
          refine ax_lremM (a := pv.val * sv.val) hx hb dX5_inverse_29 (by omega) ?_
          rw [fv_mul pv sv]
          refine lv_lstore_n (lv' := [(1, .long (lN ((pv * sv).val))), (5, .int (nI R)), (3, .long (lN sv.val)), (0, .int (nI x.val))]) hx hb dX5_inverse_30 rfl hl (by decide) rfl (fun ls hl => ?_)
          have bs := fv_le sv sv
          refine lv_lload_n hx hb dX5_inverse_31 rfl (lv_at hl 2 rfl) ?_
          refine lv_lload_n hx hb dX5_inverse_32 rfl (lv_at hl 2 rfl) ?_
          refine ax_lmul (a := sv.val) (b := sv.val) hx hb dX5_inverse_33 ?_
          refine lv_ldc2 (v := 65521) hx hb hown (hts _ wd_X5_inverse_1) dX5_inverse_34 ?_
          refine ax_lremM (a := sv.val * sv.val) hx hb dX5_inverse_37 (by omega) ?_
          rw [fv_mul sv sv]
          refine lv_lstore_n (lv' := [(3, .long (lN ((sv * sv).val))), (1, .long (lN ((pv * sv).val))), (5, .int (nI R)), (0, .int (nI x.val))]) hx hb dX5_inverse_38 rfl hl (by decide) rfl (fun ls hl => ?_)
          refine lv_iload hx hb dX5_inverse_39 (lv_at hl 2 rfl) ?_
          refine lv_iconst (v := nI 1) hx hb dX5_inverse_41 (by decide) ?_
          refine lv_ishr hx hb dX5_inverse_42 ?_
          rw [pk_shrN (n := R) (by omega) (nI 1 &&& 31) 1 (by decide)]
          refine lv_istore (lv' := [(5, .int (nI (R / 2 ^ 1))), (3, .long (lN ((sv * sv).val))), (1, .long (lN ((pv * sv).val))), (0, .int (nI x.val))]) hx hb dX5_inverse_43 hl (by decide) rfl (fun ls hl => ?_)
          refine lv_goto (tgt := 10) hx hb dX5_inverse_45 (by decide) ?_
          exact ih10 (R / 2 ^ 1) (pv * sv) (sv * sv) (by omega) (inv_s1 hi h20) (by omega) _ (lv_sub hl [0, 1, 2, 3] rfl)
  exact LP10 (65519 + 1) 65519 1 x (by decide) (inv_0 x) (Nat.lt_succ_self _) _ (lv_sub hl [0, 1, 2, 3] rfl)

theorem back_num (u w : Nat → FF) (i j : Nat) {xn : Nat} (h : xn ≤ 1) : (fi (nI (vN u i + vN w j * xn)).toInt).val = (u i + w j * ff xn).val := by
  have ha := (u i).isLt
  have hb := (w j).isLt
  have h2 : (w j).val * xn ≤ 65521 * 1 := mul_le3 (Nat.le_of_lt hb) h
  show (fi (nI ((u i).val + (w j).val * xn)).toInt).val = _
  rw [nI_toInt (by omega), fi_nat, ff_add, ff_mul, ff_of, ff_of]

set_option maxRecDepth 20000 in
theorem wd_X0_stepBack_0 : Cond.fieldLink RX0 22 "AffineHulls$Edge" "kind" "I" ∈ wsX0_stepBack := by decide +kernel
set_option maxRecDepth 20000 in
theorem in_X0_stepBack_X0 : ∀ w ∈ u_ws RX0 TX0 5, w ∈ wsX0_stepBack := by decide +kernel
set_option maxRecDepth 20000 in
theorem wd_X0_stepBack_2 : Cond.fieldLink RX0 25 "AffineHulls$Edge" "variable" "I" ∈ wsX0_stepBack := by decide +kernel
set_option maxRecDepth 20000 in
theorem wd_X0_stepBack_3 : Cond.initialized RX5 ∈ wsX0_stepBack := by decide +kernel
set_option maxRecDepth 20000 in
theorem wd_X0_stepBack_4 : Cond.static yX5_number ∈ wsX0_stepBack := by decide +kernel
set_option maxRecDepth 20000 in
theorem wd_X0_stepBack_5 : Cond.fieldLink RX0 9 "AffineHulls$Edge" "form" "[I" ∈ wsX0_stepBack := by decide +kernel
set_option maxRecDepth 20000 in
theorem wd_X0_stepBack_6 : Cond.static yX5_addMultiple ∈ wsX0_stepBack := by decide +kernel
abbrev rm_X0_stepBack : Room := { frames := 2, cells := 0, slots := 0, locals := 42 }
set_option maxHeartbeats 4000000 in
set_option maxRecDepth 100000 in
theorem c_X0_stepBack {l : Launch} {G : cx_G} {L : List Nat} {ad : Nat → Nat} {g : Nat → va_E} (hD : cx_D L ad) {k kf b n kd vr xn : Nat} {f w : Nat → FF} {fr0 to0 vz : Int32} (h1 : b ≠ k) (h2 : b ≠ kf) (hk : k ∈ L) (hkf : kf ∈ L) (hbm : b ∈ L) (hn : n < 1000) (hn0 : 0 < n) (hkd : kd < 1000) (hx1 : xn ≤ 1) (hv : kd = 1 ∨ kd = 2 → vz = nI vr ∧ vr < n) (c_o : g k = .inr (0, [.int fr0, .int to0, .int (nI kd), .int vz, .ref (ad kf)])) (c_f : g kf = nA G n (vN f)) (c_b : g b = nA G n (vN w)) : MV l yX0_stepBack wsX0_stepBack rm_X0_stepBack G L ad g [.ref (ad k), .ref (ad b), .int (nI xn)] (fun u => (∀ j : Nat, j ≠ b → u j = g j) ∧ u b = nA G n (vN (backF n kd vr f (ff xn) w))) := by
  refine cx_ofV (cc := cX0_stepBack) (maxL := 4) (by decide +kernel) rfl (Nat.le_of_ble_eq_true rfl) ?_
  intro p e s m args below meth c Q hx hb hts hown hml hP hK hS hz hret ls hl
  have hown : s.vm.findClass RX0 = some m.cls := hown
  have hl : lv_has ls 4 [(0, .ref (ad k)), (1, .ref (ad b)), (2, .int (nI xn))] := hl
  have fr : ∀ j : Nat, j ≠ b → g j = g j := fun _ _ => rfl
  refine lv_aload_n hx hb dX0_stepBack_0 rfl (lv_at hl 0 rfl) ?_
  refine ax_get (k := k) (v := .int (nI kd)) hx hb hts in_X0_stepBack_X0 hown hK hP hk c_o rfl 2 (by decide) (hts _ wd_X0_stepBack_0) (fun _ h9 => h9) rfl dX0_stepBack_1 ?_
  refine lv_iconst (v := nI 1) hx hb dX0_stepBack_4 (by decide) ?_
  refine ax_iceq (a := kd) (b := 1) (tgt := 17) hx hb dX0_stepBack_5 (by decide) (by omega) (by omega) (fun h5 => ?_) (fun h5 => ?_)
  · skip
    refine lv_aload_n hx hb dX0_stepBack_17 rfl (lv_at hl 1 rfl) ?_
    refine lv_aload_n hx hb dX0_stepBack_18 rfl (lv_at hl 0 rfl) ?_
    refine ax_get (k := k) (v := .int vz) hx hb hts in_X0_stepBack_X0 hown hK hP hk c_o rfl 3 (by decide) (hts _ wd_X0_stepBack_2) (fun _ h9 => h9) rfl dX0_stepBack_19 ?_
    obtain ⟨ev, hvn⟩ := hv (by omega)
    rw [ev]
    refine ax_iald (k := b) (i := vr) (v := nI ((vN w) vr)) hx hb hK hP hbm c_b (by omega) (by omega) rfl dX0_stepBack_22 ?_
    refine lv_istore_n (lv' := [(3, .int (nI ((vN w) vr))), (0, .ref (ad k)), (1, .ref (ad b)), (2, .int (nI xn))]) hx hb dX0_stepBack_23 rfl hl (by decide) rfl (fun ls hl => ?_)
    refine lv_aload_n hx hb dX0_stepBack_24 rfl (lv_at hl 2 rfl) ?_
    refine lv_aload_n hx hb dX0_stepBack_25 rfl (lv_at hl 1 rfl) ?_
    refine ax_get (k := k) (v := .int vz) hx hb hts in_X0_stepBack_X0 hown hK hP hk c_o rfl 3 (by decide) (hts _ wd_X0_stepBack_2) (fun _ h9 => h9) rfl dX0_stepBack_26 ?_
    obtain ⟨ev, hvn⟩ := hv (by omega)
    rw [ev]
    refine lv_iconst (v := nI 0) hx hb dX0_stepBack_29 (by decide) ?_
    refine ax_iast (k := b) (i := vr) (f' := (fun j => nI ((nu (vN w) vr 0) j))) hx hb hK hP hD hS hbm c_b (by omega) (by omega) (up_n _ _ _) dX0_stepBack_30 (fun H locs g1 eg1 hP hS => ?_)
    have c_o : g1 k = .inr (0, [.int fr0, .int to0, .int (nI kd), .int vz, .ref (ad kf)]) := (cx_ne eg1 k (by omega)).trans c_o
    have c_f : g1 kf = nA G n (vN f) := (cx_ne eg1 kf (by omega)).trans c_f
    have c_b : g1 b = nA G n (nu (vN w) vr 0) := cx_eq eg1
    have fr : ∀ j : Nat, j ≠ b → g1 j = g j := fun j hj => (cx_ne eg1 j (by omega)).trans (fr j hj)
    have c_b : g1 b = nA G n (vN (nu w vr 0)) := by rw [← vN_nu]; exact c_b
    refine lv_aload_n hx hb dX0_stepBack_31 rfl (lv_at hl 1 rfl) ?_
    refine ax_get (k := k) (v := .int (nI kd)) hx hb hts in_X0_stepBack_X0 hown hK hP hk c_o rfl 2 (by decide) (hts _ wd_X0_stepBack_0) (fun _ h9 => h9) rfl dX0_stepBack_32 ?_
    refine lv_iconst (v := nI 1) hx hb dX0_stepBack_35 (by decide) ?_
    refine ax_icne (a := kd) (b := 1) (tgt := 51) hx hb dX0_stepBack_36 (by decide) (by omega) (by omega) (fun h36 => ?_) (fun h36 => ?_)
    · skip
      refine lv_aload_n hx hb dX0_stepBack_51 rfl (lv_at hl 2 rfl) ?_
      refine lv_iconst (v := nI 0) hx hb dX0_stepBack_52 (by decide) ?_
      refine lv_aload_n hx hb dX0_stepBack_53 rfl (lv_at hl 2 rfl) ?_
      refine lv_iconst (v := nI 0) hx hb dX0_stepBack_54 (by decide) ?_
      refine ax_iald (k := b) (i := 0) (v := nI ((vN (nu w vr 0)) 0)) hx hb hK hP hbm c_b (by omega) (by omega) rfl dX0_stepBack_55 ?_
      refine lv_iload_n hx hb dX0_stepBack_56 rfl (lv_at hl 0 rfl) ?_
      refine lv_iload_n hx hb dX0_stepBack_57 rfl (lv_at hl 3 rfl) ?_
      refine ax_mul (a := (vN w) vr) (b := xn) hx hb dX0_stepBack_58 ?_
      refine ax_add (a := (vN (nu w vr 0)) 0) (b := ((vN w) vr) * xn) hx hb dX0_stepBack_59 ?_
      refine cx_SNi (As := [.int (nI ((vN (nu w vr 0)) 0 + (((vN w) vr) * xn)))]) (rest := [.int (nI 0), .ref (ad b)]) ⟨hx, hb, hml, hown, hts⟩ (c_X5_number hD (x := nI ((vN (nu w vr 0)) 0 + (((vN w) vr) * xn)))) ⟨va_cnB 1 hts gX0_stepBack_X5_number_n40 rfl rfl rfl (hK.2 (.methodLinkNest RX0 40 yX5_number RX5) (by decide +kernel)) (hts _ wd_X0_stepBack_3) (by decide +kernel) ⟨Nat.le_of_ble_eq_true rfl, Nat.le_of_ble_eq_true rfl⟩, hts _ wd_X0_stepBack_4, trivial⟩ hK hP hS hz ⟨Nat.zero_le _, Nat.zero_le _⟩ rfl hl.1 rfl (Nat.le_of_ble_eq_true rfl) dX0_stepBack_60 (fun r2 g2 H locs hp2 hP hS => ?_)
      obtain ⟨er2, ehp2g⟩ := hp2
      rw [ehp2g] at hP
      rw [er2]
      rw [back_num (nu w vr 0) w 0 vr hx1]
      refine ax_iast (k := b) (i := 0) (f' := (fun j => nI ((nu (vN (nu w vr 0)) 0 ((nu w vr 0 0 + w vr * ff xn).val)) j))) hx hb hK hP hD hS hbm c_b (by omega) (by omega) (up_n _ _ _) dX0_stepBack_63 (fun H locs g3 eg3 hP hS => ?_)
      have c_o : g3 k = .inr (0, [.int fr0, .int to0, .int (nI kd), .int vz, .ref (ad kf)]) := (cx_ne eg3 k (by omega)).trans c_o
      have c_f : g3 kf = nA G n (vN f) := (cx_ne eg3 kf (by omega)).trans c_f
      have c_b : g3 b = nA G n (nu (vN (nu w vr 0)) 0 ((nu w vr 0 0 + w vr * ff xn).val)) := cx_eq eg3
      have fr : ∀ j : Nat, j ≠ b → g3 j = g j := fun j hj => (cx_ne eg3 j (by omega)).trans (fr j hj)
      exact hret g3 _ _ _ _ ⟨fr, by rw [c_b, vN_nu]; unfold backF; rw [if_neg h36, if_pos (by omega)]⟩ hP hS dX0_stepBack_64
    · skip
      refine lv_aload_n hx hb dX0_stepBack_39 rfl (lv_at hl 2 rfl) ?_
      refine lv_iload_n hx hb dX0_stepBack_40 rfl (lv_at hl 0 rfl) ?_
      refine lv_aload_n hx hb dX0_stepBack_41 rfl (lv_at hl 1 rfl) ?_
      refine ax_get (k := k) (v := .ref (ad kf)) hx hb hts in_X0_stepBack_X0 hown hK hP hk c_o rfl 4 (by decide) (hts _ wd_X0_stepBack_5) (fun _ h9 => h9) rfl dX0_stepBack_42 ?_
      refine cx_SNv (As := [.ref (ad b), .int (nI ((vN w) vr)), .ref (ad kf)]) (rest := []) ⟨hx, hb, hml, hown, hts⟩ (c_X5_addMultiple hD (a := b) (b := kf) (n := n) (f := vN w vr) (v := nu w vr 0) (w := f) (cf := w vr) h2 hbm hkf hn (Nat.le_of_lt (vN_lt w vr)) (ff_of _) c_b c_f) ⟨va_cnB 3 hts gX0_stepBack_X5_addMultiple_n36 rfl rfl rfl (hK.2 (.methodLinkNest RX0 36 yX5_addMultiple RX5) (by decide +kernel)) (hts _ wd_X0_stepBack_3) (by decide +kernel) ⟨Nat.le_of_ble_eq_true rfl, Nat.le_of_ble_eq_true rfl⟩, hts _ wd_X0_stepBack_6, trivial⟩ hK hP hS hz ⟨Nat.zero_le _, Nat.zero_le _⟩ rfl hl.1 rfl (Nat.le_of_ble_eq_true rfl) dX0_stepBack_45 (fun g4 H locs hp4 hP hS => ?_)
      obtain ⟨hp4a, hp4b⟩ := hp4
      have c_o : g4 k = .inr (0, [.int fr0, .int to0, .int (nI kd), .int vz, .ref (ad kf)]) := (hp4a k (by omega)).trans c_o
      have c_f : g4 kf = nA G n (vN f) := (hp4a kf (by omega)).trans c_f
      have fr : ∀ j : Nat, j ≠ b → g4 j = g j := fun j hj => (hp4a j (by omega)).trans (fr j hj)
      have c_b := hp4b
      refine lv_goto (tgt := 64) hx hb dX0_stepBack_48 (by decide) ?_
      exact hret g4 _ _ _ _ ⟨fr, by rw [c_b]; unfold backF; rw [if_pos h36]⟩ hP hS dX0_stepBack_64
  · skip
    refine lv_aload_n hx hb dX0_stepBack_8 rfl (lv_at hl 0 rfl) ?_
    refine ax_get (k := k) (v := .int (nI kd)) hx hb hts in_X0_stepBack_X0 hown hK hP hk c_o rfl 2 (by decide) (hts _ wd_X0_stepBack_0) (fun _ h9 => h9) rfl dX0_stepBack_9 ?_
    refine lv_iconst (v := nI 2) hx hb dX0_stepBack_12 (by decide) ?_
    refine ax_iceq (a := kd) (b := 2) (tgt := 17) hx hb dX0_stepBack_13 (by decide) (by omega) (by omega) (fun h13 => ?_) (fun h13 => ?_)
    · skip
      refine lv_aload_n hx hb dX0_stepBack_17 rfl (lv_at hl 1 rfl) ?_
      refine lv_aload_n hx hb dX0_stepBack_18 rfl (lv_at hl 0 rfl) ?_
      refine ax_get (k := k) (v := .int vz) hx hb hts in_X0_stepBack_X0 hown hK hP hk c_o rfl 3 (by decide) (hts _ wd_X0_stepBack_2) (fun _ h9 => h9) rfl dX0_stepBack_19 ?_
      obtain ⟨ev, hvn⟩ := hv (by omega)
      rw [ev]
      refine ax_iald (k := b) (i := vr) (v := nI ((vN w) vr)) hx hb hK hP hbm c_b (by omega) (by omega) rfl dX0_stepBack_22 ?_
      refine lv_istore_n (lv' := [(3, .int (nI ((vN w) vr))), (0, .ref (ad k)), (1, .ref (ad b)), (2, .int (nI xn))]) hx hb dX0_stepBack_23 rfl hl (by decide) rfl (fun ls hl => ?_)
      refine lv_aload_n hx hb dX0_stepBack_24 rfl (lv_at hl 2 rfl) ?_
      refine lv_aload_n hx hb dX0_stepBack_25 rfl (lv_at hl 1 rfl) ?_
      refine ax_get (k := k) (v := .int vz) hx hb hts in_X0_stepBack_X0 hown hK hP hk c_o rfl 3 (by decide) (hts _ wd_X0_stepBack_2) (fun _ h9 => h9) rfl dX0_stepBack_26 ?_
      obtain ⟨ev, hvn⟩ := hv (by omega)
      rw [ev]
      refine lv_iconst (v := nI 0) hx hb dX0_stepBack_29 (by decide) ?_
      refine ax_iast (k := b) (i := vr) (f' := (fun j => nI ((nu (vN w) vr 0) j))) hx hb hK hP hD hS hbm c_b (by omega) (by omega) (up_n _ _ _) dX0_stepBack_30 (fun H locs g5 eg5 hP hS => ?_)
      have c_o : g5 k = .inr (0, [.int fr0, .int to0, .int (nI kd), .int vz, .ref (ad kf)]) := (cx_ne eg5 k (by omega)).trans c_o
      have c_f : g5 kf = nA G n (vN f) := (cx_ne eg5 kf (by omega)).trans c_f
      have c_b : g5 b = nA G n (nu (vN w) vr 0) := cx_eq eg5
      have fr : ∀ j : Nat, j ≠ b → g5 j = g j := fun j hj => (cx_ne eg5 j (by omega)).trans (fr j hj)
      have c_b : g5 b = nA G n (vN (nu w vr 0)) := by rw [← vN_nu]; exact c_b
      refine lv_aload_n hx hb dX0_stepBack_31 rfl (lv_at hl 1 rfl) ?_
      refine ax_get (k := k) (v := .int (nI kd)) hx hb hts in_X0_stepBack_X0 hown hK hP hk c_o rfl 2 (by decide) (hts _ wd_X0_stepBack_0) (fun _ h9 => h9) rfl dX0_stepBack_32 ?_
      refine lv_iconst (v := nI 1) hx hb dX0_stepBack_35 (by decide) ?_
      refine ax_icne (a := kd) (b := 1) (tgt := 51) hx hb dX0_stepBack_36 (by decide) (by omega) (by omega) (fun h36 => ?_) (fun h36 => ?_)
      · skip
        refine lv_aload_n hx hb dX0_stepBack_51 rfl (lv_at hl 2 rfl) ?_
        refine lv_iconst (v := nI 0) hx hb dX0_stepBack_52 (by decide) ?_
        refine lv_aload_n hx hb dX0_stepBack_53 rfl (lv_at hl 2 rfl) ?_
        refine lv_iconst (v := nI 0) hx hb dX0_stepBack_54 (by decide) ?_
        refine ax_iald (k := b) (i := 0) (v := nI ((vN (nu w vr 0)) 0)) hx hb hK hP hbm c_b (by omega) (by omega) rfl dX0_stepBack_55 ?_
        refine lv_iload_n hx hb dX0_stepBack_56 rfl (lv_at hl 0 rfl) ?_
        refine lv_iload_n hx hb dX0_stepBack_57 rfl (lv_at hl 3 rfl) ?_
        refine ax_mul (a := (vN w) vr) (b := xn) hx hb dX0_stepBack_58 ?_
        refine ax_add (a := (vN (nu w vr 0)) 0) (b := ((vN w) vr) * xn) hx hb dX0_stepBack_59 ?_
        refine cx_SNi (As := [.int (nI ((vN (nu w vr 0)) 0 + (((vN w) vr) * xn)))]) (rest := [.int (nI 0), .ref (ad b)]) ⟨hx, hb, hml, hown, hts⟩ (c_X5_number hD (x := nI ((vN (nu w vr 0)) 0 + (((vN w) vr) * xn)))) ⟨va_cnB 1 hts gX0_stepBack_X5_number_n40 rfl rfl rfl (hK.2 (.methodLinkNest RX0 40 yX5_number RX5) (by decide +kernel)) (hts _ wd_X0_stepBack_3) (by decide +kernel) ⟨Nat.le_of_ble_eq_true rfl, Nat.le_of_ble_eq_true rfl⟩, hts _ wd_X0_stepBack_4, trivial⟩ hK hP hS hz ⟨Nat.zero_le _, Nat.zero_le _⟩ rfl hl.1 rfl (Nat.le_of_ble_eq_true rfl) dX0_stepBack_60 (fun r6 g6 H locs hp6 hP hS => ?_)
        obtain ⟨er6, ehp6g⟩ := hp6
        rw [ehp6g] at hP
        rw [er6]
        rw [back_num (nu w vr 0) w 0 vr hx1]
        refine ax_iast (k := b) (i := 0) (f' := (fun j => nI ((nu (vN (nu w vr 0)) 0 ((nu w vr 0 0 + w vr * ff xn).val)) j))) hx hb hK hP hD hS hbm c_b (by omega) (by omega) (up_n _ _ _) dX0_stepBack_63 (fun H locs g7 eg7 hP hS => ?_)
        have c_o : g7 k = .inr (0, [.int fr0, .int to0, .int (nI kd), .int vz, .ref (ad kf)]) := (cx_ne eg7 k (by omega)).trans c_o
        have c_f : g7 kf = nA G n (vN f) := (cx_ne eg7 kf (by omega)).trans c_f
        have c_b : g7 b = nA G n (nu (vN (nu w vr 0)) 0 ((nu w vr 0 0 + w vr * ff xn).val)) := cx_eq eg7
        have fr : ∀ j : Nat, j ≠ b → g7 j = g j := fun j hj => (cx_ne eg7 j (by omega)).trans (fr j hj)
        exact hret g7 _ _ _ _ ⟨fr, by rw [c_b, vN_nu]; unfold backF; rw [if_neg h36, if_pos (by omega)]⟩ hP hS dX0_stepBack_64
      · skip
        refine lv_aload_n hx hb dX0_stepBack_39 rfl (lv_at hl 2 rfl) ?_
        refine lv_iload_n hx hb dX0_stepBack_40 rfl (lv_at hl 0 rfl) ?_
        refine lv_aload_n hx hb dX0_stepBack_41 rfl (lv_at hl 1 rfl) ?_
        refine ax_get (k := k) (v := .ref (ad kf)) hx hb hts in_X0_stepBack_X0 hown hK hP hk c_o rfl 4 (by decide) (hts _ wd_X0_stepBack_5) (fun _ h9 => h9) rfl dX0_stepBack_42 ?_
        refine cx_SNv (As := [.ref (ad b), .int (nI ((vN w) vr)), .ref (ad kf)]) (rest := []) ⟨hx, hb, hml, hown, hts⟩ (c_X5_addMultiple hD (a := b) (b := kf) (n := n) (f := vN w vr) (v := nu w vr 0) (w := f) (cf := w vr) h2 hbm hkf hn (Nat.le_of_lt (vN_lt w vr)) (ff_of _) c_b c_f) ⟨va_cnB 3 hts gX0_stepBack_X5_addMultiple_n36 rfl rfl rfl (hK.2 (.methodLinkNest RX0 36 yX5_addMultiple RX5) (by decide +kernel)) (hts _ wd_X0_stepBack_3) (by decide +kernel) ⟨Nat.le_of_ble_eq_true rfl, Nat.le_of_ble_eq_true rfl⟩, hts _ wd_X0_stepBack_6, trivial⟩ hK hP hS hz ⟨Nat.zero_le _, Nat.zero_le _⟩ rfl hl.1 rfl (Nat.le_of_ble_eq_true rfl) dX0_stepBack_45 (fun g8 H locs hp8 hP hS => ?_)
        obtain ⟨hp8a, hp8b⟩ := hp8
        have c_o : g8 k = .inr (0, [.int fr0, .int to0, .int (nI kd), .int vz, .ref (ad kf)]) := (hp8a k (by omega)).trans c_o
        have c_f : g8 kf = nA G n (vN f) := (hp8a kf (by omega)).trans c_f
        have fr : ∀ j : Nat, j ≠ b → g8 j = g j := fun j hj => (hp8a j (by omega)).trans (fr j hj)
        have c_b := hp8b
        refine lv_goto (tgt := 64) hx hb dX0_stepBack_48 (by decide) ?_
        exact hret g8 _ _ _ _ ⟨fr, by rw [c_b]; unfold backF; rw [if_pos h36]⟩ hP hS dX0_stepBack_64
    · skip
      exact hret g _ _ _ _ ⟨fr, by rw [c_b]; unfold backF; rw [if_neg h5, if_neg h13]⟩ hP hS dX0_stepBack_16
