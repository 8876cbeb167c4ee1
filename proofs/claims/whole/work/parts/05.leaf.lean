theorem am_step {r v w : Nat → FF} {k f : Nat} (hr : ∀ j : Nat, r j = if j < k then v j + ff f * w j else v j) : ∀ j : Nat, nu r k (r k + ff f * w k) j = if j < k + 1 then v j + ff f * w j else v j := by
  intro j
  have hk := hr k
  rw [if_neg (Nat.lt_irrefl k)] at hk
  by_cases h : j = k
  · subst h
    rw [nu_s, if_pos (Nat.lt_succ_self j), hk]
  · rw [nu_n h, hr j]
    by_cases h2 : j < k
    · rw [if_pos h2, if_pos (by omega)]
    · rw [if_neg h2, if_neg (by omega)]

set_option maxRecDepth 20000 in
theorem wd_X5_addMultiple_0 : Cond.constantLong RX5 275 (65521) ∈ wsX5_addMultiple := by decide +kernel
abbrev rm_X5_addMultiple : Room := { frames := 0, cells := 0, slots := 0, locals := 0 }
set_option maxHeartbeats 4000000 in
set_option maxRecDepth 100000 in
theorem c_X5_addMultiple {l : Launch} {G : cx_G} {L : List Nat} {ad : Nat → Nat} {g : Nat → va_E} (hD : cx_D L ad) {a b n f : Nat} {v w : Nat → FF} (hab : a ≠ b) (ha : a ∈ L) (hb2 : b ∈ L) (hn : n < 1000) (hf : f ≤ 65521) (c_a : g a = nA G n (vN v)) (c_b : g b = nA G n (vN w)) : MV l yX5_addMultiple wsX5_addMultiple rm_X5_addMultiple G L ad g [.ref (ad a), .int (nI f), .ref (ad b)] (fun u => (∀ j : Nat, j ≠ a → u j = g j) ∧ u a = nA G n (vN (fun j => if j < n then v j + ff f * w j else v j))) := by
  refine cx_ofV (cc := cX5_addMultiple) (maxL := 4) (by decide) rfl (Nat.le_of_ble_eq_true rfl) ?_
  intro p e s m args below meth c Q hx hb hts hown hml hP hK hS hz hret ls hl
  have hown : s.vm.findClass RX5 = some m.cls := hown
  have hl : lv_has ls 4 [(0, .ref (ad a)), (1, .int (nI f)), (2, .ref (ad b))] := hl
  have fr : ∀ j : Nat, j ≠ a → g j = g j := fun _ _ => rfl
  refine lv_iconst (v := nI 0) hx hb dX5_addMultiple_0 (by decide) ?_
  refine lv_istore_n (lv' := [(3, .int (nI 0)), (0, .ref (ad a)), (1, .int (nI f)), (2, .ref (ad b))]) hx hb dX5_addMultiple_1 rfl hl (by decide) rfl (fun ls hl => ?_)
  have LP2 : ∀ (fu : Nat) (k : Nat) (r : Nat → FF), (k ≤ n) → (∀ j : Nat, r j = if j < k then v j + ff f * w j else v j) → (n - k) < fu → ∀ (ga1 : Nat → va_E) (H : Heap) (locs : List Loc) (ls : Array Slot), (ga1 a = nA G n (vN r)) → (ga1 b = nA G n (vN w)) → (∀ j : Nat, j ≠ a → ga1 j = g j) → va_P G.1 vwCl (wl L ad ga1) H → va_S (cx_A L ad s.heap.size) s.heap H locs → lv_has ls 4 [(3, .int (nI k)), (0, .ref (ad a)), (1, .int (nI f)), (2, .ref (ad b))] → W p l e rm_X5_addMultiple s m args below meth c H locs 0 0 Q (F0 m 2 ls []) := by
    intro fu
    induction fu with
    | zero => intro k r hkn hr hfu; exact absurd hfu (Nat.not_lt_zero _)
    | succ fu ih2 =>
      intro k r hkn hr hfu2 ga1 H locs ls c_a c_b fr hP hS hl
      refine lv_iload_n hx hb dX5_addMultiple_2 rfl (lv_at hl 0 rfl) ?_
      refine lv_aload_n hx hb dX5_addMultiple_3 rfl (lv_at hl 1 rfl) ?_
      refine ax_alen (k := a) (n := n) hx hb hK hP ha 0 rfl c_a rfl dX5_addMultiple_4 ?_
      refine ax_icge (a := k) (b := n) (tgt := 34) hx hb dX5_addMultiple_5 (by decide) (by omega) (by omega) (fun h5 => ?_) (fun h5 => ?_)
      · skip
        exact hret ga1 _ _ _ _ ⟨fr, by rw [c_a, show r = (fun j => if j < n then v j + ff f * w j else v j) from funext fun j => by rw [hr j, show k = n by omega]]⟩ hP hS dX5_addMultiple_34
      · skip
        have b1 := vN_lt r k
        have b2 := vN_lt w k
        have b3 : f * vN w k ≤ 65521 * 65521 := mul_le3 hf (Nat.le_of_lt b2)
        refine lv_aload_n hx hb dX5_addMultiple_8 rfl (lv_at hl 1 rfl) ?_
        refine lv_iload_n hx hb dX5_addMultiple_9 rfl (lv_at hl 0 rfl) ?_
        refine lv_aload_n hx hb dX5_addMultiple_10 rfl (lv_at hl 1 rfl) ?_
        refine lv_iload_n hx hb dX5_addMultiple_11 rfl (lv_at hl 0 rfl) ?_
        refine ax_iald (k := a) (i := k) (v := nI ((vN r) k)) hx hb hK hP ha c_a (by omega) (by omega) rfl dX5_addMultiple_12 ?_
        refine ax_i2l (a := (vN r) k) hx hb dX5_addMultiple_13 (by omega) ?_
        refine lv_iload_n hx hb dX5_addMultiple_14 rfl (lv_at hl 2 rfl) ?_
        refine ax_i2l (a := f) hx hb dX5_addMultiple_15 (by omega) ?_
        refine lv_aload_n hx hb dX5_addMultiple_16 rfl (lv_at hl 3 rfl) ?_
        refine lv_iload_n hx hb dX5_addMultiple_17 rfl (lv_at hl 0 rfl) ?_
        refine ax_iald (k := b) (i := k) (v := nI ((vN w) k)) hx hb hK hP hb2 c_b (by omega) (by omega) rfl dX5_addMultiple_18 ?_
        refine ax_i2l (a := (vN w) k) hx hb dX5_addMultiple_19 (by omega) ?_
        refine ax_lmul (a := f) (b := (vN w) k) hx hb dX5_addMultiple_20 ?_
        refine ax_ladd (a := (vN r) k) (b := f * ((vN w) k)) hx hb dX5_addMultiple_21 ?_
        refine lv_ldc2 (v := 65521) hx hb hown (hts _ wd_X5_addMultiple_0) dX5_addMultiple_22 ?_
        refine ax_lremM (a := (vN r) k + (f * ((vN w) k))) hx hb dX5_addMultiple_25 (by omega) ?_
        refine ax_l2i (a := ((vN r) k + (f * ((vN w) k))) % 65521) hx hb dX5_addMultiple_26 ?_
        rw [show (vN r k + f * vN w k) % 65521 = (r k + ff f * w k).val from ff_lin _ _ _]
        refine ax_iast (k := a) (i := k) (f' := (fun j => nI ((nu (vN r) k ((r k + ff f * w k).val)) j))) hx hb hK hP hD hS ha c_a (by omega) (by omega) (up_n _ _ _) dX5_addMultiple_27 (fun H locs g2 eg2 hP hS => ?_)
        have c_b : g2 b = nA G n (vN w) := (cx_ne eg2 b (by omega)).trans c_b
        have c_a : g2 a = nA G n (nu (vN r) k ((r k + ff f * w k).val)) := cx_eq eg2
        have fr : ∀ j : Nat, j ≠ a → g2 j = g j := fun j hj => (cx_ne eg2 j (by omega)).trans (fr j hj)
        have c_a : g2 a = nA G n (vN (nu r k (r k + ff f * w k))) := by rw [← vN_nu]; exact c_a
        refine lv_iinc (v := nI (k + 1)) (lv' := [(3, .int (nI (k + 1))), (0, .ref (ad a)), (1, .int (nI f)), (2, .ref (ad b))]) hx hb dX5_addMultiple_28 hl (k := 0) rfl (nI_1 _) (by decide) rfl (fun ls hl => ?_)
        refine lv_goto (tgt := 2) hx hb dX5_addMultiple_31 (by decide) ?_
        exact ih2 (k + 1) (nu r k (r k + ff f * w k)) h5 (am_step hr) (by omega) g2 _ _ _ c_a c_b fr hP hS (lv_sub hl [0, 1, 2, 3] rfl)
  exact LP2 ((n - 0) + 1) 0 v (Nat.zero_le n) (fun j => (if_neg (Nat.not_lt_zero j)).symm) (Nat.lt_succ_self _) g _ _ _ c_a c_b fr hP hS (lv_sub hl [0, 1, 2, 3] rfl)
