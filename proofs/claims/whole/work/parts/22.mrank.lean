/-! THE MODEL: small methods, rank -/
set_option maxRecDepth 20000 in
theorem wd_X6_thrown_0 : Cond.fieldLink RX6 74 "AffineHullsModel" "thrown" "I" ∈ wsX6_thrown := by decide +kernel
set_option maxRecDepth 20000 in
theorem in_X6_thrown_X6 : ∀ w ∈ u_ws RX6 TX6 29, w ∈ wsX6_thrown := by decide +kernel
abbrev rm_X6_thrown : Room := { frames := 0, cells := 0, slots := 0, locals := 0 }
set_option maxHeartbeats 4000000 in
set_option maxRecDepth 100000 in
theorem c_X6_thrown {l : Launch} {G : cx_G} {L : List Nat} {ad : Nat → Nat} {g : Nat → va_E} (hD : cx_D L ad) {N V th ec en al pl nc sz : Nat} {an : Bool} (hN1 : 1 ≤ N) (hN : N ≤ 8) (hV1 : 1 ≤ V) (hV : V ≤ 4) (hq : ∀ j : Nat, lbM j = true → j ∈ L) (c_o : g 1000 = .inr (6, [.int (nI N), .int (nI V), .int (nI th), .ref (ad 1003), .int (nI ec), .ref (ad 1005), .ref (ad 1006), .ref (ad 1007), .ref (ad 1008), .ref (ad 1009), .int (nI en), .int (if an = true then 1 else 0), .ref (ad 1012), .ref (ad 1013), .ref (ad 1014), .int (nI al), .ref (ad 1016), .ref (ad 1017), .ref (ad 1018), .ref (ad 1019), .int (nI pl), .ref (ad 1021), .int (nI nc), .ref (ad 1023), .ref (ad 1024), .int (nI sz), .ref (ad 1026), .ref (ad 1027), .ref (ad 1028)])) : MI l yX6_thrown wsX6_thrown rm_X6_thrown G L ad g [.ref (ad 1000)] (fun r u => r = nI th ∧ u = g) := by
  refine cx_ofI (cc := cX6_thrown) (maxL := 1) (by decide +kernel) rfl (Nat.le_of_ble_eq_true rfl) ?_
  intro p e s m args below meth c Q hx hb hts hown hml hP hK hS hz hret ls hl
  have hown : s.vm.findClass RX6 = some m.cls := hown
  have hl : lv_has ls 1 [(0, .ref (ad 1000))] := hl
  refine lv_aload_n hx hb dX6_thrown_0 rfl (lv_at hl 0 rfl) ?_
  refine ax_get (k := 1000) (v := .int (nI th)) hx hb hts in_X6_thrown_X6 hown hK hP (hq _ (by decide)) c_o rfl 2 (by decide) (hts _ wd_X6_thrown_0) (fun _ h9 => h9) rfl dX6_thrown_1 ?_
  exact hret (nI th) g _ _ _ _ rfl ⟨rfl, rfl⟩ hP hS dX6_thrown_4

set_option maxRecDepth 20000 in
theorem wd_X6_clearDraft_0 : Cond.fieldLink RX6 7 "AffineHullsModel" "draft" "[I" ∈ wsX6_clearDraft := by decide +kernel
set_option maxRecDepth 20000 in
theorem in_X6_clearDraft_X6 : ∀ w ∈ u_ws RX6 TX6 29, w ∈ wsX6_clearDraft := by decide +kernel
abbrev rm_X6_clearDraft : Room := { frames := 0, cells := 0, slots := 0, locals := 0 }
set_option maxHeartbeats 4000000 in
set_option maxRecDepth 100000 in
theorem c_X6_clearDraft {l : Launch} {G : cx_G} {L : List Nat} {ad : Nat → Nat} {g : Nat → va_E} (hD : cx_D L ad) {N V th ec en al pl nc sz : Nat} {an : Bool} {d : Nat → FF} (hN1 : 1 ≤ N) (hN : N ≤ 8) (hV1 : 1 ≤ V) (hV : V ≤ 4) (hq : ∀ j : Nat, lbM j = true → j ∈ L) (c_o : g 1000 = .inr (6, [.int (nI N), .int (nI V), .int (nI th), .ref (ad 1003), .int (nI ec), .ref (ad 1005), .ref (ad 1006), .ref (ad 1007), .ref (ad 1008), .ref (ad 1009), .int (nI en), .int (if an = true then 1 else 0), .ref (ad 1012), .ref (ad 1013), .ref (ad 1014), .int (nI al), .ref (ad 1016), .ref (ad 1017), .ref (ad 1018), .ref (ad 1019), .int (nI pl), .ref (ad 1021), .int (nI nc), .ref (ad 1023), .ref (ad 1024), .int (nI sz), .ref (ad 1026), .ref (ad 1027), .ref (ad 1028)])) (c_d : g 1003 = nA G 5 (vN d)) (hd : Zb (V + 1) d) : MV l yX6_clearDraft wsX6_clearDraft rm_X6_clearDraft G L ad g [.ref (ad 1000)] (fun u => (∀ j : Nat, j ≠ 1003 → u j = g j) ∧ u 1003 = nA G 5 (vN (fun _ => 0))) := by
  refine cx_ofV (cc := cX6_clearDraft) (maxL := 2) (by decide +kernel) rfl (Nat.le_of_ble_eq_true rfl) ?_
  intro p e s m args below meth c Q hx hb hts hown hml hP hK hS hz hret ls hl
  have hown : s.vm.findClass RX6 = some m.cls := hown
  have hl : lv_has ls 2 [(0, .ref (ad 1000))] := hl
  have fr : ∀ j : Nat, j ≠ 1003 → g j = g j := fun _ _ => rfl
  refine lv_iconst (v := nI 0) hx hb dX6_clearDraft_0 (by decide) ?_
  refine lv_istore_n (lv' := [(1, .int (nI 0)), (0, .ref (ad 1000))]) hx hb dX6_clearDraft_1 rfl hl (by decide) rfl (fun ls hl => ?_)
  have LP2 : ∀ (fu : Nat) (k : Nat) (r : Nat → FF), (k ≤ 5) → (∀ j : Nat, r j = if j < k then 0 else d j) → (5 - k) < fu → ∀ (ga1 : Nat → va_E) (H : Heap) (locs : List Loc) (ls : Array Slot), (ga1 1000 = .inr (6, [.int (nI N), .int (nI V), .int (nI th), .ref (ad 1003), .int (nI ec), .ref (ad 1005), .ref (ad 1006), .ref (ad 1007), .ref (ad 1008), .ref (ad 1009), .int (nI en), .int (if an = true then 1 else 0), .ref (ad 1012), .ref (ad 1013), .ref (ad 1014), .int (nI al), .ref (ad 1016), .ref (ad 1017), .ref (ad 1018), .ref (ad 1019), .int (nI pl), .ref (ad 1021), .int (nI nc), .ref (ad 1023), .ref (ad 1024), .int (nI sz), .ref (ad 1026), .ref (ad 1027), .ref (ad 1028)])) → (ga1 1003 = nA G 5 (vN r)) → (∀ j : Nat, j ≠ 1003 → ga1 j = g j) → va_P G.1 vwCl (wl L ad ga1) H → va_S (cx_A L ad s.heap.size) s.heap H locs → lv_has ls 2 [(1, .int (nI k)), (0, .ref (ad 1000))] → W p l e rm_X6_clearDraft s m args below meth c H locs 0 0 Q (F0 m 2 ls []) := by
    intro fu
    induction fu with
    | zero => intro k r hkn hr hfu; exact absurd hfu (Nat.not_lt_zero _)
    | succ fu ih2 =>
      intro k r hkn hr hfu2 ga1 H locs ls c_o c_d fr hP hS hl
      refine lv_iload_n hx hb dX6_clearDraft_2 rfl (lv_at hl 0 rfl) ?_
      refine lv_iconst (v := nI 5) hx hb dX6_clearDraft_3 (by decide) ?_
      refine ax_icge (a := k) (b := 5) (tgt := 20) hx hb dX6_clearDraft_4 (by decide) (by omega) (by omega) (fun h4 => ?_) (fun h4 => ?_)
      · skip
        exact hret ga1 _ _ _ _ ⟨fr, by rw [c_d, cp_done h4 (Zb.five hd hV) (Zb.zero 5) hr]⟩ hP hS dX6_clearDraft_20
      · skip
        refine lv_aload_n hx hb dX6_clearDraft_7 rfl (lv_at hl 1 rfl) ?_
        refine ax_get (k := 1000) (v := .ref (ad 1003)) hx hb hts in_X6_clearDraft_X6 hown hK hP (hq _ (by decide)) c_o rfl 3 (by decide) (hts _ wd_X6_clearDraft_0) (fun _ h9 => h9) rfl dX6_clearDraft_8 ?_
        refine lv_iload_n hx hb dX6_clearDraft_11 rfl (lv_at hl 0 rfl) ?_
        refine lv_iconst (v := nI 0) hx hb dX6_clearDraft_12 (by decide) ?_
        refine ax_iast (k := 1003) (i := k) (f' := (fun j => nI ((nu (vN r) k 0) j))) hx hb hK hP hD hS (hq _ (by decide)) c_d (by omega) (by omega) (up_n _ _ _) dX6_clearDraft_13 (fun H locs g2 eg2 hP hS => ?_)
        have c_o : g2 1000 = .inr (6, [.int (nI N), .int (nI V), .int (nI th), .ref (ad 1003), .int (nI ec), .ref (ad 1005), .ref (ad 1006), .ref (ad 1007), .ref (ad 1008), .ref (ad 1009), .int (nI en), .int (if an = true then 1 else 0), .ref (ad 1012), .ref (ad 1013), .ref (ad 1014), .int (nI al), .ref (ad 1016), .ref (ad 1017), .ref (ad 1018), .ref (ad 1019), .int (nI pl), .ref (ad 1021), .int (nI nc), .ref (ad 1023), .ref (ad 1024), .int (nI sz), .ref (ad 1026), .ref (ad 1027), .ref (ad 1028)]) := (cx_ne eg2 1000 (by omega)).trans c_o
        have c_d : g2 1003 = nA G 5 (nu (vN r) k 0) := cx_eq eg2
        have fr : ∀ j : Nat, j ≠ 1003 → g2 j = g j := fun j hj => (cx_ne eg2 j (by omega)).trans (fr j hj)
        have c_d : g2 1003 = nA G 5 (vN (nu r k 0)) := by rw [← vN_nu]; exact c_d
        refine lv_iinc (v := nI (k + 1)) (lv' := [(1, .int (nI (k + 1))), (0, .ref (ad 1000))]) hx hb dX6_clearDraft_14 hl (k := 0) rfl (nI_1 _) (by decide) rfl (fun ls hl => ?_)
        refine lv_goto (tgt := 2) hx hb dX6_clearDraft_17 (by decide) ?_
        exact ih2 (k + 1) (nu r k 0) h4 (fl_step hr) (by omega) g2 _ _ _ c_o c_d  fr hP hS (lv_sub hl [0, 1] rfl)
  exact LP2 ((5 - 0) + 1) 0 d (Nat.zero_le _) (fun j => (if_neg (Nat.not_lt_zero j)).symm) (Nat.lt_succ_self _) g _ _ _ c_o c_d  fr hP hS (lv_sub hl [0, 1] rfl)

set_option maxRecDepth 20000 in
theorem wd_X6_formValue_0 : Cond.fieldLink RX6 25 "AffineHullsModel" "forms" "[I" ∈ wsX6_formValue := by decide +kernel
set_option maxRecDepth 20000 in
theorem in_X6_formValue_X6 : ∀ w ∈ u_ws RX6 TX6 29, w ∈ wsX6_formValue := by decide +kernel
set_option maxRecDepth 20000 in
theorem wd_X6_formValue_2 : Cond.fieldLink RX6 64 "AffineHullsModel" "row" "[I" ∈ wsX6_formValue := by decide +kernel
abbrev rm_X6_formValue : Room := { frames := 1, cells := 0, slots := 0, locals := 23 }
set_option maxHeartbeats 4000000 in
set_option maxRecDepth 100000 in
theorem c_X6_formValue {l : Launch} {G : cx_G} {L : List Nat} {ad : Nat → Nat} {g : Nat → va_E} (hD : cx_D L ad) {N V th ec en al pl nc sz : Nat} {an : Bool} {ei : Nat} {fm rr : Nat → FF} {eg : Nat → Nat → FF} (hN1 : 1 ≤ N) (hN : N ≤ 8) (hV1 : 1 ≤ V) (hV : V ≤ 4) (hq : ∀ j : Nat, lbM j = true → j ∈ L) (c_o : g 1000 = .inr (6, [.int (nI N), .int (nI V), .int (nI th), .ref (ad 1003), .int (nI ec), .ref (ad 1005), .ref (ad 1006), .ref (ad 1007), .ref (ad 1008), .ref (ad 1009), .int (nI en), .int (if an = true then 1 else 0), .ref (ad 1012), .ref (ad 1013), .ref (ad 1014), .int (nI al), .ref (ad 1016), .ref (ad 1017), .ref (ad 1018), .ref (ad 1019), .int (nI pl), .ref (ad 1021), .int (nI nc), .ref (ad 1023), .ref (ad 1024), .int (nI sz), .ref (ad 1026), .ref (ad 1027), .ref (ad 1028)])) (c_F : g 1009 = nA G 100 (vN fm)) (c_R : g 1028 = nA G 5 (vN rr)) (hei : ei < 20) (hfr : FR fm eg) (hzf : Zb (V + 1) (eg ei)) : MI l yX6_formValue wsX6_formValue rm_X6_formValue G L ad g [.ref (ad 1000), .int (nI ei)] (fun r u => r = nI (dot (eg ei) rr (V + 1)).val ∧ u = g) := by
  refine cx_ofI (cc := cX6_formValue) (maxL := 5) (by decide +kernel) rfl (Nat.le_of_ble_eq_true rfl) ?_
  intro p e s m args below meth c Q hx hb hts hown hml hP hK hS hz hret ls hl
  have hown : s.vm.findClass RX6 = some m.cls := hown
  have hl : lv_has ls 5 [(0, .ref (ad 1000)), (1, .int (nI ei))] := hl
  refine lv_lconst (v := lN 0) hx hb dX6_formValue_0 rfl ?_
  refine lv_lstore_n (lv' := [(2, .long (lN 0)), (0, .ref (ad 1000)), (1, .int (nI ei))]) hx hb dX6_formValue_1 rfl hl (by decide) rfl (fun ls hl => ?_)
  refine lv_iconst (v := nI 0) hx hb dX6_formValue_2 (by decide) ?_
  refine lv_istore (lv' := [(4, .int (nI 0)), (2, .long (lN 0)), (0, .ref (ad 1000)), (1, .int (nI ei))]) hx hb dX6_formValue_3 hl (by decide) rfl (fun ls hl => ?_)
  have LP5 : ∀ (fu : Nat) (k : Nat), (k ≤ 5) → (5 - k) < fu → ∀ (ls : Array Slot), lv_has ls 5 [(2, .long (lN (dotN (rw5 fm ei) rr k))), (4, .int (nI k)), (0, .ref (ad 1000)), (1, .int (nI ei))] → W p l e rm_X6_formValue s m args below meth c s.heap [] 0 0 Q (F0 m 5 ls []) := by
    intro fu
    induction fu with
    | zero => intro k hkn hfu; exact absurd hfu (Nat.not_lt_zero _)
    | succ fu ih5 =>
      intro k hkn hfu5 ls hl
      refine lv_iload hx hb dX6_formValue_5 (lv_at hl 1 rfl) ?_
      refine lv_iconst (v := nI 5) hx hb dX6_formValue_7 (by decide) ?_
      refine ax_icge (a := k) (b := 5) (tgt := 41) hx hb dX6_formValue_8 (by decide) (by omega) (by omega) (fun h8 => ?_) (fun h8 => ?_)
      · skip
        refine lv_lload_n hx hb dX6_formValue_41 rfl (lv_at hl 0 rfl) ?_
        refine cx_Si (As := [.long (lN (dotN (rw5 fm ei) rr k))]) (rest := []) ⟨hx, hb, hml, hown, hts⟩ (c_X6_mod hD (x := lN (dotN (rw5 fm ei) rr k))) (va_cwS 1 hts gX6_formValue_X6_mod rfl rfl rfl (by decide +kernel) ⟨Nat.le_of_ble_eq_true rfl, Nat.le_of_ble_eq_true rfl⟩) hK hP hS hz ⟨Nat.zero_le _, Nat.zero_le _⟩ rfl hl.1 rfl (Nat.le_of_ble_eq_true rfl) dX6_formValue_42 (fun r2 g2 H locs hp2 hP hS => ?_)
        obtain ⟨er2, ehp2g⟩ := hp2
        rw [ehp2g] at hP
        rw [er2]
        rw [show fi (lN (dotN (rw5 fm ei) rr k)).toInt = dot (eg ei) rr (V + 1) from by rw [ln_fi (by have := dotN_le (rw5 fm ei) rr k; omega), dotN_ff, show k = 5 by omega, dot_FR hfr hzf hV]]
        exact hret (nI ((dot (eg ei) rr (V + 1)).val)) g _ _ _ _ rfl ⟨rfl, rfl⟩ hP hS dX6_formValue_45
      · skip
        have b1 := vN_lt fm (5 * ei + k)
        have b2 := vN_lt rr k
        refine lv_lload_n hx hb dX6_formValue_11 rfl (lv_at hl 0 rfl) ?_
        refine lv_aload_n hx hb dX6_formValue_12 rfl (lv_at hl 2 rfl) ?_
        refine ax_get (k := 1000) (v := .ref (ad 1009)) hx hb hts in_X6_formValue_X6 hown hK hP (hq _ (by decide)) c_o rfl 9 (by decide) (hts _ wd_X6_formValue_0) (fun _ h9 => h9) rfl dX6_formValue_13 ?_
        refine lv_iconst (v := nI 5) hx hb dX6_formValue_16 (by decide) ?_
        refine lv_iload_n hx hb dX6_formValue_17 rfl (lv_at hl 3 rfl) ?_
        refine ax_mul (a := 5) (b := ei) hx hb dX6_formValue_18 ?_
        refine lv_iload hx hb dX6_formValue_19 (lv_at hl 1 rfl) ?_
        refine ax_add (a := 5 * ei) (b := k) hx hb dX6_formValue_21 ?_
        refine ax_iald (k := 1009) (i := 5 * ei + k) (v := nI ((vN fm) (5 * ei + k))) hx hb hK hP (hq _ (by decide)) c_F (by omega) (by omega) rfl dX6_formValue_22 ?_
        refine ax_i2l (a := (vN fm) (5 * ei + k)) hx hb dX6_formValue_23 (by omega) ?_
        refine lv_aload_n hx hb dX6_formValue_24 rfl (lv_at hl 2 rfl) ?_
        refine ax_get (k := 1000) (v := .ref (ad 1028)) hx hb hts in_X6_formValue_X6 hown hK hP (hq _ (by decide)) c_o rfl 28 (by decide) (hts _ wd_X6_formValue_2) (fun _ h9 => h9) rfl dX6_formValue_25 ?_
        refine lv_iload hx hb dX6_formValue_28 (lv_at hl 1 rfl) ?_
        refine ax_iald (k := 1028) (i := k) (v := nI ((vN rr) k)) hx hb hK hP (hq _ (by decide)) c_R (by omega) (by omega) rfl dX6_formValue_30 ?_
        refine ax_i2l (a := (vN rr) k) hx hb dX6_formValue_31 (by omega) ?_
        refine ax_lmul (a := (vN fm) (5 * ei + k)) (b := (vN rr) k) hx hb dX6_formValue_32 ?_
        refine ax_ladd (a := dotN (rw5 fm ei) rr k) (b := ((vN fm) (5 * ei + k)) * ((vN rr) k)) hx hb dX6_formValue_33 ?_
        refine lv_lstore_n (lv' := [(2, .long (lN (dotN (rw5 fm ei) rr k + (((vN fm) (5 * ei + k)) * ((vN rr) k))))), (4, .int (nI k)), (0, .ref (ad 1000)), (1, .int (nI ei))]) hx hb dX6_formValue_34 rfl hl (by decide) rfl (fun ls hl => ?_)
        refine lv_iinc (v := nI (k + 1)) (lv' := [(4, .int (nI (k + 1))), (2, .long (lN (dotN (rw5 fm ei) rr k + (((vN fm) (5 * ei + k)) * ((vN rr) k))))), (0, .ref (ad 1000)), (1, .int (nI ei))]) hx hb dX6_formValue_35 hl (k := 1) rfl (nI_1 _) (by decide) rfl (fun ls hl => ?_)
        refine lv_goto (tgt := 5) hx hb dX6_formValue_38 (by decide) ?_
        exact ih5 (k + 1) h8 (by omega) _ (lv_sub hl [1, 0, 2, 3] rfl)
  exact LP5 ((5 - 0) + 1) 0 (Nat.zero_le _) (Nat.lt_succ_self _) _ (lv_sub hl [1, 0, 2, 3] rfl)

set_option maxRecDepth 20000 in
theorem wd_X6_change_0 : Cond.fieldLink RX6 19 "AffineHullsModel" "kinds" "[I" ∈ wsX6_change := by decide +kernel
set_option maxRecDepth 20000 in
theorem in_X6_change_X6 : ∀ w ∈ u_ws RX6 TX6 29, w ∈ wsX6_change := by decide +kernel
set_option maxRecDepth 20000 in
theorem wd_X6_change_2 : Cond.fieldLink RX6 64 "AffineHullsModel" "row" "[I" ∈ wsX6_change := by decide +kernel
set_option maxRecDepth 20000 in
theorem wd_X6_change_3 : Cond.fieldLink RX6 22 "AffineHullsModel" "targets" "[I" ∈ wsX6_change := by decide +kernel
abbrev rm_X6_change : Room := { frames := 2, cells := 0, slots := 0, locals := 47 }
set_option maxHeartbeats 4000000 in
set_option maxRecDepth 100000 in
theorem c_X6_change {l : Launch} {G : cx_G} {L : List Nat} {ad : Nat → Nat} {g : Nat → va_E} (hD : cx_D L ad) {N V th ec en al pl nc sz : Nat} {an : Bool} {ei : Nat} {xx : FF} {ek ev : Nat → Nat} {ez : Nat → Int32} {fm rr : Nat → FF} {eg : Nat → Nat → FF} (hN1 : 1 ≤ N) (hN : N ≤ 8) (hV1 : 1 ≤ V) (hV : V ≤ 4) (hq : ∀ j : Nat, lbM j = true → j ∈ L) (c_o : g 1000 = .inr (6, [.int (nI N), .int (nI V), .int (nI th), .ref (ad 1003), .int (nI ec), .ref (ad 1005), .ref (ad 1006), .ref (ad 1007), .ref (ad 1008), .ref (ad 1009), .int (nI en), .int (if an = true then 1 else 0), .ref (ad 1012), .ref (ad 1013), .ref (ad 1014), .int (nI al), .ref (ad 1016), .ref (ad 1017), .ref (ad 1018), .ref (ad 1019), .int (nI pl), .ref (ad 1021), .int (nI nc), .ref (ad 1023), .ref (ad 1024), .int (nI sz), .ref (ad 1026), .ref (ad 1027), .ref (ad 1028)])) (c_K : g 1007 = nA G 20 ek) (c_Z : g 1008 = iA G 20 ez) (c_F : g 1009 = nA G 100 (vN fm)) (c_R : g 1028 = nA G 5 (vN rr)) (hei : ei < 20) (hfr : FR fm eg) (hzf : ∀ i : Nat, Zb (V + 1) (eg i)) (hek : ek ei ≤ 4) (hv : ek ei = 1 ∨ ek ei = 2 → ez ei = nI (ev ei) ∧ 1 ≤ ev ei ∧ ev ei < V + 1) : MV l yX6_change wsX6_change rm_X6_change G L ad g [.ref (ad 1000), .int (nI ei), .int (nI xx.val)] (fun u => (∀ j : Nat, j ≠ 1028 → u j = g j) ∧ u 1028 = nA G 5 (vN (stepF (V + 1) (ek ei) (ev ei) (eg ei) xx rr))) := by
  refine cx_ofV (cc := cX6_change) (maxL := 3) (by decide +kernel) rfl (Nat.le_of_ble_eq_true rfl) ?_
  intro p e s m args below meth c Q hx hb hts hown hml hP hK hS hz hret ls hl
  have hown : s.vm.findClass RX6 = some m.cls := hown
  have hl : lv_has ls 3 [(0, .ref (ad 1000)), (1, .int (nI ei)), (2, .int (nI xx.val))] := hl
  have fr : ∀ j : Nat, j ≠ 1028 → g j = g j := fun _ _ => rfl
  refine lv_aload_n hx hb dX6_change_0 rfl (lv_at hl 0 rfl) ?_
  refine ax_get (k := 1000) (v := .ref (ad 1007)) hx hb hts in_X6_change_X6 hown hK hP (hq _ (by decide)) c_o rfl 7 (by decide) (hts _ wd_X6_change_0) (fun _ h9 => h9) rfl dX6_change_1 ?_
  refine lv_iload_n hx hb dX6_change_4 rfl (lv_at hl 1 rfl) ?_
  refine ax_iald (k := 1007) (i := ei) (v := nI (ek ei)) hx hb hK hP (hq _ (by decide)) c_K (by omega) (by omega) rfl dX6_change_5 ?_
  refine lv_iconst (v := nI 1) hx hb dX6_change_6 (by decide) ?_
  refine ax_icne (a := ek ei) (b := 1) (tgt := 26) hx hb dX6_change_7 (by decide) (by omega) (by omega) (fun h7 => ?_) (fun h7 => ?_)
  · skip
    refine lv_aload_n hx hb dX6_change_26 rfl (lv_at hl 0 rfl) ?_
    refine ax_get (k := 1000) (v := .ref (ad 1007)) hx hb hts in_X6_change_X6 hown hK hP (hq _ (by decide)) c_o rfl 7 (by decide) (hts _ wd_X6_change_0) (fun _ h9 => h9) rfl dX6_change_27 ?_
    refine lv_iload_n hx hb dX6_change_30 rfl (lv_at hl 1 rfl) ?_
    refine ax_iald (k := 1007) (i := ei) (v := nI (ek ei)) hx hb hK hP (hq _ (by decide)) c_K (by omega) (by omega) rfl dX6_change_31 ?_
    refine lv_iconst (v := nI 2) hx hb dX6_change_32 (by decide) ?_
    refine ax_icne (a := ek ei) (b := 2) (tgt := 48) hx hb dX6_change_33 (by decide) (by omega) (by omega) (fun h33 => ?_) (fun h33 => ?_)
    · skip
      exact hret g _ _ _ _ ⟨fun _ _ => rfl, by rw [c_R]; unfold stepF; rw [if_neg h7, if_neg h33]⟩ hP hS dX6_change_48
    · skip
      obtain ⟨ez1, ez2, ez3⟩ := hv (Or.inr h33)
      refine lv_aload_n hx hb dX6_change_36 rfl (lv_at hl 0 rfl) ?_
      refine ax_get (k := 1000) (v := .ref (ad 1028)) hx hb hts in_X6_change_X6 hown hK hP (hq _ (by decide)) c_o rfl 28 (by decide) (hts _ wd_X6_change_2) (fun _ h9 => h9) rfl dX6_change_37 ?_
      refine lv_aload_n hx hb dX6_change_40 rfl (lv_at hl 0 rfl) ?_
      refine ax_get (k := 1000) (v := .ref (ad 1008)) hx hb hts in_X6_change_X6 hown hK hP (hq _ (by decide)) c_o rfl 8 (by decide) (hts _ wd_X6_change_3) (fun _ h9 => h9) rfl dX6_change_41 ?_
      refine lv_iload_n hx hb dX6_change_44 rfl (lv_at hl 1 rfl) ?_
      refine ax_iald (k := 1008) (i := ei) (v := ez ei) hx hb hK hP (hq _ (by decide)) c_Z (by omega) (by omega) rfl dX6_change_45 ?_
      rw [ez1]
      refine lv_iload_n hx hb dX6_change_46 rfl (lv_at hl 2 rfl) ?_
      refine ax_iast (k := 1028) (i := ev ei) (f' := (fun j => nI ((nu (vN rr) (ev ei) xx.val) j))) hx hb hK hP hD hS (hq _ (by decide)) c_R (by omega) (by omega) (up_n _ _ _) dX6_change_47 (fun H locs g1 eg1 hP hS => ?_)
      have c_o : g1 1000 = .inr (6, [.int (nI N), .int (nI V), .int (nI th), .ref (ad 1003), .int (nI ec), .ref (ad 1005), .ref (ad 1006), .ref (ad 1007), .ref (ad 1008), .ref (ad 1009), .int (nI en), .int (if an = true then 1 else 0), .ref (ad 1012), .ref (ad 1013), .ref (ad 1014), .int (nI al), .ref (ad 1016), .ref (ad 1017), .ref (ad 1018), .ref (ad 1019), .int (nI pl), .ref (ad 1021), .int (nI nc), .ref (ad 1023), .ref (ad 1024), .int (nI sz), .ref (ad 1026), .ref (ad 1027), .ref (ad 1028)]) := (cx_ne eg1 1000 (by omega)).trans c_o
      have c_K : g1 1007 = nA G 20 ek := (cx_ne eg1 1007 (by omega)).trans c_K
      have c_Z : g1 1008 = iA G 20 ez := (cx_ne eg1 1008 (by omega)).trans c_Z
      have c_F : g1 1009 = nA G 100 (vN fm) := (cx_ne eg1 1009 (by omega)).trans c_F
      have c_R : g1 1028 = nA G 5 (nu (vN rr) (ev ei) xx.val) := cx_eq eg1
      have fr : ∀ j : Nat, j ≠ 1028 → g1 j = g j := fun j hj => (cx_ne eg1 j (by omega)).trans (fr j hj)
      have c_R : g1 1028 = nA G 5 (vN (nu rr (ev ei) xx)) := by rw [← vN_nu]; exact c_R
      exact hret g1 _ _ _ _ ⟨fr, by rw [c_R]; unfold stepF; rw [if_neg h7, if_pos h33]⟩ hP hS dX6_change_48
  · skip
    obtain ⟨ez1, ez2, ez3⟩ := hv (Or.inl h7)
    refine lv_aload_n hx hb dX6_change_10 rfl (lv_at hl 0 rfl) ?_
    refine ax_get (k := 1000) (v := .ref (ad 1028)) hx hb hts in_X6_change_X6 hown hK hP (hq _ (by decide)) c_o rfl 28 (by decide) (hts _ wd_X6_change_2) (fun _ h9 => h9) rfl dX6_change_11 ?_
    refine lv_aload_n hx hb dX6_change_14 rfl (lv_at hl 0 rfl) ?_
    refine ax_get (k := 1000) (v := .ref (ad 1008)) hx hb hts in_X6_change_X6 hown hK hP (hq _ (by decide)) c_o rfl 8 (by decide) (hts _ wd_X6_change_3) (fun _ h9 => h9) rfl dX6_change_15 ?_
    refine lv_iload_n hx hb dX6_change_18 rfl (lv_at hl 1 rfl) ?_
    refine ax_iald (k := 1008) (i := ei) (v := ez ei) hx hb hK hP (hq _ (by decide)) c_Z (by omega) (by omega) rfl dX6_change_19 ?_
    rw [ez1]
    refine lv_aload_n hx hb dX6_change_20 rfl (lv_at hl 0 rfl) ?_
    refine lv_iload_n hx hb dX6_change_21 rfl (lv_at hl 1 rfl) ?_
    refine cx_Vi (As := [.int (nI ei)]) (rest := [.int (nI (ev ei)), .ref (ad 1028)]) ⟨hx, hb, hml, hown, hts⟩ (c_X6_formValue hD hN1 hN hV1 hV hq (ei := ei) (fm := fm) (rr := rr) (eg := eg) c_o c_F c_R (by omega) hfr (hzf ei)) (cwV 1 hts gX6_change_X6_formValue rfl rfl rfl (by decide +kernel) ⟨Nat.le_of_ble_eq_true rfl, Nat.le_of_ble_eq_true rfl⟩) hK hP hS hz (hq _ (by decide)) c_o rfl ⟨Nat.zero_le _, Nat.zero_le _⟩ rfl hl.1 rfl (Nat.le_of_ble_eq_true rfl) dX6_change_22 (fun r2 g2 H locs hp2 hP hS => ?_)
    obtain ⟨er2, ehp2g⟩ := hp2
    rw [ehp2g] at hP
    rw [er2]
    refine ax_iast (k := 1028) (i := ev ei) (f' := (fun j => nI ((nu (vN rr) (ev ei) ((dot (eg ei) rr (V + 1)).val)) j))) hx hb hK hP hD hS (hq _ (by decide)) c_R (by omega) (by omega) (up_n _ _ _) dX6_change_25 (fun H locs g3 eg3 hP hS => ?_)
    have c_o : g3 1000 = .inr (6, [.int (nI N), .int (nI V), .int (nI th), .ref (ad 1003), .int (nI ec), .ref (ad 1005), .ref (ad 1006), .ref (ad 1007), .ref (ad 1008), .ref (ad 1009), .int (nI en), .int (if an = true then 1 else 0), .ref (ad 1012), .ref (ad 1013), .ref (ad 1014), .int (nI al), .ref (ad 1016), .ref (ad 1017), .ref (ad 1018), .ref (ad 1019), .int (nI pl), .ref (ad 1021), .int (nI nc), .ref (ad 1023), .ref (ad 1024), .int (nI sz), .ref (ad 1026), .ref (ad 1027), .ref (ad 1028)]) := (cx_ne eg3 1000 (by omega)).trans c_o
    have c_K : g3 1007 = nA G 20 ek := (cx_ne eg3 1007 (by omega)).trans c_K
    have c_Z : g3 1008 = iA G 20 ez := (cx_ne eg3 1008 (by omega)).trans c_Z
    have c_F : g3 1009 = nA G 100 (vN fm) := (cx_ne eg3 1009 (by omega)).trans c_F
    have c_R : g3 1028 = nA G 5 (nu (vN rr) (ev ei) ((dot (eg ei) rr (V + 1)).val)) := cx_eq eg3
    have fr : ∀ j : Nat, j ≠ 1028 → g3 j = g j := fun j hj => (cx_ne eg3 j (by omega)).trans (fr j hj)
    have c_R : g3 1028 = nA G 5 (vN (nu rr (ev ei) (dot (eg ei) rr (V + 1)))) := by rw [← vN_nu]; exact c_R
    refine lv_aload_n hx hb dX6_change_26 rfl (lv_at hl 0 rfl) ?_
    refine ax_get (k := 1000) (v := .ref (ad 1007)) hx hb hts in_X6_change_X6 hown hK hP (hq _ (by decide)) c_o rfl 7 (by decide) (hts _ wd_X6_change_0) (fun _ h9 => h9) rfl dX6_change_27 ?_
    refine lv_iload_n hx hb dX6_change_30 rfl (lv_at hl 1 rfl) ?_
    refine ax_iald (k := 1007) (i := ei) (v := nI (ek ei)) hx hb hK hP (hq _ (by decide)) c_K (by omega) (by omega) rfl dX6_change_31 ?_
    refine lv_iconst (v := nI 2) hx hb dX6_change_32 (by decide) ?_
    refine ax_icne (a := ek ei) (b := 2) (tgt := 48) hx hb dX6_change_33 (by decide) (by omega) (by omega) (fun h33 => ?_) (fun h33 => ?_)
    · skip
      exact hret g3 _ _ _ _ ⟨fr, by rw [c_R]; unfold stepF; rw [if_pos h7]⟩ hP hS dX6_change_48
    · skip
      exact absurd h33 (by omega)

def askP (N : Nat) (an : Bool) (x1 : Int32) (r : Int32) : Prop := (r = nI 1 ∧ ¬ inB 0 N x1) ∨ (r = nI 2 ∧ inB 0 N x1 ∧ an = false) ∨ (r = nI 0 ∧ inB 0 N x1 ∧ an = true)

set_option maxRecDepth 20000 in
theorem wd_X6_asked_0 : Cond.fieldLink RX6 109 "AffineHullsModel" "analysed" "Z" ∈ wsX6_asked := by decide +kernel
set_option maxRecDepth 20000 in
theorem in_X6_asked_X6 : ∀ w ∈ u_ws RX6 TX6 29, w ∈ wsX6_asked := by decide +kernel
abbrev rm_X6_asked : Room := { frames := 1, cells := 0, slots := 0, locals := 21 }
set_option maxHeartbeats 4000000 in
set_option maxRecDepth 100000 in
theorem c_X6_asked {l : Launch} {G : cx_G} {L : List Nat} {ad : Nat → Nat} {g : Nat → va_E} (hD : cx_D L ad) {N V th ec en al pl nc sz : Nat} {an : Bool} {x1 : Int32} (hN1 : 1 ≤ N) (hN : N ≤ 8) (hV1 : 1 ≤ V) (hV : V ≤ 4) (hq : ∀ j : Nat, lbM j = true → j ∈ L) (c_o : g 1000 = .inr (6, [.int (nI N), .int (nI V), .int (nI th), .ref (ad 1003), .int (nI ec), .ref (ad 1005), .ref (ad 1006), .ref (ad 1007), .ref (ad 1008), .ref (ad 1009), .int (nI en), .int (if an = true then 1 else 0), .ref (ad 1012), .ref (ad 1013), .ref (ad 1014), .int (nI al), .ref (ad 1016), .ref (ad 1017), .ref (ad 1018), .ref (ad 1019), .int (nI pl), .ref (ad 1021), .int (nI nc), .ref (ad 1023), .ref (ad 1024), .int (nI sz), .ref (ad 1026), .ref (ad 1027), .ref (ad 1028)])) : MI l yX6_asked wsX6_asked rm_X6_asked G L ad g [.ref (ad 1000), .int x1] (fun r u => u = g ∧ askP N an x1 r) := by
  refine cx_ofI (cc := cX6_asked) (maxL := 2) (by decide +kernel) rfl (Nat.le_of_ble_eq_true rfl) ?_
  intro p e s m args below meth c Q hx hb hts hown hml hP hK hS hz hret ls hl
  have hown : s.vm.findClass RX6 = some m.cls := hown
  have hl : lv_has ls 2 [(0, .ref (ad 1000)), (1, .int x1)] := hl
  refine lv_aload_n hx hb dX6_asked_0 rfl (lv_at hl 0 rfl) ?_
  refine lv_iload_n hx hb dX6_asked_1 rfl (lv_at hl 1 rfl) ?_
  refine cx_Vi (As := [.int x1]) (rest := []) ⟨hx, hb, hml, hown, hts⟩ (c_X6_isNode hD hN1 hN hV1 hV hq (x1 := x1) c_o) (cwV 1 hts gX6_asked_X6_isNode rfl rfl rfl (by decide +kernel) ⟨Nat.le_of_ble_eq_true rfl, Nat.le_of_ble_eq_true rfl⟩) hK hP hS hz (hq _ (by decide)) c_o rfl ⟨Nat.zero_le _, Nat.zero_le _⟩ rfl hl.1 rfl (Nat.le_of_ble_eq_true rfl) dX6_asked_2 (fun r1 g1 H locs hp1 hP hS => ?_)
  obtain ⟨er1, ehp1g⟩ := hp1
  rw [ehp1g] at hP
  refine lv_if_ne (x := r1) (tgt := 12) hx hb dX6_asked_5 (by decide) (fun h5 => ?_) (fun h5 => ?_)
  · skip
    refine lv_aload_n hx hb dX6_asked_12 rfl (lv_at hl 0 rfl) ?_
    refine ax_get (k := 1000) (v := .int (if an = true then 1 else 0)) hx hb hts in_X6_asked_X6 hown hK hP (hq _ (by decide)) c_o rfl 11 (by decide) (hts _ wd_X6_asked_0) (fun _ h9 => h9) rfl dX6_asked_13 ?_
    refine ax_zne (b := an) (tgt := 23) hx hb dX6_asked_16 (by decide) (fun h16 => ?_) (fun h16 => ?_)
    · skip
      refine lv_iconst (v := nI 0) hx hb dX6_asked_23 (by decide) ?_
      exact hret (nI 0) g _ _ _ _ rfl ⟨rfl, Or.inr (Or.inr ⟨rfl, tr_t er1 h5, h16⟩)⟩ hP hS dX6_asked_24
    · skip
      refine lv_iconst (v := nI 2) hx hb dX6_asked_19 (by decide) ?_
      refine lv_goto (tgt := 24) hx hb dX6_asked_20 (by decide) ?_
      exact hret (nI 2) g _ _ _ _ rfl ⟨rfl, Or.inr (Or.inl ⟨rfl, tr_t er1 h5, h16⟩)⟩ hP hS dX6_asked_24
  · skip
    refine lv_iconst (v := nI 1) hx hb dX6_asked_8 (by decide) ?_
    refine lv_goto (tgt := 24) hx hb dX6_asked_9 (by decide) ?_
    exact hret (nI 1) g _ _ _ _ rfl ⟨rfl, Or.inl ⟨rfl, tr_f er1 h5⟩⟩ hP hS dX6_asked_24

set_option maxRecDepth 20000 in
theorem wd_X6_rank_0 : Cond.fieldLink RX6 71 "AffineHullsModel" "v" "I" ∈ wsX6_rank := by decide +kernel
set_option maxRecDepth 20000 in
theorem in_X6_rank_X6 : ∀ w ∈ u_ws RX6 TX6 29, w ∈ wsX6_rank := by decide +kernel
set_option maxRecDepth 20000 in
theorem wd_X6_rank_2 : Cond.fieldLink RX6 61 "AffineHullsModel" "pivots" "[I" ∈ wsX6_rank := by decide +kernel
set_option maxRecDepth 20000 in
theorem wd_X6_rank_3 : Cond.fieldLink RX6 84 "AffineHullsModel" "size" "I" ∈ wsX6_rank := by decide +kernel
set_option maxRecDepth 20000 in
theorem wd_X6_rank_4 : Cond.fieldLink RX6 58 "AffineHullsModel" "table" "[I" ∈ wsX6_rank := by decide +kernel
abbrev rm_X6_rank : Room := { frames := 2, cells := 0, slots := 0, locals := 53 }
set_option maxHeartbeats 4000000 in
set_option maxRecDepth 100000 in
theorem c_X6_rank {l : Launch} {G : cx_G} {L : List Nat} {ad : Nat → Nat} {g : Nat → va_E} (hD : cx_D L ad) {N V th ec en al pl nc sz : Nat} {an : Bool} {tb : Nat → FF} {pz0 : Nat → Int32} (hN1 : 1 ≤ N) (hN : N ≤ 8) (hV1 : 1 ≤ V) (hV : V ≤ 4) (hq : ∀ j : Nat, lbM j = true → j ∈ L) (c_o : g 1000 = .inr (6, [.int (nI N), .int (nI V), .int (nI th), .ref (ad 1003), .int (nI ec), .ref (ad 1005), .ref (ad 1006), .ref (ad 1007), .ref (ad 1008), .ref (ad 1009), .int (nI en), .int (if an = true then 1 else 0), .ref (ad 1012), .ref (ad 1013), .ref (ad 1014), .int (nI al), .ref (ad 1016), .ref (ad 1017), .ref (ad 1018), .ref (ad 1019), .int (nI pl), .ref (ad 1021), .int (nI nc), .ref (ad 1023), .ref (ad 1024), .int (nI sz), .ref (ad 1026), .ref (ad 1027), .ref (ad 1028)])) (c_T : g 1026 = nA G 150 (vN tb)) (c_P : g 1027 = iA G 5 pz0) (hsz : sz ≤ 30) : MI l yX6_rank wsX6_rank rm_X6_rank G L ad g [.ref (ad 1000)] (fun r u => (∀ j : Nat, (j ≠ 1026 ∧ j ≠ 1027) → u j = g j) ∧ ∃ (tb2 : Nat → FF) (pz : Nat → Int32) (t : Nat → Bool) (pv : Nat → Nat), RK V sz tb tb2 pz t pv ∧ r = nI (cntT t (V + 1)) ∧ u 1026 = nA G 150 (vN tb2) ∧ u 1027 = iA G 5 pz) := by
  refine cx_ofI (cc := cX6_rank) (maxL := 7) (by decide +kernel) rfl (Nat.le_of_ble_eq_true rfl) ?_
  intro p e s m args below meth c Q hx hb hts hown hml hP hK hS hz hret ls hl
  have hown : s.vm.findClass RX6 = some m.cls := hown
  have hl : lv_has ls 7 [(0, .ref (ad 1000))] := hl
  have fr : ∀ j : Nat, (j ≠ 1026 ∧ j ≠ 1027) → g j = g j := fun _ _ => rfl
  refine lv_iconst (v := nI 0) hx hb dX6_rank_0 (by decide) ?_
  refine lv_istore_n (lv' := [(1, .int (nI 0)), (0, .ref (ad 1000))]) hx hb dX6_rank_1 rfl hl (by decide) rfl (fun ls hl => ?_)
  refine lv_iconst (v := nI 0) hx hb dX6_rank_2 (by decide) ?_
  refine lv_istore_n (lv' := [(2, .int (nI 0)), (1, .int (nI 0)), (0, .ref (ad 1000))]) hx hb dX6_rank_3 rfl hl (by decide) rfl (fun ls hl => ?_)
  have LP4 : ∀ (fu : Nat) (x : Nat) (d : Nat) (tbx : Nat → FF) (pz : Nat → Int32) (t : Nat → Bool) (pv : Nat → Nat) (ro : Nat → Nat), (x ≤ V + 1) → (GJ V sz x d tbx t pv ro (InSp (V + 1) (rw5 tb) sz)) → (PZ V x t pv pz) → (V + 1 - x) < fu → ∀ (ga1 : Nat → va_E) (H : Heap) (locs : List Loc) (ls : Array Slot), (ga1 1000 = .inr (6, [.int (nI N), .int (nI V), .int (nI th), .ref (ad 1003), .int (nI ec), .ref (ad 1005), .ref (ad 1006), .ref (ad 1007), .ref (ad 1008), .ref (ad 1009), .int (nI en), .int (if an = true then 1 else 0), .ref (ad 1012), .ref (ad 1013), .ref (ad 1014), .int (nI al), .ref (ad 1016), .ref (ad 1017), .ref (ad 1018), .ref (ad 1019), .int (nI pl), .ref (ad 1021), .int (nI nc), .ref (ad 1023), .ref (ad 1024), .int (nI sz), .ref (ad 1026), .ref (ad 1027), .ref (ad 1028)])) → (ga1 1026 = nA G 150 (vN tbx)) → (ga1 1027 = iA G 5 pz) → (∀ j : Nat, (j ≠ 1026 ∧ j ≠ 1027) → ga1 j = g j) → va_P G.1 vwCl (wl L ad ga1) H → va_S (cx_A L ad s.heap.size) s.heap H locs → lv_has ls 7 [(2, .int (nI x)), (1, .int (nI d)), (0, .ref (ad 1000))] → W p l e rm_X6_rank s m args below meth c H locs 0 0 Q (F0 m 4 ls []) := by
    intro fu
    induction fu with
    | zero => intro x d tbx pz t pv ro hxv hgj hpz hfu; exact absurd hfu (Nat.not_lt_zero _)
    | succ fu ih4 =>
      intro x d tbx pz t pv ro hxv hgj hpz hfu4 ga1 H locs ls c_o c_T c_P fr hP hS hl
      refine lv_iload_n hx hb dX6_rank_4 rfl (lv_at hl 0 rfl) ?_
      refine lv_aload_n hx hb dX6_rank_5 rfl (lv_at hl 2 rfl) ?_
      refine ax_get (k := 1000) (v := .int (nI V)) hx hb hts in_X6_rank_X6 hown hK hP (hq _ (by decide)) c_o rfl 1 (by decide) (hts _ wd_X6_rank_0) (fun _ h9 => h9) rfl dX6_rank_6 ?_
      refine ax_icgt (a := x) (b := V) (tgt := 202) hx hb dX6_rank_9 (by decide) (by omega) (by omega) (fun h9 => ?_) (fun h9 => ?_)
      · skip
        refine lv_iload_n hx hb dX6_rank_202 rfl (lv_at hl 1 rfl) ?_
        exact hret (nI d) ga1 _ _ _ _ rfl (by have ex : x = V + 1 := (by omega); subst ex; obtain ⟨q1, q2⟩ := RK.of hgj hpz; exact ⟨fr, tbx, pz, t, pv, q1, by rw [q2], c_T, c_P⟩) hP hS dX6_rank_203
      · skip
        have hxV : x ≤ V := h9
        have hcl := colF_lt hxV
        have hdz := hgj.2.1
        have ht0 := hgj.free hxV
        have LP29 : ∀ (_ : Unit), ∀ (ls : Array Slot), lv_has ls 7 [(3, .int (nI (colF V x))), (2, .int (nI x)), (1, .int (nI d)), (0, .ref (ad 1000))] → W p l e rm_X6_rank s m args below meth c H locs 0 0 Q (F0 m 29 ls []) := by
          intro _  ls hl
          refine lv_aload_n hx hb dX6_rank_29 rfl (lv_at hl 3 rfl) ?_
          refine ax_get (k := 1000) (v := .ref (ad 1027)) hx hb hts in_X6_rank_X6 hown hK hP (hq _ (by decide)) c_o rfl 27 (by decide) (hts _ wd_X6_rank_2) (fun _ h9 => h9) rfl dX6_rank_30 ?_
          refine lv_iload_n hx hb dX6_rank_33 rfl (lv_at hl 0 rfl) ?_
          refine lv_iconst (v := (-1)) hx hb dX6_rank_34 (by decide) ?_
          refine ax_iast (k := 1027) (i := colF V x) (f' := (nu pz (colF V x) (-1))) hx hb hK hP hD hS (hq _ (by decide)) c_P (by omega) (by omega) (up_i _ _ _) dX6_rank_35 (fun H locs g3 eg3 hP hS => ?_)
          have c_o : g3 1000 = .inr (6, [.int (nI N), .int (nI V), .int (nI th), .ref (ad 1003), .int (nI ec), .ref (ad 1005), .ref (ad 1006), .ref (ad 1007), .ref (ad 1008), .ref (ad 1009), .int (nI en), .int (if an = true then 1 else 0), .ref (ad 1012), .ref (ad 1013), .ref (ad 1014), .int (nI al), .ref (ad 1016), .ref (ad 1017), .ref (ad 1018), .ref (ad 1019), .int (nI pl), .ref (ad 1021), .int (nI nc), .ref (ad 1023), .ref (ad 1024), .int (nI sz), .ref (ad 1026), .ref (ad 1027), .ref (ad 1028)]) := (cx_ne eg3 1000 (by omega)).trans c_o
          have c_T : g3 1026 = nA G 150 (vN tbx) := (cx_ne eg3 1026 (by omega)).trans c_T
          have c_P : g3 1027 = iA G 5 (nu pz (colF V x) (-1)) := cx_eq eg3
          have fr : ∀ j : Nat, (j ≠ 1026 ∧ j ≠ 1027) → g3 j = g j := fun j hj => (cx_ne eg3 j (by omega)).trans (fr j hj)
          refine lv_iload_n hx hb dX6_rank_36 rfl (lv_at hl 2 rfl) ?_
          refine lv_istore (lv' := [(4, .int (nI d)), (3, .int (nI (colF V x))), (2, .int (nI x)), (1, .int (nI d)), (0, .ref (ad 1000))]) hx hb dX6_rank_37 hl (by decide) rfl (fun ls hl => ?_)
          have LP39 : ∀ (fu : Nat) (i : Nat), (d ≤ i) → (i ≤ sz) → (∀ r : Nat, d ≤ r → r < i → rw5 tbx r (colF V x) = 0) → (sz - i) < fu → ∀ (ls : Array Slot), lv_has ls 7 [(4, .int (nI i)), (3, .int (nI (colF V x))), (2, .int (nI x)), (1, .int (nI d)), (0, .ref (ad 1000))] → W p l e rm_X6_rank s m args below meth c H locs 0 0 Q (F0 m 39 ls []) := by
            intro fu
            induction fu with
            | zero => intro i hdi his hat hfu; exact absurd hfu (Nat.not_lt_zero _)
            | succ fu ih39 =>
              intro i hdi his hat hfu39 ls hl
              refine lv_iload hx hb dX6_rank_39 (lv_at hl 0 rfl) ?_
              refine lv_aload_n hx hb dX6_rank_41 rfl (lv_at hl 4 rfl) ?_
              refine ax_get (k := 1000) (v := .int (nI sz)) hx hb hts in_X6_rank_X6 hown hK hP (hq _ (by decide)) c_o rfl 25 (by decide) (hts _ wd_X6_rank_3) (fun _ h9 => h9) rfl dX6_rank_42 ?_
              refine ax_icge (a := i) (b := sz) (tgt := 68) hx hb dX6_rank_45 (by decide) (by omega) (by omega) (fun h45 => ?_) (fun h45 => ?_)
              · skip
                refine lv_iload hx hb dX6_rank_68 (lv_at hl 0 rfl) ?_
                refine lv_aload_n hx hb dX6_rank_70 rfl (lv_at hl 4 rfl) ?_
                refine ax_get (k := 1000) (v := .int (nI sz)) hx hb hts in_X6_rank_X6 hown hK hP (hq _ (by decide)) c_o rfl 25 (by decide) (hts _ wd_X6_rank_3) (fun _ h9 => h9) rfl dX6_rank_71 ?_
                refine ax_icge (a := i) (b := sz) (tgt := 196) hx hb dX6_rank_74 (by decide) (by omega) (by omega) (fun h74 => ?_) (fun h74 => ?_)
                · skip
                  refine lv_iinc (v := nI (x + 1)) (lv' := [(2, .int (nI (x + 1))), (4, .int (nI i)), (3, .int (nI (colF V x))), (1, .int (nI d)), (0, .ref (ad 1000))]) hx hb dX6_rank_196 hl (k := 2) rfl (nI_1 _) (by decide) rfl (fun ls hl => ?_)
                  refine lv_goto (tgt := 4) hx hb dX6_rank_199 (by decide) ?_
                  exact ih4 (x + 1) d tbx (nu pz (colF V x) (-1)) t pv ro (by omega) (hgj.skip hxV (fun r q1 q2 => hat r q1 (by omega))) (hpz.skip hxV ht0) (by omega) g3 _ _ _ c_o c_T c_P  fr hP hS (lv_sub hl [0, 3, 4] rfl)
                · skip
                  exact absurd h74 (by omega)
              · skip
                refine lv_aload_n hx hb dX6_rank_48 rfl (lv_at hl 4 rfl) ?_
                refine ax_get (k := 1000) (v := .ref (ad 1026)) hx hb hts in_X6_rank_X6 hown hK hP (hq _ (by decide)) c_o rfl 26 (by decide) (hts _ wd_X6_rank_4) (fun _ h9 => h9) rfl dX6_rank_49 ?_
                refine lv_iconst (v := nI 5) hx hb dX6_rank_52 (by decide) ?_
                refine lv_iload hx hb dX6_rank_53 (lv_at hl 0 rfl) ?_
                refine ax_mul (a := 5) (b := i) hx hb dX6_rank_55 ?_
                refine lv_iload_n hx hb dX6_rank_56 rfl (lv_at hl 1 rfl) ?_
                refine ax_add (a := 5 * i) (b := colF V x) hx hb dX6_rank_57 ?_
                refine ax_iald (k := 1026) (i := 5 * i + (colF V x)) (v := nI ((vN tbx) (5 * i + (colF V x)))) hx hb hK hP (hq _ (by decide)) c_T (by omega) (by omega) rfl dX6_rank_58 ?_
                have b1 := vN_lt tbx (5 * i + colF V x)
                refine ax_ifne (a := (vN tbx) (5 * i + (colF V x))) (tgt := 68) hx hb dX6_rank_59 (by decide) (by omega) (fun h59 => ?_) (fun h59 => ?_)
                · skip
                  refine lv_iload hx hb dX6_rank_68 (lv_at hl 0 rfl) ?_
                  refine lv_aload_n hx hb dX6_rank_70 rfl (lv_at hl 4 rfl) ?_
                  refine ax_get (k := 1000) (v := .int (nI sz)) hx hb hts in_X6_rank_X6 hown hK hP (hq _ (by decide)) c_o rfl 25 (by decide) (hts _ wd_X6_rank_3) (fun _ h9 => h9) rfl dX6_rank_71 ?_
                  refine ax_icge (a := i) (b := sz) (tgt := 196) hx hb dX6_rank_74 (by decide) (by omega) (by omega) (fun h74 => ?_) (fun h74 => ?_)
                  · skip
                    exact absurd h74 (by omega)
                  · skip
                    have hny : rw5 tbx i (colF V x) ≠ 0 := fun z => h59 (congrArg Fin.val z)
                    refine lv_aload_n hx hb dX6_rank_77 rfl (lv_at hl 4 rfl) ?_
                    refine lv_iload hx hb dX6_rank_78 (lv_at hl 0 rfl) ?_
                    refine lv_iload_n hx hb dX6_rank_80 rfl (lv_at hl 3 rfl) ?_
                    refine cx_Vv (As := [.int (nI i), .int (nI d)]) (rest := []) ⟨hx, hb, hml, hown, hts⟩ (c_X6_exchange hD hN1 hN hV1 hV hq (a := i) (b := d) (tb := tbx) c_o c_T (by omega) (by omega)) (cwV 2 hts gX6_rank_X6_exchange rfl rfl rfl (by decide +kernel) ⟨Nat.le_of_ble_eq_true rfl, Nat.le_of_ble_eq_true rfl⟩) hK hP hS hz (hq _ (by decide)) c_o rfl ⟨Nat.zero_le _, Nat.zero_le _⟩ rfl hl.1 rfl (Nat.le_of_ble_eq_true rfl) dX6_rank_81 (fun g5 H locs hp5 hP hS => ?_)
                    obtain ⟨hp5a, hp5b⟩ := hp5
                    have c_o : g5 1000 = .inr (6, [.int (nI N), .int (nI V), .int (nI th), .ref (ad 1003), .int (nI ec), .ref (ad 1005), .ref (ad 1006), .ref (ad 1007), .ref (ad 1008), .ref (ad 1009), .int (nI en), .int (if an = true then 1 else 0), .ref (ad 1012), .ref (ad 1013), .ref (ad 1014), .int (nI al), .ref (ad 1016), .ref (ad 1017), .ref (ad 1018), .ref (ad 1019), .int (nI pl), .ref (ad 1021), .int (nI nc), .ref (ad 1023), .ref (ad 1024), .int (nI sz), .ref (ad 1026), .ref (ad 1027), .ref (ad 1028)]) := (hp5a 1000 (by omega)).trans c_o
                    have c_P : g5 1027 = iA G 5 (nu pz (colF V x) (-1)) := (hp5a 1027 (by omega)).trans c_P
                    have fr : ∀ j : Nat, (j ≠ 1026 ∧ j ≠ 1027) → g5 j = g j := fun j hj => (hp5a j (by omega)).trans (fr j hj)
                    have c_T := hp5b
                    refine lv_aload_n hx hb dX6_rank_84 rfl (lv_at hl 4 rfl) ?_
                    refine ax_get (k := 1000) (v := .ref (ad 1026)) hx hb hts in_X6_rank_X6 hown hK hP (hq _ (by decide)) c_o rfl 26 (by decide) (hts _ wd_X6_rank_4) (fun _ h9 => h9) rfl dX6_rank_85 ?_
                    refine lv_iconst (v := nI 5) hx hb dX6_rank_88 (by decide) ?_
                    refine lv_iload_n hx hb dX6_rank_89 rfl (lv_at hl 3 rfl) ?_
                    refine ax_mul (a := 5) (b := d) hx hb dX6_rank_90 ?_
                    refine lv_iload_n hx hb dX6_rank_91 rfl (lv_at hl 1 rfl) ?_
                    refine ax_add (a := 5 * d) (b := colF V x) hx hb dX6_rank_92 ?_
                    refine ax_iald (k := 1026) (i := 5 * d + (colF V x)) (v := nI ((vN (swF tbx i d)) (5 * d + (colF V x)))) hx hb hK hP (hq _ (by decide)) c_T (by omega) (by omega) rfl dX6_rank_93 ?_
                    rw [show vN (swF tbx i d) (5 * d + colF V x) = (rw5 tbx i (colF V x)).val from congrArg Fin.val (swF_d (by omega))]
                    refine cx_Si (As := [.int (nI ((rw5 tbx i (colF V x)).val))]) (rest := []) ⟨hx, hb, hml, hown, hts⟩ (c_X6_inverse hD (av := rw5 tbx i (colF V x)) hny) (va_cwS 1 hts gX6_rank_X6_inverse rfl rfl rfl (by decide +kernel) ⟨Nat.le_of_ble_eq_true rfl, Nat.le_of_ble_eq_true rfl⟩) hK hP hS hz ⟨Nat.zero_le _, Nat.zero_le _⟩ rfl hl.1 rfl (Nat.le_of_ble_eq_true rfl) dX6_rank_94 (fun r6 g6 H locs hp6 hP hS => ?_)
                    obtain ⟨er6, ehp6g⟩ := hp6
                    rw [ehp6g] at hP
                    rw [er6]
                    refine lv_istore (lv' := [(5, .int (nI ((finv (rw5 tbx i (colF V x))).val))), (4, .int (nI i)), (3, .int (nI (colF V x))), (2, .int (nI x)), (1, .int (nI d)), (0, .ref (ad 1000))]) hx hb dX6_rank_97 hl (by decide) rfl (fun ls hl => ?_)
                    refine lv_iconst (v := nI 0) hx hb dX6_rank_99 (by decide) ?_
                    refine lv_istore (lv' := [(6, .int (nI 0)), (5, .int (nI ((finv (rw5 tbx i (colF V x))).val))), (4, .int (nI i)), (3, .int (nI (colF V x))), (2, .int (nI x)), (1, .int (nI d)), (0, .ref (ad 1000))]) hx hb dX6_rank_100 hl (by decide) rfl (fun ls hl => ?_)
                    have LP102 : ∀ (fu : Nat) (k : Nat) (y : Nat → FF), (k ≤ 5) → (∀ j : Nat, y j = if j % 5 < k then scF (swF tbx i d) d (finv (rw5 tbx i (colF V x))) j else (swF tbx i d) j) → (5 - k) < fu → ∀ (ga7 : Nat → va_E) (H : Heap) (locs : List Loc) (ls : Array Slot), (ga7 1000 = .inr (6, [.int (nI N), .int (nI V), .int (nI th), .ref (ad 1003), .int (nI ec), .ref (ad 1005), .ref (ad 1006), .ref (ad 1007), .ref (ad 1008), .ref (ad 1009), .int (nI en), .int (if an = true then 1 else 0), .ref (ad 1012), .ref (ad 1013), .ref (ad 1014), .int (nI al), .ref (ad 1016), .ref (ad 1017), .ref (ad 1018), .ref (ad 1019), .int (nI pl), .ref (ad 1021), .int (nI nc), .ref (ad 1023), .ref (ad 1024), .int (nI sz), .ref (ad 1026), .ref (ad 1027), .ref (ad 1028)])) → (ga7 1026 = nA G 150 (vN y)) → (ga7 1027 = iA G 5 (nu pz (colF V x) (-1))) → (∀ j : Nat, (j ≠ 1026 ∧ j ≠ 1027) → ga7 j = g j) → va_P G.1 vwCl (wl L ad ga7) H → va_S (cx_A L ad s.heap.size) s.heap H locs → lv_has ls 7 [(6, .int (nI k)), (5, .int (nI ((finv (rw5 tbx i (colF V x))).val))), (4, .int (nI i)), (3, .int (nI (colF V x))), (2, .int (nI x)), (1, .int (nI d)), (0, .ref (ad 1000))] → W p l e rm_X6_rank s m args below meth c H locs 0 0 Q (F0 m 102 ls []) := by
                      intro fu
                      induction fu with
                      | zero => intro k y hk5 hr hfu; exact absurd hfu (Nat.not_lt_zero _)
                      | succ fu ih102 =>
                        intro k y hk5 hr hfu102 ga7 H locs ls c_o c_T c_P fr hP hS hl
                        refine lv_iload hx hb dX6_rank_102 (lv_at hl 0 rfl) ?_
                        refine lv_iconst (v := nI 5) hx hb dX6_rank_104 (by decide) ?_
                        refine ax_icge (a := k) (b := 5) (tgt := 144) hx hb dX6_rank_105 (by decide) (by omega) (by omega) (fun h105 => ?_) (fun h105 => ?_)
                        · skip
                          rw [sc_done h105 hr] at c_T
                          refine lv_iconst (v := nI 0) hx hb dX6_rank_144 (by decide) ?_
                          refine lv_istore (lv' := [(6, .int (nI 0)), (5, .int (nI ((finv (rw5 tbx i (colF V x))).val))), (4, .int (nI i)), (3, .int (nI (colF V x))), (2, .int (nI x)), (1, .int (nI d)), (0, .ref (ad 1000))]) hx hb dX6_rank_145 hl (by decide) rfl (fun ls hl => ?_)
                          have LP147 : ∀ (fu : Nat) (q : Nat) (z : Nat → FF), (q ≤ sz) → (ELr (scF (swF tbx i d) d (finv (rw5 tbx i (colF V x)))) d (colF V x) q z) → (sz - q) < fu → ∀ (ga8 : Nat → va_E) (H : Heap) (locs : List Loc) (ls : Array Slot), (ga8 1000 = .inr (6, [.int (nI N), .int (nI V), .int (nI th), .ref (ad 1003), .int (nI ec), .ref (ad 1005), .ref (ad 1006), .ref (ad 1007), .ref (ad 1008), .ref (ad 1009), .int (nI en), .int (if an = true then 1 else 0), .ref (ad 1012), .ref (ad 1013), .ref (ad 1014), .int (nI al), .ref (ad 1016), .ref (ad 1017), .ref (ad 1018), .ref (ad 1019), .int (nI pl), .ref (ad 1021), .int (nI nc), .ref (ad 1023), .ref (ad 1024), .int (nI sz), .ref (ad 1026), .ref (ad 1027), .ref (ad 1028)])) → (ga8 1026 = nA G 150 (vN z)) → (ga8 1027 = iA G 5 (nu pz (colF V x) (-1))) → (∀ j : Nat, (j ≠ 1026 ∧ j ≠ 1027) → ga8 j = g j) → va_P G.1 vwCl (wl L ad ga8) H → va_S (cx_A L ad s.heap.size) s.heap H locs → lv_has ls 7 [(6, .int (nI q)), (4, .int (nI i)), (3, .int (nI (colF V x))), (2, .int (nI x)), (1, .int (nI d)), (0, .ref (ad 1000))] → W p l e rm_X6_rank s m args below meth c H locs 0 0 Q (F0 m 147 ls []) := by
                            intro fu
                            induction fu with
                            | zero => intro q z hqz hel hfu; exact absurd hfu (Nat.not_lt_zero _)
                            | succ fu ih147 =>
                              intro q z hqz hel hfu147 ga8 H locs ls c_o c_T c_P fr hP hS hl
                              refine lv_iload hx hb dX6_rank_147 (lv_at hl 0 rfl) ?_
                              refine lv_aload_n hx hb dX6_rank_149 rfl (lv_at hl 5 rfl) ?_
                              refine ax_get (k := 1000) (v := .int (nI sz)) hx hb hts in_X6_rank_X6 hown hK hP (hq _ (by decide)) c_o rfl 25 (by decide) (hts _ wd_X6_rank_3) (fun _ h9 => h9) rfl dX6_rank_150 ?_
                              refine ax_icge (a := q) (b := sz) (tgt := 186) hx hb dX6_rank_153 (by decide) (by omega) (by omega) (fun h153 => ?_) (fun h153 => ?_)
                              · skip
                                refine lv_aload_n hx hb dX6_rank_186 rfl (lv_at hl 5 rfl) ?_
                                refine ax_get (k := 1000) (v := .ref (ad 1027)) hx hb hts in_X6_rank_X6 hown hK hP (hq _ (by decide)) c_o rfl 27 (by decide) (hts _ wd_X6_rank_2) (fun _ h9 => h9) rfl dX6_rank_187 ?_
                                refine lv_iload_n hx hb dX6_rank_190 rfl (lv_at hl 2 rfl) ?_
                                refine lv_iload_n hx hb dX6_rank_191 rfl (lv_at hl 4 rfl) ?_
                                refine ax_iast (k := 1027) (i := colF V x) (f' := (nu (nu pz (colF V x) (-1)) (colF V x) (nI d))) hx hb hK hP hD hS (hq _ (by decide)) c_P (by omega) (by omega) (up_i _ _ _) dX6_rank_192 (fun H locs g9 eg9 hP hS => ?_)
                                have c_o : g9 1000 = .inr (6, [.int (nI N), .int (nI V), .int (nI th), .ref (ad 1003), .int (nI ec), .ref (ad 1005), .ref (ad 1006), .ref (ad 1007), .ref (ad 1008), .ref (ad 1009), .int (nI en), .int (if an = true then 1 else 0), .ref (ad 1012), .ref (ad 1013), .ref (ad 1014), .int (nI al), .ref (ad 1016), .ref (ad 1017), .ref (ad 1018), .ref (ad 1019), .int (nI pl), .ref (ad 1021), .int (nI nc), .ref (ad 1023), .ref (ad 1024), .int (nI sz), .ref (ad 1026), .ref (ad 1027), .ref (ad 1028)]) := (cx_ne eg9 1000 (by omega)).trans c_o
                                have c_T : g9 1026 = nA G 150 (vN z) := (cx_ne eg9 1026 (by omega)).trans c_T
                                have c_P : g9 1027 = iA G 5 (nu (nu pz (colF V x) (-1)) (colF V x) (nI d)) := cx_eq eg9
                                have fr : ∀ j : Nat, (j ≠ 1026 ∧ j ≠ 1027) → g9 j = g j := fun j hj => (cx_ne eg9 j (by omega)).trans (fr j hj)
                                refine lv_iinc (v := nI (d + 1)) (lv' := [(1, .int (nI (d + 1))), (6, .int (nI q)), (4, .int (nI i)), (3, .int (nI (colF V x))), (2, .int (nI x)), (0, .ref (ad 1000))]) hx hb dX6_rank_193 hl (k := 4) rfl (nI_1 _) (by decide) rfl (fun ls hl => ?_)
                                refine lv_iinc (v := nI (x + 1)) (lv' := [(2, .int (nI (x + 1))), (1, .int (nI (d + 1))), (6, .int (nI q)), (4, .int (nI i)), (3, .int (nI (colF V x))), (0, .ref (ad 1000))]) hx hb dX6_rank_196 hl (k := 4) rfl (nI_1 _) (by decide) rfl (fun ls hl => ?_)
                                refine lv_goto (tgt := 4) hx hb dX6_rank_199 (by decide) ?_
                                exact ih4 (x + 1) (d + 1) z (nu (nu pz (colF V x) (-1)) (colF V x) (nI d)) (nu t (colF V x) true) (nu pv (colF V x) d) (nu ro d (colF V x)) (by omega) (hgj.step hxV hdi h74 hny (hel.rows h153 (by omega)) hV) (hpz.step hxV) (by omega) g9 _ _ _ c_o c_T c_P  fr hP hS (lv_sub hl [0, 1, 5] rfl)
                              · skip
                                refine lv_iload hx hb dX6_rank_156 (lv_at hl 0 rfl) ?_
                                refine lv_iload_n hx hb dX6_rank_158 rfl (lv_at hl 4 rfl) ?_
                                refine ax_iceq (a := q) (b := d) (tgt := 180) hx hb dX6_rank_159 (by decide) (by omega) (by omega) (fun h159 => ?_) (fun h159 => ?_)
                                · skip
                                  refine lv_iinc (v := nI (q + 1)) (lv' := [(6, .int (nI (q + 1))), (4, .int (nI i)), (3, .int (nI (colF V x))), (2, .int (nI x)), (1, .int (nI d)), (0, .ref (ad 1000))]) hx hb dX6_rank_180 hl (k := 0) rfl (nI_1 _) (by decide) rfl (fun ls hl => ?_)
                                  refine lv_goto (tgt := 147) hx hb dX6_rank_183 (by decide) ?_
                                  exact ih147 (q + 1) z h153 (by rw [h159] at hel ⊢; exact hel.skip) (by omega) ga8 _ _ _ c_o c_T c_P  fr hP hS (lv_sub hl [0, 1, 2, 3, 4, 5] rfl)
                                · skip
                                  refine lv_aload_n hx hb dX6_rank_162 rfl (lv_at hl 5 rfl) ?_
                                  refine lv_iload hx hb dX6_rank_163 (lv_at hl 0 rfl) ?_
                                  refine lv_iload_n hx hb dX6_rank_165 rfl (lv_at hl 4 rfl) ?_
                                  refine lv_aload_n hx hb dX6_rank_166 rfl (lv_at hl 5 rfl) ?_
                                  refine ax_get (k := 1000) (v := .ref (ad 1026)) hx hb hts in_X6_rank_X6 hown hK hP (hq _ (by decide)) c_o rfl 26 (by decide) (hts _ wd_X6_rank_4) (fun _ h9 => h9) rfl dX6_rank_167 ?_
                                  refine lv_iconst (v := nI 5) hx hb dX6_rank_170 (by decide) ?_
                                  refine lv_iload hx hb dX6_rank_171 (lv_at hl 0 rfl) ?_
                                  refine ax_mul (a := 5) (b := q) hx hb dX6_rank_173 ?_
                                  refine lv_iload_n hx hb dX6_rank_174 rfl (lv_at hl 2 rfl) ?_
                                  refine ax_add (a := 5 * q) (b := colF V x) hx hb dX6_rank_175 ?_
                                  refine ax_iald (k := 1026) (i := 5 * q + (colF V x)) (v := nI ((vN z) (5 * q + (colF V x)))) hx hb hK hP (hq _ (by decide)) c_T (by omega) (by omega) rfl dX6_rank_176 ?_
                                  refine cx_Vv (As := [.int (nI q), .int (nI d), .int (nI ((vN z) (5 * q + (colF V x))))]) (rest := []) ⟨hx, hb, hml, hown, hts⟩ (c_X6_minus hD hN1 hN hV1 hV hq (a := q) (b := d) (f := z (5 * q + colF V x)) (tb := z) c_o c_T (by omega) (by omega) h159) (cwV 3 hts gX6_rank_X6_minus rfl rfl rfl (by decide +kernel) ⟨Nat.le_of_ble_eq_true rfl, Nat.le_of_ble_eq_true rfl⟩) hK hP hS hz (hq _ (by decide)) c_o rfl ⟨Nat.zero_le _, Nat.zero_le _⟩ rfl hl.1 rfl (Nat.le_of_ble_eq_true rfl) dX6_rank_177 (fun g10 H locs hp10 hP hS => ?_)
                                  obtain ⟨hp10a, hp10b⟩ := hp10
                                  have c_o : g10 1000 = .inr (6, [.int (nI N), .int (nI V), .int (nI th), .ref (ad 1003), .int (nI ec), .ref (ad 1005), .ref (ad 1006), .ref (ad 1007), .ref (ad 1008), .ref (ad 1009), .int (nI en), .int (if an = true then 1 else 0), .ref (ad 1012), .ref (ad 1013), .ref (ad 1014), .int (nI al), .ref (ad 1016), .ref (ad 1017), .ref (ad 1018), .ref (ad 1019), .int (nI pl), .ref (ad 1021), .int (nI nc), .ref (ad 1023), .ref (ad 1024), .int (nI sz), .ref (ad 1026), .ref (ad 1027), .ref (ad 1028)]) := (hp10a 1000 (by omega)).trans c_o
                                  have c_P : g10 1027 = iA G 5 (nu pz (colF V x) (-1)) := (hp10a 1027 (by omega)).trans c_P
                                  have fr : ∀ j : Nat, (j ≠ 1026 ∧ j ≠ 1027) → g10 j = g j := fun j hj => (hp10a j (by omega)).trans (fr j hj)
                                  have c_T := hp10b
                                  refine lv_iinc (v := nI (q + 1)) (lv' := [(6, .int (nI (q + 1))), (4, .int (nI i)), (3, .int (nI (colF V x))), (2, .int (nI x)), (1, .int (nI d)), (0, .ref (ad 1000))]) hx hb dX6_rank_180 hl (k := 0) rfl (nI_1 _) (by decide) rfl (fun ls hl => ?_)
                                  refine lv_goto (tgt := 147) hx hb dX6_rank_183 (by decide) ?_
                                  exact ih147 (q + 1) (mnF z q d (z (5 * q + colF V x))) h153 (hel.step h159 (by omega)) (by omega) g10 _ _ _ c_o c_T c_P  fr hP hS (lv_sub hl [0, 1, 2, 3, 4, 5] rfl)
                          exact LP147 ((sz - 0) + 1) 0 (scF (swF tbx i d) d (finv (rw5 tbx i (colF V x)))) (Nat.zero_le _) ELr.start (Nat.lt_succ_self _) ga7 _ _ _ c_o c_T c_P  fr hP hS (lv_sub hl [0, 2, 3, 4, 5, 6] rfl)
                        · skip
                          have b2 := vN_lt y (5 * d + k)
                          have bf := (finv (rw5 tbx i (colF V x))).isLt
                          have b3 : (finv (rw5 tbx i (colF V x))).val * vN y (5 * d + k) ≤ 65521 * 65521 := mul_le3 (Nat.le_of_lt bf) (Nat.le_of_lt b2)
                          refine lv_aload_n hx hb dX6_rank_108 rfl (lv_at hl 6 rfl) ?_
                          refine ax_get (k := 1000) (v := .ref (ad 1026)) hx hb hts in_X6_rank_X6 hown hK hP (hq _ (by decide)) c_o rfl 26 (by decide) (hts _ wd_X6_rank_4) (fun _ h9 => h9) rfl dX6_rank_109 ?_
                          refine lv_iconst (v := nI 5) hx hb dX6_rank_112 (by decide) ?_
                          refine lv_iload_n hx hb dX6_rank_113 rfl (lv_at hl 5 rfl) ?_
                          refine ax_mul (a := 5) (b := d) hx hb dX6_rank_114 ?_
                          refine lv_iload hx hb dX6_rank_115 (lv_at hl 0 rfl) ?_
                          refine ax_add (a := 5 * d) (b := k) hx hb dX6_rank_117 ?_
                          refine lv_iload hx hb dX6_rank_118 (lv_at hl 1 rfl) ?_
                          refine ax_i2l (a := (finv (rw5 tbx i (colF V x))).val) hx hb dX6_rank_120 (by omega) ?_
                          refine lv_aload_n hx hb dX6_rank_121 rfl (lv_at hl 6 rfl) ?_
                          refine ax_get (k := 1000) (v := .ref (ad 1026)) hx hb hts in_X6_rank_X6 hown hK hP (hq _ (by decide)) c_o rfl 26 (by decide) (hts _ wd_X6_rank_4) (fun _ h9 => h9) rfl dX6_rank_122 ?_
                          refine lv_iconst (v := nI 5) hx hb dX6_rank_125 (by decide) ?_
                          refine lv_iload_n hx hb dX6_rank_126 rfl (lv_at hl 5 rfl) ?_
                          refine ax_mul (a := 5) (b := d) hx hb dX6_rank_127 ?_
                          refine lv_iload hx hb dX6_rank_128 (lv_at hl 0 rfl) ?_
                          refine ax_add (a := 5 * d) (b := k) hx hb dX6_rank_130 ?_
                          refine ax_iald (k := 1026) (i := 5 * d + k) (v := nI ((vN y) (5 * d + k))) hx hb hK hP (hq _ (by decide)) c_T (by omega) (by omega) rfl dX6_rank_131 ?_
                          refine ax_i2l (a := (vN y) (5 * d + k)) hx hb dX6_rank_132 (by omega) ?_
                          refine ax_lmul (a := (finv (rw5 tbx i (colF V x))).val) (b := (vN y) (5 * d + k)) hx hb dX6_rank_133 ?_
                          refine cx_Si (As := [.long (lN (((finv (rw5 tbx i (colF V x))).val) * ((vN y) (5 * d + k))))]) (rest := [.int (nI (5 * d + k)), .ref (ad 1026)]) ⟨hx, hb, hml, hown, hts⟩ (c_X6_mod hD (x := lN (((finv (rw5 tbx i (colF V x))).val) * ((vN y) (5 * d + k))))) (va_cwS 1 hts gX6_rank_X6_mod rfl rfl rfl (by decide +kernel) ⟨Nat.le_of_ble_eq_true rfl, Nat.le_of_ble_eq_true rfl⟩) hK hP hS hz ⟨Nat.zero_le _, Nat.zero_le _⟩ rfl hl.1 rfl (Nat.le_of_ble_eq_true rfl) dX6_rank_134 (fun r11 g11 H locs hp11 hP hS => ?_)
                          obtain ⟨er11, ehp11g⟩ := hp11
                          rw [ehp11g] at hP
                          rw [er11]
                          rw [show fi (lN (((finv (rw5 tbx i (colF V x))).val) * ((vN y) (5 * d + k)))).toInt = finv (rw5 tbx i (colF V x)) * y (5 * d + k) from by rw [ln_fi (by omega), ff_mul, ff_of]; unfold vN; rw [ff_of]]
                          refine ax_iast (k := 1026) (i := 5 * d + k) (f' := (fun j => nI ((nu (vN y) (5 * d + k) ((finv (rw5 tbx i (colF V x)) * y (5 * d + k)).val)) j))) hx hb hK hP hD hS (hq _ (by decide)) c_T (by omega) (by omega) (up_n _ _ _) dX6_rank_137 (fun H locs g12 eg12 hP hS => ?_)
                          have c_o : g12 1000 = .inr (6, [.int (nI N), .int (nI V), .int (nI th), .ref (ad 1003), .int (nI ec), .ref (ad 1005), .ref (ad 1006), .ref (ad 1007), .ref (ad 1008), .ref (ad 1009), .int (nI en), .int (if an = true then 1 else 0), .ref (ad 1012), .ref (ad 1013), .ref (ad 1014), .int (nI al), .ref (ad 1016), .ref (ad 1017), .ref (ad 1018), .ref (ad 1019), .int (nI pl), .ref (ad 1021), .int (nI nc), .ref (ad 1023), .ref (ad 1024), .int (nI sz), .ref (ad 1026), .ref (ad 1027), .ref (ad 1028)]) := (cx_ne eg12 1000 (by omega)).trans c_o
                          have c_P : g12 1027 = iA G 5 (nu pz (colF V x) (-1)) := (cx_ne eg12 1027 (by omega)).trans c_P
                          have c_T : g12 1026 = nA G 150 (nu (vN y) (5 * d + k) ((finv (rw5 tbx i (colF V x)) * y (5 * d + k)).val)) := cx_eq eg12
                          have fr : ∀ j : Nat, (j ≠ 1026 ∧ j ≠ 1027) → g12 j = g j := fun j hj => (cx_ne eg12 j (by omega)).trans (fr j hj)
                          have c_T : g12 1026 = nA G 150 (vN (nu y (5 * d + k) (finv (rw5 tbx i (colF V x)) * y (5 * d + k)))) := by rw [← vN_nu]; exact c_T
                          refine lv_iinc (v := nI (k + 1)) (lv' := [(6, .int (nI (k + 1))), (5, .int (nI ((finv (rw5 tbx i (colF V x))).val))), (4, .int (nI i)), (3, .int (nI (colF V x))), (2, .int (nI x)), (1, .int (nI d)), (0, .ref (ad 1000))]) hx hb dX6_rank_138 hl (k := 0) rfl (nI_1 _) (by decide) rfl (fun ls hl => ?_)
                          refine lv_goto (tgt := 102) hx hb dX6_rank_141 (by decide) ?_
                          exact ih102 (k + 1) (nu y (5 * d + k) (finv (rw5 tbx i (colF V x)) * y (5 * d + k))) h105 (sc_step h105 hr) (by omega) g12 _ _ _ c_o c_T c_P  fr hP hS (lv_sub hl [0, 1, 2, 3, 4, 5, 6] rfl)
                    exact LP102 ((5 - 0) + 1) 0 (swF tbx i d) (Nat.zero_le _) h0s (Nat.lt_succ_self _) g5 _ _ _ c_o c_T c_P  fr hP hS (lv_sub hl [0, 1, 2, 3, 4, 5, 6] rfl)
                · skip
                  refine lv_iinc (v := nI (i + 1)) (lv' := [(4, .int (nI (i + 1))), (3, .int (nI (colF V x))), (2, .int (nI x)), (1, .int (nI d)), (0, .ref (ad 1000))]) hx hb dX6_rank_62 hl (k := 0) rfl (nI_1 _) (by decide) rfl (fun ls hl => ?_)
                  refine lv_goto (tgt := 39) hx hb dX6_rank_65 (by decide) ?_
                  exact ih39 (i + 1) (by omega) h45 (fun r q1 q2 => by by_cases e9 : r = i; exact (by rw [e9]; exact Fin.ext h59); exact hat r q1 (by omega)) (by omega) _ (lv_sub hl [0, 1, 2, 3, 4] rfl)
          exact LP39 ((sz - d) + 1) d (Nat.le_refl _) hdz (fun r q1 q2 => absurd q2 (by omega)) (Nat.lt_succ_self _) _ (lv_sub hl [0, 1, 2, 3, 4] rfl)
        refine lv_iload_n hx hb dX6_rank_12 rfl (lv_at hl 0 rfl) ?_
        refine ax_ifne (a := x) (tgt := 20) hx hb dX6_rank_13 (by decide) (by omega) (fun h13 => ?_) (fun h13 => ?_)
        · skip
          refine lv_aload_n hx hb dX6_rank_20 rfl (lv_at hl 2 rfl) ?_
          refine ax_get (k := 1000) (v := .int (nI V)) hx hb hts in_X6_rank_X6 hown hK hP (hq _ (by decide)) c_o rfl 1 (by decide) (hts _ wd_X6_rank_0) (fun _ h9 => h9) rfl dX6_rank_21 ?_
          refine lv_iconst (v := nI 1) hx hb dX6_rank_24 (by decide) ?_
          refine ax_add (a := V) (b := 1) hx hb dX6_rank_25 ?_
          refine lv_iload_n hx hb dX6_rank_26 rfl (lv_at hl 0 rfl) ?_
          refine ax_sub (a := V + 1) (b := x) hx hb dX6_rank_27 (by omega) ?_
          rw [show nI (V + 1 - x) = nI (colF V x) from congrArg nI (if_neg h13).symm]
          refine lv_istore_n (lv' := [(3, .int (nI (colF V x))), (2, .int (nI x)), (1, .int (nI d)), (0, .ref (ad 1000))]) hx hb dX6_rank_28 rfl hl (by decide) rfl (fun ls hl => ?_)
          exact LP29 ()  _ (lv_sub hl [0, 1, 2, 3] rfl)
        · skip
          refine lv_iconst (v := nI 0) hx hb dX6_rank_16 (by decide) ?_
          refine lv_goto (tgt := 28) hx hb dX6_rank_17 (by decide) ?_
          rw [show nI 0 = nI (colF V x) from congrArg nI (if_pos h13).symm]
          refine lv_istore_n (lv' := [(3, .int (nI (colF V x))), (2, .int (nI x)), (1, .int (nI d)), (0, .ref (ad 1000))]) hx hb dX6_rank_28 rfl hl (by decide) rfl (fun ls hl => ?_)
          exact LP29 ()  _ (lv_sub hl [0, 1, 2, 3] rfl)
  exact LP4 ((V + 1 - 0) + 1) 0 0 tb pz0 (fun _ => false) (fun _ => 0) (fun _ => 0) (Nat.zero_le _) GJ.start (fun k h => absurd h pcd_0) (Nat.lt_succ_self _) g _ _ _ c_o c_T c_P  fr hP hS (lv_sub hl [0, 1, 2] rfl)
