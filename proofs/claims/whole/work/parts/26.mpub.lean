/-! THE MODEL: public methods -/
theorem askP_0 {N : Nat} {an : Bool} {x1 r : Int32} (h : askP N an x1 r) (h0 : r = 0) : r = nI 0 ∧ inB 0 N x1 ∧ an = true := by
  rcases h with ⟨e, -⟩ | ⟨e, -, -⟩ | ⟨e, a, b⟩
  · rw [e] at h0; exact absurd h0 (by decide)
  · rw [e] at h0; exact absurd h0 (by decide)
  · exact ⟨e, a, b⟩

set_option maxRecDepth 20000 in
theorem wd_X6_term_0 : Cond.fieldLink RX6 74 "AffineHullsModel" "thrown" "I" ∈ wsX6_term := by decide +kernel
set_option maxRecDepth 20000 in
theorem in_X6_term_X6 : ∀ w ∈ u_ws RX6 TX6 29, w ∈ wsX6_term := by decide +kernel
set_option maxRecDepth 20000 in
theorem wd_X6_term_2 : Cond.fieldLink RX6 71 "AffineHullsModel" "v" "I" ∈ wsX6_term := by decide +kernel
set_option maxRecDepth 20000 in
theorem wd_X6_term_3 : Cond.fieldLink RX6 7 "AffineHullsModel" "draft" "[I" ∈ wsX6_term := by decide +kernel
abbrev rm_X6_term : Room := { frames := 1, cells := 0, slots := 0, locals := 23 }
set_option maxHeartbeats 4000000 in
set_option maxRecDepth 100000 in
theorem c_X6_term {l : Launch} {G : cx_G} {L : List Nat} {ad : Nat → Nat} {g : Nat → va_E} (hD : cx_D L ad) {N V th ec en al pl nc sz : Nat} {an : Bool} {x1 x2 : Int32} {d : Nat → FF} (hN1 : 1 ≤ N) (hN : N ≤ 8) (hV1 : 1 ≤ V) (hV : V ≤ 4) (hq : ∀ j : Nat, lbM j = true → j ∈ L) (c_o : g 1000 = .inr (6, [.int (nI N), .int (nI V), .int (nI th), .ref (ad 1003), .int (nI ec), .ref (ad 1005), .ref (ad 1006), .ref (ad 1007), .ref (ad 1008), .ref (ad 1009), .int (nI en), .int (if an = true then 1 else 0), .ref (ad 1012), .ref (ad 1013), .ref (ad 1014), .int (nI al), .ref (ad 1016), .ref (ad 1017), .ref (ad 1018), .ref (ad 1019), .int (nI pl), .ref (ad 1021), .int (nI nc), .ref (ad 1023), .ref (ad 1024), .int (nI sz), .ref (ad 1026), .ref (ad 1027), .ref (ad 1028)])) (c_d : g 1003 = nA G 5 (vN d)) : MV l yX6_term wsX6_term rm_X6_term G L ad g [.ref (ad 1000), .int x1, .int x2] (fun u => (∀ j : Nat, (j ≠ 1000 ∧ j ≠ 1003) → u j = g j) ∧ ((∃ k1 : Nat, k1 < V + 1 ∧ x1 = nI k1 ∧ u 1000 = .inr (6, [.int (nI N), .int (nI V), .int (nI 0), .ref (ad 1003), .int (nI ec), .ref (ad 1005), .ref (ad 1006), .ref (ad 1007), .ref (ad 1008), .ref (ad 1009), .int (nI en), .int (if an = true then 1 else 0), .ref (ad 1012), .ref (ad 1013), .ref (ad 1014), .int (nI al), .ref (ad 1016), .ref (ad 1017), .ref (ad 1018), .ref (ad 1019), .int (nI pl), .ref (ad 1021), .int (nI nc), .ref (ad 1023), .ref (ad 1024), .int (nI sz), .ref (ad 1026), .ref (ad 1027), .ref (ad 1028)]) ∧ u 1003 = nA G 5 (vN (nu d k1 (fi x2.toInt)))) ∨ (¬ inB 0 (V + 1) x1 ∧ u 1000 = .inr (6, [.int (nI N), .int (nI V), .int (nI 1), .ref (ad 1003), .int (nI ec), .ref (ad 1005), .ref (ad 1006), .ref (ad 1007), .ref (ad 1008), .ref (ad 1009), .int (nI en), .int (if an = true then 1 else 0), .ref (ad 1012), .ref (ad 1013), .ref (ad 1014), .int (nI al), .ref (ad 1016), .ref (ad 1017), .ref (ad 1018), .ref (ad 1019), .int (nI pl), .ref (ad 1021), .int (nI nc), .ref (ad 1023), .ref (ad 1024), .int (nI sz), .ref (ad 1026), .ref (ad 1027), .ref (ad 1028)]) ∧ u 1003 = nA G 5 (vN d)))) := by
  refine cx_ofV (cc := cX6_term) (maxL := 3) (by decide +kernel) rfl (Nat.le_of_ble_eq_true rfl) ?_
  intro p e s m args below meth c Q hx hb hts hown hml hP hK hS hz hret ls hl
  have hown : s.vm.findClass RX6 = some m.cls := hown
  have hl : lv_has ls 3 [(0, .ref (ad 1000)), (1, .int x1), (2, .int x2)] := hl
  have fr : ∀ j : Nat, (j ≠ 1000 ∧ j ≠ 1003) → g j = g j := fun _ _ => rfl
  refine lv_aload_n hx hb dX6_term_0 rfl (lv_at hl 0 rfl) ?_
  refine lv_iload_n hx hb dX6_term_1 rfl (lv_at hl 1 rfl) ?_
  refine lv_if_lt (x := x1) (tgt := 13) hx hb dX6_term_2 (by decide) (fun h2 => ?_) (fun h2 => ?_)
  · skip
    refine lv_iconst (v := nI 1) hx hb dX6_term_13 (by decide) ?_
    refine lv_goto (tgt := 18) hx hb dX6_term_14 (by decide) ?_
    refine ax_put (k := 1000) (v := .int (nI 1)) (fs' := [.int (nI N), .int (nI V), .int (nI 1), .ref (ad 1003), .int (nI ec), .ref (ad 1005), .ref (ad 1006), .ref (ad 1007), .ref (ad 1008), .ref (ad 1009), .int (nI en), .int (if an = true then 1 else 0), .ref (ad 1012), .ref (ad 1013), .ref (ad 1014), .int (nI al), .ref (ad 1016), .ref (ad 1017), .ref (ad 1018), .ref (ad 1019), .int (nI pl), .ref (ad 1021), .int (nI nc), .ref (ad 1023), .ref (ad 1024), .int (nI sz), .ref (ad 1026), .ref (ad 1027), .ref (ad 1028)]) hx hb hts in_X6_term_X6 tyX6 tyX6_ok nmX6 hown hK hP hD hS (hq _ (by decide)) c_o rfl 2 (by decide) (hts _ wd_X6_term_0) (fun _ h9 => h9) rfl (ty := .int) (by decide +kernel) rfl rfl (Nat.le_of_ble_eq_true rfl) rfl dX6_term_18 (fun H locs g1 eg1 hP hS => ?_)
    have c_d : g1 1003 = nA G 5 (vN d) := (cx_ne eg1 1003 (by omega)).trans c_d
    have c_o : g1 1000 = .inr (6, [.int (nI N), .int (nI V), .int (nI 1), .ref (ad 1003), .int (nI ec), .ref (ad 1005), .ref (ad 1006), .ref (ad 1007), .ref (ad 1008), .ref (ad 1009), .int (nI en), .int (if an = true then 1 else 0), .ref (ad 1012), .ref (ad 1013), .ref (ad 1014), .int (nI al), .ref (ad 1016), .ref (ad 1017), .ref (ad 1018), .ref (ad 1019), .int (nI pl), .ref (ad 1021), .int (nI nc), .ref (ad 1023), .ref (ad 1024), .int (nI sz), .ref (ad 1026), .ref (ad 1027), .ref (ad 1028)]) := cx_eq eg1
    have fr : ∀ j : Nat, (j ≠ 1000 ∧ j ≠ 1003) → g1 j = g j := fun j hj => (cx_ne eg1 j (by omega)).trans (fr j hj)
    refine lv_aload_n hx hb dX6_term_21 rfl (lv_at hl 0 rfl) ?_
    refine ax_get (k := 1000) (v := .int (nI 1)) hx hb hts in_X6_term_X6 hown hK hP (hq _ (by decide)) c_o rfl 2 (by decide) (hts _ wd_X6_term_0) (fun _ h9 => h9) rfl dX6_term_22 ?_
    refine ax_ifne (a := 1) (tgt := 39) hx hb dX6_term_25 (by decide) (by omega) (fun h25 => ?_) (fun h25 => ?_)
    · skip
      exact hret g1 _ _ _ _ ⟨fr, Or.inr ⟨nb_0 (by omega) h2, c_o, c_d⟩⟩ hP hS dX6_term_39
    · skip
      exact absurd h25 (by decide)
  · skip
    refine lv_iload_n hx hb dX6_term_5 rfl (lv_at hl 1 rfl) ?_
    refine lv_aload_n hx hb dX6_term_6 rfl (lv_at hl 0 rfl) ?_
    refine ax_get (k := 1000) (v := .int (nI V)) hx hb hts in_X6_term_X6 hown hK hP (hq _ (by decide)) c_o rfl 1 (by decide) (hts _ wd_X6_term_2) (fun _ h9 => h9) rfl dX6_term_7 ?_
    refine lv_icmp_le (x := x1) (y := nI V) (tgt := 17) hx hb dX6_term_10 (by decide) (fun h10 => ?_) (fun h10 => ?_)
    · skip
      obtain ⟨k1, hk1a, hk1b, rfl⟩ := yb_l (by omega) h2 h10
      refine lv_iconst (v := nI 0) hx hb dX6_term_17 (by decide) ?_
      refine ax_put (k := 1000) (v := .int (nI 0)) (fs' := [.int (nI N), .int (nI V), .int (nI 0), .ref (ad 1003), .int (nI ec), .ref (ad 1005), .ref (ad 1006), .ref (ad 1007), .ref (ad 1008), .ref (ad 1009), .int (nI en), .int (if an = true then 1 else 0), .ref (ad 1012), .ref (ad 1013), .ref (ad 1014), .int (nI al), .ref (ad 1016), .ref (ad 1017), .ref (ad 1018), .ref (ad 1019), .int (nI pl), .ref (ad 1021), .int (nI nc), .ref (ad 1023), .ref (ad 1024), .int (nI sz), .ref (ad 1026), .ref (ad 1027), .ref (ad 1028)]) hx hb hts in_X6_term_X6 tyX6 tyX6_ok nmX6 hown hK hP hD hS (hq _ (by decide)) c_o rfl 2 (by decide) (hts _ wd_X6_term_0) (fun _ h9 => h9) rfl (ty := .int) (by decide +kernel) rfl rfl (Nat.le_of_ble_eq_true rfl) rfl dX6_term_18 (fun H locs g2 eg2 hP hS => ?_)
      have c_d : g2 1003 = nA G 5 (vN d) := (cx_ne eg2 1003 (by omega)).trans c_d
      have c_o : g2 1000 = .inr (6, [.int (nI N), .int (nI V), .int (nI 0), .ref (ad 1003), .int (nI ec), .ref (ad 1005), .ref (ad 1006), .ref (ad 1007), .ref (ad 1008), .ref (ad 1009), .int (nI en), .int (if an = true then 1 else 0), .ref (ad 1012), .ref (ad 1013), .ref (ad 1014), .int (nI al), .ref (ad 1016), .ref (ad 1017), .ref (ad 1018), .ref (ad 1019), .int (nI pl), .ref (ad 1021), .int (nI nc), .ref (ad 1023), .ref (ad 1024), .int (nI sz), .ref (ad 1026), .ref (ad 1027), .ref (ad 1028)]) := cx_eq eg2
      have fr : ∀ j : Nat, (j ≠ 1000 ∧ j ≠ 1003) → g2 j = g j := fun j hj => (cx_ne eg2 j (by omega)).trans (fr j hj)
      refine lv_aload_n hx hb dX6_term_21 rfl (lv_at hl 0 rfl) ?_
      refine ax_get (k := 1000) (v := .int (nI 0)) hx hb hts in_X6_term_X6 hown hK hP (hq _ (by decide)) c_o rfl 2 (by decide) (hts _ wd_X6_term_0) (fun _ h9 => h9) rfl dX6_term_22 ?_
      refine ax_ifne (a := 0) (tgt := 39) hx hb dX6_term_25 (by decide) (by omega) (fun h25 => ?_) (fun h25 => ?_)
      · skip
        exact absurd h25 (by decide)
      · skip
        refine lv_aload_n hx hb dX6_term_28 rfl (lv_at hl 0 rfl) ?_
        refine ax_get (k := 1000) (v := .ref (ad 1003)) hx hb hts in_X6_term_X6 hown hK hP (hq _ (by decide)) c_o rfl 3 (by decide) (hts _ wd_X6_term_3) (fun _ h9 => h9) rfl dX6_term_29 ?_
        refine lv_iload_n hx hb dX6_term_32 rfl (lv_at hl 1 rfl) ?_
        refine lv_iload_n hx hb dX6_term_33 rfl (lv_at hl 2 rfl) ?_
        refine lv_i2l (v := x2.toInt64) hx hb dX6_term_34 rfl ?_
        refine cx_Si (As := [.long x2.toInt64]) (rest := [.int (nI k1), .ref (ad 1003)]) ⟨hx, hb, hml, hown, hts⟩ (c_X6_mod hD (x := x2.toInt64)) (va_cwS 1 hts gX6_term_X6_mod rfl rfl rfl (by decide +kernel) ⟨Nat.le_of_ble_eq_true rfl, Nat.le_of_ble_eq_true rfl⟩) hK hP hS hz ⟨Nat.zero_le _, Nat.zero_le _⟩ rfl hl.1 rfl (Nat.le_of_ble_eq_true rfl) dX6_term_35 (fun r3 g3 H locs hp3 hP hS => ?_)
        obtain ⟨er3, ehp3g⟩ := hp3
        rw [ehp3g] at hP
        rw [er3]
        rw [show fi (x2.toInt64).toInt = fi x2.toInt from by rw [i2l_fi]]
        refine ax_iast (k := 1003) (i := k1) (f' := (fun j => nI ((nu (vN d) k1 ((fi x2.toInt).val)) j))) hx hb hK hP hD hS (hq _ (by decide)) c_d (by omega) (by omega) (up_n _ _ _) dX6_term_38 (fun H locs g4 eg4 hP hS => ?_)
        have c_o : g4 1000 = .inr (6, [.int (nI N), .int (nI V), .int (nI 0), .ref (ad 1003), .int (nI ec), .ref (ad 1005), .ref (ad 1006), .ref (ad 1007), .ref (ad 1008), .ref (ad 1009), .int (nI en), .int (if an = true then 1 else 0), .ref (ad 1012), .ref (ad 1013), .ref (ad 1014), .int (nI al), .ref (ad 1016), .ref (ad 1017), .ref (ad 1018), .ref (ad 1019), .int (nI pl), .ref (ad 1021), .int (nI nc), .ref (ad 1023), .ref (ad 1024), .int (nI sz), .ref (ad 1026), .ref (ad 1027), .ref (ad 1028)]) := (cx_ne eg4 1000 (by omega)).trans c_o
        have c_d : g4 1003 = nA G 5 (nu (vN d) k1 ((fi x2.toInt).val)) := cx_eq eg4
        have fr : ∀ j : Nat, (j ≠ 1000 ∧ j ≠ 1003) → g4 j = g j := fun j hj => (cx_ne eg4 j (by omega)).trans (fr j hj)
        exact hret g4 _ _ _ _ ⟨fr, Or.inl ⟨k1, hk1b, rfl, c_o, by rw [vN_nu] at c_d; exact c_d⟩⟩ hP hS dX6_term_39
    · skip
      refine lv_iconst (v := nI 1) hx hb dX6_term_13 (by decide) ?_
      refine lv_goto (tgt := 18) hx hb dX6_term_14 (by decide) ?_
      refine ax_put (k := 1000) (v := .int (nI 1)) (fs' := [.int (nI N), .int (nI V), .int (nI 1), .ref (ad 1003), .int (nI ec), .ref (ad 1005), .ref (ad 1006), .ref (ad 1007), .ref (ad 1008), .ref (ad 1009), .int (nI en), .int (if an = true then 1 else 0), .ref (ad 1012), .ref (ad 1013), .ref (ad 1014), .int (nI al), .ref (ad 1016), .ref (ad 1017), .ref (ad 1018), .ref (ad 1019), .int (nI pl), .ref (ad 1021), .int (nI nc), .ref (ad 1023), .ref (ad 1024), .int (nI sz), .ref (ad 1026), .ref (ad 1027), .ref (ad 1028)]) hx hb hts in_X6_term_X6 tyX6 tyX6_ok nmX6 hown hK hP hD hS (hq _ (by decide)) c_o rfl 2 (by decide) (hts _ wd_X6_term_0) (fun _ h9 => h9) rfl (ty := .int) (by decide +kernel) rfl rfl (Nat.le_of_ble_eq_true rfl) rfl dX6_term_18 (fun H locs g5 eg5 hP hS => ?_)
      have c_d : g5 1003 = nA G 5 (vN d) := (cx_ne eg5 1003 (by omega)).trans c_d
      have c_o : g5 1000 = .inr (6, [.int (nI N), .int (nI V), .int (nI 1), .ref (ad 1003), .int (nI ec), .ref (ad 1005), .ref (ad 1006), .ref (ad 1007), .ref (ad 1008), .ref (ad 1009), .int (nI en), .int (if an = true then 1 else 0), .ref (ad 1012), .ref (ad 1013), .ref (ad 1014), .int (nI al), .ref (ad 1016), .ref (ad 1017), .ref (ad 1018), .ref (ad 1019), .int (nI pl), .ref (ad 1021), .int (nI nc), .ref (ad 1023), .ref (ad 1024), .int (nI sz), .ref (ad 1026), .ref (ad 1027), .ref (ad 1028)]) := cx_eq eg5
      have fr : ∀ j : Nat, (j ≠ 1000 ∧ j ≠ 1003) → g5 j = g j := fun j hj => (cx_ne eg5 j (by omega)).trans (fr j hj)
      refine lv_aload_n hx hb dX6_term_21 rfl (lv_at hl 0 rfl) ?_
      refine ax_get (k := 1000) (v := .int (nI 1)) hx hb hts in_X6_term_X6 hown hK hP (hq _ (by decide)) c_o rfl 2 (by decide) (hts _ wd_X6_term_0) (fun _ h9 => h9) rfl dX6_term_22 ?_
      refine ax_ifne (a := 1) (tgt := 39) hx hb dX6_term_25 (by decide) (by omega) (fun h25 => ?_) (fun h25 => ?_)
      · skip
        exact hret g5 _ _ _ _ ⟨fr, Or.inr ⟨nb_l (by omega) h10, c_o, c_d⟩⟩ hP hS dX6_term_39
      · skip
        exact absurd h25 (by decide)

set_option maxRecDepth 20000 in
theorem wd_X6_entry_0 : Cond.fieldLink RX6 74 "AffineHullsModel" "thrown" "I" ∈ wsX6_entry := by decide +kernel
set_option maxRecDepth 20000 in
theorem in_X6_entry_X6 : ∀ w ∈ u_ws RX6 TX6 29, w ∈ wsX6_entry := by decide +kernel
set_option maxRecDepth 20000 in
theorem wd_X6_entry_2 : Cond.fieldLink RX6 113 "AffineHullsModel" "entry" "I" ∈ wsX6_entry := by decide +kernel
set_option maxRecDepth 20000 in
theorem wd_X6_entry_3 : Cond.fieldLink RX6 116 "AffineHullsModel" "where" "I" ∈ wsX6_entry := by decide +kernel
set_option maxRecDepth 20000 in
theorem wd_X6_entry_4 : Cond.fieldLink RX6 109 "AffineHullsModel" "analysed" "Z" ∈ wsX6_entry := by decide +kernel
abbrev rm_X6_entry : Room := { frames := 1, cells := 0, slots := 0, locals := 21 }
set_option maxHeartbeats 4000000 in
set_option maxRecDepth 100000 in
theorem c_X6_entry {l : Launch} {G : cx_G} {L : List Nat} {ad : Nat → Nat} {g : Nat → va_E} (hD : cx_D L ad) {N V th ec en al pl nc sz : Nat} {an : Bool} {x1 : Int32} (hN1 : 1 ≤ N) (hN : N ≤ 8) (hV1 : 1 ≤ V) (hV : V ≤ 4) (hq : ∀ j : Nat, lbM j = true → j ∈ L) (c_o : g 1000 = .inr (6, [.int (nI N), .int (nI V), .int (nI th), .ref (ad 1003), .int (nI ec), .ref (ad 1005), .ref (ad 1006), .ref (ad 1007), .ref (ad 1008), .ref (ad 1009), .int (nI en), .int (if an = true then 1 else 0), .ref (ad 1012), .ref (ad 1013), .ref (ad 1014), .int (nI al), .ref (ad 1016), .ref (ad 1017), .ref (ad 1018), .ref (ad 1019), .int (nI pl), .ref (ad 1021), .int (nI nc), .ref (ad 1023), .ref (ad 1024), .int (nI sz), .ref (ad 1026), .ref (ad 1027), .ref (ad 1028)])) : MV l yX6_entry wsX6_entry rm_X6_entry G L ad g [.ref (ad 1000), .int x1] (fun u => (∀ j : Nat, j ≠ 1000 → u j = g j) ∧ ((∃ k1 : Nat, k1 < N ∧ x1 = nI k1 ∧ u 1000 = .inr (6, [.int (nI N), .int (nI V), .int (nI 0), .ref (ad 1003), .int (nI ec), .ref (ad 1005), .ref (ad 1006), .ref (ad 1007), .ref (ad 1008), .ref (ad 1009), .int (nI k1), .int (if false = true then 1 else 0), .ref (ad 1012), .ref (ad 1013), .ref (ad 1014), .int (nI al), .ref (ad 1016), .ref (ad 1017), .ref (ad 1018), .ref (ad 1019), .int (nI k1), .ref (ad 1021), .int (nI nc), .ref (ad 1023), .ref (ad 1024), .int (nI sz), .ref (ad 1026), .ref (ad 1027), .ref (ad 1028)])) ∨ (¬ inB 0 N x1 ∧ u 1000 = .inr (6, [.int (nI N), .int (nI V), .int (nI 1), .ref (ad 1003), .int (nI ec), .ref (ad 1005), .ref (ad 1006), .ref (ad 1007), .ref (ad 1008), .ref (ad 1009), .int (nI en), .int (if an = true then 1 else 0), .ref (ad 1012), .ref (ad 1013), .ref (ad 1014), .int (nI al), .ref (ad 1016), .ref (ad 1017), .ref (ad 1018), .ref (ad 1019), .int (nI pl), .ref (ad 1021), .int (nI nc), .ref (ad 1023), .ref (ad 1024), .int (nI sz), .ref (ad 1026), .ref (ad 1027), .ref (ad 1028)])))) := by
  refine cx_ofV (cc := cX6_entry) (maxL := 2) (by decide +kernel) rfl (Nat.le_of_ble_eq_true rfl) ?_
  intro p e s m args below meth c Q hx hb hts hown hml hP hK hS hz hret ls hl
  have hown : s.vm.findClass RX6 = some m.cls := hown
  have hl : lv_has ls 2 [(0, .ref (ad 1000)), (1, .int x1)] := hl
  have fr : ∀ j : Nat, j ≠ 1000 → g j = g j := fun _ _ => rfl
  refine lv_aload_n hx hb dX6_entry_0 rfl (lv_at hl 0 rfl) ?_
  refine lv_aload_n hx hb dX6_entry_1 rfl (lv_at hl 0 rfl) ?_
  refine lv_iload_n hx hb dX6_entry_2 rfl (lv_at hl 1 rfl) ?_
  refine cx_Vi (As := [.int x1]) (rest := [.ref (ad 1000)]) ⟨hx, hb, hml, hown, hts⟩ (c_X6_isNode hD hN1 hN hV1 hV hq (x1 := x1) c_o) (cwV 1 hts gX6_entry_X6_isNode rfl rfl rfl (by decide +kernel) ⟨Nat.le_of_ble_eq_true rfl, Nat.le_of_ble_eq_true rfl⟩) hK hP hS hz (hq _ (by decide)) c_o rfl ⟨Nat.zero_le _, Nat.zero_le _⟩ rfl hl.1 rfl (Nat.le_of_ble_eq_true rfl) dX6_entry_3 (fun r1 g1 H locs hp1 hP hS => ?_)
  obtain ⟨er1, ehp1g⟩ := hp1
  rw [ehp1g] at hP
  refine lv_if_eq (x := r1) (tgt := 13) hx hb dX6_entry_6 (by decide) (fun h6 => ?_) (fun h6 => ?_)
  · skip
    refine lv_iconst (v := nI 1) hx hb dX6_entry_13 (by decide) ?_
    refine ax_put (k := 1000) (v := .int (nI 1)) (fs' := [.int (nI N), .int (nI V), .int (nI 1), .ref (ad 1003), .int (nI ec), .ref (ad 1005), .ref (ad 1006), .ref (ad 1007), .ref (ad 1008), .ref (ad 1009), .int (nI en), .int (if an = true then 1 else 0), .ref (ad 1012), .ref (ad 1013), .ref (ad 1014), .int (nI al), .ref (ad 1016), .ref (ad 1017), .ref (ad 1018), .ref (ad 1019), .int (nI pl), .ref (ad 1021), .int (nI nc), .ref (ad 1023), .ref (ad 1024), .int (nI sz), .ref (ad 1026), .ref (ad 1027), .ref (ad 1028)]) hx hb hts in_X6_entry_X6 tyX6 tyX6_ok nmX6 hown hK hP hD hS (hq _ (by decide)) c_o rfl 2 (by decide) (hts _ wd_X6_entry_0) (fun _ h9 => h9) rfl (ty := .int) (by decide +kernel) rfl rfl (Nat.le_of_ble_eq_true rfl) rfl dX6_entry_14 (fun H locs g2 eg2 hP hS => ?_)
    have c_o : g2 1000 = .inr (6, [.int (nI N), .int (nI V), .int (nI 1), .ref (ad 1003), .int (nI ec), .ref (ad 1005), .ref (ad 1006), .ref (ad 1007), .ref (ad 1008), .ref (ad 1009), .int (nI en), .int (if an = true then 1 else 0), .ref (ad 1012), .ref (ad 1013), .ref (ad 1014), .int (nI al), .ref (ad 1016), .ref (ad 1017), .ref (ad 1018), .ref (ad 1019), .int (nI pl), .ref (ad 1021), .int (nI nc), .ref (ad 1023), .ref (ad 1024), .int (nI sz), .ref (ad 1026), .ref (ad 1027), .ref (ad 1028)]) := cx_eq eg2
    have fr : ∀ j : Nat, j ≠ 1000 → g2 j = g j := fun j hj => (cx_ne eg2 j (by omega)).trans (fr j hj)
    refine lv_aload_n hx hb dX6_entry_17 rfl (lv_at hl 0 rfl) ?_
    refine ax_get (k := 1000) (v := .int (nI 1)) hx hb hts in_X6_entry_X6 hown hK hP (hq _ (by decide)) c_o rfl 2 (by decide) (hts _ wd_X6_entry_0) (fun _ h9 => h9) rfl dX6_entry_18 ?_
    refine ax_ifeq (a := 1) (tgt := 25) hx hb dX6_entry_21 (by decide) (by omega) (fun h21 => ?_) (fun h21 => ?_)
    · skip
      exact absurd h21 (by decide)
    · skip
      exact hret g2 _ _ _ _ ⟨fr, Or.inr ⟨tr_f er1 h6, c_o⟩⟩ hP hS dX6_entry_24
  · skip
    obtain ⟨k1, hk1a, hk1b, rfl⟩ := tr_t er1 h6
    refine lv_iconst (v := nI 0) hx hb dX6_entry_9 (by decide) ?_
    refine lv_goto (tgt := 14) hx hb dX6_entry_10 (by decide) ?_
    refine ax_put (k := 1000) (v := .int (nI 0)) (fs' := [.int (nI N), .int (nI V), .int (nI 0), .ref (ad 1003), .int (nI ec), .ref (ad 1005), .ref (ad 1006), .ref (ad 1007), .ref (ad 1008), .ref (ad 1009), .int (nI en), .int (if an = true then 1 else 0), .ref (ad 1012), .ref (ad 1013), .ref (ad 1014), .int (nI al), .ref (ad 1016), .ref (ad 1017), .ref (ad 1018), .ref (ad 1019), .int (nI pl), .ref (ad 1021), .int (nI nc), .ref (ad 1023), .ref (ad 1024), .int (nI sz), .ref (ad 1026), .ref (ad 1027), .ref (ad 1028)]) hx hb hts in_X6_entry_X6 tyX6 tyX6_ok nmX6 hown hK hP hD hS (hq _ (by decide)) c_o rfl 2 (by decide) (hts _ wd_X6_entry_0) (fun _ h9 => h9) rfl (ty := .int) (by decide +kernel) rfl rfl (Nat.le_of_ble_eq_true rfl) rfl dX6_entry_14 (fun H locs g3 eg3 hP hS => ?_)
    have c_o : g3 1000 = .inr (6, [.int (nI N), .int (nI V), .int (nI 0), .ref (ad 1003), .int (nI ec), .ref (ad 1005), .ref (ad 1006), .ref (ad 1007), .ref (ad 1008), .ref (ad 1009), .int (nI en), .int (if an = true then 1 else 0), .ref (ad 1012), .ref (ad 1013), .ref (ad 1014), .int (nI al), .ref (ad 1016), .ref (ad 1017), .ref (ad 1018), .ref (ad 1019), .int (nI pl), .ref (ad 1021), .int (nI nc), .ref (ad 1023), .ref (ad 1024), .int (nI sz), .ref (ad 1026), .ref (ad 1027), .ref (ad 1028)]) := cx_eq eg3
    have fr : ∀ j : Nat, j ≠ 1000 → g3 j = g j := fun j hj => (cx_ne eg3 j (by omega)).trans (fr j hj)
    refine lv_aload_n hx hb dX6_entry_17 rfl (lv_at hl 0 rfl) ?_
    refine ax_get (k := 1000) (v := .int (nI 0)) hx hb hts in_X6_entry_X6 hown hK hP (hq _ (by decide)) c_o rfl 2 (by decide) (hts _ wd_X6_entry_0) (fun _ h9 => h9) rfl dX6_entry_18 ?_
    refine ax_ifeq (a := 0) (tgt := 25) hx hb dX6_entry_21 (by decide) (by omega) (fun h21 => ?_) (fun h21 => ?_)
    · skip
      refine lv_aload_n hx hb dX6_entry_25 rfl (lv_at hl 0 rfl) ?_
      refine lv_iload_n hx hb dX6_entry_26 rfl (lv_at hl 1 rfl) ?_
      refine ax_put (k := 1000) (v := .int (nI k1)) (fs' := [.int (nI N), .int (nI V), .int (nI 0), .ref (ad 1003), .int (nI ec), .ref (ad 1005), .ref (ad 1006), .ref (ad 1007), .ref (ad 1008), .ref (ad 1009), .int (nI k1), .int (if an = true then 1 else 0), .ref (ad 1012), .ref (ad 1013), .ref (ad 1014), .int (nI al), .ref (ad 1016), .ref (ad 1017), .ref (ad 1018), .ref (ad 1019), .int (nI pl), .ref (ad 1021), .int (nI nc), .ref (ad 1023), .ref (ad 1024), .int (nI sz), .ref (ad 1026), .ref (ad 1027), .ref (ad 1028)]) hx hb hts in_X6_entry_X6 tyX6 tyX6_ok nmX6 hown hK hP hD hS (hq _ (by decide)) c_o rfl 10 (by decide) (hts _ wd_X6_entry_2) (fun _ h9 => h9) rfl (ty := .int) (by decide +kernel) rfl rfl (Nat.le_of_ble_eq_true rfl) rfl dX6_entry_27 (fun H locs g4 eg4 hP hS => ?_)
      have c_o : g4 1000 = .inr (6, [.int (nI N), .int (nI V), .int (nI 0), .ref (ad 1003), .int (nI ec), .ref (ad 1005), .ref (ad 1006), .ref (ad 1007), .ref (ad 1008), .ref (ad 1009), .int (nI k1), .int (if an = true then 1 else 0), .ref (ad 1012), .ref (ad 1013), .ref (ad 1014), .int (nI al), .ref (ad 1016), .ref (ad 1017), .ref (ad 1018), .ref (ad 1019), .int (nI pl), .ref (ad 1021), .int (nI nc), .ref (ad 1023), .ref (ad 1024), .int (nI sz), .ref (ad 1026), .ref (ad 1027), .ref (ad 1028)]) := cx_eq eg4
      have fr : ∀ j : Nat, j ≠ 1000 → g4 j = g j := fun j hj => (cx_ne eg4 j (by omega)).trans (fr j hj)
      refine lv_aload_n hx hb dX6_entry_30 rfl (lv_at hl 0 rfl) ?_
      refine lv_iload_n hx hb dX6_entry_31 rfl (lv_at hl 1 rfl) ?_
      refine ax_put (k := 1000) (v := .int (nI k1)) (fs' := [.int (nI N), .int (nI V), .int (nI 0), .ref (ad 1003), .int (nI ec), .ref (ad 1005), .ref (ad 1006), .ref (ad 1007), .ref (ad 1008), .ref (ad 1009), .int (nI k1), .int (if an = true then 1 else 0), .ref (ad 1012), .ref (ad 1013), .ref (ad 1014), .int (nI al), .ref (ad 1016), .ref (ad 1017), .ref (ad 1018), .ref (ad 1019), .int (nI k1), .ref (ad 1021), .int (nI nc), .ref (ad 1023), .ref (ad 1024), .int (nI sz), .ref (ad 1026), .ref (ad 1027), .ref (ad 1028)]) hx hb hts in_X6_entry_X6 tyX6 tyX6_ok nmX6 hown hK hP hD hS (hq _ (by decide)) c_o rfl 20 (by decide) (hts _ wd_X6_entry_3) (fun _ h9 => h9) rfl (ty := .int) (by decide +kernel) rfl rfl (Nat.le_of_ble_eq_true rfl) rfl dX6_entry_32 (fun H locs g5 eg5 hP hS => ?_)
      have c_o : g5 1000 = .inr (6, [.int (nI N), .int (nI V), .int (nI 0), .ref (ad 1003), .int (nI ec), .ref (ad 1005), .ref (ad 1006), .ref (ad 1007), .ref (ad 1008), .ref (ad 1009), .int (nI k1), .int (if an = true then 1 else 0), .ref (ad 1012), .ref (ad 1013), .ref (ad 1014), .int (nI al), .ref (ad 1016), .ref (ad 1017), .ref (ad 1018), .ref (ad 1019), .int (nI k1), .ref (ad 1021), .int (nI nc), .ref (ad 1023), .ref (ad 1024), .int (nI sz), .ref (ad 1026), .ref (ad 1027), .ref (ad 1028)]) := cx_eq eg5
      have fr : ∀ j : Nat, j ≠ 1000 → g5 j = g j := fun j hj => (cx_ne eg5 j (by omega)).trans (fr j hj)
      refine lv_aload_n hx hb dX6_entry_35 rfl (lv_at hl 0 rfl) ?_
      refine lv_iconst (v := nI 0) hx hb dX6_entry_36 (by decide) ?_
      refine ax_put (k := 1000) (v := .int (nI 0)) (fs' := [.int (nI N), .int (nI V), .int (nI 0), .ref (ad 1003), .int (nI ec), .ref (ad 1005), .ref (ad 1006), .ref (ad 1007), .ref (ad 1008), .ref (ad 1009), .int (nI k1), .int (nI 0), .ref (ad 1012), .ref (ad 1013), .ref (ad 1014), .int (nI al), .ref (ad 1016), .ref (ad 1017), .ref (ad 1018), .ref (ad 1019), .int (nI k1), .ref (ad 1021), .int (nI nc), .ref (ad 1023), .ref (ad 1024), .int (nI sz), .ref (ad 1026), .ref (ad 1027), .ref (ad 1028)]) hx hb hts in_X6_entry_X6 tyX6 tyX6_ok nmX6 hown hK hP hD hS (hq _ (by decide)) c_o rfl 11 (by decide) (hts _ wd_X6_entry_4) (fun _ h9 => h9) rfl (ty := .boolean) (by decide +kernel) (by decide) (by decide) (Nat.le_of_ble_eq_true rfl) rfl dX6_entry_37 (fun H locs g6 eg6 hP hS => ?_)
      have c_o : g6 1000 = .inr (6, [.int (nI N), .int (nI V), .int (nI 0), .ref (ad 1003), .int (nI ec), .ref (ad 1005), .ref (ad 1006), .ref (ad 1007), .ref (ad 1008), .ref (ad 1009), .int (nI k1), .int (nI 0), .ref (ad 1012), .ref (ad 1013), .ref (ad 1014), .int (nI al), .ref (ad 1016), .ref (ad 1017), .ref (ad 1018), .ref (ad 1019), .int (nI k1), .ref (ad 1021), .int (nI nc), .ref (ad 1023), .ref (ad 1024), .int (nI sz), .ref (ad 1026), .ref (ad 1027), .ref (ad 1028)]) := cx_eq eg6
      have fr : ∀ j : Nat, j ≠ 1000 → g6 j = g j := fun j hj => (cx_ne eg6 j (by omega)).trans (fr j hj)
      exact hret g6 _ _ _ _ ⟨fr, Or.inl ⟨k1, hk1b, rfl, c_o⟩⟩ hP hS dX6_entry_40
    · skip
      exact absurd h21 (by decide)

set_option maxRecDepth 20000 in
theorem wd_X6_begin_0 : Cond.fieldLink RX6 74 "AffineHullsModel" "thrown" "I" ∈ wsX6_begin := by decide +kernel
set_option maxRecDepth 20000 in
theorem in_X6_begin_X6 : ∀ w ∈ u_ws RX6 TX6 29, w ∈ wsX6_begin := by decide +kernel
set_option maxRecDepth 20000 in
theorem wd_X6_begin_2 : Cond.fieldLink RX6 71 "AffineHullsModel" "v" "I" ∈ wsX6_begin := by decide +kernel
set_option maxRecDepth 20000 in
theorem wd_X6_begin_3 : Cond.fieldLink RX6 49 "AffineHullsModel" "values" "[I" ∈ wsX6_begin := by decide +kernel
set_option maxRecDepth 20000 in
theorem wd_X6_begin_4 : Cond.fieldLink RX6 113 "AffineHullsModel" "entry" "I" ∈ wsX6_begin := by decide +kernel
set_option maxRecDepth 20000 in
theorem wd_X6_begin_5 : Cond.fieldLink RX6 116 "AffineHullsModel" "where" "I" ∈ wsX6_begin := by decide +kernel
abbrev rm_X6_begin : Room := { frames := 1, cells := 0, slots := 0, locals := 23 }
set_option maxHeartbeats 4000000 in
set_option maxRecDepth 100000 in
theorem c_X6_begin {l : Launch} {G : cx_G} {L : List Nat} {ad : Nat → Nat} {g : Nat → va_E} (hD : cx_D L ad) {N V th ec en al pl nc sz : Nat} {an : Bool} {x1 x2 : Int32} {va : Nat → FF} (hN1 : 1 ≤ N) (hN : N ≤ 8) (hV1 : 1 ≤ V) (hV : V ≤ 4) (hq : ∀ j : Nat, lbM j = true → j ∈ L) (c_o : g 1000 = .inr (6, [.int (nI N), .int (nI V), .int (nI th), .ref (ad 1003), .int (nI ec), .ref (ad 1005), .ref (ad 1006), .ref (ad 1007), .ref (ad 1008), .ref (ad 1009), .int (nI en), .int (if an = true then 1 else 0), .ref (ad 1012), .ref (ad 1013), .ref (ad 1014), .int (nI al), .ref (ad 1016), .ref (ad 1017), .ref (ad 1018), .ref (ad 1019), .int (nI pl), .ref (ad 1021), .int (nI nc), .ref (ad 1023), .ref (ad 1024), .int (nI sz), .ref (ad 1026), .ref (ad 1027), .ref (ad 1028)])) (c_v : g 1021 = nA G 5 (vN va)) : MV l yX6_begin wsX6_begin rm_X6_begin G L ad g [.ref (ad 1000), .int x1, .int x2] (fun u => (∀ j : Nat, (j ≠ 1000 ∧ j ≠ 1021) → u j = g j) ∧ ((∃ k1 : Nat, 1 ≤ k1 ∧ k1 < V + 1 ∧ x1 = nI k1 ∧ u 1000 = .inr (6, [.int (nI N), .int (nI V), .int (nI 0), .ref (ad 1003), .int (nI ec), .ref (ad 1005), .ref (ad 1006), .ref (ad 1007), .ref (ad 1008), .ref (ad 1009), .int (nI en), .int (if an = true then 1 else 0), .ref (ad 1012), .ref (ad 1013), .ref (ad 1014), .int (nI al), .ref (ad 1016), .ref (ad 1017), .ref (ad 1018), .ref (ad 1019), .int (nI en), .ref (ad 1021), .int (nI nc), .ref (ad 1023), .ref (ad 1024), .int (nI sz), .ref (ad 1026), .ref (ad 1027), .ref (ad 1028)]) ∧ u 1021 = nA G 5 (vN (nu va k1 (fi x2.toInt)))) ∨ (¬ inB 1 (V + 1) x1 ∧ u 1000 = .inr (6, [.int (nI N), .int (nI V), .int (nI 1), .ref (ad 1003), .int (nI ec), .ref (ad 1005), .ref (ad 1006), .ref (ad 1007), .ref (ad 1008), .ref (ad 1009), .int (nI en), .int (if an = true then 1 else 0), .ref (ad 1012), .ref (ad 1013), .ref (ad 1014), .int (nI al), .ref (ad 1016), .ref (ad 1017), .ref (ad 1018), .ref (ad 1019), .int (nI pl), .ref (ad 1021), .int (nI nc), .ref (ad 1023), .ref (ad 1024), .int (nI sz), .ref (ad 1026), .ref (ad 1027), .ref (ad 1028)]) ∧ u 1021 = nA G 5 (vN va)))) := by
  refine cx_ofV (cc := cX6_begin) (maxL := 3) (by decide +kernel) rfl (Nat.le_of_ble_eq_true rfl) ?_
  intro p e s m args below meth c Q hx hb hts hown hml hP hK hS hz hret ls hl
  have hown : s.vm.findClass RX6 = some m.cls := hown
  have hl : lv_has ls 3 [(0, .ref (ad 1000)), (1, .int x1), (2, .int x2)] := hl
  have fr : ∀ j : Nat, (j ≠ 1000 ∧ j ≠ 1021) → g j = g j := fun _ _ => rfl
  refine lv_aload_n hx hb dX6_begin_0 rfl (lv_at hl 0 rfl) ?_
  refine lv_iload_n hx hb dX6_begin_1 rfl (lv_at hl 1 rfl) ?_
  refine lv_iconst (v := nI 1) hx hb dX6_begin_2 (by decide) ?_
  refine lv_icmp_lt (x := x1) (y := nI 1) (tgt := 14) hx hb dX6_begin_3 (by decide) (fun h3 => ?_) (fun h3 => ?_)
  · skip
    refine lv_iconst (v := nI 1) hx hb dX6_begin_14 (by decide) ?_
    refine lv_goto (tgt := 19) hx hb dX6_begin_15 (by decide) ?_
    refine ax_put (k := 1000) (v := .int (nI 1)) (fs' := [.int (nI N), .int (nI V), .int (nI 1), .ref (ad 1003), .int (nI ec), .ref (ad 1005), .ref (ad 1006), .ref (ad 1007), .ref (ad 1008), .ref (ad 1009), .int (nI en), .int (if an = true then 1 else 0), .ref (ad 1012), .ref (ad 1013), .ref (ad 1014), .int (nI al), .ref (ad 1016), .ref (ad 1017), .ref (ad 1018), .ref (ad 1019), .int (nI pl), .ref (ad 1021), .int (nI nc), .ref (ad 1023), .ref (ad 1024), .int (nI sz), .ref (ad 1026), .ref (ad 1027), .ref (ad 1028)]) hx hb hts in_X6_begin_X6 tyX6 tyX6_ok nmX6 hown hK hP hD hS (hq _ (by decide)) c_o rfl 2 (by decide) (hts _ wd_X6_begin_0) (fun _ h9 => h9) rfl (ty := .int) (by decide +kernel) rfl rfl (Nat.le_of_ble_eq_true rfl) rfl dX6_begin_19 (fun H locs g1 eg1 hP hS => ?_)
    have c_v : g1 1021 = nA G 5 (vN va) := (cx_ne eg1 1021 (by omega)).trans c_v
    have c_o : g1 1000 = .inr (6, [.int (nI N), .int (nI V), .int (nI 1), .ref (ad 1003), .int (nI ec), .ref (ad 1005), .ref (ad 1006), .ref (ad 1007), .ref (ad 1008), .ref (ad 1009), .int (nI en), .int (if an = true then 1 else 0), .ref (ad 1012), .ref (ad 1013), .ref (ad 1014), .int (nI al), .ref (ad 1016), .ref (ad 1017), .ref (ad 1018), .ref (ad 1019), .int (nI pl), .ref (ad 1021), .int (nI nc), .ref (ad 1023), .ref (ad 1024), .int (nI sz), .ref (ad 1026), .ref (ad 1027), .ref (ad 1028)]) := cx_eq eg1
    have fr : ∀ j : Nat, (j ≠ 1000 ∧ j ≠ 1021) → g1 j = g j := fun j hj => (cx_ne eg1 j (by omega)).trans (fr j hj)
    refine lv_aload_n hx hb dX6_begin_22 rfl (lv_at hl 0 rfl) ?_
    refine ax_get (k := 1000) (v := .int (nI 1)) hx hb hts in_X6_begin_X6 hown hK hP (hq _ (by decide)) c_o rfl 2 (by decide) (hts _ wd_X6_begin_0) (fun _ h9 => h9) rfl dX6_begin_23 ?_
    refine ax_ifeq (a := 1) (tgt := 30) hx hb dX6_begin_26 (by decide) (by omega) (fun h26 => ?_) (fun h26 => ?_)
    · skip
      exact absurd h26 (by decide)
    · skip
      exact hret g1 _ _ _ _ ⟨fr, Or.inr ⟨nb_1 (by omega) (by omega) h3, c_o, c_v⟩⟩ hP hS dX6_begin_29
  · skip
    refine lv_iload_n hx hb dX6_begin_6 rfl (lv_at hl 1 rfl) ?_
    refine lv_aload_n hx hb dX6_begin_7 rfl (lv_at hl 0 rfl) ?_
    refine ax_get (k := 1000) (v := .int (nI V)) hx hb hts in_X6_begin_X6 hown hK hP (hq _ (by decide)) c_o rfl 1 (by decide) (hts _ wd_X6_begin_2) (fun _ h9 => h9) rfl dX6_begin_8 ?_
    refine lv_icmp_le (x := x1) (y := nI V) (tgt := 18) hx hb dX6_begin_11 (by decide) (fun h11 => ?_) (fun h11 => ?_)
    · skip
      obtain ⟨k1, hk1a, hk1b, rfl⟩ := yb_1 (by omega) (by omega) h3 h11
      refine lv_iconst (v := nI 0) hx hb dX6_begin_18 (by decide) ?_
      refine ax_put (k := 1000) (v := .int (nI 0)) (fs' := [.int (nI N), .int (nI V), .int (nI 0), .ref (ad 1003), .int (nI ec), .ref (ad 1005), .ref (ad 1006), .ref (ad 1007), .ref (ad 1008), .ref (ad 1009), .int (nI en), .int (if an = true then 1 else 0), .ref (ad 1012), .ref (ad 1013), .ref (ad 1014), .int (nI al), .ref (ad 1016), .ref (ad 1017), .ref (ad 1018), .ref (ad 1019), .int (nI pl), .ref (ad 1021), .int (nI nc), .ref (ad 1023), .ref (ad 1024), .int (nI sz), .ref (ad 1026), .ref (ad 1027), .ref (ad 1028)]) hx hb hts in_X6_begin_X6 tyX6 tyX6_ok nmX6 hown hK hP hD hS (hq _ (by decide)) c_o rfl 2 (by decide) (hts _ wd_X6_begin_0) (fun _ h9 => h9) rfl (ty := .int) (by decide +kernel) rfl rfl (Nat.le_of_ble_eq_true rfl) rfl dX6_begin_19 (fun H locs g2 eg2 hP hS => ?_)
      have c_v : g2 1021 = nA G 5 (vN va) := (cx_ne eg2 1021 (by omega)).trans c_v
      have c_o : g2 1000 = .inr (6, [.int (nI N), .int (nI V), .int (nI 0), .ref (ad 1003), .int (nI ec), .ref (ad 1005), .ref (ad 1006), .ref (ad 1007), .ref (ad 1008), .ref (ad 1009), .int (nI en), .int (if an = true then 1 else 0), .ref (ad 1012), .ref (ad 1013), .ref (ad 1014), .int (nI al), .ref (ad 1016), .ref (ad 1017), .ref (ad 1018), .ref (ad 1019), .int (nI pl), .ref (ad 1021), .int (nI nc), .ref (ad 1023), .ref (ad 1024), .int (nI sz), .ref (ad 1026), .ref (ad 1027), .ref (ad 1028)]) := cx_eq eg2
      have fr : ∀ j : Nat, (j ≠ 1000 ∧ j ≠ 1021) → g2 j = g j := fun j hj => (cx_ne eg2 j (by omega)).trans (fr j hj)
      refine lv_aload_n hx hb dX6_begin_22 rfl (lv_at hl 0 rfl) ?_
      refine ax_get (k := 1000) (v := .int (nI 0)) hx hb hts in_X6_begin_X6 hown hK hP (hq _ (by decide)) c_o rfl 2 (by decide) (hts _ wd_X6_begin_0) (fun _ h9 => h9) rfl dX6_begin_23 ?_
      refine ax_ifeq (a := 0) (tgt := 30) hx hb dX6_begin_26 (by decide) (by omega) (fun h26 => ?_) (fun h26 => ?_)
      · skip
        refine lv_aload_n hx hb dX6_begin_30 rfl (lv_at hl 0 rfl) ?_
        refine ax_get (k := 1000) (v := .ref (ad 1021)) hx hb hts in_X6_begin_X6 hown hK hP (hq _ (by decide)) c_o rfl 21 (by decide) (hts _ wd_X6_begin_3) (fun _ h9 => h9) rfl dX6_begin_31 ?_
        refine lv_iload_n hx hb dX6_begin_34 rfl (lv_at hl 1 rfl) ?_
        refine lv_iload_n hx hb dX6_begin_35 rfl (lv_at hl 2 rfl) ?_
        refine lv_i2l (v := x2.toInt64) hx hb dX6_begin_36 rfl ?_
        refine cx_Si (As := [.long x2.toInt64]) (rest := [.int (nI k1), .ref (ad 1021)]) ⟨hx, hb, hml, hown, hts⟩ (c_X6_mod hD (x := x2.toInt64)) (va_cwS 1 hts gX6_begin_X6_mod rfl rfl rfl (by decide +kernel) ⟨Nat.le_of_ble_eq_true rfl, Nat.le_of_ble_eq_true rfl⟩) hK hP hS hz ⟨Nat.zero_le _, Nat.zero_le _⟩ rfl hl.1 rfl (Nat.le_of_ble_eq_true rfl) dX6_begin_37 (fun r3 g3 H locs hp3 hP hS => ?_)
        obtain ⟨er3, ehp3g⟩ := hp3
        rw [ehp3g] at hP
        rw [er3]
        rw [show fi (x2.toInt64).toInt = fi x2.toInt from by rw [i2l_fi]]
        refine ax_iast (k := 1021) (i := k1) (f' := (fun j => nI ((nu (vN va) k1 ((fi x2.toInt).val)) j))) hx hb hK hP hD hS (hq _ (by decide)) c_v (by omega) (by omega) (up_n _ _ _) dX6_begin_40 (fun H locs g4 eg4 hP hS => ?_)
        have c_o : g4 1000 = .inr (6, [.int (nI N), .int (nI V), .int (nI 0), .ref (ad 1003), .int (nI ec), .ref (ad 1005), .ref (ad 1006), .ref (ad 1007), .ref (ad 1008), .ref (ad 1009), .int (nI en), .int (if an = true then 1 else 0), .ref (ad 1012), .ref (ad 1013), .ref (ad 1014), .int (nI al), .ref (ad 1016), .ref (ad 1017), .ref (ad 1018), .ref (ad 1019), .int (nI pl), .ref (ad 1021), .int (nI nc), .ref (ad 1023), .ref (ad 1024), .int (nI sz), .ref (ad 1026), .ref (ad 1027), .ref (ad 1028)]) := (cx_ne eg4 1000 (by omega)).trans c_o
        have c_v : g4 1021 = nA G 5 (nu (vN va) k1 ((fi x2.toInt).val)) := cx_eq eg4
        have fr : ∀ j : Nat, (j ≠ 1000 ∧ j ≠ 1021) → g4 j = g j := fun j hj => (cx_ne eg4 j (by omega)).trans (fr j hj)
        refine lv_aload_n hx hb dX6_begin_41 rfl (lv_at hl 0 rfl) ?_
        refine lv_aload_n hx hb dX6_begin_42 rfl (lv_at hl 0 rfl) ?_
        refine ax_get (k := 1000) (v := .int (nI en)) hx hb hts in_X6_begin_X6 hown hK hP (hq _ (by decide)) c_o rfl 10 (by decide) (hts _ wd_X6_begin_4) (fun _ h9 => h9) rfl dX6_begin_43 ?_
        refine ax_put (k := 1000) (v := .int (nI en)) (fs' := [.int (nI N), .int (nI V), .int (nI 0), .ref (ad 1003), .int (nI ec), .ref (ad 1005), .ref (ad 1006), .ref (ad 1007), .ref (ad 1008), .ref (ad 1009), .int (nI en), .int (if an = true then 1 else 0), .ref (ad 1012), .ref (ad 1013), .ref (ad 1014), .int (nI al), .ref (ad 1016), .ref (ad 1017), .ref (ad 1018), .ref (ad 1019), .int (nI en), .ref (ad 1021), .int (nI nc), .ref (ad 1023), .ref (ad 1024), .int (nI sz), .ref (ad 1026), .ref (ad 1027), .ref (ad 1028)]) hx hb hts in_X6_begin_X6 tyX6 tyX6_ok nmX6 hown hK hP hD hS (hq _ (by decide)) c_o rfl 20 (by decide) (hts _ wd_X6_begin_5) (fun _ h9 => h9) rfl (ty := .int) (by decide +kernel) rfl rfl (Nat.le_of_ble_eq_true rfl) rfl dX6_begin_46 (fun H locs g5 eg5 hP hS => ?_)
        have c_v : g5 1021 = nA G 5 (nu (vN va) k1 ((fi x2.toInt).val)) := (cx_ne eg5 1021 (by omega)).trans c_v
        have c_o : g5 1000 = .inr (6, [.int (nI N), .int (nI V), .int (nI 0), .ref (ad 1003), .int (nI ec), .ref (ad 1005), .ref (ad 1006), .ref (ad 1007), .ref (ad 1008), .ref (ad 1009), .int (nI en), .int (if an = true then 1 else 0), .ref (ad 1012), .ref (ad 1013), .ref (ad 1014), .int (nI al), .ref (ad 1016), .ref (ad 1017), .ref (ad 1018), .ref (ad 1019), .int (nI en), .ref (ad 1021), .int (nI nc), .ref (ad 1023), .ref (ad 1024), .int (nI sz), .ref (ad 1026), .ref (ad 1027), .ref (ad 1028)]) := cx_eq eg5
        have fr : ∀ j : Nat, (j ≠ 1000 ∧ j ≠ 1021) → g5 j = g j := fun j hj => (cx_ne eg5 j (by omega)).trans (fr j hj)
        exact hret g5 _ _ _ _ ⟨fr, Or.inl ⟨k1, hk1a, hk1b, rfl, c_o, by rw [vN_nu] at c_v; exact c_v⟩⟩ hP hS dX6_begin_49
      · skip
        exact absurd h26 (by decide)
    · skip
      refine lv_iconst (v := nI 1) hx hb dX6_begin_14 (by decide) ?_
      refine lv_goto (tgt := 19) hx hb dX6_begin_15 (by decide) ?_
      refine ax_put (k := 1000) (v := .int (nI 1)) (fs' := [.int (nI N), .int (nI V), .int (nI 1), .ref (ad 1003), .int (nI ec), .ref (ad 1005), .ref (ad 1006), .ref (ad 1007), .ref (ad 1008), .ref (ad 1009), .int (nI en), .int (if an = true then 1 else 0), .ref (ad 1012), .ref (ad 1013), .ref (ad 1014), .int (nI al), .ref (ad 1016), .ref (ad 1017), .ref (ad 1018), .ref (ad 1019), .int (nI pl), .ref (ad 1021), .int (nI nc), .ref (ad 1023), .ref (ad 1024), .int (nI sz), .ref (ad 1026), .ref (ad 1027), .ref (ad 1028)]) hx hb hts in_X6_begin_X6 tyX6 tyX6_ok nmX6 hown hK hP hD hS (hq _ (by decide)) c_o rfl 2 (by decide) (hts _ wd_X6_begin_0) (fun _ h9 => h9) rfl (ty := .int) (by decide +kernel) rfl rfl (Nat.le_of_ble_eq_true rfl) rfl dX6_begin_19 (fun H locs g6 eg6 hP hS => ?_)
      have c_v : g6 1021 = nA G 5 (vN va) := (cx_ne eg6 1021 (by omega)).trans c_v
      have c_o : g6 1000 = .inr (6, [.int (nI N), .int (nI V), .int (nI 1), .ref (ad 1003), .int (nI ec), .ref (ad 1005), .ref (ad 1006), .ref (ad 1007), .ref (ad 1008), .ref (ad 1009), .int (nI en), .int (if an = true then 1 else 0), .ref (ad 1012), .ref (ad 1013), .ref (ad 1014), .int (nI al), .ref (ad 1016), .ref (ad 1017), .ref (ad 1018), .ref (ad 1019), .int (nI pl), .ref (ad 1021), .int (nI nc), .ref (ad 1023), .ref (ad 1024), .int (nI sz), .ref (ad 1026), .ref (ad 1027), .ref (ad 1028)]) := cx_eq eg6
      have fr : ∀ j : Nat, (j ≠ 1000 ∧ j ≠ 1021) → g6 j = g j := fun j hj => (cx_ne eg6 j (by omega)).trans (fr j hj)
      refine lv_aload_n hx hb dX6_begin_22 rfl (lv_at hl 0 rfl) ?_
      refine ax_get (k := 1000) (v := .int (nI 1)) hx hb hts in_X6_begin_X6 hown hK hP (hq _ (by decide)) c_o rfl 2 (by decide) (hts _ wd_X6_begin_0) (fun _ h9 => h9) rfl dX6_begin_23 ?_
      refine ax_ifeq (a := 1) (tgt := 30) hx hb dX6_begin_26 (by decide) (by omega) (fun h26 => ?_) (fun h26 => ?_)
      · skip
        exact absurd h26 (by decide)
      · skip
        exact hret g6 _ _ _ _ ⟨fr, Or.inr ⟨nb_l (by omega) h11, c_o, c_v⟩⟩ hP hS dX6_begin_29

set_option maxRecDepth 20000 in
theorem wd_X6_at_0 : Cond.fieldLink RX6 74 "AffineHullsModel" "thrown" "I" ∈ wsX6_at := by decide +kernel
set_option maxRecDepth 20000 in
theorem in_X6_at_X6 : ∀ w ∈ u_ws RX6 TX6 29, w ∈ wsX6_at := by decide +kernel
set_option maxRecDepth 20000 in
theorem wd_X6_at_2 : Cond.fieldLink RX6 71 "AffineHullsModel" "v" "I" ∈ wsX6_at := by decide +kernel
set_option maxRecDepth 20000 in
theorem wd_X6_at_3 : Cond.fieldLink RX6 49 "AffineHullsModel" "values" "[I" ∈ wsX6_at := by decide +kernel
set_option maxRecDepth 20000 in
theorem wd_X6_at_4 : Cond.fieldLink RX6 116 "AffineHullsModel" "where" "I" ∈ wsX6_at := by decide +kernel
abbrev rm_X6_at : Room := { frames := 0, cells := 0, slots := 0, locals := 0 }
set_option maxHeartbeats 4000000 in
set_option maxRecDepth 100000 in
theorem c_X6_at {l : Launch} {G : cx_G} {L : List Nat} {ad : Nat → Nat} {g : Nat → va_E} (hD : cx_D L ad) {N V th ec en al pl nc sz : Nat} {an : Bool} {x1 : Int32} {va : Nat → FF} (hN1 : 1 ≤ N) (hN : N ≤ 8) (hV1 : 1 ≤ V) (hV : V ≤ 4) (hq : ∀ j : Nat, lbM j = true → j ∈ L) (c_o : g 1000 = .inr (6, [.int (nI N), .int (nI V), .int (nI th), .ref (ad 1003), .int (nI ec), .ref (ad 1005), .ref (ad 1006), .ref (ad 1007), .ref (ad 1008), .ref (ad 1009), .int (nI en), .int (if an = true then 1 else 0), .ref (ad 1012), .ref (ad 1013), .ref (ad 1014), .int (nI al), .ref (ad 1016), .ref (ad 1017), .ref (ad 1018), .ref (ad 1019), .int (nI pl), .ref (ad 1021), .int (nI nc), .ref (ad 1023), .ref (ad 1024), .int (nI sz), .ref (ad 1026), .ref (ad 1027), .ref (ad 1028)])) (c_v : g 1021 = nA G 5 (vN va)) : MI l yX6_at wsX6_at rm_X6_at G L ad g [.ref (ad 1000), .int x1] (fun r u => (∀ j : Nat, j ≠ 1000 → u j = g j) ∧ ((∃ k1 : Nat, k1 < V + 1 ∧ x1 = nI k1 ∧ u 1000 = .inr (6, [.int (nI N), .int (nI V), .int (nI 0), .ref (ad 1003), .int (nI ec), .ref (ad 1005), .ref (ad 1006), .ref (ad 1007), .ref (ad 1008), .ref (ad 1009), .int (nI en), .int (if an = true then 1 else 0), .ref (ad 1012), .ref (ad 1013), .ref (ad 1014), .int (nI al), .ref (ad 1016), .ref (ad 1017), .ref (ad 1018), .ref (ad 1019), .int (nI pl), .ref (ad 1021), .int (nI nc), .ref (ad 1023), .ref (ad 1024), .int (nI sz), .ref (ad 1026), .ref (ad 1027), .ref (ad 1028)]) ∧ r = nI (if k1 = 0 then pl else (va k1).val)) ∨ (¬ inB 0 (V + 1) x1 ∧ u 1000 = .inr (6, [.int (nI N), .int (nI V), .int (nI 1), .ref (ad 1003), .int (nI ec), .ref (ad 1005), .ref (ad 1006), .ref (ad 1007), .ref (ad 1008), .ref (ad 1009), .int (nI en), .int (if an = true then 1 else 0), .ref (ad 1012), .ref (ad 1013), .ref (ad 1014), .int (nI al), .ref (ad 1016), .ref (ad 1017), .ref (ad 1018), .ref (ad 1019), .int (nI pl), .ref (ad 1021), .int (nI nc), .ref (ad 1023), .ref (ad 1024), .int (nI sz), .ref (ad 1026), .ref (ad 1027), .ref (ad 1028)])))) := by
  refine cx_ofI (cc := cX6_at) (maxL := 2) (by decide +kernel) rfl (Nat.le_of_ble_eq_true rfl) ?_
  intro p e s m args below meth c Q hx hb hts hown hml hP hK hS hz hret ls hl
  have hown : s.vm.findClass RX6 = some m.cls := hown
  have hl : lv_has ls 2 [(0, .ref (ad 1000)), (1, .int x1)] := hl
  have fr : ∀ j : Nat, j ≠ 1000 → g j = g j := fun _ _ => rfl
  refine lv_aload_n hx hb dX6_at_0 rfl (lv_at hl 0 rfl) ?_
  refine lv_iload_n hx hb dX6_at_1 rfl (lv_at hl 1 rfl) ?_
  refine lv_if_lt (x := x1) (tgt := 13) hx hb dX6_at_2 (by decide) (fun h2 => ?_) (fun h2 => ?_)
  · skip
    refine lv_iconst (v := nI 1) hx hb dX6_at_13 (by decide) ?_
    refine lv_goto (tgt := 18) hx hb dX6_at_14 (by decide) ?_
    refine ax_put (k := 1000) (v := .int (nI 1)) (fs' := [.int (nI N), .int (nI V), .int (nI 1), .ref (ad 1003), .int (nI ec), .ref (ad 1005), .ref (ad 1006), .ref (ad 1007), .ref (ad 1008), .ref (ad 1009), .int (nI en), .int (if an = true then 1 else 0), .ref (ad 1012), .ref (ad 1013), .ref (ad 1014), .int (nI al), .ref (ad 1016), .ref (ad 1017), .ref (ad 1018), .ref (ad 1019), .int (nI pl), .ref (ad 1021), .int (nI nc), .ref (ad 1023), .ref (ad 1024), .int (nI sz), .ref (ad 1026), .ref (ad 1027), .ref (ad 1028)]) hx hb hts in_X6_at_X6 tyX6 tyX6_ok nmX6 hown hK hP hD hS (hq _ (by decide)) c_o rfl 2 (by decide) (hts _ wd_X6_at_0) (fun _ h9 => h9) rfl (ty := .int) (by decide +kernel) rfl rfl (Nat.le_of_ble_eq_true rfl) rfl dX6_at_18 (fun H locs g1 eg1 hP hS => ?_)
    have c_v : g1 1021 = nA G 5 (vN va) := (cx_ne eg1 1021 (by omega)).trans c_v
    have c_o : g1 1000 = .inr (6, [.int (nI N), .int (nI V), .int (nI 1), .ref (ad 1003), .int (nI ec), .ref (ad 1005), .ref (ad 1006), .ref (ad 1007), .ref (ad 1008), .ref (ad 1009), .int (nI en), .int (if an = true then 1 else 0), .ref (ad 1012), .ref (ad 1013), .ref (ad 1014), .int (nI al), .ref (ad 1016), .ref (ad 1017), .ref (ad 1018), .ref (ad 1019), .int (nI pl), .ref (ad 1021), .int (nI nc), .ref (ad 1023), .ref (ad 1024), .int (nI sz), .ref (ad 1026), .ref (ad 1027), .ref (ad 1028)]) := cx_eq eg1
    have fr : ∀ j : Nat, j ≠ 1000 → g1 j = g j := fun j hj => (cx_ne eg1 j (by omega)).trans (fr j hj)
    refine lv_aload_n hx hb dX6_at_21 rfl (lv_at hl 0 rfl) ?_
    refine ax_get (k := 1000) (v := .int (nI 1)) hx hb hts in_X6_at_X6 hown hK hP (hq _ (by decide)) c_o rfl 2 (by decide) (hts _ wd_X6_at_0) (fun _ h9 => h9) rfl dX6_at_22 ?_
    refine ax_ifeq (a := 1) (tgt := 32) hx hb dX6_at_25 (by decide) (by omega) (fun h25 => ?_) (fun h25 => ?_)
    · skip
      exact absurd h25 (by decide)
    · skip
      refine lv_iconst (v := nI 0) hx hb dX6_at_28 (by decide) ?_
      refine lv_goto (tgt := 49) hx hb dX6_at_29 (by decide) ?_
      exact hret (nI 0) g1 _ _ _ _ rfl ⟨fr, Or.inr ⟨nb_0 (by omega) h2, c_o⟩⟩ hP hS dX6_at_49
  · skip
    refine lv_iload_n hx hb dX6_at_5 rfl (lv_at hl 1 rfl) ?_
    refine lv_aload_n hx hb dX6_at_6 rfl (lv_at hl 0 rfl) ?_
    refine ax_get (k := 1000) (v := .int (nI V)) hx hb hts in_X6_at_X6 hown hK hP (hq _ (by decide)) c_o rfl 1 (by decide) (hts _ wd_X6_at_2) (fun _ h9 => h9) rfl dX6_at_7 ?_
    refine lv_icmp_le (x := x1) (y := nI V) (tgt := 17) hx hb dX6_at_10 (by decide) (fun h10 => ?_) (fun h10 => ?_)
    · skip
      obtain ⟨k1, hk1a, hk1b, rfl⟩ := yb_l (by omega) h2 h10
      refine lv_iconst (v := nI 0) hx hb dX6_at_17 (by decide) ?_
      refine ax_put (k := 1000) (v := .int (nI 0)) (fs' := [.int (nI N), .int (nI V), .int (nI 0), .ref (ad 1003), .int (nI ec), .ref (ad 1005), .ref (ad 1006), .ref (ad 1007), .ref (ad 1008), .ref (ad 1009), .int (nI en), .int (if an = true then 1 else 0), .ref (ad 1012), .ref (ad 1013), .ref (ad 1014), .int (nI al), .ref (ad 1016), .ref (ad 1017), .ref (ad 1018), .ref (ad 1019), .int (nI pl), .ref (ad 1021), .int (nI nc), .ref (ad 1023), .ref (ad 1024), .int (nI sz), .ref (ad 1026), .ref (ad 1027), .ref (ad 1028)]) hx hb hts in_X6_at_X6 tyX6 tyX6_ok nmX6 hown hK hP hD hS (hq _ (by decide)) c_o rfl 2 (by decide) (hts _ wd_X6_at_0) (fun _ h9 => h9) rfl (ty := .int) (by decide +kernel) rfl rfl (Nat.le_of_ble_eq_true rfl) rfl dX6_at_18 (fun H locs g2 eg2 hP hS => ?_)
      have c_v : g2 1021 = nA G 5 (vN va) := (cx_ne eg2 1021 (by omega)).trans c_v
      have c_o : g2 1000 = .inr (6, [.int (nI N), .int (nI V), .int (nI 0), .ref (ad 1003), .int (nI ec), .ref (ad 1005), .ref (ad 1006), .ref (ad 1007), .ref (ad 1008), .ref (ad 1009), .int (nI en), .int (if an = true then 1 else 0), .ref (ad 1012), .ref (ad 1013), .ref (ad 1014), .int (nI al), .ref (ad 1016), .ref (ad 1017), .ref (ad 1018), .ref (ad 1019), .int (nI pl), .ref (ad 1021), .int (nI nc), .ref (ad 1023), .ref (ad 1024), .int (nI sz), .ref (ad 1026), .ref (ad 1027), .ref (ad 1028)]) := cx_eq eg2
      have fr : ∀ j : Nat, j ≠ 1000 → g2 j = g j := fun j hj => (cx_ne eg2 j (by omega)).trans (fr j hj)
      refine lv_aload_n hx hb dX6_at_21 rfl (lv_at hl 0 rfl) ?_
      refine ax_get (k := 1000) (v := .int (nI 0)) hx hb hts in_X6_at_X6 hown hK hP (hq _ (by decide)) c_o rfl 2 (by decide) (hts _ wd_X6_at_0) (fun _ h9 => h9) rfl dX6_at_22 ?_
      refine ax_ifeq (a := 0) (tgt := 32) hx hb dX6_at_25 (by decide) (by omega) (fun h25 => ?_) (fun h25 => ?_)
      · skip
        refine lv_iload_n hx hb dX6_at_32 rfl (lv_at hl 1 rfl) ?_
        refine ax_ifne (a := k1) (tgt := 43) hx hb dX6_at_33 (by decide) (by omega) (fun h33 => ?_) (fun h33 => ?_)
        · skip
          refine lv_aload_n hx hb dX6_at_43 rfl (lv_at hl 0 rfl) ?_
          refine ax_get (k := 1000) (v := .ref (ad 1021)) hx hb hts in_X6_at_X6 hown hK hP (hq _ (by decide)) c_o rfl 21 (by decide) (hts _ wd_X6_at_3) (fun _ h9 => h9) rfl dX6_at_44 ?_
          refine lv_iload_n hx hb dX6_at_47 rfl (lv_at hl 1 rfl) ?_
          refine ax_iald (k := 1021) (i := k1) (v := nI ((vN va) k1)) hx hb hK hP (hq _ (by decide)) c_v (by omega) (by omega) rfl dX6_at_48 ?_
          exact hret (nI ((vN va) k1)) g2 _ _ _ _ rfl ⟨fr, Or.inl ⟨k1, hk1b, rfl, c_o, (by rw [if_neg h33]; rfl)⟩⟩ hP hS dX6_at_49
        · skip
          refine lv_aload_n hx hb dX6_at_36 rfl (lv_at hl 0 rfl) ?_
          refine ax_get (k := 1000) (v := .int (nI pl)) hx hb hts in_X6_at_X6 hown hK hP (hq _ (by decide)) c_o rfl 20 (by decide) (hts _ wd_X6_at_4) (fun _ h9 => h9) rfl dX6_at_37 ?_
          refine lv_goto (tgt := 49) hx hb dX6_at_40 (by decide) ?_
          exact hret (nI pl) g2 _ _ _ _ rfl ⟨fr, Or.inl ⟨k1, hk1b, rfl, c_o, (by rw [if_pos h33])⟩⟩ hP hS dX6_at_49
      · skip
        exact absurd h25 (by decide)
    · skip
      refine lv_iconst (v := nI 1) hx hb dX6_at_13 (by decide) ?_
      refine lv_goto (tgt := 18) hx hb dX6_at_14 (by decide) ?_
      refine ax_put (k := 1000) (v := .int (nI 1)) (fs' := [.int (nI N), .int (nI V), .int (nI 1), .ref (ad 1003), .int (nI ec), .ref (ad 1005), .ref (ad 1006), .ref (ad 1007), .ref (ad 1008), .ref (ad 1009), .int (nI en), .int (if an = true then 1 else 0), .ref (ad 1012), .ref (ad 1013), .ref (ad 1014), .int (nI al), .ref (ad 1016), .ref (ad 1017), .ref (ad 1018), .ref (ad 1019), .int (nI pl), .ref (ad 1021), .int (nI nc), .ref (ad 1023), .ref (ad 1024), .int (nI sz), .ref (ad 1026), .ref (ad 1027), .ref (ad 1028)]) hx hb hts in_X6_at_X6 tyX6 tyX6_ok nmX6 hown hK hP hD hS (hq _ (by decide)) c_o rfl 2 (by decide) (hts _ wd_X6_at_0) (fun _ h9 => h9) rfl (ty := .int) (by decide +kernel) rfl rfl (Nat.le_of_ble_eq_true rfl) rfl dX6_at_18 (fun H locs g3 eg3 hP hS => ?_)
      have c_v : g3 1021 = nA G 5 (vN va) := (cx_ne eg3 1021 (by omega)).trans c_v
      have c_o : g3 1000 = .inr (6, [.int (nI N), .int (nI V), .int (nI 1), .ref (ad 1003), .int (nI ec), .ref (ad 1005), .ref (ad 1006), .ref (ad 1007), .ref (ad 1008), .ref (ad 1009), .int (nI en), .int (if an = true then 1 else 0), .ref (ad 1012), .ref (ad 1013), .ref (ad 1014), .int (nI al), .ref (ad 1016), .ref (ad 1017), .ref (ad 1018), .ref (ad 1019), .int (nI pl), .ref (ad 1021), .int (nI nc), .ref (ad 1023), .ref (ad 1024), .int (nI sz), .ref (ad 1026), .ref (ad 1027), .ref (ad 1028)]) := cx_eq eg3
      have fr : ∀ j : Nat, j ≠ 1000 → g3 j = g j := fun j hj => (cx_ne eg3 j (by omega)).trans (fr j hj)
      refine lv_aload_n hx hb dX6_at_21 rfl (lv_at hl 0 rfl) ?_
      refine ax_get (k := 1000) (v := .int (nI 1)) hx hb hts in_X6_at_X6 hown hK hP (hq _ (by decide)) c_o rfl 2 (by decide) (hts _ wd_X6_at_0) (fun _ h9 => h9) rfl dX6_at_22 ?_
      refine ax_ifeq (a := 1) (tgt := 32) hx hb dX6_at_25 (by decide) (by omega) (fun h25 => ?_) (fun h25 => ?_)
      · skip
        exact absurd h25 (by decide)
      · skip
        refine lv_iconst (v := nI 0) hx hb dX6_at_28 (by decide) ?_
        refine lv_goto (tgt := 49) hx hb dX6_at_29 (by decide) ?_
        exact hret (nI 0) g3 _ _ _ _ rfl ⟨fr, Or.inr ⟨nb_l (by omega) h10, c_o⟩⟩ hP hS dX6_at_49

set_option maxRecDepth 20000 in
theorem wd_X6_forget_0 : Cond.fieldLink RX6 74 "AffineHullsModel" "thrown" "I" ∈ wsX6_forget := by decide +kernel
set_option maxRecDepth 20000 in
theorem in_X6_forget_X6 : ∀ w ∈ u_ws RX6 TX6 29, w ∈ wsX6_forget := by decide +kernel
set_option maxRecDepth 20000 in
theorem wd_X6_forget_2 : Cond.fieldLink RX6 151 "AffineHullsModel" "notes" "I" ∈ wsX6_forget := by decide +kernel
abbrev rm_X6_forget : Room := { frames := 0, cells := 0, slots := 0, locals := 0 }
set_option maxHeartbeats 4000000 in
set_option maxRecDepth 100000 in
theorem c_X6_forget {l : Launch} {G : cx_G} {L : List Nat} {ad : Nat → Nat} {g : Nat → va_E} (hD : cx_D L ad) {N V th ec en al pl nc sz : Nat} {an : Bool} (hN1 : 1 ≤ N) (hN : N ≤ 8) (hV1 : 1 ≤ V) (hV : V ≤ 4) (hq : ∀ j : Nat, lbM j = true → j ∈ L) (c_o : g 1000 = .inr (6, [.int (nI N), .int (nI V), .int (nI th), .ref (ad 1003), .int (nI ec), .ref (ad 1005), .ref (ad 1006), .ref (ad 1007), .ref (ad 1008), .ref (ad 1009), .int (nI en), .int (if an = true then 1 else 0), .ref (ad 1012), .ref (ad 1013), .ref (ad 1014), .int (nI al), .ref (ad 1016), .ref (ad 1017), .ref (ad 1018), .ref (ad 1019), .int (nI pl), .ref (ad 1021), .int (nI nc), .ref (ad 1023), .ref (ad 1024), .int (nI sz), .ref (ad 1026), .ref (ad 1027), .ref (ad 1028)])) : MI l yX6_forget wsX6_forget rm_X6_forget G L ad g [.ref (ad 1000)] (fun r u => (∀ j : Nat, j ≠ 1000 → u j = g j) ∧ r = nI nc ∧ u 1000 = .inr (6, [.int (nI N), .int (nI V), .int (nI 0), .ref (ad 1003), .int (nI ec), .ref (ad 1005), .ref (ad 1006), .ref (ad 1007), .ref (ad 1008), .ref (ad 1009), .int (nI en), .int (if an = true then 1 else 0), .ref (ad 1012), .ref (ad 1013), .ref (ad 1014), .int (nI al), .ref (ad 1016), .ref (ad 1017), .ref (ad 1018), .ref (ad 1019), .int (nI pl), .ref (ad 1021), .int (nI 0), .ref (ad 1023), .ref (ad 1024), .int (nI sz), .ref (ad 1026), .ref (ad 1027), .ref (ad 1028)])) := by
  refine cx_ofI (cc := cX6_forget) (maxL := 2) (by decide +kernel) rfl (Nat.le_of_ble_eq_true rfl) ?_
  intro p e s m args below meth c Q hx hb hts hown hml hP hK hS hz hret ls hl
  have hown : s.vm.findClass RX6 = some m.cls := hown
  have hl : lv_has ls 2 [(0, .ref (ad 1000))] := hl
  have fr : ∀ j : Nat, j ≠ 1000 → g j = g j := fun _ _ => rfl
  refine lv_aload_n hx hb dX6_forget_0 rfl (lv_at hl 0 rfl) ?_
  refine lv_iconst (v := nI 0) hx hb dX6_forget_1 (by decide) ?_
  refine ax_put (k := 1000) (v := .int (nI 0)) (fs' := [.int (nI N), .int (nI V), .int (nI 0), .ref (ad 1003), .int (nI ec), .ref (ad 1005), .ref (ad 1006), .ref (ad 1007), .ref (ad 1008), .ref (ad 1009), .int (nI en), .int (if an = true then 1 else 0), .ref (ad 1012), .ref (ad 1013), .ref (ad 1014), .int (nI al), .ref (ad 1016), .ref (ad 1017), .ref (ad 1018), .ref (ad 1019), .int (nI pl), .ref (ad 1021), .int (nI nc), .ref (ad 1023), .ref (ad 1024), .int (nI sz), .ref (ad 1026), .ref (ad 1027), .ref (ad 1028)]) hx hb hts in_X6_forget_X6 tyX6 tyX6_ok nmX6 hown hK hP hD hS (hq _ (by decide)) c_o rfl 2 (by decide) (hts _ wd_X6_forget_0) (fun _ h9 => h9) rfl (ty := .int) (by decide +kernel) rfl rfl (Nat.le_of_ble_eq_true rfl) rfl dX6_forget_2 (fun H locs g1 eg1 hP hS => ?_)
  have c_o : g1 1000 = .inr (6, [.int (nI N), .int (nI V), .int (nI 0), .ref (ad 1003), .int (nI ec), .ref (ad 1005), .ref (ad 1006), .ref (ad 1007), .ref (ad 1008), .ref (ad 1009), .int (nI en), .int (if an = true then 1 else 0), .ref (ad 1012), .ref (ad 1013), .ref (ad 1014), .int (nI al), .ref (ad 1016), .ref (ad 1017), .ref (ad 1018), .ref (ad 1019), .int (nI pl), .ref (ad 1021), .int (nI nc), .ref (ad 1023), .ref (ad 1024), .int (nI sz), .ref (ad 1026), .ref (ad 1027), .ref (ad 1028)]) := cx_eq eg1
  have fr : ∀ j : Nat, j ≠ 1000 → g1 j = g j := fun j hj => (cx_ne eg1 j (by omega)).trans (fr j hj)
  refine lv_aload_n hx hb dX6_forget_5 rfl (lv_at hl 0 rfl) ?_
  refine ax_get (k := 1000) (v := .int (nI nc)) hx hb hts in_X6_forget_X6 hown hK hP (hq _ (by decide)) c_o rfl 22 (by decide) (hts _ wd_X6_forget_2) (fun _ h9 => h9) rfl dX6_forget_6 ?_
  refine lv_istore_n (lv' := [(1, .int (nI nc)), (0, .ref (ad 1000))]) hx hb dX6_forget_9 rfl hl (by decide) rfl (fun ls hl => ?_)
  refine lv_aload_n hx hb dX6_forget_10 rfl (lv_at hl 1 rfl) ?_
  refine lv_iconst (v := nI 0) hx hb dX6_forget_11 (by decide) ?_
  refine ax_put (k := 1000) (v := .int (nI 0)) (fs' := [.int (nI N), .int (nI V), .int (nI 0), .ref (ad 1003), .int (nI ec), .ref (ad 1005), .ref (ad 1006), .ref (ad 1007), .ref (ad 1008), .ref (ad 1009), .int (nI en), .int (if an = true then 1 else 0), .ref (ad 1012), .ref (ad 1013), .ref (ad 1014), .int (nI al), .ref (ad 1016), .ref (ad 1017), .ref (ad 1018), .ref (ad 1019), .int (nI pl), .ref (ad 1021), .int (nI 0), .ref (ad 1023), .ref (ad 1024), .int (nI sz), .ref (ad 1026), .ref (ad 1027), .ref (ad 1028)]) hx hb hts in_X6_forget_X6 tyX6 tyX6_ok nmX6 hown hK hP hD hS (hq _ (by decide)) c_o rfl 22 (by decide) (hts _ wd_X6_forget_2) (fun _ h9 => h9) rfl (ty := .int) (by decide +kernel) rfl rfl (Nat.le_of_ble_eq_true rfl) rfl dX6_forget_12 (fun H locs g2 eg2 hP hS => ?_)
  have c_o : g2 1000 = .inr (6, [.int (nI N), .int (nI V), .int (nI 0), .ref (ad 1003), .int (nI ec), .ref (ad 1005), .ref (ad 1006), .ref (ad 1007), .ref (ad 1008), .ref (ad 1009), .int (nI en), .int (if an = true then 1 else 0), .ref (ad 1012), .ref (ad 1013), .ref (ad 1014), .int (nI al), .ref (ad 1016), .ref (ad 1017), .ref (ad 1018), .ref (ad 1019), .int (nI pl), .ref (ad 1021), .int (nI 0), .ref (ad 1023), .ref (ad 1024), .int (nI sz), .ref (ad 1026), .ref (ad 1027), .ref (ad 1028)]) := cx_eq eg2
  have fr : ∀ j : Nat, j ≠ 1000 → g2 j = g j := fun j hj => (cx_ne eg2 j (by omega)).trans (fr j hj)
  refine lv_iload_n hx hb dX6_forget_15 rfl (lv_at hl 0 rfl) ?_
  exact hret (nI nc) g2 _ _ _ _ rfl ⟨fr, rfl, c_o⟩ hP hS dX6_forget_16

set_option maxRecDepth 20000 in
theorem wd_X6_points_0 : Cond.fieldLink RX6 74 "AffineHullsModel" "thrown" "I" ∈ wsX6_points := by decide +kernel
set_option maxRecDepth 20000 in
theorem in_X6_points_X6 : ∀ w ∈ u_ws RX6 TX6 29, w ∈ wsX6_points := by decide +kernel
set_option maxRecDepth 20000 in
theorem wd_X6_points_2 : Cond.fieldLink RX6 28 "AffineHullsModel" "many" "[I" ∈ wsX6_points := by decide +kernel
abbrev rm_X6_points : Room := { frames := 2, cells := 0, slots := 0, locals := 42 }
set_option maxHeartbeats 4000000 in
set_option maxRecDepth 100000 in
theorem c_X6_points {l : Launch} {G : cx_G} {L : List Nat} {ad : Nat → Nat} {g : Nat → va_E} (hD : cx_D L ad) {N V th ec en al pl nc sz : Nat} {an : Bool} {x1 : Int32} {mn : Nat → Nat} (hN1 : 1 ≤ N) (hN : N ≤ 8) (hV1 : 1 ≤ V) (hV : V ≤ 4) (hq : ∀ j : Nat, lbM j = true → j ∈ L) (c_o : g 1000 = .inr (6, [.int (nI N), .int (nI V), .int (nI th), .ref (ad 1003), .int (nI ec), .ref (ad 1005), .ref (ad 1006), .ref (ad 1007), .ref (ad 1008), .ref (ad 1009), .int (nI en), .int (if an = true then 1 else 0), .ref (ad 1012), .ref (ad 1013), .ref (ad 1014), .int (nI al), .ref (ad 1016), .ref (ad 1017), .ref (ad 1018), .ref (ad 1019), .int (nI pl), .ref (ad 1021), .int (nI nc), .ref (ad 1023), .ref (ad 1024), .int (nI sz), .ref (ad 1026), .ref (ad 1027), .ref (ad 1028)])) (c_M : g 1012 = nA G 8 mn) : MI l yX6_points wsX6_points rm_X6_points G L ad g [.ref (ad 1000), .int x1] (fun r u => (∀ j : Nat, j ≠ 1000 → u j = g j) ∧ ∃ rc : Int32, askP N an x1 rc ∧ u 1000 = .inr (6, [.int (nI N), .int (nI V), .int rc, .ref (ad 1003), .int (nI ec), .ref (ad 1005), .ref (ad 1006), .ref (ad 1007), .ref (ad 1008), .ref (ad 1009), .int (nI en), .int (if an = true then 1 else 0), .ref (ad 1012), .ref (ad 1013), .ref (ad 1014), .int (nI al), .ref (ad 1016), .ref (ad 1017), .ref (ad 1018), .ref (ad 1019), .int (nI pl), .ref (ad 1021), .int (nI nc), .ref (ad 1023), .ref (ad 1024), .int (nI sz), .ref (ad 1026), .ref (ad 1027), .ref (ad 1028)]) ∧ (rc = nI 0 → ∃ k1 : Nat, k1 < N ∧ x1 = nI k1 ∧ r = nI (mn k1))) := by
  refine cx_ofI (cc := cX6_points) (maxL := 2) (by decide +kernel) rfl (Nat.le_of_ble_eq_true rfl) ?_
  intro p e s m args below meth c Q hx hb hts hown hml hP hK hS hz hret ls hl
  have hown : s.vm.findClass RX6 = some m.cls := hown
  have hl : lv_has ls 2 [(0, .ref (ad 1000)), (1, .int x1)] := hl
  have fr : ∀ j : Nat, j ≠ 1000 → g j = g j := fun _ _ => rfl
  refine lv_aload_n hx hb dX6_points_0 rfl (lv_at hl 0 rfl) ?_
  refine lv_aload_n hx hb dX6_points_1 rfl (lv_at hl 0 rfl) ?_
  refine lv_iload_n hx hb dX6_points_2 rfl (lv_at hl 1 rfl) ?_
  refine cx_Vi (As := [.int x1]) (rest := [.ref (ad 1000)]) ⟨hx, hb, hml, hown, hts⟩ (c_X6_asked hD hN1 hN hV1 hV hq (x1 := x1) c_o) (cwV 1 hts gX6_points_X6_asked rfl rfl rfl (by decide +kernel) ⟨Nat.le_of_ble_eq_true rfl, Nat.le_of_ble_eq_true rfl⟩) hK hP hS hz (hq _ (by decide)) c_o rfl ⟨Nat.zero_le _, Nat.zero_le _⟩ rfl hl.1 rfl (Nat.le_of_ble_eq_true rfl) dX6_points_3 (fun r1 g1 H locs hp1 hP hS => ?_)
  obtain ⟨hp1g, hask⟩ := hp1
  rw [hp1g] at hP
  refine ax_put (k := 1000) (v := .int r1) (fs' := [.int (nI N), .int (nI V), .int r1, .ref (ad 1003), .int (nI ec), .ref (ad 1005), .ref (ad 1006), .ref (ad 1007), .ref (ad 1008), .ref (ad 1009), .int (nI en), .int (if an = true then 1 else 0), .ref (ad 1012), .ref (ad 1013), .ref (ad 1014), .int (nI al), .ref (ad 1016), .ref (ad 1017), .ref (ad 1018), .ref (ad 1019), .int (nI pl), .ref (ad 1021), .int (nI nc), .ref (ad 1023), .ref (ad 1024), .int (nI sz), .ref (ad 1026), .ref (ad 1027), .ref (ad 1028)]) hx hb hts in_X6_points_X6 tyX6 tyX6_ok nmX6 hown hK hP hD hS (hq _ (by decide)) c_o rfl 2 (by decide) (hts _ wd_X6_points_0) (fun _ h9 => h9) rfl (ty := .int) (by decide +kernel) rfl rfl (Nat.le_of_ble_eq_true rfl) rfl dX6_points_6 (fun H locs g2 eg2 hP hS => ?_)
  have c_M : g2 1012 = nA G 8 mn := (cx_ne eg2 1012 (by omega)).trans c_M
  have c_o : g2 1000 = .inr (6, [.int (nI N), .int (nI V), .int r1, .ref (ad 1003), .int (nI ec), .ref (ad 1005), .ref (ad 1006), .ref (ad 1007), .ref (ad 1008), .ref (ad 1009), .int (nI en), .int (if an = true then 1 else 0), .ref (ad 1012), .ref (ad 1013), .ref (ad 1014), .int (nI al), .ref (ad 1016), .ref (ad 1017), .ref (ad 1018), .ref (ad 1019), .int (nI pl), .ref (ad 1021), .int (nI nc), .ref (ad 1023), .ref (ad 1024), .int (nI sz), .ref (ad 1026), .ref (ad 1027), .ref (ad 1028)]) := cx_eq eg2
  have fr : ∀ j : Nat, j ≠ 1000 → g2 j = g j := fun j hj => (cx_ne eg2 j (by omega)).trans (fr j hj)
  refine lv_aload_n hx hb dX6_points_9 rfl (lv_at hl 0 rfl) ?_
  refine ax_get (k := 1000) (v := .int r1) hx hb hts in_X6_points_X6 hown hK hP (hq _ (by decide)) c_o rfl 2 (by decide) (hts _ wd_X6_points_0) (fun _ h9 => h9) rfl dX6_points_10 ?_
  refine lv_if_ne (x := r1) (tgt := 25) hx hb dX6_points_13 (by decide) (fun h13 => ?_) (fun h13 => ?_)
  · skip
    refine lv_iconst (v := nI 0) hx hb dX6_points_25 (by decide) ?_
    exact hret (nI 0) g2 _ _ _ _ rfl ⟨fr, _, hask, c_o, fun z => absurd (z.trans nI_0) h13⟩ hP hS dX6_points_26
  · skip
    obtain ⟨rfl, ⟨k1, hk1a, hk1b, rfl⟩, han⟩ := askP_0 hask h13
    refine lv_aload_n hx hb dX6_points_16 rfl (lv_at hl 0 rfl) ?_
    refine ax_get (k := 1000) (v := .ref (ad 1012)) hx hb hts in_X6_points_X6 hown hK hP (hq _ (by decide)) c_o rfl 12 (by decide) (hts _ wd_X6_points_2) (fun _ h9 => h9) rfl dX6_points_17 ?_
    refine lv_iload_n hx hb dX6_points_20 rfl (lv_at hl 1 rfl) ?_
    refine ax_iald (k := 1012) (i := k1) (v := nI (mn k1)) hx hb hK hP (hq _ (by decide)) c_M (by omega) (by omega) rfl dX6_points_21 ?_
    refine lv_goto (tgt := 26) hx hb dX6_points_22 (by decide) ?_
    exact hret (nI (mn k1)) g2 _ _ _ _ rfl ⟨fr, _, hask, c_o, fun _ => ⟨k1, hk1b, rfl, rfl⟩⟩ hP hS dX6_points_26

set_option maxRecDepth 20000 in
theorem wd_X6_equations_0 : Cond.fieldLink RX6 74 "AffineHullsModel" "thrown" "I" ∈ wsX6_equations := by decide +kernel
set_option maxRecDepth 20000 in
theorem in_X6_equations_X6 : ∀ w ∈ u_ws RX6 TX6 29, w ∈ wsX6_equations := by decide +kernel
set_option maxRecDepth 20000 in
theorem wd_X6_equations_2 : Cond.fieldLink RX6 43 "AffineHullsModel" "rows" "[I" ∈ wsX6_equations := by decide +kernel
abbrev rm_X6_equations : Room := { frames := 2, cells := 0, slots := 0, locals := 42 }
set_option maxHeartbeats 4000000 in
set_option maxRecDepth 100000 in
theorem c_X6_equations {l : Launch} {G : cx_G} {L : List Nat} {ad : Nat → Nat} {g : Nat → va_E} (hD : cx_D L ad) {N V th ec en al pl nc sz : Nat} {an : Bool} {x1 : Int32} {rz : Nat → Nat} (hN1 : 1 ≤ N) (hN : N ≤ 8) (hV1 : 1 ≤ V) (hV : V ≤ 4) (hq : ∀ j : Nat, lbM j = true → j ∈ L) (c_o : g 1000 = .inr (6, [.int (nI N), .int (nI V), .int (nI th), .ref (ad 1003), .int (nI ec), .ref (ad 1005), .ref (ad 1006), .ref (ad 1007), .ref (ad 1008), .ref (ad 1009), .int (nI en), .int (if an = true then 1 else 0), .ref (ad 1012), .ref (ad 1013), .ref (ad 1014), .int (nI al), .ref (ad 1016), .ref (ad 1017), .ref (ad 1018), .ref (ad 1019), .int (nI pl), .ref (ad 1021), .int (nI nc), .ref (ad 1023), .ref (ad 1024), .int (nI sz), .ref (ad 1026), .ref (ad 1027), .ref (ad 1028)])) (c_M : g 1018 = nA G 8 rz) : MI l yX6_equations wsX6_equations rm_X6_equations G L ad g [.ref (ad 1000), .int x1] (fun r u => (∀ j : Nat, j ≠ 1000 → u j = g j) ∧ ∃ rc : Int32, askP N an x1 rc ∧ u 1000 = .inr (6, [.int (nI N), .int (nI V), .int rc, .ref (ad 1003), .int (nI ec), .ref (ad 1005), .ref (ad 1006), .ref (ad 1007), .ref (ad 1008), .ref (ad 1009), .int (nI en), .int (if an = true then 1 else 0), .ref (ad 1012), .ref (ad 1013), .ref (ad 1014), .int (nI al), .ref (ad 1016), .ref (ad 1017), .ref (ad 1018), .ref (ad 1019), .int (nI pl), .ref (ad 1021), .int (nI nc), .ref (ad 1023), .ref (ad 1024), .int (nI sz), .ref (ad 1026), .ref (ad 1027), .ref (ad 1028)]) ∧ (rc = nI 0 → ∃ k1 : Nat, k1 < N ∧ x1 = nI k1 ∧ r = nI (rz k1))) := by
  refine cx_ofI (cc := cX6_equations) (maxL := 2) (by decide +kernel) rfl (Nat.le_of_ble_eq_true rfl) ?_
  intro p e s m args below meth c Q hx hb hts hown hml hP hK hS hz hret ls hl
  have hown : s.vm.findClass RX6 = some m.cls := hown
  have hl : lv_has ls 2 [(0, .ref (ad 1000)), (1, .int x1)] := hl
  have fr : ∀ j : Nat, j ≠ 1000 → g j = g j := fun _ _ => rfl
  refine lv_aload_n hx hb dX6_equations_0 rfl (lv_at hl 0 rfl) ?_
  refine lv_aload_n hx hb dX6_equations_1 rfl (lv_at hl 0 rfl) ?_
  refine lv_iload_n hx hb dX6_equations_2 rfl (lv_at hl 1 rfl) ?_
  refine cx_Vi (As := [.int x1]) (rest := [.ref (ad 1000)]) ⟨hx, hb, hml, hown, hts⟩ (c_X6_asked hD hN1 hN hV1 hV hq (x1 := x1) c_o) (cwV 1 hts gX6_equations_X6_asked rfl rfl rfl (by decide +kernel) ⟨Nat.le_of_ble_eq_true rfl, Nat.le_of_ble_eq_true rfl⟩) hK hP hS hz (hq _ (by decide)) c_o rfl ⟨Nat.zero_le _, Nat.zero_le _⟩ rfl hl.1 rfl (Nat.le_of_ble_eq_true rfl) dX6_equations_3 (fun r1 g1 H locs hp1 hP hS => ?_)
  obtain ⟨hp1g, hask⟩ := hp1
  rw [hp1g] at hP
  refine ax_put (k := 1000) (v := .int r1) (fs' := [.int (nI N), .int (nI V), .int r1, .ref (ad 1003), .int (nI ec), .ref (ad 1005), .ref (ad 1006), .ref (ad 1007), .ref (ad 1008), .ref (ad 1009), .int (nI en), .int (if an = true then 1 else 0), .ref (ad 1012), .ref (ad 1013), .ref (ad 1014), .int (nI al), .ref (ad 1016), .ref (ad 1017), .ref (ad 1018), .ref (ad 1019), .int (nI pl), .ref (ad 1021), .int (nI nc), .ref (ad 1023), .ref (ad 1024), .int (nI sz), .ref (ad 1026), .ref (ad 1027), .ref (ad 1028)]) hx hb hts in_X6_equations_X6 tyX6 tyX6_ok nmX6 hown hK hP hD hS (hq _ (by decide)) c_o rfl 2 (by decide) (hts _ wd_X6_equations_0) (fun _ h9 => h9) rfl (ty := .int) (by decide +kernel) rfl rfl (Nat.le_of_ble_eq_true rfl) rfl dX6_equations_6 (fun H locs g2 eg2 hP hS => ?_)
  have c_M : g2 1018 = nA G 8 rz := (cx_ne eg2 1018 (by omega)).trans c_M
  have c_o : g2 1000 = .inr (6, [.int (nI N), .int (nI V), .int r1, .ref (ad 1003), .int (nI ec), .ref (ad 1005), .ref (ad 1006), .ref (ad 1007), .ref (ad 1008), .ref (ad 1009), .int (nI en), .int (if an = true then 1 else 0), .ref (ad 1012), .ref (ad 1013), .ref (ad 1014), .int (nI al), .ref (ad 1016), .ref (ad 1017), .ref (ad 1018), .ref (ad 1019), .int (nI pl), .ref (ad 1021), .int (nI nc), .ref (ad 1023), .ref (ad 1024), .int (nI sz), .ref (ad 1026), .ref (ad 1027), .ref (ad 1028)]) := cx_eq eg2
  have fr : ∀ j : Nat, j ≠ 1000 → g2 j = g j := fun j hj => (cx_ne eg2 j (by omega)).trans (fr j hj)
  refine lv_aload_n hx hb dX6_equations_9 rfl (lv_at hl 0 rfl) ?_
  refine ax_get (k := 1000) (v := .int r1) hx hb hts in_X6_equations_X6 hown hK hP (hq _ (by decide)) c_o rfl 2 (by decide) (hts _ wd_X6_equations_0) (fun _ h9 => h9) rfl dX6_equations_10 ?_
  refine lv_if_ne (x := r1) (tgt := 25) hx hb dX6_equations_13 (by decide) (fun h13 => ?_) (fun h13 => ?_)
  · skip
    refine lv_iconst (v := nI 0) hx hb dX6_equations_25 (by decide) ?_
    exact hret (nI 0) g2 _ _ _ _ rfl ⟨fr, _, hask, c_o, fun z => absurd (z.trans nI_0) h13⟩ hP hS dX6_equations_26
  · skip
    obtain ⟨rfl, ⟨k1, hk1a, hk1b, rfl⟩, han⟩ := askP_0 hask h13
    refine lv_aload_n hx hb dX6_equations_16 rfl (lv_at hl 0 rfl) ?_
    refine ax_get (k := 1000) (v := .ref (ad 1018)) hx hb hts in_X6_equations_X6 hown hK hP (hq _ (by decide)) c_o rfl 18 (by decide) (hts _ wd_X6_equations_2) (fun _ h9 => h9) rfl dX6_equations_17 ?_
    refine lv_iload_n hx hb dX6_equations_20 rfl (lv_at hl 1 rfl) ?_
    refine ax_iald (k := 1018) (i := k1) (v := nI (rz k1)) hx hb hK hP (hq _ (by decide)) c_M (by omega) (by omega) rfl dX6_equations_21 ?_
    refine lv_goto (tgt := 26) hx hb dX6_equations_22 (by decide) ?_
    exact hret (nI (rz k1)) g2 _ _ _ _ rfl ⟨fr, _, hask, c_o, fun _ => ⟨k1, hk1b, rfl, rfl⟩⟩ hP hS dX6_equations_26

set_option maxRecDepth 20000 in
theorem wd_X6_note_0 : Cond.fieldLink RX6 151 "AffineHullsModel" "notes" "I" ∈ wsX6_note := by decide +kernel
set_option maxRecDepth 20000 in
theorem in_X6_note_X6 : ∀ w ∈ u_ws RX6 TX6 29, w ∈ wsX6_note := by decide +kernel
set_option maxRecDepth 20000 in
theorem wd_X6_note_2 : Cond.fieldLink RX6 74 "AffineHullsModel" "thrown" "I" ∈ wsX6_note := by decide +kernel
set_option maxRecDepth 20000 in
theorem wd_X6_note_3 : Cond.fieldLink RX6 52 "AffineHullsModel" "noteNode" "[I" ∈ wsX6_note := by decide +kernel
set_option maxRecDepth 20000 in
theorem wd_X6_note_4 : Cond.fieldLink RX6 55 "AffineHullsModel" "noteForm" "[I" ∈ wsX6_note := by decide +kernel
set_option maxRecDepth 20000 in
theorem wd_X6_note_5 : Cond.fieldLink RX6 7 "AffineHullsModel" "draft" "[I" ∈ wsX6_note := by decide +kernel
abbrev rm_X6_note : Room := { frames := 1, cells := 0, slots := 0, locals := 21 }
set_option maxHeartbeats 4000000 in
set_option maxRecDepth 100000 in
theorem c_X6_note {l : Launch} {G : cx_G} {L : List Nat} {ad : Nat → Nat} {g : Nat → va_E} (hD : cx_D L ad) {N V th ec en al pl nc sz : Nat} {an : Bool} {x1 : Int32} {d nf : Nat → FF} {nn : Nat → Nat} (hN1 : 1 ≤ N) (hN : N ≤ 8) (hV1 : 1 ≤ V) (hV : V ≤ 4) (hq : ∀ j : Nat, lbM j = true → j ∈ L) (c_o : g 1000 = .inr (6, [.int (nI N), .int (nI V), .int (nI th), .ref (ad 1003), .int (nI ec), .ref (ad 1005), .ref (ad 1006), .ref (ad 1007), .ref (ad 1008), .ref (ad 1009), .int (nI en), .int (if an = true then 1 else 0), .ref (ad 1012), .ref (ad 1013), .ref (ad 1014), .int (nI al), .ref (ad 1016), .ref (ad 1017), .ref (ad 1018), .ref (ad 1019), .int (nI pl), .ref (ad 1021), .int (nI nc), .ref (ad 1023), .ref (ad 1024), .int (nI sz), .ref (ad 1026), .ref (ad 1027), .ref (ad 1028)])) (c_d : g 1003 = nA G 5 (vN d)) (c_NN : g 1023 = nA G 24 nn) (c_NF : g 1024 = nA G 120 (vN nf)) (hnc : nc ≤ 24) (hd : Zb (V + 1) d) : MI l yX6_note wsX6_note rm_X6_note G L ad g [.ref (ad 1000), .int x1] (fun r u => (∀ j : Nat, (j ≠ 1000 ∧ j ≠ 1003 ∧ j ≠ 1023 ∧ j ≠ 1024) → u j = g j) ∧ ((∃ k1 : Nat, k1 < N ∧ x1 = nI k1 ∧ nc < 24 ∧ r = nI (nc + 1) ∧ u 1000 = .inr (6, [.int (nI N), .int (nI V), .int (nI 0), .ref (ad 1003), .int (nI ec), .ref (ad 1005), .ref (ad 1006), .ref (ad 1007), .ref (ad 1008), .ref (ad 1009), .int (nI en), .int (if an = true then 1 else 0), .ref (ad 1012), .ref (ad 1013), .ref (ad 1014), .int (nI al), .ref (ad 1016), .ref (ad 1017), .ref (ad 1018), .ref (ad 1019), .int (nI pl), .ref (ad 1021), .int (nI (nc + 1)), .ref (ad 1023), .ref (ad 1024), .int (nI sz), .ref (ad 1026), .ref (ad 1027), .ref (ad 1028)]) ∧ u 1003 = nA G 5 (vN (fun _ => 0)) ∧ u 1023 = nA G 24 (nu nn nc k1) ∧ ∃ nf2 : Nat → FF, u 1024 = nA G 120 (vN nf2) ∧ OF (5 * nc) nf d 5 nf2) ∨ (¬ inB 0 N x1 ∧ u 1000 = .inr (6, [.int (nI N), .int (nI V), .int (nI 1), .ref (ad 1003), .int (nI ec), .ref (ad 1005), .ref (ad 1006), .ref (ad 1007), .ref (ad 1008), .ref (ad 1009), .int (nI en), .int (if an = true then 1 else 0), .ref (ad 1012), .ref (ad 1013), .ref (ad 1014), .int (nI al), .ref (ad 1016), .ref (ad 1017), .ref (ad 1018), .ref (ad 1019), .int (nI pl), .ref (ad 1021), .int (nI nc), .ref (ad 1023), .ref (ad 1024), .int (nI sz), .ref (ad 1026), .ref (ad 1027), .ref (ad 1028)]) ∧ u 1003 = nA G 5 (vN d) ∧ u 1023 = nA G 24 nn ∧ u 1024 = nA G 120 (vN nf)) ∨ (inB 0 N x1 ∧ nc = 24 ∧ u 1000 = .inr (6, [.int (nI N), .int (nI V), .int (nI 2), .ref (ad 1003), .int (nI ec), .ref (ad 1005), .ref (ad 1006), .ref (ad 1007), .ref (ad 1008), .ref (ad 1009), .int (nI en), .int (if an = true then 1 else 0), .ref (ad 1012), .ref (ad 1013), .ref (ad 1014), .int (nI al), .ref (ad 1016), .ref (ad 1017), .ref (ad 1018), .ref (ad 1019), .int (nI pl), .ref (ad 1021), .int (nI nc), .ref (ad 1023), .ref (ad 1024), .int (nI sz), .ref (ad 1026), .ref (ad 1027), .ref (ad 1028)]) ∧ u 1003 = nA G 5 (vN d) ∧ u 1023 = nA G 24 nn ∧ u 1024 = nA G 120 (vN nf)))) := by
  refine cx_ofI (cc := cX6_note) (maxL := 3) (by decide +kernel) rfl (Nat.le_of_ble_eq_true rfl) ?_
  intro p e s m args below meth c Q hx hb hts hown hml hP hK hS hz hret ls hl
  have hown : s.vm.findClass RX6 = some m.cls := hown
  have hl : lv_has ls 3 [(0, .ref (ad 1000)), (1, .int x1)] := hl
  have fr : ∀ j : Nat, (j ≠ 1000 ∧ j ≠ 1003 ∧ j ≠ 1023 ∧ j ≠ 1024) → g j = g j := fun _ _ => rfl
  refine lv_aload_n hx hb dX6_note_0 rfl (lv_at hl 0 rfl) ?_
  refine lv_aload_n hx hb dX6_note_1 rfl (lv_at hl 0 rfl) ?_
  refine lv_iload_n hx hb dX6_note_2 rfl (lv_at hl 1 rfl) ?_
  refine cx_Vi (As := [.int x1]) (rest := [.ref (ad 1000)]) ⟨hx, hb, hml, hown, hts⟩ (c_X6_isNode hD hN1 hN hV1 hV hq (x1 := x1) c_o) (cwV 1 hts gX6_note_X6_isNode rfl rfl rfl (by decide +kernel) ⟨Nat.le_of_ble_eq_true rfl, Nat.le_of_ble_eq_true rfl⟩) hK hP hS hz (hq _ (by decide)) c_o rfl ⟨Nat.zero_le _, Nat.zero_le _⟩ rfl hl.1 rfl (Nat.le_of_ble_eq_true rfl) dX6_note_3 (fun r1 g1 H locs hp1 hP hS => ?_)
  obtain ⟨er1, ehp1g⟩ := hp1
  rw [ehp1g] at hP
  refine lv_if_ne (x := r1) (tgt := 13) hx hb dX6_note_6 (by decide) (fun h6 => ?_) (fun h6 => ?_)
  · skip
    obtain ⟨k1, hk1a, hk1b, rfl⟩ := tr_t er1 h6
    refine lv_aload_n hx hb dX6_note_13 rfl (lv_at hl 0 rfl) ?_
    refine ax_get (k := 1000) (v := .int (nI nc)) hx hb hts in_X6_note_X6 hown hK hP (hq _ (by decide)) c_o rfl 22 (by decide) (hts _ wd_X6_note_0) (fun _ h9 => h9) rfl dX6_note_14 ?_
    refine lv_bipush (v := nI 24) hx hb dX6_note_17 (by decide) ?_
    refine ax_icne (a := nc) (b := 24) (tgt := 26) hx hb dX6_note_19 (by decide) (by omega) (by omega) (fun h19 => ?_) (fun h19 => ?_)
    · skip
      refine lv_iconst (v := nI 0) hx hb dX6_note_26 (by decide) ?_
      refine ax_put (k := 1000) (v := .int (nI 0)) (fs' := [.int (nI N), .int (nI V), .int (nI 0), .ref (ad 1003), .int (nI ec), .ref (ad 1005), .ref (ad 1006), .ref (ad 1007), .ref (ad 1008), .ref (ad 1009), .int (nI en), .int (if an = true then 1 else 0), .ref (ad 1012), .ref (ad 1013), .ref (ad 1014), .int (nI al), .ref (ad 1016), .ref (ad 1017), .ref (ad 1018), .ref (ad 1019), .int (nI pl), .ref (ad 1021), .int (nI nc), .ref (ad 1023), .ref (ad 1024), .int (nI sz), .ref (ad 1026), .ref (ad 1027), .ref (ad 1028)]) hx hb hts in_X6_note_X6 tyX6 tyX6_ok nmX6 hown hK hP hD hS (hq _ (by decide)) c_o rfl 2 (by decide) (hts _ wd_X6_note_2) (fun _ h9 => h9) rfl (ty := .int) (by decide +kernel) rfl rfl (Nat.le_of_ble_eq_true rfl) rfl dX6_note_27 (fun H locs g2 eg2 hP hS => ?_)
      have c_d : g2 1003 = nA G 5 (vN d) := (cx_ne eg2 1003 (by omega)).trans c_d
      have c_NN : g2 1023 = nA G 24 nn := (cx_ne eg2 1023 (by omega)).trans c_NN
      have c_NF : g2 1024 = nA G 120 (vN nf) := (cx_ne eg2 1024 (by omega)).trans c_NF
      have c_o : g2 1000 = .inr (6, [.int (nI N), .int (nI V), .int (nI 0), .ref (ad 1003), .int (nI ec), .ref (ad 1005), .ref (ad 1006), .ref (ad 1007), .ref (ad 1008), .ref (ad 1009), .int (nI en), .int (if an = true then 1 else 0), .ref (ad 1012), .ref (ad 1013), .ref (ad 1014), .int (nI al), .ref (ad 1016), .ref (ad 1017), .ref (ad 1018), .ref (ad 1019), .int (nI pl), .ref (ad 1021), .int (nI nc), .ref (ad 1023), .ref (ad 1024), .int (nI sz), .ref (ad 1026), .ref (ad 1027), .ref (ad 1028)]) := cx_eq eg2
      have fr : ∀ j : Nat, (j ≠ 1000 ∧ j ≠ 1003 ∧ j ≠ 1023 ∧ j ≠ 1024) → g2 j = g j := fun j hj => (cx_ne eg2 j (by omega)).trans (fr j hj)
      refine lv_aload_n hx hb dX6_note_30 rfl (lv_at hl 0 rfl) ?_
      refine ax_get (k := 1000) (v := .int (nI 0)) hx hb hts in_X6_note_X6 hown hK hP (hq _ (by decide)) c_o rfl 2 (by decide) (hts _ wd_X6_note_2) (fun _ h9 => h9) rfl dX6_note_31 ?_
      refine ax_ifeq (a := 0) (tgt := 39) hx hb dX6_note_34 (by decide) (by omega) (fun h34 => ?_) (fun h34 => ?_)
      · skip
        refine lv_aload_n hx hb dX6_note_39 rfl (lv_at hl 0 rfl) ?_
        refine ax_get (k := 1000) (v := .ref (ad 1023)) hx hb hts in_X6_note_X6 hown hK hP (hq _ (by decide)) c_o rfl 23 (by decide) (hts _ wd_X6_note_3) (fun _ h9 => h9) rfl dX6_note_40 ?_
        refine lv_aload_n hx hb dX6_note_43 rfl (lv_at hl 0 rfl) ?_
        refine ax_get (k := 1000) (v := .int (nI nc)) hx hb hts in_X6_note_X6 hown hK hP (hq _ (by decide)) c_o rfl 22 (by decide) (hts _ wd_X6_note_0) (fun _ h9 => h9) rfl dX6_note_44 ?_
        refine lv_iload_n hx hb dX6_note_47 rfl (lv_at hl 1 rfl) ?_
        refine ax_iast (k := 1023) (i := nc) (f' := (fun j => nI ((nu nn nc k1) j))) hx hb hK hP hD hS (hq _ (by decide)) c_NN (by omega) (by omega) (up_n _ _ _) dX6_note_48 (fun H locs g3 eg3 hP hS => ?_)
        have c_o : g3 1000 = .inr (6, [.int (nI N), .int (nI V), .int (nI 0), .ref (ad 1003), .int (nI ec), .ref (ad 1005), .ref (ad 1006), .ref (ad 1007), .ref (ad 1008), .ref (ad 1009), .int (nI en), .int (if an = true then 1 else 0), .ref (ad 1012), .ref (ad 1013), .ref (ad 1014), .int (nI al), .ref (ad 1016), .ref (ad 1017), .ref (ad 1018), .ref (ad 1019), .int (nI pl), .ref (ad 1021), .int (nI nc), .ref (ad 1023), .ref (ad 1024), .int (nI sz), .ref (ad 1026), .ref (ad 1027), .ref (ad 1028)]) := (cx_ne eg3 1000 (by omega)).trans c_o
        have c_d : g3 1003 = nA G 5 (vN d) := (cx_ne eg3 1003 (by omega)).trans c_d
        have c_NF : g3 1024 = nA G 120 (vN nf) := (cx_ne eg3 1024 (by omega)).trans c_NF
        have c_NN : g3 1023 = nA G 24 (nu nn nc k1) := cx_eq eg3
        have fr : ∀ j : Nat, (j ≠ 1000 ∧ j ≠ 1003 ∧ j ≠ 1023 ∧ j ≠ 1024) → g3 j = g j := fun j hj => (cx_ne eg3 j (by omega)).trans (fr j hj)
        refine lv_iconst (v := nI 0) hx hb dX6_note_49 (by decide) ?_
        refine lv_istore_n (lv' := [(2, .int (nI 0)), (0, .ref (ad 1000)), (1, .int (nI k1))]) hx hb dX6_note_50 rfl hl (by decide) rfl (fun ls hl => ?_)
        have LP51 : ∀ (fu : Nat) (k : Nat) (y : Nat → FF), (k ≤ 5) → (OF (5 * nc) nf d k y) → (5 - k) < fu → ∀ (ga4 : Nat → va_E) (H : Heap) (locs : List Loc) (ls : Array Slot), (ga4 1000 = .inr (6, [.int (nI N), .int (nI V), .int (nI 0), .ref (ad 1003), .int (nI ec), .ref (ad 1005), .ref (ad 1006), .ref (ad 1007), .ref (ad 1008), .ref (ad 1009), .int (nI en), .int (if an = true then 1 else 0), .ref (ad 1012), .ref (ad 1013), .ref (ad 1014), .int (nI al), .ref (ad 1016), .ref (ad 1017), .ref (ad 1018), .ref (ad 1019), .int (nI pl), .ref (ad 1021), .int (nI nc), .ref (ad 1023), .ref (ad 1024), .int (nI sz), .ref (ad 1026), .ref (ad 1027), .ref (ad 1028)])) → (ga4 1003 = nA G 5 (vN d)) → (ga4 1023 = nA G 24 (nu nn nc k1)) → (ga4 1024 = nA G 120 (vN y)) → (∀ j : Nat, (j ≠ 1000 ∧ j ≠ 1003 ∧ j ≠ 1023 ∧ j ≠ 1024) → ga4 j = g j) → va_P G.1 vwCl (wl L ad ga4) H → va_S (cx_A L ad s.heap.size) s.heap H locs → lv_has ls 3 [(2, .int (nI k)), (0, .ref (ad 1000)), (1, .int (nI k1))] → W p l e rm_X6_note s m args below meth c H locs 0 0 Q (F0 m 51 ls []) := by
          intro fu
          induction fu with
          | zero => intro k y hk5 hof hfu; exact absurd hfu (Nat.not_lt_zero _)
          | succ fu ih51 =>
            intro k y hk5 hof hfu51 ga4 H locs ls c_o c_d c_NN c_NF fr hP hS hl
            refine lv_iload_n hx hb dX6_note_51 rfl (lv_at hl 0 rfl) ?_
            refine lv_iconst (v := nI 5) hx hb dX6_note_52 (by decide) ?_
            refine ax_icge (a := k) (b := 5) (tgt := 81) hx hb dX6_note_53 (by decide) (by omega) (by omega) (fun h53 => ?_) (fun h53 => ?_)
            · skip
              refine lv_aload_n hx hb dX6_note_81 rfl (lv_at hl 1 rfl) ?_
              refine cx_Vv (As := []) (rest := []) ⟨hx, hb, hml, hown, hts⟩ (c_X6_clearDraft hD hN1 hN hV1 hV hq c_o c_d hd) (cwV 0 hts gX6_note_X6_clearDraft rfl rfl rfl (by decide +kernel) ⟨Nat.le_of_ble_eq_true rfl, Nat.le_of_ble_eq_true rfl⟩) hK hP hS hz (hq _ (by decide)) c_o rfl ⟨Nat.zero_le _, Nat.zero_le _⟩ rfl hl.1 rfl (Nat.le_of_ble_eq_true rfl) dX6_note_82 (fun g5 H locs hp5 hP hS => ?_)
              obtain ⟨hp5a, hp5b⟩ := hp5
              have c_o : g5 1000 = .inr (6, [.int (nI N), .int (nI V), .int (nI 0), .ref (ad 1003), .int (nI ec), .ref (ad 1005), .ref (ad 1006), .ref (ad 1007), .ref (ad 1008), .ref (ad 1009), .int (nI en), .int (if an = true then 1 else 0), .ref (ad 1012), .ref (ad 1013), .ref (ad 1014), .int (nI al), .ref (ad 1016), .ref (ad 1017), .ref (ad 1018), .ref (ad 1019), .int (nI pl), .ref (ad 1021), .int (nI nc), .ref (ad 1023), .ref (ad 1024), .int (nI sz), .ref (ad 1026), .ref (ad 1027), .ref (ad 1028)]) := (hp5a 1000 (by omega)).trans c_o
              have c_NN : g5 1023 = nA G 24 (nu nn nc k1) := (hp5a 1023 (by omega)).trans c_NN
              have c_NF : g5 1024 = nA G 120 (vN y) := (hp5a 1024 (by omega)).trans c_NF
              have fr : ∀ j : Nat, (j ≠ 1000 ∧ j ≠ 1003 ∧ j ≠ 1023 ∧ j ≠ 1024) → g5 j = g j := fun j hj => (hp5a j (by omega)).trans (fr j hj)
              have c_d := hp5b
              refine lv_aload_n hx hb dX6_note_85 rfl (lv_at hl 1 rfl) ?_
              refine lv_dup hx hb dX6_note_86 rfl ?_
              refine ax_get (k := 1000) (v := .int (nI nc)) hx hb hts in_X6_note_X6 hown hK hP (hq _ (by decide)) c_o rfl 22 (by decide) (hts _ wd_X6_note_0) (fun _ h9 => h9) rfl dX6_note_87 ?_
              refine lv_iconst (v := nI 1) hx hb dX6_note_90 (by decide) ?_
              refine ax_add (a := nc) (b := 1) hx hb dX6_note_91 ?_
              refine ax_put (k := 1000) (v := .int (nI (nc + 1))) (fs' := [.int (nI N), .int (nI V), .int (nI 0), .ref (ad 1003), .int (nI ec), .ref (ad 1005), .ref (ad 1006), .ref (ad 1007), .ref (ad 1008), .ref (ad 1009), .int (nI en), .int (if an = true then 1 else 0), .ref (ad 1012), .ref (ad 1013), .ref (ad 1014), .int (nI al), .ref (ad 1016), .ref (ad 1017), .ref (ad 1018), .ref (ad 1019), .int (nI pl), .ref (ad 1021), .int (nI (nc + 1)), .ref (ad 1023), .ref (ad 1024), .int (nI sz), .ref (ad 1026), .ref (ad 1027), .ref (ad 1028)]) hx hb hts in_X6_note_X6 tyX6 tyX6_ok nmX6 hown hK hP hD hS (hq _ (by decide)) c_o rfl 22 (by decide) (hts _ wd_X6_note_0) (fun _ h9 => h9) rfl (ty := .int) (by decide +kernel) rfl rfl (Nat.le_of_ble_eq_true rfl) rfl dX6_note_92 (fun H locs g6 eg6 hP hS => ?_)
              have c_d : g6 1003 = nA G 5 (vN (fun _ => 0)) := (cx_ne eg6 1003 (by omega)).trans c_d
              have c_NN : g6 1023 = nA G 24 (nu nn nc k1) := (cx_ne eg6 1023 (by omega)).trans c_NN
              have c_NF : g6 1024 = nA G 120 (vN y) := (cx_ne eg6 1024 (by omega)).trans c_NF
              have c_o : g6 1000 = .inr (6, [.int (nI N), .int (nI V), .int (nI 0), .ref (ad 1003), .int (nI ec), .ref (ad 1005), .ref (ad 1006), .ref (ad 1007), .ref (ad 1008), .ref (ad 1009), .int (nI en), .int (if an = true then 1 else 0), .ref (ad 1012), .ref (ad 1013), .ref (ad 1014), .int (nI al), .ref (ad 1016), .ref (ad 1017), .ref (ad 1018), .ref (ad 1019), .int (nI pl), .ref (ad 1021), .int (nI (nc + 1)), .ref (ad 1023), .ref (ad 1024), .int (nI sz), .ref (ad 1026), .ref (ad 1027), .ref (ad 1028)]) := cx_eq eg6
              have fr : ∀ j : Nat, (j ≠ 1000 ∧ j ≠ 1003 ∧ j ≠ 1023 ∧ j ≠ 1024) → g6 j = g j := fun j hj => (cx_ne eg6 j (by omega)).trans (fr j hj)
              refine lv_aload_n hx hb dX6_note_95 rfl (lv_at hl 1 rfl) ?_
              refine ax_get (k := 1000) (v := .int (nI (nc + 1))) hx hb hts in_X6_note_X6 hown hK hP (hq _ (by decide)) c_o rfl 22 (by decide) (hts _ wd_X6_note_0) (fun _ h9 => h9) rfl dX6_note_96 ?_
              exact hret (nI (nc + 1)) g6 _ _ _ _ rfl (by have e5 : k = 5 := (by omega); subst e5; exact ⟨fr, Or.inl ⟨k1, hk1b, rfl, by omega, rfl, c_o, c_d, c_NN, y, c_NF, hof⟩⟩) hP hS dX6_note_99
            · skip
              refine lv_aload_n hx hb dX6_note_56 rfl (lv_at hl 1 rfl) ?_
              refine ax_get (k := 1000) (v := .ref (ad 1024)) hx hb hts in_X6_note_X6 hown hK hP (hq _ (by decide)) c_o rfl 24 (by decide) (hts _ wd_X6_note_4) (fun _ h9 => h9) rfl dX6_note_57 ?_
              refine lv_iconst (v := nI 5) hx hb dX6_note_60 (by decide) ?_
              refine lv_aload_n hx hb dX6_note_61 rfl (lv_at hl 1 rfl) ?_
              refine ax_get (k := 1000) (v := .int (nI nc)) hx hb hts in_X6_note_X6 hown hK hP (hq _ (by decide)) c_o rfl 22 (by decide) (hts _ wd_X6_note_0) (fun _ h9 => h9) rfl dX6_note_62 ?_
              refine ax_mul (a := 5) (b := nc) hx hb dX6_note_65 ?_
              refine lv_iload_n hx hb dX6_note_66 rfl (lv_at hl 0 rfl) ?_
              refine ax_add (a := 5 * nc) (b := k) hx hb dX6_note_67 ?_
              refine lv_aload_n hx hb dX6_note_68 rfl (lv_at hl 1 rfl) ?_
              refine ax_get (k := 1000) (v := .ref (ad 1003)) hx hb hts in_X6_note_X6 hown hK hP (hq _ (by decide)) c_o rfl 3 (by decide) (hts _ wd_X6_note_5) (fun _ h9 => h9) rfl dX6_note_69 ?_
              refine lv_iload_n hx hb dX6_note_72 rfl (lv_at hl 0 rfl) ?_
              refine ax_iald (k := 1003) (i := k) (v := nI ((vN d) k)) hx hb hK hP (hq _ (by decide)) c_d (by omega) (by omega) rfl dX6_note_73 ?_
              refine ax_iast (k := 1024) (i := 5 * nc + k) (f' := (fun j => nI ((nu (vN y) (5 * nc + k) ((vN d) k)) j))) hx hb hK hP hD hS (hq _ (by decide)) c_NF (by omega) (by omega) (up_n _ _ _) dX6_note_74 (fun H locs g7 eg7 hP hS => ?_)
              have c_o : g7 1000 = .inr (6, [.int (nI N), .int (nI V), .int (nI 0), .ref (ad 1003), .int (nI ec), .ref (ad 1005), .ref (ad 1006), .ref (ad 1007), .ref (ad 1008), .ref (ad 1009), .int (nI en), .int (if an = true then 1 else 0), .ref (ad 1012), .ref (ad 1013), .ref (ad 1014), .int (nI al), .ref (ad 1016), .ref (ad 1017), .ref (ad 1018), .ref (ad 1019), .int (nI pl), .ref (ad 1021), .int (nI nc), .ref (ad 1023), .ref (ad 1024), .int (nI sz), .ref (ad 1026), .ref (ad 1027), .ref (ad 1028)]) := (cx_ne eg7 1000 (by omega)).trans c_o
              have c_d : g7 1003 = nA G 5 (vN d) := (cx_ne eg7 1003 (by omega)).trans c_d
              have c_NN : g7 1023 = nA G 24 (nu nn nc k1) := (cx_ne eg7 1023 (by omega)).trans c_NN
              have c_NF : g7 1024 = nA G 120 (nu (vN y) (5 * nc + k) ((vN d) k)) := cx_eq eg7
              have fr : ∀ j : Nat, (j ≠ 1000 ∧ j ≠ 1003 ∧ j ≠ 1023 ∧ j ≠ 1024) → g7 j = g j := fun j hj => (cx_ne eg7 j (by omega)).trans (fr j hj)
              have c_NF : g7 1024 = nA G 120 (vN (nu y (5 * nc + k) (d k))) := by rw [← vN_nu]; exact c_NF
              refine lv_iinc (v := nI (k + 1)) (lv' := [(2, .int (nI (k + 1))), (0, .ref (ad 1000)), (1, .int (nI k1))]) hx hb dX6_note_75 hl (k := 0) rfl (nI_1 _) (by decide) rfl (fun ls hl => ?_)
              refine lv_goto (tgt := 51) hx hb dX6_note_78 (by decide) ?_
              exact ih51 (k + 1) (nu y (5 * nc + k) (d k)) h53 (hof.step rfl) (by omega) g7 _ _ _ c_o c_d c_NN c_NF  fr hP hS (lv_sub hl [0, 1, 2] rfl)
        exact LP51 ((5 - 0) + 1) 0 nf (Nat.zero_le _) OF.start (Nat.lt_succ_self _) g3 _ _ _ c_o c_d c_NN c_NF  fr hP hS (lv_sub hl [0, 1, 2] rfl)
      · skip
        exact absurd h34 (by decide)
    · skip
      refine lv_iconst (v := nI 2) hx hb dX6_note_22 (by decide) ?_
      refine lv_goto (tgt := 27) hx hb dX6_note_23 (by decide) ?_
      refine ax_put (k := 1000) (v := .int (nI 2)) (fs' := [.int (nI N), .int (nI V), .int (nI 2), .ref (ad 1003), .int (nI ec), .ref (ad 1005), .ref (ad 1006), .ref (ad 1007), .ref (ad 1008), .ref (ad 1009), .int (nI en), .int (if an = true then 1 else 0), .ref (ad 1012), .ref (ad 1013), .ref (ad 1014), .int (nI al), .ref (ad 1016), .ref (ad 1017), .ref (ad 1018), .ref (ad 1019), .int (nI pl), .ref (ad 1021), .int (nI nc), .ref (ad 1023), .ref (ad 1024), .int (nI sz), .ref (ad 1026), .ref (ad 1027), .ref (ad 1028)]) hx hb hts in_X6_note_X6 tyX6 tyX6_ok nmX6 hown hK hP hD hS (hq _ (by decide)) c_o rfl 2 (by decide) (hts _ wd_X6_note_2) (fun _ h9 => h9) rfl (ty := .int) (by decide +kernel) rfl rfl (Nat.le_of_ble_eq_true rfl) rfl dX6_note_27 (fun H locs g8 eg8 hP hS => ?_)
      have c_d : g8 1003 = nA G 5 (vN d) := (cx_ne eg8 1003 (by omega)).trans c_d
      have c_NN : g8 1023 = nA G 24 nn := (cx_ne eg8 1023 (by omega)).trans c_NN
      have c_NF : g8 1024 = nA G 120 (vN nf) := (cx_ne eg8 1024 (by omega)).trans c_NF
      have c_o : g8 1000 = .inr (6, [.int (nI N), .int (nI V), .int (nI 2), .ref (ad 1003), .int (nI ec), .ref (ad 1005), .ref (ad 1006), .ref (ad 1007), .ref (ad 1008), .ref (ad 1009), .int (nI en), .int (if an = true then 1 else 0), .ref (ad 1012), .ref (ad 1013), .ref (ad 1014), .int (nI al), .ref (ad 1016), .ref (ad 1017), .ref (ad 1018), .ref (ad 1019), .int (nI pl), .ref (ad 1021), .int (nI nc), .ref (ad 1023), .ref (ad 1024), .int (nI sz), .ref (ad 1026), .ref (ad 1027), .ref (ad 1028)]) := cx_eq eg8
      have fr : ∀ j : Nat, (j ≠ 1000 ∧ j ≠ 1003 ∧ j ≠ 1023 ∧ j ≠ 1024) → g8 j = g j := fun j hj => (cx_ne eg8 j (by omega)).trans (fr j hj)
      refine lv_aload_n hx hb dX6_note_30 rfl (lv_at hl 0 rfl) ?_
      refine ax_get (k := 1000) (v := .int (nI 2)) hx hb hts in_X6_note_X6 hown hK hP (hq _ (by decide)) c_o rfl 2 (by decide) (hts _ wd_X6_note_2) (fun _ h9 => h9) rfl dX6_note_31 ?_
      refine ax_ifeq (a := 2) (tgt := 39) hx hb dX6_note_34 (by decide) (by omega) (fun h34 => ?_) (fun h34 => ?_)
      · skip
        exact absurd h34 (by decide)
      · skip
        refine lv_iconst (v := nI 0) hx hb dX6_note_37 (by decide) ?_
        exact hret (nI 0) g8 _ _ _ _ rfl ⟨fr, Or.inr (Or.inr ⟨inB_lit hk1a hk1b, h19, c_o, c_d, c_NN, c_NF⟩)⟩ hP hS dX6_note_38
  · skip
    refine lv_iconst (v := nI 1) hx hb dX6_note_9 (by decide) ?_
    refine lv_goto (tgt := 27) hx hb dX6_note_10 (by decide) ?_
    refine ax_put (k := 1000) (v := .int (nI 1)) (fs' := [.int (nI N), .int (nI V), .int (nI 1), .ref (ad 1003), .int (nI ec), .ref (ad 1005), .ref (ad 1006), .ref (ad 1007), .ref (ad 1008), .ref (ad 1009), .int (nI en), .int (if an = true then 1 else 0), .ref (ad 1012), .ref (ad 1013), .ref (ad 1014), .int (nI al), .ref (ad 1016), .ref (ad 1017), .ref (ad 1018), .ref (ad 1019), .int (nI pl), .ref (ad 1021), .int (nI nc), .ref (ad 1023), .ref (ad 1024), .int (nI sz), .ref (ad 1026), .ref (ad 1027), .ref (ad 1028)]) hx hb hts in_X6_note_X6 tyX6 tyX6_ok nmX6 hown hK hP hD hS (hq _ (by decide)) c_o rfl 2 (by decide) (hts _ wd_X6_note_2) (fun _ h9 => h9) rfl (ty := .int) (by decide +kernel) rfl rfl (Nat.le_of_ble_eq_true rfl) rfl dX6_note_27 (fun H locs g9 eg9 hP hS => ?_)
    have c_d : g9 1003 = nA G 5 (vN d) := (cx_ne eg9 1003 (by omega)).trans c_d
    have c_NN : g9 1023 = nA G 24 nn := (cx_ne eg9 1023 (by omega)).trans c_NN
    have c_NF : g9 1024 = nA G 120 (vN nf) := (cx_ne eg9 1024 (by omega)).trans c_NF
    have c_o : g9 1000 = .inr (6, [.int (nI N), .int (nI V), .int (nI 1), .ref (ad 1003), .int (nI ec), .ref (ad 1005), .ref (ad 1006), .ref (ad 1007), .ref (ad 1008), .ref (ad 1009), .int (nI en), .int (if an = true then 1 else 0), .ref (ad 1012), .ref (ad 1013), .ref (ad 1014), .int (nI al), .ref (ad 1016), .ref (ad 1017), .ref (ad 1018), .ref (ad 1019), .int (nI pl), .ref (ad 1021), .int (nI nc), .ref (ad 1023), .ref (ad 1024), .int (nI sz), .ref (ad 1026), .ref (ad 1027), .ref (ad 1028)]) := cx_eq eg9
    have fr : ∀ j : Nat, (j ≠ 1000 ∧ j ≠ 1003 ∧ j ≠ 1023 ∧ j ≠ 1024) → g9 j = g j := fun j hj => (cx_ne eg9 j (by omega)).trans (fr j hj)
    refine lv_aload_n hx hb dX6_note_30 rfl (lv_at hl 0 rfl) ?_
    refine ax_get (k := 1000) (v := .int (nI 1)) hx hb hts in_X6_note_X6 hown hK hP (hq _ (by decide)) c_o rfl 2 (by decide) (hts _ wd_X6_note_2) (fun _ h9 => h9) rfl dX6_note_31 ?_
    refine ax_ifeq (a := 1) (tgt := 39) hx hb dX6_note_34 (by decide) (by omega) (fun h34 => ?_) (fun h34 => ?_)
    · skip
      exact absurd h34 (by decide)
    · skip
      refine lv_iconst (v := nI 0) hx hb dX6_note_37 (by decide) ?_
      exact hret (nI 0) g9 _ _ _ _ rfl ⟨fr, Or.inr (Or.inl ⟨tr_f er1 h6, c_o, c_d, c_NN, c_NF⟩)⟩ hP hS dX6_note_38

set_option maxRecDepth 20000 in
theorem wd_X6_edge_0 : Cond.fieldLink RX6 103 "AffineHullsModel" "edges" "I" ∈ wsX6_edge := by decide +kernel
set_option maxRecDepth 20000 in
theorem in_X6_edge_X6 : ∀ w ∈ u_ws RX6 TX6 29, w ∈ wsX6_edge := by decide +kernel
set_option maxRecDepth 20000 in
theorem wd_X6_edge_2 : Cond.fieldLink RX6 74 "AffineHullsModel" "thrown" "I" ∈ wsX6_edge := by decide +kernel
set_option maxRecDepth 20000 in
theorem wd_X6_edge_3 : Cond.fieldLink RX6 13 "AffineHullsModel" "froms" "[I" ∈ wsX6_edge := by decide +kernel
set_option maxRecDepth 20000 in
theorem wd_X6_edge_4 : Cond.fieldLink RX6 16 "AffineHullsModel" "tos" "[I" ∈ wsX6_edge := by decide +kernel
set_option maxRecDepth 20000 in
theorem wd_X6_edge_5 : Cond.fieldLink RX6 19 "AffineHullsModel" "kinds" "[I" ∈ wsX6_edge := by decide +kernel
set_option maxRecDepth 20000 in
theorem wd_X6_edge_6 : Cond.fieldLink RX6 22 "AffineHullsModel" "targets" "[I" ∈ wsX6_edge := by decide +kernel
set_option maxRecDepth 20000 in
theorem wd_X6_edge_7 : Cond.fieldLink RX6 109 "AffineHullsModel" "analysed" "Z" ∈ wsX6_edge := by decide +kernel
set_option maxRecDepth 20000 in
theorem wd_X6_edge_8 : Cond.fieldLink RX6 25 "AffineHullsModel" "forms" "[I" ∈ wsX6_edge := by decide +kernel
set_option maxRecDepth 20000 in
theorem wd_X6_edge_9 : Cond.fieldLink RX6 7 "AffineHullsModel" "draft" "[I" ∈ wsX6_edge := by decide +kernel
set_option maxRecDepth 20000 in
theorem wd_X6_edge_10 : Cond.fieldLink RX6 71 "AffineHullsModel" "v" "I" ∈ wsX6_edge := by decide +kernel
abbrev rm_X6_edge : Room := { frames := 1, cells := 0, slots := 0, locals := 21 }
set_option maxHeartbeats 4000000 in
set_option maxRecDepth 100000 in
theorem c_X6_edge {l : Launch} {G : cx_G} {L : List Nat} {ad : Nat → Nat} {g : Nat → va_E} (hD : cx_D L ad) {N V th ec en al pl nc sz : Nat} {an : Bool} {x1 x2 x3 x4 : Int32} {d fm : Nat → FF} {ef et ek : Nat → Nat} {ez : Nat → Int32} (hN1 : 1 ≤ N) (hN : N ≤ 8) (hV1 : 1 ≤ V) (hV : V ≤ 4) (hq : ∀ j : Nat, lbM j = true → j ∈ L) (c_o : g 1000 = .inr (6, [.int (nI N), .int (nI V), .int (nI th), .ref (ad 1003), .int (nI ec), .ref (ad 1005), .ref (ad 1006), .ref (ad 1007), .ref (ad 1008), .ref (ad 1009), .int (nI en), .int (if an = true then 1 else 0), .ref (ad 1012), .ref (ad 1013), .ref (ad 1014), .int (nI al), .ref (ad 1016), .ref (ad 1017), .ref (ad 1018), .ref (ad 1019), .int (nI pl), .ref (ad 1021), .int (nI nc), .ref (ad 1023), .ref (ad 1024), .int (nI sz), .ref (ad 1026), .ref (ad 1027), .ref (ad 1028)])) (c_d : g 1003 = nA G 5 (vN d)) (c_FO : g 1005 = nA G 20 ef) (c_TO : g 1006 = nA G 20 et) (c_K : g 1007 = nA G 20 ek) (c_Z : g 1008 = iA G 20 ez) (c_F : g 1009 = nA G 100 (vN fm)) (hec : ec ≤ 20) (hd : Zb (V + 1) d) : MI l yX6_edge wsX6_edge rm_X6_edge G L ad g [.ref (ad 1000), .int x1, .int x2, .int x3, .int x4] (fun r u => (∀ j : Nat, (j ≠ 1000 ∧ j ≠ 1003 ∧ j ≠ 1005 ∧ j ≠ 1006 ∧ j ≠ 1007 ∧ j ≠ 1008 ∧ j ≠ 1009) → u j = g j) ∧ ((∃ k1 k2 k3 : Nat, x1 = nI k1 ∧ x2 = nI k2 ∧ x3 = nI k3 ∧ k1 < N ∧ k2 < N ∧ k3 < 5 ∧ (nI k3 = nI 1 ∨ nI k3 = nI 2 → inB 1 (V + 1) x4) ∧ ec < 20 ∧ r = nI ec ∧ u 1000 = .inr (6, [.int (nI N), .int (nI V), .int (nI 0), .ref (ad 1003), .int (nI (ec + 1)), .ref (ad 1005), .ref (ad 1006), .ref (ad 1007), .ref (ad 1008), .ref (ad 1009), .int (nI en), .int (if false = true then 1 else 0), .ref (ad 1012), .ref (ad 1013), .ref (ad 1014), .int (nI al), .ref (ad 1016), .ref (ad 1017), .ref (ad 1018), .ref (ad 1019), .int (nI pl), .ref (ad 1021), .int (nI nc), .ref (ad 1023), .ref (ad 1024), .int (nI sz), .ref (ad 1026), .ref (ad 1027), .ref (ad 1028)]) ∧ u 1003 = nA G 5 (vN (fun _ => 0)) ∧ u 1005 = nA G 20 (nu ef ec k1) ∧ u 1006 = nA G 20 (nu et ec k2) ∧ u 1007 = nA G 20 (nu ek ec k3) ∧ u 1008 = iA G 20 (nu ez ec x4) ∧ ∃ fm2 : Nat → FF, u 1009 = nA G 100 (vN fm2) ∧ OF (5 * ec) fm d 5 fm2) ∨ (¬ (inB 0 N x1 ∧ inB 0 N x2 ∧ inB 0 5 x3 ∧ (x3 = nI 1 ∨ x3 = nI 2 → inB 1 (V + 1) x4)) ∧ u 1000 = .inr (6, [.int (nI N), .int (nI V), .int (nI 1), .ref (ad 1003), .int (nI ec), .ref (ad 1005), .ref (ad 1006), .ref (ad 1007), .ref (ad 1008), .ref (ad 1009), .int (nI en), .int (if an = true then 1 else 0), .ref (ad 1012), .ref (ad 1013), .ref (ad 1014), .int (nI al), .ref (ad 1016), .ref (ad 1017), .ref (ad 1018), .ref (ad 1019), .int (nI pl), .ref (ad 1021), .int (nI nc), .ref (ad 1023), .ref (ad 1024), .int (nI sz), .ref (ad 1026), .ref (ad 1027), .ref (ad 1028)]) ∧ u 1003 = nA G 5 (vN d) ∧ u 1005 = nA G 20 ef ∧ u 1006 = nA G 20 et ∧ u 1007 = nA G 20 ek ∧ u 1008 = iA G 20 ez ∧ u 1009 = nA G 100 (vN fm)) ∨ ((inB 0 N x1 ∧ inB 0 N x2 ∧ inB 0 5 x3 ∧ (x3 = nI 1 ∨ x3 = nI 2 → inB 1 (V + 1) x4)) ∧ ec = 20 ∧ u 1000 = .inr (6, [.int (nI N), .int (nI V), .int (nI 2), .ref (ad 1003), .int (nI ec), .ref (ad 1005), .ref (ad 1006), .ref (ad 1007), .ref (ad 1008), .ref (ad 1009), .int (nI en), .int (if an = true then 1 else 0), .ref (ad 1012), .ref (ad 1013), .ref (ad 1014), .int (nI al), .ref (ad 1016), .ref (ad 1017), .ref (ad 1018), .ref (ad 1019), .int (nI pl), .ref (ad 1021), .int (nI nc), .ref (ad 1023), .ref (ad 1024), .int (nI sz), .ref (ad 1026), .ref (ad 1027), .ref (ad 1028)]) ∧ u 1003 = nA G 5 (vN d) ∧ u 1005 = nA G 20 ef ∧ u 1006 = nA G 20 et ∧ u 1007 = nA G 20 ek ∧ u 1008 = iA G 20 ez ∧ u 1009 = nA G 100 (vN fm)))) := by
  refine cx_ofI (cc := cX6_edge) (maxL := 8) (by decide +kernel) rfl (Nat.le_of_ble_eq_true rfl) ?_
  intro p e s m args below meth c Q hx hb hts hown hml hP hK hS hz hret ls hl
  have hown : s.vm.findClass RX6 = some m.cls := hown
  have hl : lv_has ls 8 [(0, .ref (ad 1000)), (1, .int x1), (2, .int x2), (3, .int x3), (4, .int x4)] := hl
  have fr : ∀ j : Nat, (j ≠ 1000 ∧ j ≠ 1003 ∧ j ≠ 1005 ∧ j ≠ 1006 ∧ j ≠ 1007 ∧ j ≠ 1008 ∧ j ≠ 1009) → g j = g j := fun _ _ => rfl
  have LP69 : ∀ (gd : Nat), ((gd = 1 ∧ (inB 0 N x1 ∧ inB 0 N x2 ∧ inB 0 5 x3 ∧ (x3 = nI 1 ∨ x3 = nI 2 → inB 1 (V + 1) x4))) ∨ (gd = 0 ∧ ¬ (inB 0 N x1 ∧ inB 0 N x2 ∧ inB 0 5 x3 ∧ (x3 = nI 1 ∨ x3 = nI 2 → inB 1 (V + 1) x4)))) → ∀ (H : Heap) (locs : List Loc) (ls : Array Slot), va_P G.1 vwCl (wl L ad g) H → va_S (cx_A L ad s.heap.size) s.heap H locs → lv_has ls 8 [(6, .int (nI gd)), (0, .ref (ad 1000)), (1, .int x1), (2, .int x2), (3, .int x3), (4, .int x4)] → W p l e rm_X6_edge s m args below meth c H locs 0 0 Q (F0 m 69 ls []) := by
    intro gd hgd H locs ls hP hS hl
    refine lv_aload_n hx hb dX6_edge_69 rfl (lv_at hl 1 rfl) ?_
    refine lv_iload hx hb dX6_edge_70 (lv_at hl 0 rfl) ?_
    refine ax_ifne (a := gd) (tgt := 79) hx hb dX6_edge_72 (by decide) (by omega) (fun h72 => ?_) (fun h72 => ?_)
    · skip
      obtain ⟨-, ⟨k1, hk1a, hk1b, rfl⟩, ⟨k2, hk2a, hk2b, rfl⟩, ⟨k3, hk3a, hk3b, rfl⟩, hvv⟩ := hgd.resolve_right (fun z => h72 z.1)
      refine lv_aload_n hx hb dX6_edge_79 rfl (lv_at hl 1 rfl) ?_
      refine ax_get (k := 1000) (v := .int (nI ec)) hx hb hts in_X6_edge_X6 hown hK hP (hq _ (by decide)) c_o rfl 4 (by decide) (hts _ wd_X6_edge_0) (fun _ h9 => h9) rfl dX6_edge_80 ?_
      refine lv_bipush (v := nI 20) hx hb dX6_edge_83 (by decide) ?_
      refine ax_icne (a := ec) (b := 20) (tgt := 92) hx hb dX6_edge_85 (by decide) (by omega) (by omega) (fun h85 => ?_) (fun h85 => ?_)
      · skip
        refine lv_iconst (v := nI 0) hx hb dX6_edge_92 (by decide) ?_
        refine ax_put (k := 1000) (v := .int (nI 0)) (fs' := [.int (nI N), .int (nI V), .int (nI 0), .ref (ad 1003), .int (nI ec), .ref (ad 1005), .ref (ad 1006), .ref (ad 1007), .ref (ad 1008), .ref (ad 1009), .int (nI en), .int (if an = true then 1 else 0), .ref (ad 1012), .ref (ad 1013), .ref (ad 1014), .int (nI al), .ref (ad 1016), .ref (ad 1017), .ref (ad 1018), .ref (ad 1019), .int (nI pl), .ref (ad 1021), .int (nI nc), .ref (ad 1023), .ref (ad 1024), .int (nI sz), .ref (ad 1026), .ref (ad 1027), .ref (ad 1028)]) hx hb hts in_X6_edge_X6 tyX6 tyX6_ok nmX6 hown hK hP hD hS (hq _ (by decide)) c_o rfl 2 (by decide) (hts _ wd_X6_edge_2) (fun _ h9 => h9) rfl (ty := .int) (by decide +kernel) rfl rfl (Nat.le_of_ble_eq_true rfl) rfl dX6_edge_93 (fun H locs g2 eg2 hP hS => ?_)
        have c_d : g2 1003 = nA G 5 (vN d) := (cx_ne eg2 1003 (by omega)).trans c_d
        have c_FO : g2 1005 = nA G 20 ef := (cx_ne eg2 1005 (by omega)).trans c_FO
        have c_TO : g2 1006 = nA G 20 et := (cx_ne eg2 1006 (by omega)).trans c_TO
        have c_K : g2 1007 = nA G 20 ek := (cx_ne eg2 1007 (by omega)).trans c_K
        have c_Z : g2 1008 = iA G 20 ez := (cx_ne eg2 1008 (by omega)).trans c_Z
        have c_F : g2 1009 = nA G 100 (vN fm) := (cx_ne eg2 1009 (by omega)).trans c_F
        have c_o : g2 1000 = .inr (6, [.int (nI N), .int (nI V), .int (nI 0), .ref (ad 1003), .int (nI ec), .ref (ad 1005), .ref (ad 1006), .ref (ad 1007), .ref (ad 1008), .ref (ad 1009), .int (nI en), .int (if an = true then 1 else 0), .ref (ad 1012), .ref (ad 1013), .ref (ad 1014), .int (nI al), .ref (ad 1016), .ref (ad 1017), .ref (ad 1018), .ref (ad 1019), .int (nI pl), .ref (ad 1021), .int (nI nc), .ref (ad 1023), .ref (ad 1024), .int (nI sz), .ref (ad 1026), .ref (ad 1027), .ref (ad 1028)]) := cx_eq eg2
        have fr : ∀ j : Nat, (j ≠ 1000 ∧ j ≠ 1003 ∧ j ≠ 1005 ∧ j ≠ 1006 ∧ j ≠ 1007 ∧ j ≠ 1008 ∧ j ≠ 1009) → g2 j = g j := fun j hj => (cx_ne eg2 j (by omega)).trans (fr j hj)
        refine lv_aload_n hx hb dX6_edge_96 rfl (lv_at hl 1 rfl) ?_
        refine ax_get (k := 1000) (v := .int (nI 0)) hx hb hts in_X6_edge_X6 hown hK hP (hq _ (by decide)) c_o rfl 2 (by decide) (hts _ wd_X6_edge_2) (fun _ h9 => h9) rfl dX6_edge_97 ?_
        refine ax_ifeq (a := 0) (tgt := 105) hx hb dX6_edge_100 (by decide) (by omega) (fun h100 => ?_) (fun h100 => ?_)
        · skip
          refine lv_aload_n hx hb dX6_edge_105 rfl (lv_at hl 1 rfl) ?_
          refine ax_get (k := 1000) (v := .ref (ad 1005)) hx hb hts in_X6_edge_X6 hown hK hP (hq _ (by decide)) c_o rfl 5 (by decide) (hts _ wd_X6_edge_3) (fun _ h9 => h9) rfl dX6_edge_106 ?_
          refine lv_aload_n hx hb dX6_edge_109 rfl (lv_at hl 1 rfl) ?_
          refine ax_get (k := 1000) (v := .int (nI ec)) hx hb hts in_X6_edge_X6 hown hK hP (hq _ (by decide)) c_o rfl 4 (by decide) (hts _ wd_X6_edge_0) (fun _ h9 => h9) rfl dX6_edge_110 ?_
          refine lv_iload_n hx hb dX6_edge_113 rfl (lv_at hl 2 rfl) ?_
          refine ax_iast (k := 1005) (i := ec) (f' := (fun j => nI ((nu ef ec k1) j))) hx hb hK hP hD hS (hq _ (by decide)) c_FO (by omega) (by omega) (up_n _ _ _) dX6_edge_114 (fun H locs g3 eg3 hP hS => ?_)
          have c_o : g3 1000 = .inr (6, [.int (nI N), .int (nI V), .int (nI 0), .ref (ad 1003), .int (nI ec), .ref (ad 1005), .ref (ad 1006), .ref (ad 1007), .ref (ad 1008), .ref (ad 1009), .int (nI en), .int (if an = true then 1 else 0), .ref (ad 1012), .ref (ad 1013), .ref (ad 1014), .int (nI al), .ref (ad 1016), .ref (ad 1017), .ref (ad 1018), .ref (ad 1019), .int (nI pl), .ref (ad 1021), .int (nI nc), .ref (ad 1023), .ref (ad 1024), .int (nI sz), .ref (ad 1026), .ref (ad 1027), .ref (ad 1028)]) := (cx_ne eg3 1000 (by omega)).trans c_o
          have c_d : g3 1003 = nA G 5 (vN d) := (cx_ne eg3 1003 (by omega)).trans c_d
          have c_TO : g3 1006 = nA G 20 et := (cx_ne eg3 1006 (by omega)).trans c_TO
          have c_K : g3 1007 = nA G 20 ek := (cx_ne eg3 1007 (by omega)).trans c_K
          have c_Z : g3 1008 = iA G 20 ez := (cx_ne eg3 1008 (by omega)).trans c_Z
          have c_F : g3 1009 = nA G 100 (vN fm) := (cx_ne eg3 1009 (by omega)).trans c_F
          have c_FO : g3 1005 = nA G 20 (nu ef ec k1) := cx_eq eg3
          have fr : ∀ j : Nat, (j ≠ 1000 ∧ j ≠ 1003 ∧ j ≠ 1005 ∧ j ≠ 1006 ∧ j ≠ 1007 ∧ j ≠ 1008 ∧ j ≠ 1009) → g3 j = g j := fun j hj => (cx_ne eg3 j (by omega)).trans (fr j hj)
          refine lv_aload_n hx hb dX6_edge_115 rfl (lv_at hl 1 rfl) ?_
          refine ax_get (k := 1000) (v := .ref (ad 1006)) hx hb hts in_X6_edge_X6 hown hK hP (hq _ (by decide)) c_o rfl 6 (by decide) (hts _ wd_X6_edge_4) (fun _ h9 => h9) rfl dX6_edge_116 ?_
          refine lv_aload_n hx hb dX6_edge_119 rfl (lv_at hl 1 rfl) ?_
          refine ax_get (k := 1000) (v := .int (nI ec)) hx hb hts in_X6_edge_X6 hown hK hP (hq _ (by decide)) c_o rfl 4 (by decide) (hts _ wd_X6_edge_0) (fun _ h9 => h9) rfl dX6_edge_120 ?_
          refine lv_iload_n hx hb dX6_edge_123 rfl (lv_at hl 3 rfl) ?_
          refine ax_iast (k := 1006) (i := ec) (f' := (fun j => nI ((nu et ec k2) j))) hx hb hK hP hD hS (hq _ (by decide)) c_TO (by omega) (by omega) (up_n _ _ _) dX6_edge_124 (fun H locs g4 eg4 hP hS => ?_)
          have c_o : g4 1000 = .inr (6, [.int (nI N), .int (nI V), .int (nI 0), .ref (ad 1003), .int (nI ec), .ref (ad 1005), .ref (ad 1006), .ref (ad 1007), .ref (ad 1008), .ref (ad 1009), .int (nI en), .int (if an = true then 1 else 0), .ref (ad 1012), .ref (ad 1013), .ref (ad 1014), .int (nI al), .ref (ad 1016), .ref (ad 1017), .ref (ad 1018), .ref (ad 1019), .int (nI pl), .ref (ad 1021), .int (nI nc), .ref (ad 1023), .ref (ad 1024), .int (nI sz), .ref (ad 1026), .ref (ad 1027), .ref (ad 1028)]) := (cx_ne eg4 1000 (by omega)).trans c_o
          have c_d : g4 1003 = nA G 5 (vN d) := (cx_ne eg4 1003 (by omega)).trans c_d
          have c_FO : g4 1005 = nA G 20 (nu ef ec k1) := (cx_ne eg4 1005 (by omega)).trans c_FO
          have c_K : g4 1007 = nA G 20 ek := (cx_ne eg4 1007 (by omega)).trans c_K
          have c_Z : g4 1008 = iA G 20 ez := (cx_ne eg4 1008 (by omega)).trans c_Z
          have c_F : g4 1009 = nA G 100 (vN fm) := (cx_ne eg4 1009 (by omega)).trans c_F
          have c_TO : g4 1006 = nA G 20 (nu et ec k2) := cx_eq eg4
          have fr : ∀ j : Nat, (j ≠ 1000 ∧ j ≠ 1003 ∧ j ≠ 1005 ∧ j ≠ 1006 ∧ j ≠ 1007 ∧ j ≠ 1008 ∧ j ≠ 1009) → g4 j = g j := fun j hj => (cx_ne eg4 j (by omega)).trans (fr j hj)
          refine lv_aload_n hx hb dX6_edge_125 rfl (lv_at hl 1 rfl) ?_
          refine ax_get (k := 1000) (v := .ref (ad 1007)) hx hb hts in_X6_edge_X6 hown hK hP (hq _ (by decide)) c_o rfl 7 (by decide) (hts _ wd_X6_edge_5) (fun _ h9 => h9) rfl dX6_edge_126 ?_
          refine lv_aload_n hx hb dX6_edge_129 rfl (lv_at hl 1 rfl) ?_
          refine ax_get (k := 1000) (v := .int (nI ec)) hx hb hts in_X6_edge_X6 hown hK hP (hq _ (by decide)) c_o rfl 4 (by decide) (hts _ wd_X6_edge_0) (fun _ h9 => h9) rfl dX6_edge_130 ?_
          refine lv_iload_n hx hb dX6_edge_133 rfl (lv_at hl 4 rfl) ?_
          refine ax_iast (k := 1007) (i := ec) (f' := (fun j => nI ((nu ek ec k3) j))) hx hb hK hP hD hS (hq _ (by decide)) c_K (by omega) (by omega) (up_n _ _ _) dX6_edge_134 (fun H locs g5 eg5 hP hS => ?_)
          have c_o : g5 1000 = .inr (6, [.int (nI N), .int (nI V), .int (nI 0), .ref (ad 1003), .int (nI ec), .ref (ad 1005), .ref (ad 1006), .ref (ad 1007), .ref (ad 1008), .ref (ad 1009), .int (nI en), .int (if an = true then 1 else 0), .ref (ad 1012), .ref (ad 1013), .ref (ad 1014), .int (nI al), .ref (ad 1016), .ref (ad 1017), .ref (ad 1018), .ref (ad 1019), .int (nI pl), .ref (ad 1021), .int (nI nc), .ref (ad 1023), .ref (ad 1024), .int (nI sz), .ref (ad 1026), .ref (ad 1027), .ref (ad 1028)]) := (cx_ne eg5 1000 (by omega)).trans c_o
          have c_d : g5 1003 = nA G 5 (vN d) := (cx_ne eg5 1003 (by omega)).trans c_d
          have c_FO : g5 1005 = nA G 20 (nu ef ec k1) := (cx_ne eg5 1005 (by omega)).trans c_FO
          have c_TO : g5 1006 = nA G 20 (nu et ec k2) := (cx_ne eg5 1006 (by omega)).trans c_TO
          have c_Z : g5 1008 = iA G 20 ez := (cx_ne eg5 1008 (by omega)).trans c_Z
          have c_F : g5 1009 = nA G 100 (vN fm) := (cx_ne eg5 1009 (by omega)).trans c_F
          have c_K : g5 1007 = nA G 20 (nu ek ec k3) := cx_eq eg5
          have fr : ∀ j : Nat, (j ≠ 1000 ∧ j ≠ 1003 ∧ j ≠ 1005 ∧ j ≠ 1006 ∧ j ≠ 1007 ∧ j ≠ 1008 ∧ j ≠ 1009) → g5 j = g j := fun j hj => (cx_ne eg5 j (by omega)).trans (fr j hj)
          refine lv_aload_n hx hb dX6_edge_135 rfl (lv_at hl 1 rfl) ?_
          refine ax_get (k := 1000) (v := .ref (ad 1008)) hx hb hts in_X6_edge_X6 hown hK hP (hq _ (by decide)) c_o rfl 8 (by decide) (hts _ wd_X6_edge_6) (fun _ h9 => h9) rfl dX6_edge_136 ?_
          refine lv_aload_n hx hb dX6_edge_139 rfl (lv_at hl 1 rfl) ?_
          refine ax_get (k := 1000) (v := .int (nI ec)) hx hb hts in_X6_edge_X6 hown hK hP (hq _ (by decide)) c_o rfl 4 (by decide) (hts _ wd_X6_edge_0) (fun _ h9 => h9) rfl dX6_edge_140 ?_
          refine lv_iload hx hb dX6_edge_143 (lv_at hl 5 rfl) ?_
          refine ax_iast (k := 1008) (i := ec) (f' := (nu ez ec x4)) hx hb hK hP hD hS (hq _ (by decide)) c_Z (by omega) (by omega) (up_i _ _ _) dX6_edge_145 (fun H locs g6 eg6 hP hS => ?_)
          have c_o : g6 1000 = .inr (6, [.int (nI N), .int (nI V), .int (nI 0), .ref (ad 1003), .int (nI ec), .ref (ad 1005), .ref (ad 1006), .ref (ad 1007), .ref (ad 1008), .ref (ad 1009), .int (nI en), .int (if an = true then 1 else 0), .ref (ad 1012), .ref (ad 1013), .ref (ad 1014), .int (nI al), .ref (ad 1016), .ref (ad 1017), .ref (ad 1018), .ref (ad 1019), .int (nI pl), .ref (ad 1021), .int (nI nc), .ref (ad 1023), .ref (ad 1024), .int (nI sz), .ref (ad 1026), .ref (ad 1027), .ref (ad 1028)]) := (cx_ne eg6 1000 (by omega)).trans c_o
          have c_d : g6 1003 = nA G 5 (vN d) := (cx_ne eg6 1003 (by omega)).trans c_d
          have c_FO : g6 1005 = nA G 20 (nu ef ec k1) := (cx_ne eg6 1005 (by omega)).trans c_FO
          have c_TO : g6 1006 = nA G 20 (nu et ec k2) := (cx_ne eg6 1006 (by omega)).trans c_TO
          have c_K : g6 1007 = nA G 20 (nu ek ec k3) := (cx_ne eg6 1007 (by omega)).trans c_K
          have c_F : g6 1009 = nA G 100 (vN fm) := (cx_ne eg6 1009 (by omega)).trans c_F
          have c_Z : g6 1008 = iA G 20 (nu ez ec x4) := cx_eq eg6
          have fr : ∀ j : Nat, (j ≠ 1000 ∧ j ≠ 1003 ∧ j ≠ 1005 ∧ j ≠ 1006 ∧ j ≠ 1007 ∧ j ≠ 1008 ∧ j ≠ 1009) → g6 j = g j := fun j hj => (cx_ne eg6 j (by omega)).trans (fr j hj)
          refine lv_iconst (v := nI 0) hx hb dX6_edge_146 (by decide) ?_
          refine lv_istore (lv' := [(7, .int (nI 0)), (6, .int (nI gd)), (0, .ref (ad 1000)), (1, .int (nI k1)), (2, .int (nI k2)), (3, .int (nI k3)), (4, .int x4)]) hx hb dX6_edge_147 hl (by decide) rfl (fun ls hl => ?_)
          have LP149 : ∀ (fu : Nat) (k : Nat) (y : Nat → FF), (k ≤ 5) → (OF (5 * ec) fm d k y) → (5 - k) < fu → ∀ (ga7 : Nat → va_E) (H : Heap) (locs : List Loc) (ls : Array Slot), (ga7 1000 = .inr (6, [.int (nI N), .int (nI V), .int (nI 0), .ref (ad 1003), .int (nI ec), .ref (ad 1005), .ref (ad 1006), .ref (ad 1007), .ref (ad 1008), .ref (ad 1009), .int (nI en), .int (if an = true then 1 else 0), .ref (ad 1012), .ref (ad 1013), .ref (ad 1014), .int (nI al), .ref (ad 1016), .ref (ad 1017), .ref (ad 1018), .ref (ad 1019), .int (nI pl), .ref (ad 1021), .int (nI nc), .ref (ad 1023), .ref (ad 1024), .int (nI sz), .ref (ad 1026), .ref (ad 1027), .ref (ad 1028)])) → (ga7 1003 = nA G 5 (vN d)) → (ga7 1005 = nA G 20 (nu ef ec k1)) → (ga7 1006 = nA G 20 (nu et ec k2)) → (ga7 1007 = nA G 20 (nu ek ec k3)) → (ga7 1008 = iA G 20 (nu ez ec x4)) → (ga7 1009 = nA G 100 (vN y)) → (∀ j : Nat, (j ≠ 1000 ∧ j ≠ 1003 ∧ j ≠ 1005 ∧ j ≠ 1006 ∧ j ≠ 1007 ∧ j ≠ 1008 ∧ j ≠ 1009) → ga7 j = g j) → va_P G.1 vwCl (wl L ad ga7) H → va_S (cx_A L ad s.heap.size) s.heap H locs → lv_has ls 8 [(7, .int (nI k)), (0, .ref (ad 1000))] → W p l e rm_X6_edge s m args below meth c H locs 0 0 Q (F0 m 149 ls []) := by
            intro fu
            induction fu with
            | zero => intro k y hk5 hof hfu; exact absurd hfu (Nat.not_lt_zero _)
            | succ fu ih149 =>
              intro k y hk5 hof hfu149 ga7 H locs ls c_o c_d c_FO c_TO c_K c_Z c_F fr hP hS hl
              refine lv_iload hx hb dX6_edge_149 (lv_at hl 0 rfl) ?_
              refine lv_iconst (v := nI 5) hx hb dX6_edge_151 (by decide) ?_
              refine ax_icge (a := k) (b := 5) (tgt := 182) hx hb dX6_edge_152 (by decide) (by omega) (by omega) (fun h152 => ?_) (fun h152 => ?_)
              · skip
                refine lv_aload_n hx hb dX6_edge_182 rfl (lv_at hl 1 rfl) ?_
                refine cx_Vv (As := []) (rest := []) ⟨hx, hb, hml, hown, hts⟩ (c_X6_clearDraft hD hN1 hN hV1 hV hq c_o c_d hd) (cwV 0 hts gX6_edge_X6_clearDraft rfl rfl rfl (by decide +kernel) ⟨Nat.le_of_ble_eq_true rfl, Nat.le_of_ble_eq_true rfl⟩) hK hP hS hz (hq _ (by decide)) c_o rfl ⟨Nat.zero_le _, Nat.zero_le _⟩ rfl hl.1 rfl (Nat.le_of_ble_eq_true rfl) dX6_edge_183 (fun g8 H locs hp8 hP hS => ?_)
                obtain ⟨hp8a, hp8b⟩ := hp8
                have c_o : g8 1000 = .inr (6, [.int (nI N), .int (nI V), .int (nI 0), .ref (ad 1003), .int (nI ec), .ref (ad 1005), .ref (ad 1006), .ref (ad 1007), .ref (ad 1008), .ref (ad 1009), .int (nI en), .int (if an = true then 1 else 0), .ref (ad 1012), .ref (ad 1013), .ref (ad 1014), .int (nI al), .ref (ad 1016), .ref (ad 1017), .ref (ad 1018), .ref (ad 1019), .int (nI pl), .ref (ad 1021), .int (nI nc), .ref (ad 1023), .ref (ad 1024), .int (nI sz), .ref (ad 1026), .ref (ad 1027), .ref (ad 1028)]) := (hp8a 1000 (by omega)).trans c_o
                have c_FO : g8 1005 = nA G 20 (nu ef ec k1) := (hp8a 1005 (by omega)).trans c_FO
                have c_TO : g8 1006 = nA G 20 (nu et ec k2) := (hp8a 1006 (by omega)).trans c_TO
                have c_K : g8 1007 = nA G 20 (nu ek ec k3) := (hp8a 1007 (by omega)).trans c_K
                have c_Z : g8 1008 = iA G 20 (nu ez ec x4) := (hp8a 1008 (by omega)).trans c_Z
                have c_F : g8 1009 = nA G 100 (vN y) := (hp8a 1009 (by omega)).trans c_F
                have fr : ∀ j : Nat, (j ≠ 1000 ∧ j ≠ 1003 ∧ j ≠ 1005 ∧ j ≠ 1006 ∧ j ≠ 1007 ∧ j ≠ 1008 ∧ j ≠ 1009) → g8 j = g j := fun j hj => (hp8a j (by omega)).trans (fr j hj)
                have c_d := hp8b
                refine lv_aload_n hx hb dX6_edge_186 rfl (lv_at hl 1 rfl) ?_
                refine lv_iconst (v := nI 0) hx hb dX6_edge_187 (by decide) ?_
                refine ax_put (k := 1000) (v := .int (nI 0)) (fs' := [.int (nI N), .int (nI V), .int (nI 0), .ref (ad 1003), .int (nI ec), .ref (ad 1005), .ref (ad 1006), .ref (ad 1007), .ref (ad 1008), .ref (ad 1009), .int (nI en), .int (nI 0), .ref (ad 1012), .ref (ad 1013), .ref (ad 1014), .int (nI al), .ref (ad 1016), .ref (ad 1017), .ref (ad 1018), .ref (ad 1019), .int (nI pl), .ref (ad 1021), .int (nI nc), .ref (ad 1023), .ref (ad 1024), .int (nI sz), .ref (ad 1026), .ref (ad 1027), .ref (ad 1028)]) hx hb hts in_X6_edge_X6 tyX6 tyX6_ok nmX6 hown hK hP hD hS (hq _ (by decide)) c_o rfl 11 (by decide) (hts _ wd_X6_edge_7) (fun _ h9 => h9) rfl (ty := .boolean) (by decide +kernel) (by decide) (by decide) (Nat.le_of_ble_eq_true rfl) rfl dX6_edge_188 (fun H locs g9 eg9 hP hS => ?_)
                have c_d : g9 1003 = nA G 5 (vN (fun _ => 0)) := (cx_ne eg9 1003 (by omega)).trans c_d
                have c_FO : g9 1005 = nA G 20 (nu ef ec k1) := (cx_ne eg9 1005 (by omega)).trans c_FO
                have c_TO : g9 1006 = nA G 20 (nu et ec k2) := (cx_ne eg9 1006 (by omega)).trans c_TO
                have c_K : g9 1007 = nA G 20 (nu ek ec k3) := (cx_ne eg9 1007 (by omega)).trans c_K
                have c_Z : g9 1008 = iA G 20 (nu ez ec x4) := (cx_ne eg9 1008 (by omega)).trans c_Z
                have c_F : g9 1009 = nA G 100 (vN y) := (cx_ne eg9 1009 (by omega)).trans c_F
                have c_o : g9 1000 = .inr (6, [.int (nI N), .int (nI V), .int (nI 0), .ref (ad 1003), .int (nI ec), .ref (ad 1005), .ref (ad 1006), .ref (ad 1007), .ref (ad 1008), .ref (ad 1009), .int (nI en), .int (nI 0), .ref (ad 1012), .ref (ad 1013), .ref (ad 1014), .int (nI al), .ref (ad 1016), .ref (ad 1017), .ref (ad 1018), .ref (ad 1019), .int (nI pl), .ref (ad 1021), .int (nI nc), .ref (ad 1023), .ref (ad 1024), .int (nI sz), .ref (ad 1026), .ref (ad 1027), .ref (ad 1028)]) := cx_eq eg9
                have fr : ∀ j : Nat, (j ≠ 1000 ∧ j ≠ 1003 ∧ j ≠ 1005 ∧ j ≠ 1006 ∧ j ≠ 1007 ∧ j ≠ 1008 ∧ j ≠ 1009) → g9 j = g j := fun j hj => (cx_ne eg9 j (by omega)).trans (fr j hj)
                refine lv_aload_n hx hb dX6_edge_191 rfl (lv_at hl 1 rfl) ?_
                refine lv_dup hx hb dX6_edge_192 rfl ?_
                refine ax_get (k := 1000) (v := .int (nI ec)) hx hb hts in_X6_edge_X6 hown hK hP (hq _ (by decide)) c_o rfl 4 (by decide) (hts _ wd_X6_edge_0) (fun _ h9 => h9) rfl dX6_edge_193 ?_
                refine lv_iconst (v := nI 1) hx hb dX6_edge_196 (by decide) ?_
                refine ax_add (a := ec) (b := 1) hx hb dX6_edge_197 ?_
                refine ax_put (k := 1000) (v := .int (nI (ec + 1))) (fs' := [.int (nI N), .int (nI V), .int (nI 0), .ref (ad 1003), .int (nI (ec + 1)), .ref (ad 1005), .ref (ad 1006), .ref (ad 1007), .ref (ad 1008), .ref (ad 1009), .int (nI en), .int (nI 0), .ref (ad 1012), .ref (ad 1013), .ref (ad 1014), .int (nI al), .ref (ad 1016), .ref (ad 1017), .ref (ad 1018), .ref (ad 1019), .int (nI pl), .ref (ad 1021), .int (nI nc), .ref (ad 1023), .ref (ad 1024), .int (nI sz), .ref (ad 1026), .ref (ad 1027), .ref (ad 1028)]) hx hb hts in_X6_edge_X6 tyX6 tyX6_ok nmX6 hown hK hP hD hS (hq _ (by decide)) c_o rfl 4 (by decide) (hts _ wd_X6_edge_0) (fun _ h9 => h9) rfl (ty := .int) (by decide +kernel) rfl rfl (Nat.le_of_ble_eq_true rfl) rfl dX6_edge_198 (fun H locs g10 eg10 hP hS => ?_)
                have c_d : g10 1003 = nA G 5 (vN (fun _ => 0)) := (cx_ne eg10 1003 (by omega)).trans c_d
                have c_FO : g10 1005 = nA G 20 (nu ef ec k1) := (cx_ne eg10 1005 (by omega)).trans c_FO
                have c_TO : g10 1006 = nA G 20 (nu et ec k2) := (cx_ne eg10 1006 (by omega)).trans c_TO
                have c_K : g10 1007 = nA G 20 (nu ek ec k3) := (cx_ne eg10 1007 (by omega)).trans c_K
                have c_Z : g10 1008 = iA G 20 (nu ez ec x4) := (cx_ne eg10 1008 (by omega)).trans c_Z
                have c_F : g10 1009 = nA G 100 (vN y) := (cx_ne eg10 1009 (by omega)).trans c_F
                have c_o : g10 1000 = .inr (6, [.int (nI N), .int (nI V), .int (nI 0), .ref (ad 1003), .int (nI (ec + 1)), .ref (ad 1005), .ref (ad 1006), .ref (ad 1007), .ref (ad 1008), .ref (ad 1009), .int (nI en), .int (nI 0), .ref (ad 1012), .ref (ad 1013), .ref (ad 1014), .int (nI al), .ref (ad 1016), .ref (ad 1017), .ref (ad 1018), .ref (ad 1019), .int (nI pl), .ref (ad 1021), .int (nI nc), .ref (ad 1023), .ref (ad 1024), .int (nI sz), .ref (ad 1026), .ref (ad 1027), .ref (ad 1028)]) := cx_eq eg10
                have fr : ∀ j : Nat, (j ≠ 1000 ∧ j ≠ 1003 ∧ j ≠ 1005 ∧ j ≠ 1006 ∧ j ≠ 1007 ∧ j ≠ 1008 ∧ j ≠ 1009) → g10 j = g j := fun j hj => (cx_ne eg10 j (by omega)).trans (fr j hj)
                refine lv_aload_n hx hb dX6_edge_201 rfl (lv_at hl 1 rfl) ?_
                refine ax_get (k := 1000) (v := .int (nI (ec + 1))) hx hb hts in_X6_edge_X6 hown hK hP (hq _ (by decide)) c_o rfl 4 (by decide) (hts _ wd_X6_edge_0) (fun _ h9 => h9) rfl dX6_edge_202 ?_
                refine lv_iconst (v := nI 1) hx hb dX6_edge_205 (by decide) ?_
                refine ax_sub (a := ec + 1) (b := 1) hx hb dX6_edge_206 (by omega) ?_
                exact hret (nI (ec + 1 - 1)) g10 _ _ _ _ rfl (by have e5 : k = 5 := (by omega); subst e5; exact ⟨fr, Or.inl ⟨k1, k2, k3, rfl, rfl, rfl, hk1b, hk2b, hk3b, hvv, by omega, rfl, c_o, c_d, c_FO, c_TO, c_K, c_Z, y, c_F, hof⟩⟩) hP hS dX6_edge_207
              · skip
                refine lv_aload_n hx hb dX6_edge_155 rfl (lv_at hl 1 rfl) ?_
                refine ax_get (k := 1000) (v := .ref (ad 1009)) hx hb hts in_X6_edge_X6 hown hK hP (hq _ (by decide)) c_o rfl 9 (by decide) (hts _ wd_X6_edge_8) (fun _ h9 => h9) rfl dX6_edge_156 ?_
                refine lv_iconst (v := nI 5) hx hb dX6_edge_159 (by decide) ?_
                refine lv_aload_n hx hb dX6_edge_160 rfl (lv_at hl 1 rfl) ?_
                refine ax_get (k := 1000) (v := .int (nI ec)) hx hb hts in_X6_edge_X6 hown hK hP (hq _ (by decide)) c_o rfl 4 (by decide) (hts _ wd_X6_edge_0) (fun _ h9 => h9) rfl dX6_edge_161 ?_
                refine ax_mul (a := 5) (b := ec) hx hb dX6_edge_164 ?_
                refine lv_iload hx hb dX6_edge_165 (lv_at hl 0 rfl) ?_
                refine ax_add (a := 5 * ec) (b := k) hx hb dX6_edge_167 ?_
                refine lv_aload_n hx hb dX6_edge_168 rfl (lv_at hl 1 rfl) ?_
                refine ax_get (k := 1000) (v := .ref (ad 1003)) hx hb hts in_X6_edge_X6 hown hK hP (hq _ (by decide)) c_o rfl 3 (by decide) (hts _ wd_X6_edge_9) (fun _ h9 => h9) rfl dX6_edge_169 ?_
                refine lv_iload hx hb dX6_edge_172 (lv_at hl 0 rfl) ?_
                refine ax_iald (k := 1003) (i := k) (v := nI ((vN d) k)) hx hb hK hP (hq _ (by decide)) c_d (by omega) (by omega) rfl dX6_edge_174 ?_
                refine ax_iast (k := 1009) (i := 5 * ec + k) (f' := (fun j => nI ((nu (vN y) (5 * ec + k) ((vN d) k)) j))) hx hb hK hP hD hS (hq _ (by decide)) c_F (by omega) (by omega) (up_n _ _ _) dX6_edge_175 (fun H locs g11 eg11 hP hS => ?_)
                have c_o : g11 1000 = .inr (6, [.int (nI N), .int (nI V), .int (nI 0), .ref (ad 1003), .int (nI ec), .ref (ad 1005), .ref (ad 1006), .ref (ad 1007), .ref (ad 1008), .ref (ad 1009), .int (nI en), .int (if an = true then 1 else 0), .ref (ad 1012), .ref (ad 1013), .ref (ad 1014), .int (nI al), .ref (ad 1016), .ref (ad 1017), .ref (ad 1018), .ref (ad 1019), .int (nI pl), .ref (ad 1021), .int (nI nc), .ref (ad 1023), .ref (ad 1024), .int (nI sz), .ref (ad 1026), .ref (ad 1027), .ref (ad 1028)]) := (cx_ne eg11 1000 (by omega)).trans c_o
                have c_d : g11 1003 = nA G 5 (vN d) := (cx_ne eg11 1003 (by omega)).trans c_d
                have c_FO : g11 1005 = nA G 20 (nu ef ec k1) := (cx_ne eg11 1005 (by omega)).trans c_FO
                have c_TO : g11 1006 = nA G 20 (nu et ec k2) := (cx_ne eg11 1006 (by omega)).trans c_TO
                have c_K : g11 1007 = nA G 20 (nu ek ec k3) := (cx_ne eg11 1007 (by omega)).trans c_K
                have c_Z : g11 1008 = iA G 20 (nu ez ec x4) := (cx_ne eg11 1008 (by omega)).trans c_Z
                have c_F : g11 1009 = nA G 100 (nu (vN y) (5 * ec + k) ((vN d) k)) := cx_eq eg11
                have fr : ∀ j : Nat, (j ≠ 1000 ∧ j ≠ 1003 ∧ j ≠ 1005 ∧ j ≠ 1006 ∧ j ≠ 1007 ∧ j ≠ 1008 ∧ j ≠ 1009) → g11 j = g j := fun j hj => (cx_ne eg11 j (by omega)).trans (fr j hj)
                have c_F : g11 1009 = nA G 100 (vN (nu y (5 * ec + k) (d k))) := by rw [← vN_nu]; exact c_F
                refine lv_iinc (v := nI (k + 1)) (lv' := [(7, .int (nI (k + 1))), (0, .ref (ad 1000))]) hx hb dX6_edge_176 hl (k := 0) rfl (nI_1 _) (by decide) rfl (fun ls hl => ?_)
                refine lv_goto (tgt := 149) hx hb dX6_edge_179 (by decide) ?_
                exact ih149 (k + 1) (nu y (5 * ec + k) (d k)) h152 (hof.step rfl) (by omega) g11 _ _ _ c_o c_d c_FO c_TO c_K c_Z c_F  fr hP hS (lv_sub hl [0, 1] rfl)
          exact LP149 ((5 - 0) + 1) 0 fm (Nat.zero_le _) OF.start (Nat.lt_succ_self _) g6 _ _ _ c_o c_d c_FO c_TO c_K c_Z c_F  fr hP hS (lv_sub hl [0, 2] rfl)
        · skip
          exact absurd h100 (by decide)
      · skip
        refine lv_iconst (v := nI 2) hx hb dX6_edge_88 (by decide) ?_
        refine lv_goto (tgt := 93) hx hb dX6_edge_89 (by decide) ?_
        refine ax_put (k := 1000) (v := .int (nI 2)) (fs' := [.int (nI N), .int (nI V), .int (nI 2), .ref (ad 1003), .int (nI ec), .ref (ad 1005), .ref (ad 1006), .ref (ad 1007), .ref (ad 1008), .ref (ad 1009), .int (nI en), .int (if an = true then 1 else 0), .ref (ad 1012), .ref (ad 1013), .ref (ad 1014), .int (nI al), .ref (ad 1016), .ref (ad 1017), .ref (ad 1018), .ref (ad 1019), .int (nI pl), .ref (ad 1021), .int (nI nc), .ref (ad 1023), .ref (ad 1024), .int (nI sz), .ref (ad 1026), .ref (ad 1027), .ref (ad 1028)]) hx hb hts in_X6_edge_X6 tyX6 tyX6_ok nmX6 hown hK hP hD hS (hq _ (by decide)) c_o rfl 2 (by decide) (hts _ wd_X6_edge_2) (fun _ h9 => h9) rfl (ty := .int) (by decide +kernel) rfl rfl (Nat.le_of_ble_eq_true rfl) rfl dX6_edge_93 (fun H locs g12 eg12 hP hS => ?_)
        have c_d : g12 1003 = nA G 5 (vN d) := (cx_ne eg12 1003 (by omega)).trans c_d
        have c_FO : g12 1005 = nA G 20 ef := (cx_ne eg12 1005 (by omega)).trans c_FO
        have c_TO : g12 1006 = nA G 20 et := (cx_ne eg12 1006 (by omega)).trans c_TO
        have c_K : g12 1007 = nA G 20 ek := (cx_ne eg12 1007 (by omega)).trans c_K
        have c_Z : g12 1008 = iA G 20 ez := (cx_ne eg12 1008 (by omega)).trans c_Z
        have c_F : g12 1009 = nA G 100 (vN fm) := (cx_ne eg12 1009 (by omega)).trans c_F
        have c_o : g12 1000 = .inr (6, [.int (nI N), .int (nI V), .int (nI 2), .ref (ad 1003), .int (nI ec), .ref (ad 1005), .ref (ad 1006), .ref (ad 1007), .ref (ad 1008), .ref (ad 1009), .int (nI en), .int (if an = true then 1 else 0), .ref (ad 1012), .ref (ad 1013), .ref (ad 1014), .int (nI al), .ref (ad 1016), .ref (ad 1017), .ref (ad 1018), .ref (ad 1019), .int (nI pl), .ref (ad 1021), .int (nI nc), .ref (ad 1023), .ref (ad 1024), .int (nI sz), .ref (ad 1026), .ref (ad 1027), .ref (ad 1028)]) := cx_eq eg12
        have fr : ∀ j : Nat, (j ≠ 1000 ∧ j ≠ 1003 ∧ j ≠ 1005 ∧ j ≠ 1006 ∧ j ≠ 1007 ∧ j ≠ 1008 ∧ j ≠ 1009) → g12 j = g j := fun j hj => (cx_ne eg12 j (by omega)).trans (fr j hj)
        refine lv_aload_n hx hb dX6_edge_96 rfl (lv_at hl 1 rfl) ?_
        refine ax_get (k := 1000) (v := .int (nI 2)) hx hb hts in_X6_edge_X6 hown hK hP (hq _ (by decide)) c_o rfl 2 (by decide) (hts _ wd_X6_edge_2) (fun _ h9 => h9) rfl dX6_edge_97 ?_
        refine ax_ifeq (a := 2) (tgt := 105) hx hb dX6_edge_100 (by decide) (by omega) (fun h100 => ?_) (fun h100 => ?_)
        · skip
          exact absurd h100 (by decide)
        · skip
          refine lv_iconst (v := nI 0) hx hb dX6_edge_103 (by decide) ?_
          exact hret (nI 0) g12 _ _ _ _ rfl ⟨fr, Or.inr (Or.inr ⟨⟨inB_lit hk1a hk1b, inB_lit hk2a hk2b, inB_lit hk3a hk3b, hvv⟩, h85, c_o, c_d, c_FO, c_TO, c_K, c_Z, c_F⟩)⟩ hP hS dX6_edge_104
    · skip
      have hng := (hgd.resolve_left (fun z => absurd (z.1.symm.trans h72) (by decide))).2
      refine lv_iconst (v := nI 1) hx hb dX6_edge_75 (by decide) ?_
      refine lv_goto (tgt := 93) hx hb dX6_edge_76 (by decide) ?_
      refine ax_put (k := 1000) (v := .int (nI 1)) (fs' := [.int (nI N), .int (nI V), .int (nI 1), .ref (ad 1003), .int (nI ec), .ref (ad 1005), .ref (ad 1006), .ref (ad 1007), .ref (ad 1008), .ref (ad 1009), .int (nI en), .int (if an = true then 1 else 0), .ref (ad 1012), .ref (ad 1013), .ref (ad 1014), .int (nI al), .ref (ad 1016), .ref (ad 1017), .ref (ad 1018), .ref (ad 1019), .int (nI pl), .ref (ad 1021), .int (nI nc), .ref (ad 1023), .ref (ad 1024), .int (nI sz), .ref (ad 1026), .ref (ad 1027), .ref (ad 1028)]) hx hb hts in_X6_edge_X6 tyX6 tyX6_ok nmX6 hown hK hP hD hS (hq _ (by decide)) c_o rfl 2 (by decide) (hts _ wd_X6_edge_2) (fun _ h9 => h9) rfl (ty := .int) (by decide +kernel) rfl rfl (Nat.le_of_ble_eq_true rfl) rfl dX6_edge_93 (fun H locs g13 eg13 hP hS => ?_)
      have c_d : g13 1003 = nA G 5 (vN d) := (cx_ne eg13 1003 (by omega)).trans c_d
      have c_FO : g13 1005 = nA G 20 ef := (cx_ne eg13 1005 (by omega)).trans c_FO
      have c_TO : g13 1006 = nA G 20 et := (cx_ne eg13 1006 (by omega)).trans c_TO
      have c_K : g13 1007 = nA G 20 ek := (cx_ne eg13 1007 (by omega)).trans c_K
      have c_Z : g13 1008 = iA G 20 ez := (cx_ne eg13 1008 (by omega)).trans c_Z
      have c_F : g13 1009 = nA G 100 (vN fm) := (cx_ne eg13 1009 (by omega)).trans c_F
      have c_o : g13 1000 = .inr (6, [.int (nI N), .int (nI V), .int (nI 1), .ref (ad 1003), .int (nI ec), .ref (ad 1005), .ref (ad 1006), .ref (ad 1007), .ref (ad 1008), .ref (ad 1009), .int (nI en), .int (if an = true then 1 else 0), .ref (ad 1012), .ref (ad 1013), .ref (ad 1014), .int (nI al), .ref (ad 1016), .ref (ad 1017), .ref (ad 1018), .ref (ad 1019), .int (nI pl), .ref (ad 1021), .int (nI nc), .ref (ad 1023), .ref (ad 1024), .int (nI sz), .ref (ad 1026), .ref (ad 1027), .ref (ad 1028)]) := cx_eq eg13
      have fr : ∀ j : Nat, (j ≠ 1000 ∧ j ≠ 1003 ∧ j ≠ 1005 ∧ j ≠ 1006 ∧ j ≠ 1007 ∧ j ≠ 1008 ∧ j ≠ 1009) → g13 j = g j := fun j hj => (cx_ne eg13 j (by omega)).trans (fr j hj)
      refine lv_aload_n hx hb dX6_edge_96 rfl (lv_at hl 1 rfl) ?_
      refine ax_get (k := 1000) (v := .int (nI 1)) hx hb hts in_X6_edge_X6 hown hK hP (hq _ (by decide)) c_o rfl 2 (by decide) (hts _ wd_X6_edge_2) (fun _ h9 => h9) rfl dX6_edge_97 ?_
      refine ax_ifeq (a := 1) (tgt := 105) hx hb dX6_edge_100 (by decide) (by omega) (fun h100 => ?_) (fun h100 => ?_)
      · skip
        exact absurd h100 (by decide)
      · skip
        refine lv_iconst (v := nI 0) hx hb dX6_edge_103 (by decide) ?_
        exact hret (nI 0) g13 _ _ _ _ rfl ⟨fr, Or.inr (Or.inl ⟨hng, c_o, c_d, c_FO, c_TO, c_K, c_Z, c_F⟩)⟩ hP hS dX6_edge_104
  refine lv_iload_n hx hb dX6_edge_0 rfl (lv_at hl 3 rfl) ?_
  refine lv_iconst (v := nI 1) hx hb dX6_edge_1 (by decide) ?_
  refine lv_icmp_eq (x := x3) (y := nI 1) (tgt := 10) hx hb dX6_edge_2 (by decide) (fun h2 => ?_) (fun h2 => ?_)
  · skip
    refine lv_iconst (v := nI 1) hx hb dX6_edge_10 (by decide) ?_
    refine lv_goto (tgt := 15) hx hb dX6_edge_11 (by decide) ?_
    refine lv_istore (lv' := [(5, .int (nI 1)), (0, .ref (ad 1000)), (1, .int x1), (2, .int x2), (3, .int x3), (4, .int x4)]) hx hb dX6_edge_15 hl (by decide) rfl (fun ls hl => ?_)
    refine lv_aload_n hx hb dX6_edge_17 rfl (lv_at hl 1 rfl) ?_
    refine lv_iload_n hx hb dX6_edge_18 rfl (lv_at hl 2 rfl) ?_
    refine cx_Vi (As := [.int x1]) (rest := []) ⟨hx, hb, hml, hown, hts⟩ (c_X6_isNode hD hN1 hN hV1 hV hq (x1 := x1) c_o) (cwV 1 hts gX6_edge_X6_isNode rfl rfl rfl (by decide +kernel) ⟨Nat.le_of_ble_eq_true rfl, Nat.le_of_ble_eq_true rfl⟩) hK hP hS hz (hq _ (by decide)) c_o rfl ⟨Nat.zero_le _, Nat.zero_le _⟩ rfl hl.1 rfl (Nat.le_of_ble_eq_true rfl) dX6_edge_19 (fun r14 g14 H locs hp14 hP hS => ?_)
    obtain ⟨er14, ehp14g⟩ := hp14
    rw [ehp14g] at hP
    refine lv_if_eq (x := r14) (tgt := 66) hx hb dX6_edge_22 (by decide) (fun h22 => ?_) (fun h22 => ?_)
    · skip
      refine lv_iconst (v := nI 0) hx hb dX6_edge_66 (by decide) ?_
      refine lv_istore (lv' := [(6, .int (nI 0)), (5, .int (nI 1)), (0, .ref (ad 1000)), (1, .int x1), (2, .int x2), (3, .int x3), (4, .int x4)]) hx hb dX6_edge_67 hl (by decide) rfl (fun ls hl => ?_)
      exact LP69 0 (Or.inr ⟨rfl, fun q => tr_f er14 h22 q.1⟩) _ _ _ hP hS (lv_sub hl [0, 2, 3, 4, 5, 6] rfl)
    · skip
      refine lv_aload_n hx hb dX6_edge_25 rfl (lv_at hl 1 rfl) ?_
      refine lv_iload_n hx hb dX6_edge_26 rfl (lv_at hl 3 rfl) ?_
      refine cx_Vi (As := [.int x2]) (rest := []) ⟨hx, hb, hml, hown, hts⟩ (c_X6_isNode hD hN1 hN hV1 hV hq (x1 := x2) c_o) (cwV 1 hts gX6_edge_X6_isNode rfl rfl rfl (by decide +kernel) ⟨Nat.le_of_ble_eq_true rfl, Nat.le_of_ble_eq_true rfl⟩) hK hP hS hz (hq _ (by decide)) c_o rfl ⟨Nat.zero_le _, Nat.zero_le _⟩ rfl hl.1 rfl (Nat.le_of_ble_eq_true rfl) dX6_edge_27 (fun r15 g15 H locs hp15 hP hS => ?_)
      obtain ⟨er15, ehp15g⟩ := hp15
      rw [ehp15g] at hP
      refine lv_if_eq (x := r15) (tgt := 66) hx hb dX6_edge_30 (by decide) (fun h30 => ?_) (fun h30 => ?_)
      · skip
        refine lv_iconst (v := nI 0) hx hb dX6_edge_66 (by decide) ?_
        refine lv_istore (lv' := [(6, .int (nI 0)), (5, .int (nI 1)), (0, .ref (ad 1000)), (1, .int x1), (2, .int x2), (3, .int x3), (4, .int x4)]) hx hb dX6_edge_67 hl (by decide) rfl (fun ls hl => ?_)
        exact LP69 0 (Or.inr ⟨rfl, fun q => tr_f er15 h30 q.2.1⟩) _ _ _ hP hS (lv_sub hl [0, 2, 3, 4, 5, 6] rfl)
      · skip
        refine lv_iload_n hx hb dX6_edge_33 rfl (lv_at hl 4 rfl) ?_
        refine lv_if_lt (x := x3) (tgt := 66) hx hb dX6_edge_34 (by decide) (fun h34 => ?_) (fun h34 => ?_)
        · skip
          refine lv_iconst (v := nI 0) hx hb dX6_edge_66 (by decide) ?_
          refine lv_istore (lv' := [(6, .int (nI 0)), (5, .int (nI 1)), (0, .ref (ad 1000)), (1, .int x1), (2, .int x2), (3, .int x3), (4, .int x4)]) hx hb dX6_edge_67 hl (by decide) rfl (fun ls hl => ?_)
          exact LP69 0 (Or.inr ⟨rfl, fun q => nb_0 (by omega) h34 q.2.2.1⟩) _ _ _ hP hS (lv_sub hl [0, 2, 3, 4, 5, 6] rfl)
        · skip
          refine lv_iload_n hx hb dX6_edge_37 rfl (lv_at hl 4 rfl) ?_
          refine lv_iconst (v := nI 4) hx hb dX6_edge_38 (by decide) ?_
          refine lv_icmp_gt (x := x3) (y := nI 4) (tgt := 66) hx hb dX6_edge_39 (by decide) (fun h39 => ?_) (fun h39 => ?_)
          · skip
            refine lv_iconst (v := nI 0) hx hb dX6_edge_66 (by decide) ?_
            refine lv_istore (lv' := [(6, .int (nI 0)), (5, .int (nI 1)), (0, .ref (ad 1000)), (1, .int x1), (2, .int x2), (3, .int x3), (4, .int x4)]) hx hb dX6_edge_67 hl (by decide) rfl (fun ls hl => ?_)
            exact LP69 0 (Or.inr ⟨rfl, fun q => nb_l (n := 4) (by omega) (Int32.not_le.mpr h39) q.2.2.1⟩) _ _ _ hP hS (lv_sub hl [0, 2, 3, 4, 5, 6] rfl)
          · skip
            refine lv_iload hx hb dX6_edge_42 (lv_at hl 0 rfl) ?_
            refine ax_ifeq (a := 1) (tgt := 62) hx hb dX6_edge_44 (by decide) (by omega) (fun h44 => ?_) (fun h44 => ?_)
            · skip
              exact absurd h44 (by decide)
            · skip
              refine lv_iload hx hb dX6_edge_47 (lv_at hl 5 rfl) ?_
              refine lv_iconst (v := nI 1) hx hb dX6_edge_49 (by decide) ?_
              refine lv_icmp_lt (x := x4) (y := nI 1) (tgt := 66) hx hb dX6_edge_50 (by decide) (fun h50 => ?_) (fun h50 => ?_)
              · skip
                refine lv_iconst (v := nI 0) hx hb dX6_edge_66 (by decide) ?_
                refine lv_istore (lv' := [(6, .int (nI 0)), (5, .int (nI 1)), (0, .ref (ad 1000)), (1, .int x1), (2, .int x2), (3, .int x3), (4, .int x4)]) hx hb dX6_edge_67 hl (by decide) rfl (fun ls hl => ?_)
                exact LP69 0 (Or.inr ⟨rfl, fun q => nb_1 (by omega) (by omega) h50 (q.2.2.2 (Or.inl h2))⟩) _ _ _ hP hS (lv_sub hl [0, 2, 3, 4, 5, 6] rfl)
              · skip
                refine lv_iload hx hb dX6_edge_53 (lv_at hl 5 rfl) ?_
                refine lv_aload_n hx hb dX6_edge_55 rfl (lv_at hl 1 rfl) ?_
                refine ax_get (k := 1000) (v := .int (nI V)) hx hb hts in_X6_edge_X6 hown hK hP (hq _ (by decide)) c_o rfl 1 (by decide) (hts _ wd_X6_edge_10) (fun _ h9 => h9) rfl dX6_edge_56 ?_
                refine lv_icmp_gt (x := x4) (y := nI V) (tgt := 66) hx hb dX6_edge_59 (by decide) (fun h59 => ?_) (fun h59 => ?_)
                · skip
                  refine lv_iconst (v := nI 0) hx hb dX6_edge_66 (by decide) ?_
                  refine lv_istore (lv' := [(6, .int (nI 0)), (5, .int (nI 1)), (0, .ref (ad 1000)), (1, .int x1), (2, .int x2), (3, .int x3), (4, .int x4)]) hx hb dX6_edge_67 hl (by decide) rfl (fun ls hl => ?_)
                  exact LP69 0 (Or.inr ⟨rfl, fun q => nb_l (by omega) (Int32.not_le.mpr h59) (q.2.2.2 (Or.inl h2))⟩) _ _ _ hP hS (lv_sub hl [0, 2, 3, 4, 5, 6] rfl)
                · skip
                  refine lv_iconst (v := nI 1) hx hb dX6_edge_62 (by decide) ?_
                  refine lv_goto (tgt := 67) hx hb dX6_edge_63 (by decide) ?_
                  refine lv_istore (lv' := [(6, .int (nI 1)), (5, .int (nI 1)), (0, .ref (ad 1000)), (1, .int x1), (2, .int x2), (3, .int x3), (4, .int x4)]) hx hb dX6_edge_67 hl (by decide) rfl (fun ls hl => ?_)
                  exact LP69 1 (Or.inl ⟨rfl, tr_t er14 h22, tr_t er15 h30, yb_l (n := 4) (by omega) h34 (Int32.not_lt.mp h39), fun _ => yb_1 (by omega) (by omega) h50 (Int32.not_lt.mp h59)⟩) _ _ _ hP hS (lv_sub hl [0, 2, 3, 4, 5, 6] rfl)
  · skip
    refine lv_iload_n hx hb dX6_edge_5 rfl (lv_at hl 3 rfl) ?_
    refine lv_iconst (v := nI 2) hx hb dX6_edge_6 (by decide) ?_
    refine lv_icmp_ne (x := x3) (y := nI 2) (tgt := 14) hx hb dX6_edge_7 (by decide) (fun h7 => ?_) (fun h7 => ?_)
    · skip
      refine lv_iconst (v := nI 0) hx hb dX6_edge_14 (by decide) ?_
      refine lv_istore (lv' := [(5, .int (nI 0)), (0, .ref (ad 1000)), (1, .int x1), (2, .int x2), (3, .int x3), (4, .int x4)]) hx hb dX6_edge_15 hl (by decide) rfl (fun ls hl => ?_)
      refine lv_aload_n hx hb dX6_edge_17 rfl (lv_at hl 1 rfl) ?_
      refine lv_iload_n hx hb dX6_edge_18 rfl (lv_at hl 2 rfl) ?_
      refine cx_Vi (As := [.int x1]) (rest := []) ⟨hx, hb, hml, hown, hts⟩ (c_X6_isNode hD hN1 hN hV1 hV hq (x1 := x1) c_o) (cwV 1 hts gX6_edge_X6_isNode rfl rfl rfl (by decide +kernel) ⟨Nat.le_of_ble_eq_true rfl, Nat.le_of_ble_eq_true rfl⟩) hK hP hS hz (hq _ (by decide)) c_o rfl ⟨Nat.zero_le _, Nat.zero_le _⟩ rfl hl.1 rfl (Nat.le_of_ble_eq_true rfl) dX6_edge_19 (fun r16 g16 H locs hp16 hP hS => ?_)
      obtain ⟨er16, ehp16g⟩ := hp16
      rw [ehp16g] at hP
      refine lv_if_eq (x := r16) (tgt := 66) hx hb dX6_edge_22 (by decide) (fun h22 => ?_) (fun h22 => ?_)
      · skip
        refine lv_iconst (v := nI 0) hx hb dX6_edge_66 (by decide) ?_
        refine lv_istore (lv' := [(6, .int (nI 0)), (5, .int (nI 0)), (0, .ref (ad 1000)), (1, .int x1), (2, .int x2), (3, .int x3), (4, .int x4)]) hx hb dX6_edge_67 hl (by decide) rfl (fun ls hl => ?_)
        exact LP69 0 (Or.inr ⟨rfl, fun q => tr_f er16 h22 q.1⟩) _ _ _ hP hS (lv_sub hl [0, 2, 3, 4, 5, 6] rfl)
      · skip
        refine lv_aload_n hx hb dX6_edge_25 rfl (lv_at hl 1 rfl) ?_
        refine lv_iload_n hx hb dX6_edge_26 rfl (lv_at hl 3 rfl) ?_
        refine cx_Vi (As := [.int x2]) (rest := []) ⟨hx, hb, hml, hown, hts⟩ (c_X6_isNode hD hN1 hN hV1 hV hq (x1 := x2) c_o) (cwV 1 hts gX6_edge_X6_isNode rfl rfl rfl (by decide +kernel) ⟨Nat.le_of_ble_eq_true rfl, Nat.le_of_ble_eq_true rfl⟩) hK hP hS hz (hq _ (by decide)) c_o rfl ⟨Nat.zero_le _, Nat.zero_le _⟩ rfl hl.1 rfl (Nat.le_of_ble_eq_true rfl) dX6_edge_27 (fun r17 g17 H locs hp17 hP hS => ?_)
        obtain ⟨er17, ehp17g⟩ := hp17
        rw [ehp17g] at hP
        refine lv_if_eq (x := r17) (tgt := 66) hx hb dX6_edge_30 (by decide) (fun h30 => ?_) (fun h30 => ?_)
        · skip
          refine lv_iconst (v := nI 0) hx hb dX6_edge_66 (by decide) ?_
          refine lv_istore (lv' := [(6, .int (nI 0)), (5, .int (nI 0)), (0, .ref (ad 1000)), (1, .int x1), (2, .int x2), (3, .int x3), (4, .int x4)]) hx hb dX6_edge_67 hl (by decide) rfl (fun ls hl => ?_)
          exact LP69 0 (Or.inr ⟨rfl, fun q => tr_f er17 h30 q.2.1⟩) _ _ _ hP hS (lv_sub hl [0, 2, 3, 4, 5, 6] rfl)
        · skip
          refine lv_iload_n hx hb dX6_edge_33 rfl (lv_at hl 4 rfl) ?_
          refine lv_if_lt (x := x3) (tgt := 66) hx hb dX6_edge_34 (by decide) (fun h34 => ?_) (fun h34 => ?_)
          · skip
            refine lv_iconst (v := nI 0) hx hb dX6_edge_66 (by decide) ?_
            refine lv_istore (lv' := [(6, .int (nI 0)), (5, .int (nI 0)), (0, .ref (ad 1000)), (1, .int x1), (2, .int x2), (3, .int x3), (4, .int x4)]) hx hb dX6_edge_67 hl (by decide) rfl (fun ls hl => ?_)
            exact LP69 0 (Or.inr ⟨rfl, fun q => nb_0 (by omega) h34 q.2.2.1⟩) _ _ _ hP hS (lv_sub hl [0, 2, 3, 4, 5, 6] rfl)
          · skip
            refine lv_iload_n hx hb dX6_edge_37 rfl (lv_at hl 4 rfl) ?_
            refine lv_iconst (v := nI 4) hx hb dX6_edge_38 (by decide) ?_
            refine lv_icmp_gt (x := x3) (y := nI 4) (tgt := 66) hx hb dX6_edge_39 (by decide) (fun h39 => ?_) (fun h39 => ?_)
            · skip
              refine lv_iconst (v := nI 0) hx hb dX6_edge_66 (by decide) ?_
              refine lv_istore (lv' := [(6, .int (nI 0)), (5, .int (nI 0)), (0, .ref (ad 1000)), (1, .int x1), (2, .int x2), (3, .int x3), (4, .int x4)]) hx hb dX6_edge_67 hl (by decide) rfl (fun ls hl => ?_)
              exact LP69 0 (Or.inr ⟨rfl, fun q => nb_l (n := 4) (by omega) (Int32.not_le.mpr h39) q.2.2.1⟩) _ _ _ hP hS (lv_sub hl [0, 2, 3, 4, 5, 6] rfl)
            · skip
              refine lv_iload hx hb dX6_edge_42 (lv_at hl 0 rfl) ?_
              refine ax_ifeq (a := 0) (tgt := 62) hx hb dX6_edge_44 (by decide) (by omega) (fun h44 => ?_) (fun h44 => ?_)
              · skip
                refine lv_iconst (v := nI 1) hx hb dX6_edge_62 (by decide) ?_
                refine lv_goto (tgt := 67) hx hb dX6_edge_63 (by decide) ?_
                refine lv_istore (lv' := [(6, .int (nI 1)), (5, .int (nI 0)), (0, .ref (ad 1000)), (1, .int x1), (2, .int x2), (3, .int x3), (4, .int x4)]) hx hb dX6_edge_67 hl (by decide) rfl (fun ls hl => ?_)
                exact LP69 1 (Or.inl ⟨rfl, tr_t er16 h22, tr_t er17 h30, yb_l (n := 4) (by omega) h34 (Int32.not_lt.mp h39), fun q => absurd q (fun z => z.elim h2 h7)⟩) _ _ _ hP hS (lv_sub hl [0, 2, 3, 4, 5, 6] rfl)
              · skip
                exact absurd h44 (by decide)
    · skip
      refine lv_iconst (v := nI 1) hx hb dX6_edge_10 (by decide) ?_
      refine lv_goto (tgt := 15) hx hb dX6_edge_11 (by decide) ?_
      refine lv_istore (lv' := [(5, .int (nI 1)), (0, .ref (ad 1000)), (1, .int x1), (2, .int x2), (3, .int x3), (4, .int x4)]) hx hb dX6_edge_15 hl (by decide) rfl (fun ls hl => ?_)
      refine lv_aload_n hx hb dX6_edge_17 rfl (lv_at hl 1 rfl) ?_
      refine lv_iload_n hx hb dX6_edge_18 rfl (lv_at hl 2 rfl) ?_
      refine cx_Vi (As := [.int x1]) (rest := []) ⟨hx, hb, hml, hown, hts⟩ (c_X6_isNode hD hN1 hN hV1 hV hq (x1 := x1) c_o) (cwV 1 hts gX6_edge_X6_isNode rfl rfl rfl (by decide +kernel) ⟨Nat.le_of_ble_eq_true rfl, Nat.le_of_ble_eq_true rfl⟩) hK hP hS hz (hq _ (by decide)) c_o rfl ⟨Nat.zero_le _, Nat.zero_le _⟩ rfl hl.1 rfl (Nat.le_of_ble_eq_true rfl) dX6_edge_19 (fun r18 g18 H locs hp18 hP hS => ?_)
      obtain ⟨er18, ehp18g⟩ := hp18
      rw [ehp18g] at hP
      refine lv_if_eq (x := r18) (tgt := 66) hx hb dX6_edge_22 (by decide) (fun h22 => ?_) (fun h22 => ?_)
      · skip
        refine lv_iconst (v := nI 0) hx hb dX6_edge_66 (by decide) ?_
        refine lv_istore (lv' := [(6, .int (nI 0)), (5, .int (nI 1)), (0, .ref (ad 1000)), (1, .int x1), (2, .int x2), (3, .int x3), (4, .int x4)]) hx hb dX6_edge_67 hl (by decide) rfl (fun ls hl => ?_)
        exact LP69 0 (Or.inr ⟨rfl, fun q => tr_f er18 h22 q.1⟩) _ _ _ hP hS (lv_sub hl [0, 2, 3, 4, 5, 6] rfl)
      · skip
        refine lv_aload_n hx hb dX6_edge_25 rfl (lv_at hl 1 rfl) ?_
        refine lv_iload_n hx hb dX6_edge_26 rfl (lv_at hl 3 rfl) ?_
        refine cx_Vi (As := [.int x2]) (rest := []) ⟨hx, hb, hml, hown, hts⟩ (c_X6_isNode hD hN1 hN hV1 hV hq (x1 := x2) c_o) (cwV 1 hts gX6_edge_X6_isNode rfl rfl rfl (by decide +kernel) ⟨Nat.le_of_ble_eq_true rfl, Nat.le_of_ble_eq_true rfl⟩) hK hP hS hz (hq _ (by decide)) c_o rfl ⟨Nat.zero_le _, Nat.zero_le _⟩ rfl hl.1 rfl (Nat.le_of_ble_eq_true rfl) dX6_edge_27 (fun r19 g19 H locs hp19 hP hS => ?_)
        obtain ⟨er19, ehp19g⟩ := hp19
        rw [ehp19g] at hP
        refine lv_if_eq (x := r19) (tgt := 66) hx hb dX6_edge_30 (by decide) (fun h30 => ?_) (fun h30 => ?_)
        · skip
          refine lv_iconst (v := nI 0) hx hb dX6_edge_66 (by decide) ?_
          refine lv_istore (lv' := [(6, .int (nI 0)), (5, .int (nI 1)), (0, .ref (ad 1000)), (1, .int x1), (2, .int x2), (3, .int x3), (4, .int x4)]) hx hb dX6_edge_67 hl (by decide) rfl (fun ls hl => ?_)
          exact LP69 0 (Or.inr ⟨rfl, fun q => tr_f er19 h30 q.2.1⟩) _ _ _ hP hS (lv_sub hl [0, 2, 3, 4, 5, 6] rfl)
        · skip
          refine lv_iload_n hx hb dX6_edge_33 rfl (lv_at hl 4 rfl) ?_
          refine lv_if_lt (x := x3) (tgt := 66) hx hb dX6_edge_34 (by decide) (fun h34 => ?_) (fun h34 => ?_)
          · skip
            refine lv_iconst (v := nI 0) hx hb dX6_edge_66 (by decide) ?_
            refine lv_istore (lv' := [(6, .int (nI 0)), (5, .int (nI 1)), (0, .ref (ad 1000)), (1, .int x1), (2, .int x2), (3, .int x3), (4, .int x4)]) hx hb dX6_edge_67 hl (by decide) rfl (fun ls hl => ?_)
            exact LP69 0 (Or.inr ⟨rfl, fun q => nb_0 (by omega) h34 q.2.2.1⟩) _ _ _ hP hS (lv_sub hl [0, 2, 3, 4, 5, 6] rfl)
          · skip
            refine lv_iload_n hx hb dX6_edge_37 rfl (lv_at hl 4 rfl) ?_
            refine lv_iconst (v := nI 4) hx hb dX6_edge_38 (by decide) ?_
            refine lv_icmp_gt (x := x3) (y := nI 4) (tgt := 66) hx hb dX6_edge_39 (by decide) (fun h39 => ?_) (fun h39 => ?_)
            · skip
              refine lv_iconst (v := nI 0) hx hb dX6_edge_66 (by decide) ?_
              refine lv_istore (lv' := [(6, .int (nI 0)), (5, .int (nI 1)), (0, .ref (ad 1000)), (1, .int x1), (2, .int x2), (3, .int x3), (4, .int x4)]) hx hb dX6_edge_67 hl (by decide) rfl (fun ls hl => ?_)
              exact LP69 0 (Or.inr ⟨rfl, fun q => nb_l (n := 4) (by omega) (Int32.not_le.mpr h39) q.2.2.1⟩) _ _ _ hP hS (lv_sub hl [0, 2, 3, 4, 5, 6] rfl)
            · skip
              refine lv_iload hx hb dX6_edge_42 (lv_at hl 0 rfl) ?_
              refine ax_ifeq (a := 1) (tgt := 62) hx hb dX6_edge_44 (by decide) (by omega) (fun h44 => ?_) (fun h44 => ?_)
              · skip
                exact absurd h44 (by decide)
              · skip
                refine lv_iload hx hb dX6_edge_47 (lv_at hl 5 rfl) ?_
                refine lv_iconst (v := nI 1) hx hb dX6_edge_49 (by decide) ?_
                refine lv_icmp_lt (x := x4) (y := nI 1) (tgt := 66) hx hb dX6_edge_50 (by decide) (fun h50 => ?_) (fun h50 => ?_)
                · skip
                  refine lv_iconst (v := nI 0) hx hb dX6_edge_66 (by decide) ?_
                  refine lv_istore (lv' := [(6, .int (nI 0)), (5, .int (nI 1)), (0, .ref (ad 1000)), (1, .int x1), (2, .int x2), (3, .int x3), (4, .int x4)]) hx hb dX6_edge_67 hl (by decide) rfl (fun ls hl => ?_)
                  exact LP69 0 (Or.inr ⟨rfl, fun q => nb_1 (by omega) (by omega) h50 (q.2.2.2 (Or.inr h7))⟩) _ _ _ hP hS (lv_sub hl [0, 2, 3, 4, 5, 6] rfl)
                · skip
                  refine lv_iload hx hb dX6_edge_53 (lv_at hl 5 rfl) ?_
                  refine lv_aload_n hx hb dX6_edge_55 rfl (lv_at hl 1 rfl) ?_
                  refine ax_get (k := 1000) (v := .int (nI V)) hx hb hts in_X6_edge_X6 hown hK hP (hq _ (by decide)) c_o rfl 1 (by decide) (hts _ wd_X6_edge_10) (fun _ h9 => h9) rfl dX6_edge_56 ?_
                  refine lv_icmp_gt (x := x4) (y := nI V) (tgt := 66) hx hb dX6_edge_59 (by decide) (fun h59 => ?_) (fun h59 => ?_)
                  · skip
                    refine lv_iconst (v := nI 0) hx hb dX6_edge_66 (by decide) ?_
                    refine lv_istore (lv' := [(6, .int (nI 0)), (5, .int (nI 1)), (0, .ref (ad 1000)), (1, .int x1), (2, .int x2), (3, .int x3), (4, .int x4)]) hx hb dX6_edge_67 hl (by decide) rfl (fun ls hl => ?_)
                    exact LP69 0 (Or.inr ⟨rfl, fun q => nb_l (by omega) (Int32.not_le.mpr h59) (q.2.2.2 (Or.inr h7))⟩) _ _ _ hP hS (lv_sub hl [0, 2, 3, 4, 5, 6] rfl)
                  · skip
                    refine lv_iconst (v := nI 1) hx hb dX6_edge_62 (by decide) ?_
                    refine lv_goto (tgt := 67) hx hb dX6_edge_63 (by decide) ?_
                    refine lv_istore (lv' := [(6, .int (nI 1)), (5, .int (nI 1)), (0, .ref (ad 1000)), (1, .int x1), (2, .int x2), (3, .int x3), (4, .int x4)]) hx hb dX6_edge_67 hl (by decide) rfl (fun ls hl => ?_)
                    exact LP69 1 (Or.inl ⟨rfl, tr_t er18 h22, tr_t er19 h30, yb_l (n := 4) (by omega) h34 (Int32.not_lt.mp h39), fun _ => yb_1 (by omega) (by omega) h50 (Int32.not_lt.mp h59)⟩) _ _ _ hP hS (lv_sub hl [0, 2, 3, 4, 5, 6] rfl)
