/-! THE MODEL: public methods, part 2 -/
theorem nr01 {q : Nat} (h : q = 0 ∨ q = 1) : narrow .boolean (.int (nI q)) = .int (nI q) := by
  rcases h with h | h <;> rw [h] <;> decide
theorem FR.set {fm y v : Nat → FF} {eg : Nat → Nat → FF} {n : Nat} {w : Nat → FF} (h : FR fm eg) (ho : OF (5 * n) fm v 5 y) (hv : ∀ k : Nat, k < 5 → v k = w k) : FR y (nu eg n w) := fun i k hk => by
  by_cases e : i = n
  · rw [e, nu_s, ho.inn hk, hv k hk]
  · rw [nu_n e, ho.out (by omega)]
    exact h i k hk

set_option maxRecDepth 20000 in
theorem wd_X6_point_0 : Cond.fieldLink RX6 74 "AffineHullsModel" "thrown" "I" ∈ wsX6_point := by decide +kernel
set_option maxRecDepth 20000 in
theorem in_X6_point_X6 : ∀ w ∈ u_ws RX6 TX6 29, w ∈ wsX6_point := by decide +kernel
set_option maxRecDepth 20000 in
theorem wd_X6_point_2 : Cond.fieldLink RX6 71 "AffineHullsModel" "v" "I" ∈ wsX6_point := by decide +kernel
set_option maxRecDepth 20000 in
theorem wd_X6_point_3 : Cond.fieldLink RX6 28 "AffineHullsModel" "many" "[I" ∈ wsX6_point := by decide +kernel
set_option maxRecDepth 20000 in
theorem wd_X6_point_4 : Cond.fieldLink RX6 31 "AffineHullsModel" "points" "[I" ∈ wsX6_point := by decide +kernel
set_option maxRecDepth 20000 in
theorem wd_X6_point_5 : Cond.fieldLink RX6 34 "AffineHullsModel" "came" "[I" ∈ wsX6_point := by decide +kernel
abbrev rm_X6_point : Room := { frames := 2, cells := 0, slots := 0, locals := 42 }
set_option maxHeartbeats 4000000 in
set_option maxRecDepth 100000 in
theorem c_X6_point {l : Launch} {G : cx_G} {L : List Nat} {ad : Nat → Nat} {g : Nat → va_E} (hD : cx_D L ad) {N V th ec en al pl nc sz : Nat} {an : Bool} {x1 x2 x3 : Int32} {mn : Nat → Nat} {cm : Nat → Int32} {pq : Nat → FF} (hN1 : 1 ≤ N) (hN : N ≤ 8) (hV1 : 1 ≤ V) (hV : V ≤ 4) (hq : ∀ j : Nat, lbM j = true → j ∈ L) (c_o : g 1000 = .inr (6, [.int (nI N), .int (nI V), .int (nI th), .ref (ad 1003), .int (nI ec), .ref (ad 1005), .ref (ad 1006), .ref (ad 1007), .ref (ad 1008), .ref (ad 1009), .int (nI en), .int (if an = true then 1 else 0), .ref (ad 1012), .ref (ad 1013), .ref (ad 1014), .int (nI al), .ref (ad 1016), .ref (ad 1017), .ref (ad 1018), .ref (ad 1019), .int (nI pl), .ref (ad 1021), .int (nI nc), .ref (ad 1023), .ref (ad 1024), .int (nI sz), .ref (ad 1026), .ref (ad 1027), .ref (ad 1028)])) (c_M : g 1012 = nA G 8 mn) (c_C : g 1014 = iA G 40 cm) (c_Q : g 1013 = nA G 200 (vN pq)) (hmn : an = true → ∀ i : Nat, i < N → mn i ≤ 5) : MI l yX6_point wsX6_point rm_X6_point G L ad g [.ref (ad 1000), .int x1, .int x2, .int x3] (fun r u => (∀ j : Nat, j ≠ 1000 → u j = g j) ∧ ((¬ (inB 0 N x1 ∧ inB 0 (V + 1) x3) ∧ u 1000 = .inr (6, [.int (nI N), .int (nI V), .int (nI 1), .ref (ad 1003), .int (nI ec), .ref (ad 1005), .ref (ad 1006), .ref (ad 1007), .ref (ad 1008), .ref (ad 1009), .int (nI en), .int (if an = true then 1 else 0), .ref (ad 1012), .ref (ad 1013), .ref (ad 1014), .int (nI al), .ref (ad 1016), .ref (ad 1017), .ref (ad 1018), .ref (ad 1019), .int (nI pl), .ref (ad 1021), .int (nI nc), .ref (ad 1023), .ref (ad 1024), .int (nI sz), .ref (ad 1026), .ref (ad 1027), .ref (ad 1028)])) ∨ ((inB 0 N x1 ∧ inB 0 (V + 1) x3) ∧ an = false ∧ u 1000 = .inr (6, [.int (nI N), .int (nI V), .int (nI 2), .ref (ad 1003), .int (nI ec), .ref (ad 1005), .ref (ad 1006), .ref (ad 1007), .ref (ad 1008), .ref (ad 1009), .int (nI en), .int (if an = true then 1 else 0), .ref (ad 1012), .ref (ad 1013), .ref (ad 1014), .int (nI al), .ref (ad 1016), .ref (ad 1017), .ref (ad 1018), .ref (ad 1019), .int (nI pl), .ref (ad 1021), .int (nI nc), .ref (ad 1023), .ref (ad 1024), .int (nI sz), .ref (ad 1026), .ref (ad 1027), .ref (ad 1028)])) ∨ (∃ k1 k3 : Nat, k1 < N ∧ k3 < V + 1 ∧ x1 = nI k1 ∧ x3 = nI k3 ∧ an = true ∧ ¬ inB 0 (mn k1) x2 ∧ u 1000 = .inr (6, [.int (nI N), .int (nI V), .int (nI 3), .ref (ad 1003), .int (nI ec), .ref (ad 1005), .ref (ad 1006), .ref (ad 1007), .ref (ad 1008), .ref (ad 1009), .int (nI en), .int (if an = true then 1 else 0), .ref (ad 1012), .ref (ad 1013), .ref (ad 1014), .int (nI al), .ref (ad 1016), .ref (ad 1017), .ref (ad 1018), .ref (ad 1019), .int (nI pl), .ref (ad 1021), .int (nI nc), .ref (ad 1023), .ref (ad 1024), .int (nI sz), .ref (ad 1026), .ref (ad 1027), .ref (ad 1028)])) ∨ (∃ k1 k2 k3 : Nat, k1 < N ∧ k2 < mn k1 ∧ k3 < V + 1 ∧ x1 = nI k1 ∧ x2 = nI k2 ∧ x3 = nI k3 ∧ an = true ∧ u 1000 = .inr (6, [.int (nI N), .int (nI V), .int (nI 0), .ref (ad 1003), .int (nI ec), .ref (ad 1005), .ref (ad 1006), .ref (ad 1007), .ref (ad 1008), .ref (ad 1009), .int (nI en), .int (if an = true then 1 else 0), .ref (ad 1012), .ref (ad 1013), .ref (ad 1014), .int (nI al), .ref (ad 1016), .ref (ad 1017), .ref (ad 1018), .ref (ad 1019), .int (nI pl), .ref (ad 1021), .int (nI nc), .ref (ad 1023), .ref (ad 1024), .int (nI sz), .ref (ad 1026), .ref (ad 1027), .ref (ad 1028)]) ∧ r = (if k3 = 0 then cm (5 * k1 + k2) else nI (pq (25 * k1 + 5 * k2 + k3)).val)))) := by
  refine cx_ofI (cc := cX6_point) (maxL := 4) (by decide +kernel) rfl (Nat.le_of_ble_eq_true rfl) ?_
  intro p e s m args below meth c Q hx hb hts hown hml hP hK hS hz hret ls hl
  have hown : s.vm.findClass RX6 = some m.cls := hown
  have hl : lv_has ls 4 [(0, .ref (ad 1000)), (1, .int x1), (2, .int x2), (3, .int x3)] := hl
  have fr : ∀ j : Nat, j ≠ 1000 → g j = g j := fun _ _ => rfl
  refine lv_aload_n hx hb dX6_point_0 rfl (lv_at hl 0 rfl) ?_
  refine lv_iload_n hx hb dX6_point_1 rfl (lv_at hl 3 rfl) ?_
  refine lv_if_lt (x := x3) (tgt := 13) hx hb dX6_point_2 (by decide) (fun h2 => ?_) (fun h2 => ?_)
  · skip
    refine lv_iconst (v := nI 1) hx hb dX6_point_13 (by decide) ?_
    refine lv_goto (tgt := 22) hx hb dX6_point_14 (by decide) ?_
    refine ax_put (k := 1000) (v := .int (nI 1)) (fs' := [.int (nI N), .int (nI V), .int (nI 1), .ref (ad 1003), .int (nI ec), .ref (ad 1005), .ref (ad 1006), .ref (ad 1007), .ref (ad 1008), .ref (ad 1009), .int (nI en), .int (if an = true then 1 else 0), .ref (ad 1012), .ref (ad 1013), .ref (ad 1014), .int (nI al), .ref (ad 1016), .ref (ad 1017), .ref (ad 1018), .ref (ad 1019), .int (nI pl), .ref (ad 1021), .int (nI nc), .ref (ad 1023), .ref (ad 1024), .int (nI sz), .ref (ad 1026), .ref (ad 1027), .ref (ad 1028)]) hx hb hts in_X6_point_X6 tyX6 tyX6_ok nmX6 hown hK hP hD hS (hq _ (by decide)) c_o rfl 2 (by decide) (hts _ wd_X6_point_0) (fun _ h9 => h9) rfl (ty := .int) (by decide +kernel) rfl rfl (Nat.le_of_ble_eq_true rfl) rfl dX6_point_22 (fun H locs g1 eg1 hP hS => ?_)
    have c_M : g1 1012 = nA G 8 mn := (cx_ne eg1 1012 (by omega)).trans c_M
    have c_C : g1 1014 = iA G 40 cm := (cx_ne eg1 1014 (by omega)).trans c_C
    have c_Q : g1 1013 = nA G 200 (vN pq) := (cx_ne eg1 1013 (by omega)).trans c_Q
    have c_o : g1 1000 = .inr (6, [.int (nI N), .int (nI V), .int (nI 1), .ref (ad 1003), .int (nI ec), .ref (ad 1005), .ref (ad 1006), .ref (ad 1007), .ref (ad 1008), .ref (ad 1009), .int (nI en), .int (if an = true then 1 else 0), .ref (ad 1012), .ref (ad 1013), .ref (ad 1014), .int (nI al), .ref (ad 1016), .ref (ad 1017), .ref (ad 1018), .ref (ad 1019), .int (nI pl), .ref (ad 1021), .int (nI nc), .ref (ad 1023), .ref (ad 1024), .int (nI sz), .ref (ad 1026), .ref (ad 1027), .ref (ad 1028)]) := cx_eq eg1
    have fr : ∀ j : Nat, j ≠ 1000 → g1 j = g j := fun j hj => (cx_ne eg1 j (by omega)).trans (fr j hj)
    refine lv_aload_n hx hb dX6_point_25 rfl (lv_at hl 0 rfl) ?_
    refine lv_aload_n hx hb dX6_point_26 rfl (lv_at hl 0 rfl) ?_
    refine ax_get (k := 1000) (v := .int (nI 1)) hx hb hts in_X6_point_X6 hown hK hP (hq _ (by decide)) c_o rfl 2 (by decide) (hts _ wd_X6_point_0) (fun _ h9 => h9) rfl dX6_point_27 ?_
    refine ax_ifne (a := 1) (tgt := 51) hx hb dX6_point_30 (by decide) (by omega) (fun h30 => ?_) (fun h30 => ?_)
    · skip
      refine lv_aload_n hx hb dX6_point_51 rfl (lv_at hl 0 rfl) ?_
      refine ax_get (k := 1000) (v := .int (nI 1)) hx hb hts in_X6_point_X6 hown hK hP (hq _ (by decide)) c_o rfl 2 (by decide) (hts _ wd_X6_point_0) (fun _ h9 => h9) rfl dX6_point_52 ?_
      refine ax_put (k := 1000) (v := .int (nI 1)) (fs' := [.int (nI N), .int (nI V), .int (nI 1), .ref (ad 1003), .int (nI ec), .ref (ad 1005), .ref (ad 1006), .ref (ad 1007), .ref (ad 1008), .ref (ad 1009), .int (nI en), .int (if an = true then 1 else 0), .ref (ad 1012), .ref (ad 1013), .ref (ad 1014), .int (nI al), .ref (ad 1016), .ref (ad 1017), .ref (ad 1018), .ref (ad 1019), .int (nI pl), .ref (ad 1021), .int (nI nc), .ref (ad 1023), .ref (ad 1024), .int (nI sz), .ref (ad 1026), .ref (ad 1027), .ref (ad 1028)]) hx hb hts in_X6_point_X6 tyX6 tyX6_ok nmX6 hown hK hP hD hS (hq _ (by decide)) c_o rfl 2 (by decide) (hts _ wd_X6_point_0) (fun _ h9 => h9) rfl (ty := .int) (by decide +kernel) rfl rfl (Nat.le_of_ble_eq_true rfl) rfl dX6_point_55 (fun H locs g2 eg2 hP hS => ?_)
      have c_M : g2 1012 = nA G 8 mn := (cx_ne eg2 1012 (by omega)).trans c_M
      have c_C : g2 1014 = iA G 40 cm := (cx_ne eg2 1014 (by omega)).trans c_C
      have c_Q : g2 1013 = nA G 200 (vN pq) := (cx_ne eg2 1013 (by omega)).trans c_Q
      have c_o : g2 1000 = .inr (6, [.int (nI N), .int (nI V), .int (nI 1), .ref (ad 1003), .int (nI ec), .ref (ad 1005), .ref (ad 1006), .ref (ad 1007), .ref (ad 1008), .ref (ad 1009), .int (nI en), .int (if an = true then 1 else 0), .ref (ad 1012), .ref (ad 1013), .ref (ad 1014), .int (nI al), .ref (ad 1016), .ref (ad 1017), .ref (ad 1018), .ref (ad 1019), .int (nI pl), .ref (ad 1021), .int (nI nc), .ref (ad 1023), .ref (ad 1024), .int (nI sz), .ref (ad 1026), .ref (ad 1027), .ref (ad 1028)]) := cx_eq eg2
      have fr : ∀ j : Nat, j ≠ 1000 → g2 j = g j := fun j hj => (cx_ne eg2 j (by omega)).trans (fr j hj)
      refine lv_aload_n hx hb dX6_point_58 rfl (lv_at hl 0 rfl) ?_
      refine ax_get (k := 1000) (v := .int (nI 1)) hx hb hts in_X6_point_X6 hown hK hP (hq _ (by decide)) c_o rfl 2 (by decide) (hts _ wd_X6_point_0) (fun _ h9 => h9) rfl dX6_point_59 ?_
      refine ax_ifeq (a := 1) (tgt := 69) hx hb dX6_point_62 (by decide) (by omega) (fun h62 => ?_) (fun h62 => ?_)
      · skip
        exact absurd h62 (by decide)
      · skip
        refine lv_iconst (v := nI 0) hx hb dX6_point_65 (by decide) ?_
        refine lv_goto (tgt := 101) hx hb dX6_point_66 (by decide) ?_
        exact hret (nI 0) g2 _ _ _ _ rfl ⟨fr, Or.inl ⟨fun q => nb_0 (by omega) h2 q.2, c_o⟩⟩ hP hS dX6_point_101
    · skip
      exact absurd h30 (by decide)
  · skip
    refine lv_iload_n hx hb dX6_point_5 rfl (lv_at hl 3 rfl) ?_
    refine lv_aload_n hx hb dX6_point_6 rfl (lv_at hl 0 rfl) ?_
    refine ax_get (k := 1000) (v := .int (nI V)) hx hb hts in_X6_point_X6 hown hK hP (hq _ (by decide)) c_o rfl 1 (by decide) (hts _ wd_X6_point_2) (fun _ h9 => h9) rfl dX6_point_7 ?_
    refine lv_icmp_le (x := x3) (y := nI V) (tgt := 17) hx hb dX6_point_10 (by decide) (fun h10 => ?_) (fun h10 => ?_)
    · skip
      obtain ⟨k3, hk3a, hk3b, rfl⟩ := yb_l (by omega) h2 h10
      refine lv_aload_n hx hb dX6_point_17 rfl (lv_at hl 0 rfl) ?_
      refine lv_iload_n hx hb dX6_point_18 rfl (lv_at hl 1 rfl) ?_
      refine cx_Vi (As := [.int x1]) (rest := [.ref (ad 1000)]) ⟨hx, hb, hml, hown, hts⟩ (c_X6_asked hD hN1 hN hV1 hV hq (x1 := x1) c_o) (cwV 1 hts gX6_point_X6_asked rfl rfl rfl (by decide +kernel) ⟨Nat.le_of_ble_eq_true rfl, Nat.le_of_ble_eq_true rfl⟩) hK hP hS hz (hq _ (by decide)) c_o rfl ⟨Nat.zero_le _, Nat.zero_le _⟩ rfl hl.1 rfl (Nat.le_of_ble_eq_true rfl) dX6_point_19 (fun r3 g3 H locs hp3 hP hS => ?_)
      obtain ⟨hp3g, hask⟩ := hp3
      rw [hp3g] at hP
      refine ax_put (k := 1000) (v := .int r3) (fs' := [.int (nI N), .int (nI V), .int r3, .ref (ad 1003), .int (nI ec), .ref (ad 1005), .ref (ad 1006), .ref (ad 1007), .ref (ad 1008), .ref (ad 1009), .int (nI en), .int (if an = true then 1 else 0), .ref (ad 1012), .ref (ad 1013), .ref (ad 1014), .int (nI al), .ref (ad 1016), .ref (ad 1017), .ref (ad 1018), .ref (ad 1019), .int (nI pl), .ref (ad 1021), .int (nI nc), .ref (ad 1023), .ref (ad 1024), .int (nI sz), .ref (ad 1026), .ref (ad 1027), .ref (ad 1028)]) hx hb hts in_X6_point_X6 tyX6 tyX6_ok nmX6 hown hK hP hD hS (hq _ (by decide)) c_o rfl 2 (by decide) (hts _ wd_X6_point_0) (fun _ h9 => h9) rfl (ty := .int) (by decide +kernel) rfl rfl (Nat.le_of_ble_eq_true rfl) rfl dX6_point_22 (fun H locs g4 eg4 hP hS => ?_)
      have c_M : g4 1012 = nA G 8 mn := (cx_ne eg4 1012 (by omega)).trans c_M
      have c_C : g4 1014 = iA G 40 cm := (cx_ne eg4 1014 (by omega)).trans c_C
      have c_Q : g4 1013 = nA G 200 (vN pq) := (cx_ne eg4 1013 (by omega)).trans c_Q
      have c_o : g4 1000 = .inr (6, [.int (nI N), .int (nI V), .int r3, .ref (ad 1003), .int (nI ec), .ref (ad 1005), .ref (ad 1006), .ref (ad 1007), .ref (ad 1008), .ref (ad 1009), .int (nI en), .int (if an = true then 1 else 0), .ref (ad 1012), .ref (ad 1013), .ref (ad 1014), .int (nI al), .ref (ad 1016), .ref (ad 1017), .ref (ad 1018), .ref (ad 1019), .int (nI pl), .ref (ad 1021), .int (nI nc), .ref (ad 1023), .ref (ad 1024), .int (nI sz), .ref (ad 1026), .ref (ad 1027), .ref (ad 1028)]) := cx_eq eg4
      have fr : ∀ j : Nat, j ≠ 1000 → g4 j = g j := fun j hj => (cx_ne eg4 j (by omega)).trans (fr j hj)
      refine lv_aload_n hx hb dX6_point_25 rfl (lv_at hl 0 rfl) ?_
      refine lv_aload_n hx hb dX6_point_26 rfl (lv_at hl 0 rfl) ?_
      refine ax_get (k := 1000) (v := .int r3) hx hb hts in_X6_point_X6 hown hK hP (hq _ (by decide)) c_o rfl 2 (by decide) (hts _ wd_X6_point_0) (fun _ h9 => h9) rfl dX6_point_27 ?_
      refine lv_if_ne (x := r3) (tgt := 51) hx hb dX6_point_30 (by decide) (fun h30 => ?_) (fun h30 => ?_)
      · skip
        refine lv_aload_n hx hb dX6_point_51 rfl (lv_at hl 0 rfl) ?_
        refine ax_get (k := 1000) (v := .int r3) hx hb hts in_X6_point_X6 hown hK hP (hq _ (by decide)) c_o rfl 2 (by decide) (hts _ wd_X6_point_0) (fun _ h9 => h9) rfl dX6_point_52 ?_
        refine ax_put (k := 1000) (v := .int r3) (fs' := [.int (nI N), .int (nI V), .int r3, .ref (ad 1003), .int (nI ec), .ref (ad 1005), .ref (ad 1006), .ref (ad 1007), .ref (ad 1008), .ref (ad 1009), .int (nI en), .int (if an = true then 1 else 0), .ref (ad 1012), .ref (ad 1013), .ref (ad 1014), .int (nI al), .ref (ad 1016), .ref (ad 1017), .ref (ad 1018), .ref (ad 1019), .int (nI pl), .ref (ad 1021), .int (nI nc), .ref (ad 1023), .ref (ad 1024), .int (nI sz), .ref (ad 1026), .ref (ad 1027), .ref (ad 1028)]) hx hb hts in_X6_point_X6 tyX6 tyX6_ok nmX6 hown hK hP hD hS (hq _ (by decide)) c_o rfl 2 (by decide) (hts _ wd_X6_point_0) (fun _ h9 => h9) rfl (ty := .int) (by decide +kernel) rfl rfl (Nat.le_of_ble_eq_true rfl) rfl dX6_point_55 (fun H locs g5 eg5 hP hS => ?_)
        have c_M : g5 1012 = nA G 8 mn := (cx_ne eg5 1012 (by omega)).trans c_M
        have c_C : g5 1014 = iA G 40 cm := (cx_ne eg5 1014 (by omega)).trans c_C
        have c_Q : g5 1013 = nA G 200 (vN pq) := (cx_ne eg5 1013 (by omega)).trans c_Q
        have c_o : g5 1000 = .inr (6, [.int (nI N), .int (nI V), .int r3, .ref (ad 1003), .int (nI ec), .ref (ad 1005), .ref (ad 1006), .ref (ad 1007), .ref (ad 1008), .ref (ad 1009), .int (nI en), .int (if an = true then 1 else 0), .ref (ad 1012), .ref (ad 1013), .ref (ad 1014), .int (nI al), .ref (ad 1016), .ref (ad 1017), .ref (ad 1018), .ref (ad 1019), .int (nI pl), .ref (ad 1021), .int (nI nc), .ref (ad 1023), .ref (ad 1024), .int (nI sz), .ref (ad 1026), .ref (ad 1027), .ref (ad 1028)]) := cx_eq eg5
        have fr : ∀ j : Nat, j ≠ 1000 → g5 j = g j := fun j hj => (cx_ne eg5 j (by omega)).trans (fr j hj)
        refine lv_aload_n hx hb dX6_point_58 rfl (lv_at hl 0 rfl) ?_
        refine ax_get (k := 1000) (v := .int r3) hx hb hts in_X6_point_X6 hown hK hP (hq _ (by decide)) c_o rfl 2 (by decide) (hts _ wd_X6_point_0) (fun _ h9 => h9) rfl dX6_point_59 ?_
        refine lv_if_eq (x := r3) (tgt := 69) hx hb dX6_point_62 (by decide) (fun h62 => ?_) (fun h62 => ?_)
        · skip
          exact absurd h62 h30
        · skip
          refine lv_iconst (v := nI 0) hx hb dX6_point_65 (by decide) ?_
          refine lv_goto (tgt := 101) hx hb dX6_point_66 (by decide) ?_
          exact hret (nI 0) g5 _ _ _ _ rfl (by rcases hask with ⟨rfl, q⟩ | ⟨rfl, q, q2⟩ | ⟨rfl, _, _⟩; exact ⟨fr, Or.inl ⟨fun z => q z.1, c_o⟩⟩; exact ⟨fr, Or.inr (Or.inl ⟨⟨q, inB_lit hk3a hk3b⟩, q2, c_o⟩)⟩; exact absurd nI_0 h30) hP hS dX6_point_101
      · skip
        obtain ⟨rfl, ⟨k1, hk1a, hk1b, rfl⟩, han⟩ := askP_0 hask h30
        have hm5 := hmn han k1 hk1b
        refine lv_iload_n hx hb dX6_point_33 rfl (lv_at hl 2 rfl) ?_
        refine lv_if_lt (x := x2) (tgt := 47) hx hb dX6_point_34 (by decide) (fun h34 => ?_) (fun h34 => ?_)
        · skip
          refine lv_iconst (v := nI 3) hx hb dX6_point_47 (by decide) ?_
          refine lv_goto (tgt := 55) hx hb dX6_point_48 (by decide) ?_
          refine ax_put (k := 1000) (v := .int (nI 3)) (fs' := [.int (nI N), .int (nI V), .int (nI 3), .ref (ad 1003), .int (nI ec), .ref (ad 1005), .ref (ad 1006), .ref (ad 1007), .ref (ad 1008), .ref (ad 1009), .int (nI en), .int (if an = true then 1 else 0), .ref (ad 1012), .ref (ad 1013), .ref (ad 1014), .int (nI al), .ref (ad 1016), .ref (ad 1017), .ref (ad 1018), .ref (ad 1019), .int (nI pl), .ref (ad 1021), .int (nI nc), .ref (ad 1023), .ref (ad 1024), .int (nI sz), .ref (ad 1026), .ref (ad 1027), .ref (ad 1028)]) hx hb hts in_X6_point_X6 tyX6 tyX6_ok nmX6 hown hK hP hD hS (hq _ (by decide)) c_o rfl 2 (by decide) (hts _ wd_X6_point_0) (fun _ h9 => h9) rfl (ty := .int) (by decide +kernel) rfl rfl (Nat.le_of_ble_eq_true rfl) rfl dX6_point_55 (fun H locs g6 eg6 hP hS => ?_)
          have c_M : g6 1012 = nA G 8 mn := (cx_ne eg6 1012 (by omega)).trans c_M
          have c_C : g6 1014 = iA G 40 cm := (cx_ne eg6 1014 (by omega)).trans c_C
          have c_Q : g6 1013 = nA G 200 (vN pq) := (cx_ne eg6 1013 (by omega)).trans c_Q
          have c_o : g6 1000 = .inr (6, [.int (nI N), .int (nI V), .int (nI 3), .ref (ad 1003), .int (nI ec), .ref (ad 1005), .ref (ad 1006), .ref (ad 1007), .ref (ad 1008), .ref (ad 1009), .int (nI en), .int (if an = true then 1 else 0), .ref (ad 1012), .ref (ad 1013), .ref (ad 1014), .int (nI al), .ref (ad 1016), .ref (ad 1017), .ref (ad 1018), .ref (ad 1019), .int (nI pl), .ref (ad 1021), .int (nI nc), .ref (ad 1023), .ref (ad 1024), .int (nI sz), .ref (ad 1026), .ref (ad 1027), .ref (ad 1028)]) := cx_eq eg6
          have fr : ∀ j : Nat, j ≠ 1000 → g6 j = g j := fun j hj => (cx_ne eg6 j (by omega)).trans (fr j hj)
          refine lv_aload_n hx hb dX6_point_58 rfl (lv_at hl 0 rfl) ?_
          refine ax_get (k := 1000) (v := .int (nI 3)) hx hb hts in_X6_point_X6 hown hK hP (hq _ (by decide)) c_o rfl 2 (by decide) (hts _ wd_X6_point_0) (fun _ h9 => h9) rfl dX6_point_59 ?_
          refine ax_ifeq (a := 3) (tgt := 69) hx hb dX6_point_62 (by decide) (by omega) (fun h62 => ?_) (fun h62 => ?_)
          · skip
            exact absurd h62 (by decide)
          · skip
            refine lv_iconst (v := nI 0) hx hb dX6_point_65 (by decide) ?_
            refine lv_goto (tgt := 101) hx hb dX6_point_66 (by decide) ?_
            exact hret (nI 0) g6 _ _ _ _ rfl ⟨fr, Or.inr (Or.inr (Or.inl ⟨k1, k3, hk1b, hk3b, rfl, rfl, han, nb_0 (by omega) h34, c_o⟩))⟩ hP hS dX6_point_101
        · skip
          refine lv_iload_n hx hb dX6_point_37 rfl (lv_at hl 2 rfl) ?_
          refine lv_aload_n hx hb dX6_point_38 rfl (lv_at hl 0 rfl) ?_
          refine ax_get (k := 1000) (v := .ref (ad 1012)) hx hb hts in_X6_point_X6 hown hK hP (hq _ (by decide)) c_o rfl 12 (by decide) (hts _ wd_X6_point_3) (fun _ h9 => h9) rfl dX6_point_39 ?_
          refine lv_iload_n hx hb dX6_point_42 rfl (lv_at hl 1 rfl) ?_
          refine ax_iald (k := 1012) (i := k1) (v := nI (mn k1)) hx hb hK hP (hq _ (by decide)) c_M (by omega) (by omega) rfl dX6_point_43 ?_
          refine lv_icmp_lt (x := x2) (y := nI (mn k1)) (tgt := 51) hx hb dX6_point_44 (by decide) (fun h44 => ?_) (fun h44 => ?_)
          · skip
            obtain ⟨k2, hk2a, hk2b, rfl⟩ := yb_n (by omega) h34 h44
            refine lv_aload_n hx hb dX6_point_51 rfl (lv_at hl 0 rfl) ?_
            refine ax_get (k := 1000) (v := .int (nI 0)) hx hb hts in_X6_point_X6 hown hK hP (hq _ (by decide)) c_o rfl 2 (by decide) (hts _ wd_X6_point_0) (fun _ h9 => h9) rfl dX6_point_52 ?_
            refine ax_put (k := 1000) (v := .int (nI 0)) (fs' := [.int (nI N), .int (nI V), .int (nI 0), .ref (ad 1003), .int (nI ec), .ref (ad 1005), .ref (ad 1006), .ref (ad 1007), .ref (ad 1008), .ref (ad 1009), .int (nI en), .int (if an = true then 1 else 0), .ref (ad 1012), .ref (ad 1013), .ref (ad 1014), .int (nI al), .ref (ad 1016), .ref (ad 1017), .ref (ad 1018), .ref (ad 1019), .int (nI pl), .ref (ad 1021), .int (nI nc), .ref (ad 1023), .ref (ad 1024), .int (nI sz), .ref (ad 1026), .ref (ad 1027), .ref (ad 1028)]) hx hb hts in_X6_point_X6 tyX6 tyX6_ok nmX6 hown hK hP hD hS (hq _ (by decide)) c_o rfl 2 (by decide) (hts _ wd_X6_point_0) (fun _ h9 => h9) rfl (ty := .int) (by decide +kernel) rfl rfl (Nat.le_of_ble_eq_true rfl) rfl dX6_point_55 (fun H locs g7 eg7 hP hS => ?_)
            have c_M : g7 1012 = nA G 8 mn := (cx_ne eg7 1012 (by omega)).trans c_M
            have c_C : g7 1014 = iA G 40 cm := (cx_ne eg7 1014 (by omega)).trans c_C
            have c_Q : g7 1013 = nA G 200 (vN pq) := (cx_ne eg7 1013 (by omega)).trans c_Q
            have c_o : g7 1000 = .inr (6, [.int (nI N), .int (nI V), .int (nI 0), .ref (ad 1003), .int (nI ec), .ref (ad 1005), .ref (ad 1006), .ref (ad 1007), .ref (ad 1008), .ref (ad 1009), .int (nI en), .int (if an = true then 1 else 0), .ref (ad 1012), .ref (ad 1013), .ref (ad 1014), .int (nI al), .ref (ad 1016), .ref (ad 1017), .ref (ad 1018), .ref (ad 1019), .int (nI pl), .ref (ad 1021), .int (nI nc), .ref (ad 1023), .ref (ad 1024), .int (nI sz), .ref (ad 1026), .ref (ad 1027), .ref (ad 1028)]) := cx_eq eg7
            have fr : ∀ j : Nat, j ≠ 1000 → g7 j = g j := fun j hj => (cx_ne eg7 j (by omega)).trans (fr j hj)
            refine lv_aload_n hx hb dX6_point_58 rfl (lv_at hl 0 rfl) ?_
            refine ax_get (k := 1000) (v := .int (nI 0)) hx hb hts in_X6_point_X6 hown hK hP (hq _ (by decide)) c_o rfl 2 (by decide) (hts _ wd_X6_point_0) (fun _ h9 => h9) rfl dX6_point_59 ?_
            refine ax_ifeq (a := 0) (tgt := 69) hx hb dX6_point_62 (by decide) (by omega) (fun h62 => ?_) (fun h62 => ?_)
            · skip
              refine lv_iload_n hx hb dX6_point_69 rfl (lv_at hl 3 rfl) ?_
              refine ax_ifne (a := k3) (tgt := 86) hx hb dX6_point_70 (by decide) (by omega) (fun h70 => ?_) (fun h70 => ?_)
              · skip
                refine lv_aload_n hx hb dX6_point_86 rfl (lv_at hl 0 rfl) ?_
                refine ax_get (k := 1000) (v := .ref (ad 1013)) hx hb hts in_X6_point_X6 hown hK hP (hq _ (by decide)) c_o rfl 13 (by decide) (hts _ wd_X6_point_4) (fun _ h9 => h9) rfl dX6_point_87 ?_
                refine lv_bipush (v := nI 25) hx hb dX6_point_90 (by decide) ?_
                refine lv_iload_n hx hb dX6_point_92 rfl (lv_at hl 1 rfl) ?_
                refine ax_mul (a := 25) (b := k1) hx hb dX6_point_93 ?_
                refine lv_iconst (v := nI 5) hx hb dX6_point_94 (by decide) ?_
                refine lv_iload_n hx hb dX6_point_95 rfl (lv_at hl 2 rfl) ?_
                refine ax_mul (a := 5) (b := k2) hx hb dX6_point_96 ?_
                refine ax_add (a := 25 * k1) (b := 5 * k2) hx hb dX6_point_97 ?_
                refine lv_iload_n hx hb dX6_point_98 rfl (lv_at hl 3 rfl) ?_
                refine ax_add (a := 25 * k1 + (5 * k2)) (b := k3) hx hb dX6_point_99 ?_
                refine ax_iald (k := 1013) (i := 25 * k1 + (5 * k2) + k3) (v := nI ((vN pq) (25 * k1 + (5 * k2) + k3))) hx hb hK hP (hq _ (by decide)) c_Q (by omega) (by omega) rfl dX6_point_100 ?_
                exact hret (nI ((vN pq) (25 * k1 + (5 * k2) + k3))) g7 _ _ _ _ rfl ⟨fr, Or.inr (Or.inr (Or.inr ⟨k1, k2, k3, hk1b, hk2b, hk3b, rfl, rfl, rfl, han, c_o, (if_neg h70).symm⟩))⟩ hP hS dX6_point_101
              · skip
                refine lv_aload_n hx hb dX6_point_73 rfl (lv_at hl 0 rfl) ?_
                refine ax_get (k := 1000) (v := .ref (ad 1014)) hx hb hts in_X6_point_X6 hown hK hP (hq _ (by decide)) c_o rfl 14 (by decide) (hts _ wd_X6_point_5) (fun _ h9 => h9) rfl dX6_point_74 ?_
                refine lv_iconst (v := nI 5) hx hb dX6_point_77 (by decide) ?_
                refine lv_iload_n hx hb dX6_point_78 rfl (lv_at hl 1 rfl) ?_
                refine ax_mul (a := 5) (b := k1) hx hb dX6_point_79 ?_
                refine lv_iload_n hx hb dX6_point_80 rfl (lv_at hl 2 rfl) ?_
                refine ax_add (a := 5 * k1) (b := k2) hx hb dX6_point_81 ?_
                refine ax_iald (k := 1014) (i := 5 * k1 + k2) (v := cm (5 * k1 + k2)) hx hb hK hP (hq _ (by decide)) c_C (by omega) (by omega) rfl dX6_point_82 ?_
                refine lv_goto (tgt := 101) hx hb dX6_point_83 (by decide) ?_
                exact hret (cm (5 * k1 + k2)) g7 _ _ _ _ rfl ⟨fr, Or.inr (Or.inr (Or.inr ⟨k1, k2, k3, hk1b, hk2b, hk3b, rfl, rfl, rfl, han, c_o, (if_pos h70).symm⟩))⟩ hP hS dX6_point_101
            · skip
              exact absurd h62 (by decide)
          · skip
            refine lv_iconst (v := nI 3) hx hb dX6_point_47 (by decide) ?_
            refine lv_goto (tgt := 55) hx hb dX6_point_48 (by decide) ?_
            refine ax_put (k := 1000) (v := .int (nI 3)) (fs' := [.int (nI N), .int (nI V), .int (nI 3), .ref (ad 1003), .int (nI ec), .ref (ad 1005), .ref (ad 1006), .ref (ad 1007), .ref (ad 1008), .ref (ad 1009), .int (nI en), .int (if an = true then 1 else 0), .ref (ad 1012), .ref (ad 1013), .ref (ad 1014), .int (nI al), .ref (ad 1016), .ref (ad 1017), .ref (ad 1018), .ref (ad 1019), .int (nI pl), .ref (ad 1021), .int (nI nc), .ref (ad 1023), .ref (ad 1024), .int (nI sz), .ref (ad 1026), .ref (ad 1027), .ref (ad 1028)]) hx hb hts in_X6_point_X6 tyX6 tyX6_ok nmX6 hown hK hP hD hS (hq _ (by decide)) c_o rfl 2 (by decide) (hts _ wd_X6_point_0) (fun _ h9 => h9) rfl (ty := .int) (by decide +kernel) rfl rfl (Nat.le_of_ble_eq_true rfl) rfl dX6_point_55 (fun H locs g8 eg8 hP hS => ?_)
            have c_M : g8 1012 = nA G 8 mn := (cx_ne eg8 1012 (by omega)).trans c_M
            have c_C : g8 1014 = iA G 40 cm := (cx_ne eg8 1014 (by omega)).trans c_C
            have c_Q : g8 1013 = nA G 200 (vN pq) := (cx_ne eg8 1013 (by omega)).trans c_Q
            have c_o : g8 1000 = .inr (6, [.int (nI N), .int (nI V), .int (nI 3), .ref (ad 1003), .int (nI ec), .ref (ad 1005), .ref (ad 1006), .ref (ad 1007), .ref (ad 1008), .ref (ad 1009), .int (nI en), .int (if an = true then 1 else 0), .ref (ad 1012), .ref (ad 1013), .ref (ad 1014), .int (nI al), .ref (ad 1016), .ref (ad 1017), .ref (ad 1018), .ref (ad 1019), .int (nI pl), .ref (ad 1021), .int (nI nc), .ref (ad 1023), .ref (ad 1024), .int (nI sz), .ref (ad 1026), .ref (ad 1027), .ref (ad 1028)]) := cx_eq eg8
            have fr : ∀ j : Nat, j ≠ 1000 → g8 j = g j := fun j hj => (cx_ne eg8 j (by omega)).trans (fr j hj)
            refine lv_aload_n hx hb dX6_point_58 rfl (lv_at hl 0 rfl) ?_
            refine ax_get (k := 1000) (v := .int (nI 3)) hx hb hts in_X6_point_X6 hown hK hP (hq _ (by decide)) c_o rfl 2 (by decide) (hts _ wd_X6_point_0) (fun _ h9 => h9) rfl dX6_point_59 ?_
            refine ax_ifeq (a := 3) (tgt := 69) hx hb dX6_point_62 (by decide) (by omega) (fun h62 => ?_) (fun h62 => ?_)
            · skip
              exact absurd h62 (by decide)
            · skip
              refine lv_iconst (v := nI 0) hx hb dX6_point_65 (by decide) ?_
              refine lv_goto (tgt := 101) hx hb dX6_point_66 (by decide) ?_
              exact hret (nI 0) g8 _ _ _ _ rfl ⟨fr, Or.inr (Or.inr (Or.inl ⟨k1, k3, hk1b, hk3b, rfl, rfl, han, nb_n (by omega) h44, c_o⟩))⟩ hP hS dX6_point_101
    · skip
      refine lv_iconst (v := nI 1) hx hb dX6_point_13 (by decide) ?_
      refine lv_goto (tgt := 22) hx hb dX6_point_14 (by decide) ?_
      refine ax_put (k := 1000) (v := .int (nI 1)) (fs' := [.int (nI N), .int (nI V), .int (nI 1), .ref (ad 1003), .int (nI ec), .ref (ad 1005), .ref (ad 1006), .ref (ad 1007), .ref (ad 1008), .ref (ad 1009), .int (nI en), .int (if an = true then 1 else 0), .ref (ad 1012), .ref (ad 1013), .ref (ad 1014), .int (nI al), .ref (ad 1016), .ref (ad 1017), .ref (ad 1018), .ref (ad 1019), .int (nI pl), .ref (ad 1021), .int (nI nc), .ref (ad 1023), .ref (ad 1024), .int (nI sz), .ref (ad 1026), .ref (ad 1027), .ref (ad 1028)]) hx hb hts in_X6_point_X6 tyX6 tyX6_ok nmX6 hown hK hP hD hS (hq _ (by decide)) c_o rfl 2 (by decide) (hts _ wd_X6_point_0) (fun _ h9 => h9) rfl (ty := .int) (by decide +kernel) rfl rfl (Nat.le_of_ble_eq_true rfl) rfl dX6_point_22 (fun H locs g9 eg9 hP hS => ?_)
      have c_M : g9 1012 = nA G 8 mn := (cx_ne eg9 1012 (by omega)).trans c_M
      have c_C : g9 1014 = iA G 40 cm := (cx_ne eg9 1014 (by omega)).trans c_C
      have c_Q : g9 1013 = nA G 200 (vN pq) := (cx_ne eg9 1013 (by omega)).trans c_Q
      have c_o : g9 1000 = .inr (6, [.int (nI N), .int (nI V), .int (nI 1), .ref (ad 1003), .int (nI ec), .ref (ad 1005), .ref (ad 1006), .ref (ad 1007), .ref (ad 1008), .ref (ad 1009), .int (nI en), .int (if an = true then 1 else 0), .ref (ad 1012), .ref (ad 1013), .ref (ad 1014), .int (nI al), .ref (ad 1016), .ref (ad 1017), .ref (ad 1018), .ref (ad 1019), .int (nI pl), .ref (ad 1021), .int (nI nc), .ref (ad 1023), .ref (ad 1024), .int (nI sz), .ref (ad 1026), .ref (ad 1027), .ref (ad 1028)]) := cx_eq eg9
      have fr : ∀ j : Nat, j ≠ 1000 → g9 j = g j := fun j hj => (cx_ne eg9 j (by omega)).trans (fr j hj)
      refine lv_aload_n hx hb dX6_point_25 rfl (lv_at hl 0 rfl) ?_
      refine lv_aload_n hx hb dX6_point_26 rfl (lv_at hl 0 rfl) ?_
      refine ax_get (k := 1000) (v := .int (nI 1)) hx hb hts in_X6_point_X6 hown hK hP (hq _ (by decide)) c_o rfl 2 (by decide) (hts _ wd_X6_point_0) (fun _ h9 => h9) rfl dX6_point_27 ?_
      refine ax_ifne (a := 1) (tgt := 51) hx hb dX6_point_30 (by decide) (by omega) (fun h30 => ?_) (fun h30 => ?_)
      · skip
        refine lv_aload_n hx hb dX6_point_51 rfl (lv_at hl 0 rfl) ?_
        refine ax_get (k := 1000) (v := .int (nI 1)) hx hb hts in_X6_point_X6 hown hK hP (hq _ (by decide)) c_o rfl 2 (by decide) (hts _ wd_X6_point_0) (fun _ h9 => h9) rfl dX6_point_52 ?_
        refine ax_put (k := 1000) (v := .int (nI 1)) (fs' := [.int (nI N), .int (nI V), .int (nI 1), .ref (ad 1003), .int (nI ec), .ref (ad 1005), .ref (ad 1006), .ref (ad 1007), .ref (ad 1008), .ref (ad 1009), .int (nI en), .int (if an = true then 1 else 0), .ref (ad 1012), .ref (ad 1013), .ref (ad 1014), .int (nI al), .ref (ad 1016), .ref (ad 1017), .ref (ad 1018), .ref (ad 1019), .int (nI pl), .ref (ad 1021), .int (nI nc), .ref (ad 1023), .ref (ad 1024), .int (nI sz), .ref (ad 1026), .ref (ad 1027), .ref (ad 1028)]) hx hb hts in_X6_point_X6 tyX6 tyX6_ok nmX6 hown hK hP hD hS (hq _ (by decide)) c_o rfl 2 (by decide) (hts _ wd_X6_point_0) (fun _ h9 => h9) rfl (ty := .int) (by decide +kernel) rfl rfl (Nat.le_of_ble_eq_true rfl) rfl dX6_point_55 (fun H locs g10 eg10 hP hS => ?_)
        have c_M : g10 1012 = nA G 8 mn := (cx_ne eg10 1012 (by omega)).trans c_M
        have c_C : g10 1014 = iA G 40 cm := (cx_ne eg10 1014 (by omega)).trans c_C
        have c_Q : g10 1013 = nA G 200 (vN pq) := (cx_ne eg10 1013 (by omega)).trans c_Q
        have c_o : g10 1000 = .inr (6, [.int (nI N), .int (nI V), .int (nI 1), .ref (ad 1003), .int (nI ec), .ref (ad 1005), .ref (ad 1006), .ref (ad 1007), .ref (ad 1008), .ref (ad 1009), .int (nI en), .int (if an = true then 1 else 0), .ref (ad 1012), .ref (ad 1013), .ref (ad 1014), .int (nI al), .ref (ad 1016), .ref (ad 1017), .ref (ad 1018), .ref (ad 1019), .int (nI pl), .ref (ad 1021), .int (nI nc), .ref (ad 1023), .ref (ad 1024), .int (nI sz), .ref (ad 1026), .ref (ad 1027), .ref (ad 1028)]) := cx_eq eg10
        have fr : ∀ j : Nat, j ≠ 1000 → g10 j = g j := fun j hj => (cx_ne eg10 j (by omega)).trans (fr j hj)
        refine lv_aload_n hx hb dX6_point_58 rfl (lv_at hl 0 rfl) ?_
        refine ax_get (k := 1000) (v := .int (nI 1)) hx hb hts in_X6_point_X6 hown hK hP (hq _ (by decide)) c_o rfl 2 (by decide) (hts _ wd_X6_point_0) (fun _ h9 => h9) rfl dX6_point_59 ?_
        refine ax_ifeq (a := 1) (tgt := 69) hx hb dX6_point_62 (by decide) (by omega) (fun h62 => ?_) (fun h62 => ?_)
        · skip
          exact absurd h62 (by decide)
        · skip
          refine lv_iconst (v := nI 0) hx hb dX6_point_65 (by decide) ?_
          refine lv_goto (tgt := 101) hx hb dX6_point_66 (by decide) ?_
          exact hret (nI 0) g10 _ _ _ _ rfl ⟨fr, Or.inl ⟨fun q => nb_l (by omega) h10 q.2, c_o⟩⟩ hP hS dX6_point_101
      · skip
        exact absurd h30 (by decide)

set_option maxRecDepth 20000 in
theorem wd_X6_coefficient_0 : Cond.fieldLink RX6 74 "AffineHullsModel" "thrown" "I" ∈ wsX6_coefficient := by decide +kernel
set_option maxRecDepth 20000 in
theorem in_X6_coefficient_X6 : ∀ w ∈ u_ws RX6 TX6 29, w ∈ wsX6_coefficient := by decide +kernel
set_option maxRecDepth 20000 in
theorem wd_X6_coefficient_2 : Cond.fieldLink RX6 71 "AffineHullsModel" "v" "I" ∈ wsX6_coefficient := by decide +kernel
set_option maxRecDepth 20000 in
theorem wd_X6_coefficient_3 : Cond.fieldLink RX6 43 "AffineHullsModel" "rows" "[I" ∈ wsX6_coefficient := by decide +kernel
set_option maxRecDepth 20000 in
theorem wd_X6_coefficient_4 : Cond.fieldLink RX6 46 "AffineHullsModel" "equations" "[I" ∈ wsX6_coefficient := by decide +kernel
abbrev rm_X6_coefficient : Room := { frames := 2, cells := 0, slots := 0, locals := 42 }
set_option maxHeartbeats 4000000 in
set_option maxRecDepth 100000 in
theorem c_X6_coefficient {l : Launch} {G : cx_G} {L : List Nat} {ad : Nat → Nat} {g : Nat → va_E} (hD : cx_D L ad) {N V th ec en al pl nc sz : Nat} {an : Bool} {x1 x2 x3 : Int32} {rz : Nat → Nat} {eq : Nat → FF} (hN1 : 1 ≤ N) (hN : N ≤ 8) (hV1 : 1 ≤ V) (hV : V ≤ 4) (hq : ∀ j : Nat, lbM j = true → j ∈ L) (c_o : g 1000 = .inr (6, [.int (nI N), .int (nI V), .int (nI th), .ref (ad 1003), .int (nI ec), .ref (ad 1005), .ref (ad 1006), .ref (ad 1007), .ref (ad 1008), .ref (ad 1009), .int (nI en), .int (if an = true then 1 else 0), .ref (ad 1012), .ref (ad 1013), .ref (ad 1014), .int (nI al), .ref (ad 1016), .ref (ad 1017), .ref (ad 1018), .ref (ad 1019), .int (nI pl), .ref (ad 1021), .int (nI nc), .ref (ad 1023), .ref (ad 1024), .int (nI sz), .ref (ad 1026), .ref (ad 1027), .ref (ad 1028)])) (c_W : g 1018 = nA G 8 rz) (c_E : g 1019 = nA G 200 (vN eq)) (hmn : an = true → ∀ i : Nat, i < N → rz i ≤ 5) : MI l yX6_coefficient wsX6_coefficient rm_X6_coefficient G L ad g [.ref (ad 1000), .int x1, .int x2, .int x3] (fun r u => (∀ j : Nat, j ≠ 1000 → u j = g j) ∧ ((¬ (inB 0 N x1 ∧ inB 0 (V + 1) x3) ∧ u 1000 = .inr (6, [.int (nI N), .int (nI V), .int (nI 1), .ref (ad 1003), .int (nI ec), .ref (ad 1005), .ref (ad 1006), .ref (ad 1007), .ref (ad 1008), .ref (ad 1009), .int (nI en), .int (if an = true then 1 else 0), .ref (ad 1012), .ref (ad 1013), .ref (ad 1014), .int (nI al), .ref (ad 1016), .ref (ad 1017), .ref (ad 1018), .ref (ad 1019), .int (nI pl), .ref (ad 1021), .int (nI nc), .ref (ad 1023), .ref (ad 1024), .int (nI sz), .ref (ad 1026), .ref (ad 1027), .ref (ad 1028)])) ∨ ((inB 0 N x1 ∧ inB 0 (V + 1) x3) ∧ an = false ∧ u 1000 = .inr (6, [.int (nI N), .int (nI V), .int (nI 2), .ref (ad 1003), .int (nI ec), .ref (ad 1005), .ref (ad 1006), .ref (ad 1007), .ref (ad 1008), .ref (ad 1009), .int (nI en), .int (if an = true then 1 else 0), .ref (ad 1012), .ref (ad 1013), .ref (ad 1014), .int (nI al), .ref (ad 1016), .ref (ad 1017), .ref (ad 1018), .ref (ad 1019), .int (nI pl), .ref (ad 1021), .int (nI nc), .ref (ad 1023), .ref (ad 1024), .int (nI sz), .ref (ad 1026), .ref (ad 1027), .ref (ad 1028)])) ∨ (∃ k1 k3 : Nat, k1 < N ∧ k3 < V + 1 ∧ x1 = nI k1 ∧ x3 = nI k3 ∧ an = true ∧ ¬ inB 0 (rz k1) x2 ∧ u 1000 = .inr (6, [.int (nI N), .int (nI V), .int (nI 3), .ref (ad 1003), .int (nI ec), .ref (ad 1005), .ref (ad 1006), .ref (ad 1007), .ref (ad 1008), .ref (ad 1009), .int (nI en), .int (if an = true then 1 else 0), .ref (ad 1012), .ref (ad 1013), .ref (ad 1014), .int (nI al), .ref (ad 1016), .ref (ad 1017), .ref (ad 1018), .ref (ad 1019), .int (nI pl), .ref (ad 1021), .int (nI nc), .ref (ad 1023), .ref (ad 1024), .int (nI sz), .ref (ad 1026), .ref (ad 1027), .ref (ad 1028)])) ∨ (∃ k1 k2 k3 : Nat, k1 < N ∧ k2 < rz k1 ∧ k3 < V + 1 ∧ x1 = nI k1 ∧ x2 = nI k2 ∧ x3 = nI k3 ∧ an = true ∧ u 1000 = .inr (6, [.int (nI N), .int (nI V), .int (nI 0), .ref (ad 1003), .int (nI ec), .ref (ad 1005), .ref (ad 1006), .ref (ad 1007), .ref (ad 1008), .ref (ad 1009), .int (nI en), .int (if an = true then 1 else 0), .ref (ad 1012), .ref (ad 1013), .ref (ad 1014), .int (nI al), .ref (ad 1016), .ref (ad 1017), .ref (ad 1018), .ref (ad 1019), .int (nI pl), .ref (ad 1021), .int (nI nc), .ref (ad 1023), .ref (ad 1024), .int (nI sz), .ref (ad 1026), .ref (ad 1027), .ref (ad 1028)]) ∧ r = nI (eq (25 * k1 + 5 * k2 + k3)).val))) := by
  refine cx_ofI (cc := cX6_coefficient) (maxL := 4) (by decide +kernel) rfl (Nat.le_of_ble_eq_true rfl) ?_
  intro p e s m args below meth c Q hx hb hts hown hml hP hK hS hz hret ls hl
  have hown : s.vm.findClass RX6 = some m.cls := hown
  have hl : lv_has ls 4 [(0, .ref (ad 1000)), (1, .int x1), (2, .int x2), (3, .int x3)] := hl
  have fr : ∀ j : Nat, j ≠ 1000 → g j = g j := fun _ _ => rfl
  refine lv_aload_n hx hb dX6_coefficient_0 rfl (lv_at hl 0 rfl) ?_
  refine lv_iload_n hx hb dX6_coefficient_1 rfl (lv_at hl 3 rfl) ?_
  refine lv_if_lt (x := x3) (tgt := 13) hx hb dX6_coefficient_2 (by decide) (fun h2 => ?_) (fun h2 => ?_)
  · skip
    refine lv_iconst (v := nI 1) hx hb dX6_coefficient_13 (by decide) ?_
    refine lv_goto (tgt := 22) hx hb dX6_coefficient_14 (by decide) ?_
    refine ax_put (k := 1000) (v := .int (nI 1)) (fs' := [.int (nI N), .int (nI V), .int (nI 1), .ref (ad 1003), .int (nI ec), .ref (ad 1005), .ref (ad 1006), .ref (ad 1007), .ref (ad 1008), .ref (ad 1009), .int (nI en), .int (if an = true then 1 else 0), .ref (ad 1012), .ref (ad 1013), .ref (ad 1014), .int (nI al), .ref (ad 1016), .ref (ad 1017), .ref (ad 1018), .ref (ad 1019), .int (nI pl), .ref (ad 1021), .int (nI nc), .ref (ad 1023), .ref (ad 1024), .int (nI sz), .ref (ad 1026), .ref (ad 1027), .ref (ad 1028)]) hx hb hts in_X6_coefficient_X6 tyX6 tyX6_ok nmX6 hown hK hP hD hS (hq _ (by decide)) c_o rfl 2 (by decide) (hts _ wd_X6_coefficient_0) (fun _ h9 => h9) rfl (ty := .int) (by decide +kernel) rfl rfl (Nat.le_of_ble_eq_true rfl) rfl dX6_coefficient_22 (fun H locs g1 eg1 hP hS => ?_)
    have c_W : g1 1018 = nA G 8 rz := (cx_ne eg1 1018 (by omega)).trans c_W
    have c_E : g1 1019 = nA G 200 (vN eq) := (cx_ne eg1 1019 (by omega)).trans c_E
    have c_o : g1 1000 = .inr (6, [.int (nI N), .int (nI V), .int (nI 1), .ref (ad 1003), .int (nI ec), .ref (ad 1005), .ref (ad 1006), .ref (ad 1007), .ref (ad 1008), .ref (ad 1009), .int (nI en), .int (if an = true then 1 else 0), .ref (ad 1012), .ref (ad 1013), .ref (ad 1014), .int (nI al), .ref (ad 1016), .ref (ad 1017), .ref (ad 1018), .ref (ad 1019), .int (nI pl), .ref (ad 1021), .int (nI nc), .ref (ad 1023), .ref (ad 1024), .int (nI sz), .ref (ad 1026), .ref (ad 1027), .ref (ad 1028)]) := cx_eq eg1
    have fr : ∀ j : Nat, j ≠ 1000 → g1 j = g j := fun j hj => (cx_ne eg1 j (by omega)).trans (fr j hj)
    refine lv_aload_n hx hb dX6_coefficient_25 rfl (lv_at hl 0 rfl) ?_
    refine lv_aload_n hx hb dX6_coefficient_26 rfl (lv_at hl 0 rfl) ?_
    refine ax_get (k := 1000) (v := .int (nI 1)) hx hb hts in_X6_coefficient_X6 hown hK hP (hq _ (by decide)) c_o rfl 2 (by decide) (hts _ wd_X6_coefficient_0) (fun _ h9 => h9) rfl dX6_coefficient_27 ?_
    refine ax_ifne (a := 1) (tgt := 51) hx hb dX6_coefficient_30 (by decide) (by omega) (fun h30 => ?_) (fun h30 => ?_)
    · skip
      refine lv_aload_n hx hb dX6_coefficient_51 rfl (lv_at hl 0 rfl) ?_
      refine ax_get (k := 1000) (v := .int (nI 1)) hx hb hts in_X6_coefficient_X6 hown hK hP (hq _ (by decide)) c_o rfl 2 (by decide) (hts _ wd_X6_coefficient_0) (fun _ h9 => h9) rfl dX6_coefficient_52 ?_
      refine ax_put (k := 1000) (v := .int (nI 1)) (fs' := [.int (nI N), .int (nI V), .int (nI 1), .ref (ad 1003), .int (nI ec), .ref (ad 1005), .ref (ad 1006), .ref (ad 1007), .ref (ad 1008), .ref (ad 1009), .int (nI en), .int (if an = true then 1 else 0), .ref (ad 1012), .ref (ad 1013), .ref (ad 1014), .int (nI al), .ref (ad 1016), .ref (ad 1017), .ref (ad 1018), .ref (ad 1019), .int (nI pl), .ref (ad 1021), .int (nI nc), .ref (ad 1023), .ref (ad 1024), .int (nI sz), .ref (ad 1026), .ref (ad 1027), .ref (ad 1028)]) hx hb hts in_X6_coefficient_X6 tyX6 tyX6_ok nmX6 hown hK hP hD hS (hq _ (by decide)) c_o rfl 2 (by decide) (hts _ wd_X6_coefficient_0) (fun _ h9 => h9) rfl (ty := .int) (by decide +kernel) rfl rfl (Nat.le_of_ble_eq_true rfl) rfl dX6_coefficient_55 (fun H locs g2 eg2 hP hS => ?_)
      have c_W : g2 1018 = nA G 8 rz := (cx_ne eg2 1018 (by omega)).trans c_W
      have c_E : g2 1019 = nA G 200 (vN eq) := (cx_ne eg2 1019 (by omega)).trans c_E
      have c_o : g2 1000 = .inr (6, [.int (nI N), .int (nI V), .int (nI 1), .ref (ad 1003), .int (nI ec), .ref (ad 1005), .ref (ad 1006), .ref (ad 1007), .ref (ad 1008), .ref (ad 1009), .int (nI en), .int (if an = true then 1 else 0), .ref (ad 1012), .ref (ad 1013), .ref (ad 1014), .int (nI al), .ref (ad 1016), .ref (ad 1017), .ref (ad 1018), .ref (ad 1019), .int (nI pl), .ref (ad 1021), .int (nI nc), .ref (ad 1023), .ref (ad 1024), .int (nI sz), .ref (ad 1026), .ref (ad 1027), .ref (ad 1028)]) := cx_eq eg2
      have fr : ∀ j : Nat, j ≠ 1000 → g2 j = g j := fun j hj => (cx_ne eg2 j (by omega)).trans (fr j hj)
      refine lv_aload_n hx hb dX6_coefficient_58 rfl (lv_at hl 0 rfl) ?_
      refine ax_get (k := 1000) (v := .int (nI 1)) hx hb hts in_X6_coefficient_X6 hown hK hP (hq _ (by decide)) c_o rfl 2 (by decide) (hts _ wd_X6_coefficient_0) (fun _ h9 => h9) rfl dX6_coefficient_59 ?_
      refine ax_ifeq (a := 1) (tgt := 69) hx hb dX6_coefficient_62 (by decide) (by omega) (fun h62 => ?_) (fun h62 => ?_)
      · skip
        exact absurd h62 (by decide)
      · skip
        refine lv_iconst (v := nI 0) hx hb dX6_coefficient_65 (by decide) ?_
        refine lv_goto (tgt := 84) hx hb dX6_coefficient_66 (by decide) ?_
        exact hret (nI 0) g2 _ _ _ _ rfl ⟨fr, Or.inl ⟨fun q => nb_0 (by omega) h2 q.2, c_o⟩⟩ hP hS dX6_coefficient_84
    · skip
      exact absurd h30 (by decide)
  · skip
    refine lv_iload_n hx hb dX6_coefficient_5 rfl (lv_at hl 3 rfl) ?_
    refine lv_aload_n hx hb dX6_coefficient_6 rfl (lv_at hl 0 rfl) ?_
    refine ax_get (k := 1000) (v := .int (nI V)) hx hb hts in_X6_coefficient_X6 hown hK hP (hq _ (by decide)) c_o rfl 1 (by decide) (hts _ wd_X6_coefficient_2) (fun _ h9 => h9) rfl dX6_coefficient_7 ?_
    refine lv_icmp_le (x := x3) (y := nI V) (tgt := 17) hx hb dX6_coefficient_10 (by decide) (fun h10 => ?_) (fun h10 => ?_)
    · skip
      obtain ⟨k3, hk3a, hk3b, rfl⟩ := yb_l (by omega) h2 h10
      refine lv_aload_n hx hb dX6_coefficient_17 rfl (lv_at hl 0 rfl) ?_
      refine lv_iload_n hx hb dX6_coefficient_18 rfl (lv_at hl 1 rfl) ?_
      refine cx_Vi (As := [.int x1]) (rest := [.ref (ad 1000)]) ⟨hx, hb, hml, hown, hts⟩ (c_X6_asked hD hN1 hN hV1 hV hq (x1 := x1) c_o) (cwV 1 hts gX6_coefficient_X6_asked rfl rfl rfl (by decide +kernel) ⟨Nat.le_of_ble_eq_true rfl, Nat.le_of_ble_eq_true rfl⟩) hK hP hS hz (hq _ (by decide)) c_o rfl ⟨Nat.zero_le _, Nat.zero_le _⟩ rfl hl.1 rfl (Nat.le_of_ble_eq_true rfl) dX6_coefficient_19 (fun r3 g3 H locs hp3 hP hS => ?_)
      obtain ⟨hp3g, hask⟩ := hp3
      rw [hp3g] at hP
      refine ax_put (k := 1000) (v := .int r3) (fs' := [.int (nI N), .int (nI V), .int r3, .ref (ad 1003), .int (nI ec), .ref (ad 1005), .ref (ad 1006), .ref (ad 1007), .ref (ad 1008), .ref (ad 1009), .int (nI en), .int (if an = true then 1 else 0), .ref (ad 1012), .ref (ad 1013), .ref (ad 1014), .int (nI al), .ref (ad 1016), .ref (ad 1017), .ref (ad 1018), .ref (ad 1019), .int (nI pl), .ref (ad 1021), .int (nI nc), .ref (ad 1023), .ref (ad 1024), .int (nI sz), .ref (ad 1026), .ref (ad 1027), .ref (ad 1028)]) hx hb hts in_X6_coefficient_X6 tyX6 tyX6_ok nmX6 hown hK hP hD hS (hq _ (by decide)) c_o rfl 2 (by decide) (hts _ wd_X6_coefficient_0) (fun _ h9 => h9) rfl (ty := .int) (by decide +kernel) rfl rfl (Nat.le_of_ble_eq_true rfl) rfl dX6_coefficient_22 (fun H locs g4 eg4 hP hS => ?_)
      have c_W : g4 1018 = nA G 8 rz := (cx_ne eg4 1018 (by omega)).trans c_W
      have c_E : g4 1019 = nA G 200 (vN eq) := (cx_ne eg4 1019 (by omega)).trans c_E
      have c_o : g4 1000 = .inr (6, [.int (nI N), .int (nI V), .int r3, .ref (ad 1003), .int (nI ec), .ref (ad 1005), .ref (ad 1006), .ref (ad 1007), .ref (ad 1008), .ref (ad 1009), .int (nI en), .int (if an = true then 1 else 0), .ref (ad 1012), .ref (ad 1013), .ref (ad 1014), .int (nI al), .ref (ad 1016), .ref (ad 1017), .ref (ad 1018), .ref (ad 1019), .int (nI pl), .ref (ad 1021), .int (nI nc), .ref (ad 1023), .ref (ad 1024), .int (nI sz), .ref (ad 1026), .ref (ad 1027), .ref (ad 1028)]) := cx_eq eg4
      have fr : ∀ j : Nat, j ≠ 1000 → g4 j = g j := fun j hj => (cx_ne eg4 j (by omega)).trans (fr j hj)
      refine lv_aload_n hx hb dX6_coefficient_25 rfl (lv_at hl 0 rfl) ?_
      refine lv_aload_n hx hb dX6_coefficient_26 rfl (lv_at hl 0 rfl) ?_
      refine ax_get (k := 1000) (v := .int r3) hx hb hts in_X6_coefficient_X6 hown hK hP (hq _ (by decide)) c_o rfl 2 (by decide) (hts _ wd_X6_coefficient_0) (fun _ h9 => h9) rfl dX6_coefficient_27 ?_
      refine lv_if_ne (x := r3) (tgt := 51) hx hb dX6_coefficient_30 (by decide) (fun h30 => ?_) (fun h30 => ?_)
      · skip
        refine lv_aload_n hx hb dX6_coefficient_51 rfl (lv_at hl 0 rfl) ?_
        refine ax_get (k := 1000) (v := .int r3) hx hb hts in_X6_coefficient_X6 hown hK hP (hq _ (by decide)) c_o rfl 2 (by decide) (hts _ wd_X6_coefficient_0) (fun _ h9 => h9) rfl dX6_coefficient_52 ?_
        refine ax_put (k := 1000) (v := .int r3) (fs' := [.int (nI N), .int (nI V), .int r3, .ref (ad 1003), .int (nI ec), .ref (ad 1005), .ref (ad 1006), .ref (ad 1007), .ref (ad 1008), .ref (ad 1009), .int (nI en), .int (if an = true then 1 else 0), .ref (ad 1012), .ref (ad 1013), .ref (ad 1014), .int (nI al), .ref (ad 1016), .ref (ad 1017), .ref (ad 1018), .ref (ad 1019), .int (nI pl), .ref (ad 1021), .int (nI nc), .ref (ad 1023), .ref (ad 1024), .int (nI sz), .ref (ad 1026), .ref (ad 1027), .ref (ad 1028)]) hx hb hts in_X6_coefficient_X6 tyX6 tyX6_ok nmX6 hown hK hP hD hS (hq _ (by decide)) c_o rfl 2 (by decide) (hts _ wd_X6_coefficient_0) (fun _ h9 => h9) rfl (ty := .int) (by decide +kernel) rfl rfl (Nat.le_of_ble_eq_true rfl) rfl dX6_coefficient_55 (fun H locs g5 eg5 hP hS => ?_)
        have c_W : g5 1018 = nA G 8 rz := (cx_ne eg5 1018 (by omega)).trans c_W
        have c_E : g5 1019 = nA G 200 (vN eq) := (cx_ne eg5 1019 (by omega)).trans c_E
        have c_o : g5 1000 = .inr (6, [.int (nI N), .int (nI V), .int r3, .ref (ad 1003), .int (nI ec), .ref (ad 1005), .ref (ad 1006), .ref (ad 1007), .ref (ad 1008), .ref (ad 1009), .int (nI en), .int (if an = true then 1 else 0), .ref (ad 1012), .ref (ad 1013), .ref (ad 1014), .int (nI al), .ref (ad 1016), .ref (ad 1017), .ref (ad 1018), .ref (ad 1019), .int (nI pl), .ref (ad 1021), .int (nI nc), .ref (ad 1023), .ref (ad 1024), .int (nI sz), .ref (ad 1026), .ref (ad 1027), .ref (ad 1028)]) := cx_eq eg5
        have fr : ∀ j : Nat, j ≠ 1000 → g5 j = g j := fun j hj => (cx_ne eg5 j (by omega)).trans (fr j hj)
        refine lv_aload_n hx hb dX6_coefficient_58 rfl (lv_at hl 0 rfl) ?_
        refine ax_get (k := 1000) (v := .int r3) hx hb hts in_X6_coefficient_X6 hown hK hP (hq _ (by decide)) c_o rfl 2 (by decide) (hts _ wd_X6_coefficient_0) (fun _ h9 => h9) rfl dX6_coefficient_59 ?_
        refine lv_if_eq (x := r3) (tgt := 69) hx hb dX6_coefficient_62 (by decide) (fun h62 => ?_) (fun h62 => ?_)
        · skip
          exact absurd h62 h30
        · skip
          refine lv_iconst (v := nI 0) hx hb dX6_coefficient_65 (by decide) ?_
          refine lv_goto (tgt := 84) hx hb dX6_coefficient_66 (by decide) ?_
          exact hret (nI 0) g5 _ _ _ _ rfl (by rcases hask with ⟨rfl, q⟩ | ⟨rfl, q, q2⟩ | ⟨rfl, _, _⟩; exact ⟨fr, Or.inl ⟨fun z => q z.1, c_o⟩⟩; exact ⟨fr, Or.inr (Or.inl ⟨⟨q, inB_lit hk3a hk3b⟩, q2, c_o⟩)⟩; exact absurd nI_0 h30) hP hS dX6_coefficient_84
      · skip
        obtain ⟨rfl, ⟨k1, hk1a, hk1b, rfl⟩, han⟩ := askP_0 hask h30
        have hm5 := hmn han k1 hk1b
        refine lv_iload_n hx hb dX6_coefficient_33 rfl (lv_at hl 2 rfl) ?_
        refine lv_if_lt (x := x2) (tgt := 47) hx hb dX6_coefficient_34 (by decide) (fun h34 => ?_) (fun h34 => ?_)
        · skip
          refine lv_iconst (v := nI 3) hx hb dX6_coefficient_47 (by decide) ?_
          refine lv_goto (tgt := 55) hx hb dX6_coefficient_48 (by decide) ?_
          refine ax_put (k := 1000) (v := .int (nI 3)) (fs' := [.int (nI N), .int (nI V), .int (nI 3), .ref (ad 1003), .int (nI ec), .ref (ad 1005), .ref (ad 1006), .ref (ad 1007), .ref (ad 1008), .ref (ad 1009), .int (nI en), .int (if an = true then 1 else 0), .ref (ad 1012), .ref (ad 1013), .ref (ad 1014), .int (nI al), .ref (ad 1016), .ref (ad 1017), .ref (ad 1018), .ref (ad 1019), .int (nI pl), .ref (ad 1021), .int (nI nc), .ref (ad 1023), .ref (ad 1024), .int (nI sz), .ref (ad 1026), .ref (ad 1027), .ref (ad 1028)]) hx hb hts in_X6_coefficient_X6 tyX6 tyX6_ok nmX6 hown hK hP hD hS (hq _ (by decide)) c_o rfl 2 (by decide) (hts _ wd_X6_coefficient_0) (fun _ h9 => h9) rfl (ty := .int) (by decide +kernel) rfl rfl (Nat.le_of_ble_eq_true rfl) rfl dX6_coefficient_55 (fun H locs g6 eg6 hP hS => ?_)
          have c_W : g6 1018 = nA G 8 rz := (cx_ne eg6 1018 (by omega)).trans c_W
          have c_E : g6 1019 = nA G 200 (vN eq) := (cx_ne eg6 1019 (by omega)).trans c_E
          have c_o : g6 1000 = .inr (6, [.int (nI N), .int (nI V), .int (nI 3), .ref (ad 1003), .int (nI ec), .ref (ad 1005), .ref (ad 1006), .ref (ad 1007), .ref (ad 1008), .ref (ad 1009), .int (nI en), .int (if an = true then 1 else 0), .ref (ad 1012), .ref (ad 1013), .ref (ad 1014), .int (nI al), .ref (ad 1016), .ref (ad 1017), .ref (ad 1018), .ref (ad 1019), .int (nI pl), .ref (ad 1021), .int (nI nc), .ref (ad 1023), .ref (ad 1024), .int (nI sz), .ref (ad 1026), .ref (ad 1027), .ref (ad 1028)]) := cx_eq eg6
          have fr : ∀ j : Nat, j ≠ 1000 → g6 j = g j := fun j hj => (cx_ne eg6 j (by omega)).trans (fr j hj)
          refine lv_aload_n hx hb dX6_coefficient_58 rfl (lv_at hl 0 rfl) ?_
          refine ax_get (k := 1000) (v := .int (nI 3)) hx hb hts in_X6_coefficient_X6 hown hK hP (hq _ (by decide)) c_o rfl 2 (by decide) (hts _ wd_X6_coefficient_0) (fun _ h9 => h9) rfl dX6_coefficient_59 ?_
          refine ax_ifeq (a := 3) (tgt := 69) hx hb dX6_coefficient_62 (by decide) (by omega) (fun h62 => ?_) (fun h62 => ?_)
          · skip
            exact absurd h62 (by decide)
          · skip
            refine lv_iconst (v := nI 0) hx hb dX6_coefficient_65 (by decide) ?_
            refine lv_goto (tgt := 84) hx hb dX6_coefficient_66 (by decide) ?_
            exact hret (nI 0) g6 _ _ _ _ rfl ⟨fr, Or.inr (Or.inr (Or.inl ⟨k1, k3, hk1b, hk3b, rfl, rfl, han, nb_0 (by omega) h34, c_o⟩))⟩ hP hS dX6_coefficient_84
        · skip
          refine lv_iload_n hx hb dX6_coefficient_37 rfl (lv_at hl 2 rfl) ?_
          refine lv_aload_n hx hb dX6_coefficient_38 rfl (lv_at hl 0 rfl) ?_
          refine ax_get (k := 1000) (v := .ref (ad 1018)) hx hb hts in_X6_coefficient_X6 hown hK hP (hq _ (by decide)) c_o rfl 18 (by decide) (hts _ wd_X6_coefficient_3) (fun _ h9 => h9) rfl dX6_coefficient_39 ?_
          refine lv_iload_n hx hb dX6_coefficient_42 rfl (lv_at hl 1 rfl) ?_
          refine ax_iald (k := 1018) (i := k1) (v := nI (rz k1)) hx hb hK hP (hq _ (by decide)) c_W (by omega) (by omega) rfl dX6_coefficient_43 ?_
          refine lv_icmp_lt (x := x2) (y := nI (rz k1)) (tgt := 51) hx hb dX6_coefficient_44 (by decide) (fun h44 => ?_) (fun h44 => ?_)
          · skip
            obtain ⟨k2, hk2a, hk2b, rfl⟩ := yb_n (by omega) h34 h44
            refine lv_aload_n hx hb dX6_coefficient_51 rfl (lv_at hl 0 rfl) ?_
            refine ax_get (k := 1000) (v := .int (nI 0)) hx hb hts in_X6_coefficient_X6 hown hK hP (hq _ (by decide)) c_o rfl 2 (by decide) (hts _ wd_X6_coefficient_0) (fun _ h9 => h9) rfl dX6_coefficient_52 ?_
            refine ax_put (k := 1000) (v := .int (nI 0)) (fs' := [.int (nI N), .int (nI V), .int (nI 0), .ref (ad 1003), .int (nI ec), .ref (ad 1005), .ref (ad 1006), .ref (ad 1007), .ref (ad 1008), .ref (ad 1009), .int (nI en), .int (if an = true then 1 else 0), .ref (ad 1012), .ref (ad 1013), .ref (ad 1014), .int (nI al), .ref (ad 1016), .ref (ad 1017), .ref (ad 1018), .ref (ad 1019), .int (nI pl), .ref (ad 1021), .int (nI nc), .ref (ad 1023), .ref (ad 1024), .int (nI sz), .ref (ad 1026), .ref (ad 1027), .ref (ad 1028)]) hx hb hts in_X6_coefficient_X6 tyX6 tyX6_ok nmX6 hown hK hP hD hS (hq _ (by decide)) c_o rfl 2 (by decide) (hts _ wd_X6_coefficient_0) (fun _ h9 => h9) rfl (ty := .int) (by decide +kernel) rfl rfl (Nat.le_of_ble_eq_true rfl) rfl dX6_coefficient_55 (fun H locs g7 eg7 hP hS => ?_)
            have c_W : g7 1018 = nA G 8 rz := (cx_ne eg7 1018 (by omega)).trans c_W
            have c_E : g7 1019 = nA G 200 (vN eq) := (cx_ne eg7 1019 (by omega)).trans c_E
            have c_o : g7 1000 = .inr (6, [.int (nI N), .int (nI V), .int (nI 0), .ref (ad 1003), .int (nI ec), .ref (ad 1005), .ref (ad 1006), .ref (ad 1007), .ref (ad 1008), .ref (ad 1009), .int (nI en), .int (if an = true then 1 else 0), .ref (ad 1012), .ref (ad 1013), .ref (ad 1014), .int (nI al), .ref (ad 1016), .ref (ad 1017), .ref (ad 1018), .ref (ad 1019), .int (nI pl), .ref (ad 1021), .int (nI nc), .ref (ad 1023), .ref (ad 1024), .int (nI sz), .ref (ad 1026), .ref (ad 1027), .ref (ad 1028)]) := cx_eq eg7
            have fr : ∀ j : Nat, j ≠ 1000 → g7 j = g j := fun j hj => (cx_ne eg7 j (by omega)).trans (fr j hj)
            refine lv_aload_n hx hb dX6_coefficient_58 rfl (lv_at hl 0 rfl) ?_
            refine ax_get (k := 1000) (v := .int (nI 0)) hx hb hts in_X6_coefficient_X6 hown hK hP (hq _ (by decide)) c_o rfl 2 (by decide) (hts _ wd_X6_coefficient_0) (fun _ h9 => h9) rfl dX6_coefficient_59 ?_
            refine ax_ifeq (a := 0) (tgt := 69) hx hb dX6_coefficient_62 (by decide) (by omega) (fun h62 => ?_) (fun h62 => ?_)
            · skip
              refine lv_aload_n hx hb dX6_coefficient_69 rfl (lv_at hl 0 rfl) ?_
              refine ax_get (k := 1000) (v := .ref (ad 1019)) hx hb hts in_X6_coefficient_X6 hown hK hP (hq _ (by decide)) c_o rfl 19 (by decide) (hts _ wd_X6_coefficient_4) (fun _ h9 => h9) rfl dX6_coefficient_70 ?_
              refine lv_bipush (v := nI 25) hx hb dX6_coefficient_73 (by decide) ?_
              refine lv_iload_n hx hb dX6_coefficient_75 rfl (lv_at hl 1 rfl) ?_
              refine ax_mul (a := 25) (b := k1) hx hb dX6_coefficient_76 ?_
              refine lv_iconst (v := nI 5) hx hb dX6_coefficient_77 (by decide) ?_
              refine lv_iload_n hx hb dX6_coefficient_78 rfl (lv_at hl 2 rfl) ?_
              refine ax_mul (a := 5) (b := k2) hx hb dX6_coefficient_79 ?_
              refine ax_add (a := 25 * k1) (b := 5 * k2) hx hb dX6_coefficient_80 ?_
              refine lv_iload_n hx hb dX6_coefficient_81 rfl (lv_at hl 3 rfl) ?_
              refine ax_add (a := 25 * k1 + (5 * k2)) (b := k3) hx hb dX6_coefficient_82 ?_
              refine ax_iald (k := 1019) (i := 25 * k1 + (5 * k2) + k3) (v := nI ((vN eq) (25 * k1 + (5 * k2) + k3))) hx hb hK hP (hq _ (by decide)) c_E (by omega) (by omega) rfl dX6_coefficient_83 ?_
              exact hret (nI ((vN eq) (25 * k1 + (5 * k2) + k3))) g7 _ _ _ _ rfl ⟨fr, Or.inr (Or.inr (Or.inr ⟨k1, k2, k3, hk1b, hk2b, hk3b, rfl, rfl, rfl, han, c_o, rfl⟩))⟩ hP hS dX6_coefficient_84
            · skip
              exact absurd h62 (by decide)
          · skip
            refine lv_iconst (v := nI 3) hx hb dX6_coefficient_47 (by decide) ?_
            refine lv_goto (tgt := 55) hx hb dX6_coefficient_48 (by decide) ?_
            refine ax_put (k := 1000) (v := .int (nI 3)) (fs' := [.int (nI N), .int (nI V), .int (nI 3), .ref (ad 1003), .int (nI ec), .ref (ad 1005), .ref (ad 1006), .ref (ad 1007), .ref (ad 1008), .ref (ad 1009), .int (nI en), .int (if an = true then 1 else 0), .ref (ad 1012), .ref (ad 1013), .ref (ad 1014), .int (nI al), .ref (ad 1016), .ref (ad 1017), .ref (ad 1018), .ref (ad 1019), .int (nI pl), .ref (ad 1021), .int (nI nc), .ref (ad 1023), .ref (ad 1024), .int (nI sz), .ref (ad 1026), .ref (ad 1027), .ref (ad 1028)]) hx hb hts in_X6_coefficient_X6 tyX6 tyX6_ok nmX6 hown hK hP hD hS (hq _ (by decide)) c_o rfl 2 (by decide) (hts _ wd_X6_coefficient_0) (fun _ h9 => h9) rfl (ty := .int) (by decide +kernel) rfl rfl (Nat.le_of_ble_eq_true rfl) rfl dX6_coefficient_55 (fun H locs g8 eg8 hP hS => ?_)
            have c_W : g8 1018 = nA G 8 rz := (cx_ne eg8 1018 (by omega)).trans c_W
            have c_E : g8 1019 = nA G 200 (vN eq) := (cx_ne eg8 1019 (by omega)).trans c_E
            have c_o : g8 1000 = .inr (6, [.int (nI N), .int (nI V), .int (nI 3), .ref (ad 1003), .int (nI ec), .ref (ad 1005), .ref (ad 1006), .ref (ad 1007), .ref (ad 1008), .ref (ad 1009), .int (nI en), .int (if an = true then 1 else 0), .ref (ad 1012), .ref (ad 1013), .ref (ad 1014), .int (nI al), .ref (ad 1016), .ref (ad 1017), .ref (ad 1018), .ref (ad 1019), .int (nI pl), .ref (ad 1021), .int (nI nc), .ref (ad 1023), .ref (ad 1024), .int (nI sz), .ref (ad 1026), .ref (ad 1027), .ref (ad 1028)]) := cx_eq eg8
            have fr : ∀ j : Nat, j ≠ 1000 → g8 j = g j := fun j hj => (cx_ne eg8 j (by omega)).trans (fr j hj)
            refine lv_aload_n hx hb dX6_coefficient_58 rfl (lv_at hl 0 rfl) ?_
            refine ax_get (k := 1000) (v := .int (nI 3)) hx hb hts in_X6_coefficient_X6 hown hK hP (hq _ (by decide)) c_o rfl 2 (by decide) (hts _ wd_X6_coefficient_0) (fun _ h9 => h9) rfl dX6_coefficient_59 ?_
            refine ax_ifeq (a := 3) (tgt := 69) hx hb dX6_coefficient_62 (by decide) (by omega) (fun h62 => ?_) (fun h62 => ?_)
            · skip
              exact absurd h62 (by decide)
            · skip
              refine lv_iconst (v := nI 0) hx hb dX6_coefficient_65 (by decide) ?_
              refine lv_goto (tgt := 84) hx hb dX6_coefficient_66 (by decide) ?_
              exact hret (nI 0) g8 _ _ _ _ rfl ⟨fr, Or.inr (Or.inr (Or.inl ⟨k1, k3, hk1b, hk3b, rfl, rfl, han, nb_n (by omega) h44, c_o⟩))⟩ hP hS dX6_coefficient_84
    · skip
      refine lv_iconst (v := nI 1) hx hb dX6_coefficient_13 (by decide) ?_
      refine lv_goto (tgt := 22) hx hb dX6_coefficient_14 (by decide) ?_
      refine ax_put (k := 1000) (v := .int (nI 1)) (fs' := [.int (nI N), .int (nI V), .int (nI 1), .ref (ad 1003), .int (nI ec), .ref (ad 1005), .ref (ad 1006), .ref (ad 1007), .ref (ad 1008), .ref (ad 1009), .int (nI en), .int (if an = true then 1 else 0), .ref (ad 1012), .ref (ad 1013), .ref (ad 1014), .int (nI al), .ref (ad 1016), .ref (ad 1017), .ref (ad 1018), .ref (ad 1019), .int (nI pl), .ref (ad 1021), .int (nI nc), .ref (ad 1023), .ref (ad 1024), .int (nI sz), .ref (ad 1026), .ref (ad 1027), .ref (ad 1028)]) hx hb hts in_X6_coefficient_X6 tyX6 tyX6_ok nmX6 hown hK hP hD hS (hq _ (by decide)) c_o rfl 2 (by decide) (hts _ wd_X6_coefficient_0) (fun _ h9 => h9) rfl (ty := .int) (by decide +kernel) rfl rfl (Nat.le_of_ble_eq_true rfl) rfl dX6_coefficient_22 (fun H locs g9 eg9 hP hS => ?_)
      have c_W : g9 1018 = nA G 8 rz := (cx_ne eg9 1018 (by omega)).trans c_W
      have c_E : g9 1019 = nA G 200 (vN eq) := (cx_ne eg9 1019 (by omega)).trans c_E
      have c_o : g9 1000 = .inr (6, [.int (nI N), .int (nI V), .int (nI 1), .ref (ad 1003), .int (nI ec), .ref (ad 1005), .ref (ad 1006), .ref (ad 1007), .ref (ad 1008), .ref (ad 1009), .int (nI en), .int (if an = true then 1 else 0), .ref (ad 1012), .ref (ad 1013), .ref (ad 1014), .int (nI al), .ref (ad 1016), .ref (ad 1017), .ref (ad 1018), .ref (ad 1019), .int (nI pl), .ref (ad 1021), .int (nI nc), .ref (ad 1023), .ref (ad 1024), .int (nI sz), .ref (ad 1026), .ref (ad 1027), .ref (ad 1028)]) := cx_eq eg9
      have fr : ∀ j : Nat, j ≠ 1000 → g9 j = g j := fun j hj => (cx_ne eg9 j (by omega)).trans (fr j hj)
      refine lv_aload_n hx hb dX6_coefficient_25 rfl (lv_at hl 0 rfl) ?_
      refine lv_aload_n hx hb dX6_coefficient_26 rfl (lv_at hl 0 rfl) ?_
      refine ax_get (k := 1000) (v := .int (nI 1)) hx hb hts in_X6_coefficient_X6 hown hK hP (hq _ (by decide)) c_o rfl 2 (by decide) (hts _ wd_X6_coefficient_0) (fun _ h9 => h9) rfl dX6_coefficient_27 ?_
      refine ax_ifne (a := 1) (tgt := 51) hx hb dX6_coefficient_30 (by decide) (by omega) (fun h30 => ?_) (fun h30 => ?_)
      · skip
        refine lv_aload_n hx hb dX6_coefficient_51 rfl (lv_at hl 0 rfl) ?_
        refine ax_get (k := 1000) (v := .int (nI 1)) hx hb hts in_X6_coefficient_X6 hown hK hP (hq _ (by decide)) c_o rfl 2 (by decide) (hts _ wd_X6_coefficient_0) (fun _ h9 => h9) rfl dX6_coefficient_52 ?_
        refine ax_put (k := 1000) (v := .int (nI 1)) (fs' := [.int (nI N), .int (nI V), .int (nI 1), .ref (ad 1003), .int (nI ec), .ref (ad 1005), .ref (ad 1006), .ref (ad 1007), .ref (ad 1008), .ref (ad 1009), .int (nI en), .int (if an = true then 1 else 0), .ref (ad 1012), .ref (ad 1013), .ref (ad 1014), .int (nI al), .ref (ad 1016), .ref (ad 1017), .ref (ad 1018), .ref (ad 1019), .int (nI pl), .ref (ad 1021), .int (nI nc), .ref (ad 1023), .ref (ad 1024), .int (nI sz), .ref (ad 1026), .ref (ad 1027), .ref (ad 1028)]) hx hb hts in_X6_coefficient_X6 tyX6 tyX6_ok nmX6 hown hK hP hD hS (hq _ (by decide)) c_o rfl 2 (by decide) (hts _ wd_X6_coefficient_0) (fun _ h9 => h9) rfl (ty := .int) (by decide +kernel) rfl rfl (Nat.le_of_ble_eq_true rfl) rfl dX6_coefficient_55 (fun H locs g10 eg10 hP hS => ?_)
        have c_W : g10 1018 = nA G 8 rz := (cx_ne eg10 1018 (by omega)).trans c_W
        have c_E : g10 1019 = nA G 200 (vN eq) := (cx_ne eg10 1019 (by omega)).trans c_E
        have c_o : g10 1000 = .inr (6, [.int (nI N), .int (nI V), .int (nI 1), .ref (ad 1003), .int (nI ec), .ref (ad 1005), .ref (ad 1006), .ref (ad 1007), .ref (ad 1008), .ref (ad 1009), .int (nI en), .int (if an = true then 1 else 0), .ref (ad 1012), .ref (ad 1013), .ref (ad 1014), .int (nI al), .ref (ad 1016), .ref (ad 1017), .ref (ad 1018), .ref (ad 1019), .int (nI pl), .ref (ad 1021), .int (nI nc), .ref (ad 1023), .ref (ad 1024), .int (nI sz), .ref (ad 1026), .ref (ad 1027), .ref (ad 1028)]) := cx_eq eg10
        have fr : ∀ j : Nat, j ≠ 1000 → g10 j = g j := fun j hj => (cx_ne eg10 j (by omega)).trans (fr j hj)
        refine lv_aload_n hx hb dX6_coefficient_58 rfl (lv_at hl 0 rfl) ?_
        refine ax_get (k := 1000) (v := .int (nI 1)) hx hb hts in_X6_coefficient_X6 hown hK hP (hq _ (by decide)) c_o rfl 2 (by decide) (hts _ wd_X6_coefficient_0) (fun _ h9 => h9) rfl dX6_coefficient_59 ?_
        refine ax_ifeq (a := 1) (tgt := 69) hx hb dX6_coefficient_62 (by decide) (by omega) (fun h62 => ?_) (fun h62 => ?_)
        · skip
          exact absurd h62 (by decide)
        · skip
          refine lv_iconst (v := nI 0) hx hb dX6_coefficient_65 (by decide) ?_
          refine lv_goto (tgt := 84) hx hb dX6_coefficient_66 (by decide) ?_
          exact hret (nI 0) g10 _ _ _ _ rfl ⟨fr, Or.inl ⟨fun q => nb_l (by omega) h10 q.2, c_o⟩⟩ hP hS dX6_coefficient_84
      · skip
        exact absurd h30 (by decide)

set_option maxRecDepth 20000 in
theorem wd_X6_holds_0 : Cond.fieldLink RX6 74 "AffineHullsModel" "thrown" "I" ∈ wsX6_holds := by decide +kernel
set_option maxRecDepth 20000 in
theorem in_X6_holds_X6 : ∀ w ∈ u_ws RX6 TX6 29, w ∈ wsX6_holds := by decide +kernel
set_option maxRecDepth 20000 in
theorem wd_X6_holds_2 : Cond.fieldLink RX6 28 "AffineHullsModel" "many" "[I" ∈ wsX6_holds := by decide +kernel
set_option maxRecDepth 20000 in
theorem wd_X6_holds_3 : Cond.fieldLink RX6 7 "AffineHullsModel" "draft" "[I" ∈ wsX6_holds := by decide +kernel
set_option maxRecDepth 20000 in
theorem wd_X6_holds_4 : Cond.fieldLink RX6 31 "AffineHullsModel" "points" "[I" ∈ wsX6_holds := by decide +kernel
abbrev rm_X6_holds : Room := { frames := 2, cells := 0, slots := 0, locals := 42 }
set_option maxHeartbeats 4000000 in
set_option maxRecDepth 100000 in
theorem c_X6_holds {l : Launch} {G : cx_G} {L : List Nat} {ad : Nat → Nat} {g : Nat → va_E} (hD : cx_D L ad) {N V th ec en al pl nc sz : Nat} {an : Bool} {x1 : Int32} {P : PS} {d pq : Nat → FF} {mn : Nat → Nat} {cm : Nat → Int32} {nd nx : Nat → Nat} (hN1 : 1 ≤ N) (hN : N ≤ 8) (hV1 : 1 ≤ V) (hV : V ≤ 4) (hq : ∀ j : Nat, lbM j = true → j ∈ L) (c_o : g 1000 = .inr (6, [.int (nI N), .int (nI V), .int (nI th), .ref (ad 1003), .int (nI ec), .ref (ad 1005), .ref (ad 1006), .ref (ad 1007), .ref (ad 1008), .ref (ad 1009), .int (nI en), .int (if an = true then 1 else 0), .ref (ad 1012), .ref (ad 1013), .ref (ad 1014), .int (nI al), .ref (ad 1016), .ref (ad 1017), .ref (ad 1018), .ref (ad 1019), .int (nI pl), .ref (ad 1021), .int (nI nc), .ref (ad 1023), .ref (ad 1024), .int (nI sz), .ref (ad 1026), .ref (ad 1027), .ref (ad 1028)])) (c_d : g 1003 = nA G 5 (vN d)) (c_M : g 1012 = nA G 8 mn) (c_Q : g 1013 = nA G 200 (vN pq)) (hd : Zb (V + 1) d) (hqp : QP N P mn pq cm nd nx) (hpv : PV N V P) : MI l yX6_holds wsX6_holds rm_X6_holds G L ad g [.ref (ad 1000), .int x1] (fun r u => (∀ j : Nat, (j ≠ 1000 ∧ j ≠ 1003) → u j = g j) ∧ ∃ rc : Int32, askP N an x1 rc ∧ u 1000 = .inr (6, [.int (nI N), .int (nI V), .int rc, .ref (ad 1003), .int (nI ec), .ref (ad 1005), .ref (ad 1006), .ref (ad 1007), .ref (ad 1008), .ref (ad 1009), .int (nI en), .int (if an = true then 1 else 0), .ref (ad 1012), .ref (ad 1013), .ref (ad 1014), .int (nI al), .ref (ad 1016), .ref (ad 1017), .ref (ad 1018), .ref (ad 1019), .int (nI pl), .ref (ad 1021), .int (nI nc), .ref (ad 1023), .ref (ad 1024), .int (nI sz), .ref (ad 1026), .ref (ad 1027), .ref (ad 1028)]) ∧ u 1003 = nA G 5 (vN (if rc = nI 0 then (fun _ => 0) else d)) ∧ (rc = nI 0 → ∃ k1 : Nat, k1 < N ∧ x1 = nI k1 ∧ r = if hldF (V + 1) d (P.2.2.2.2.1 k1) (P.2.2.2.1 k1) = true then 1 else 0)) := by
  refine cx_ofI (cc := cX6_holds) (maxL := 7) (by decide +kernel) rfl (Nat.le_of_ble_eq_true rfl) ?_
  intro p e s m args below meth c Q hx hb hts hown hml hP hK hS hz hret ls hl
  have hown : s.vm.findClass RX6 = some m.cls := hown
  have hl : lv_has ls 7 [(0, .ref (ad 1000)), (1, .int x1)] := hl
  have fr : ∀ j : Nat, (j ≠ 1000 ∧ j ≠ 1003) → g j = g j := fun _ _ => rfl
  refine lv_aload_n hx hb dX6_holds_0 rfl (lv_at hl 0 rfl) ?_
  refine lv_aload_n hx hb dX6_holds_1 rfl (lv_at hl 0 rfl) ?_
  refine lv_iload_n hx hb dX6_holds_2 rfl (lv_at hl 1 rfl) ?_
  refine cx_Vi (As := [.int x1]) (rest := [.ref (ad 1000)]) ⟨hx, hb, hml, hown, hts⟩ (c_X6_asked hD hN1 hN hV1 hV hq (x1 := x1) c_o) (cwV 1 hts gX6_holds_X6_asked rfl rfl rfl (by decide +kernel) ⟨Nat.le_of_ble_eq_true rfl, Nat.le_of_ble_eq_true rfl⟩) hK hP hS hz (hq _ (by decide)) c_o rfl ⟨Nat.zero_le _, Nat.zero_le _⟩ rfl hl.1 rfl (Nat.le_of_ble_eq_true rfl) dX6_holds_3 (fun r1 g1 H locs hp1 hP hS => ?_)
  obtain ⟨hp1g, hask⟩ := hp1
  rw [hp1g] at hP
  refine ax_put (k := 1000) (v := .int r1) (fs' := [.int (nI N), .int (nI V), .int r1, .ref (ad 1003), .int (nI ec), .ref (ad 1005), .ref (ad 1006), .ref (ad 1007), .ref (ad 1008), .ref (ad 1009), .int (nI en), .int (if an = true then 1 else 0), .ref (ad 1012), .ref (ad 1013), .ref (ad 1014), .int (nI al), .ref (ad 1016), .ref (ad 1017), .ref (ad 1018), .ref (ad 1019), .int (nI pl), .ref (ad 1021), .int (nI nc), .ref (ad 1023), .ref (ad 1024), .int (nI sz), .ref (ad 1026), .ref (ad 1027), .ref (ad 1028)]) hx hb hts in_X6_holds_X6 tyX6 tyX6_ok nmX6 hown hK hP hD hS (hq _ (by decide)) c_o rfl 2 (by decide) (hts _ wd_X6_holds_0) (fun _ h9 => h9) rfl (ty := .int) (by decide +kernel) rfl rfl (Nat.le_of_ble_eq_true rfl) rfl dX6_holds_6 (fun H locs g2 eg2 hP hS => ?_)
  have c_d : g2 1003 = nA G 5 (vN d) := (cx_ne eg2 1003 (by omega)).trans c_d
  have c_M : g2 1012 = nA G 8 mn := (cx_ne eg2 1012 (by omega)).trans c_M
  have c_Q : g2 1013 = nA G 200 (vN pq) := (cx_ne eg2 1013 (by omega)).trans c_Q
  have c_o : g2 1000 = .inr (6, [.int (nI N), .int (nI V), .int r1, .ref (ad 1003), .int (nI ec), .ref (ad 1005), .ref (ad 1006), .ref (ad 1007), .ref (ad 1008), .ref (ad 1009), .int (nI en), .int (if an = true then 1 else 0), .ref (ad 1012), .ref (ad 1013), .ref (ad 1014), .int (nI al), .ref (ad 1016), .ref (ad 1017), .ref (ad 1018), .ref (ad 1019), .int (nI pl), .ref (ad 1021), .int (nI nc), .ref (ad 1023), .ref (ad 1024), .int (nI sz), .ref (ad 1026), .ref (ad 1027), .ref (ad 1028)]) := cx_eq eg2
  have fr : ∀ j : Nat, (j ≠ 1000 ∧ j ≠ 1003) → g2 j = g j := fun j hj => (cx_ne eg2 j (by omega)).trans (fr j hj)
  refine lv_aload_n hx hb dX6_holds_9 rfl (lv_at hl 0 rfl) ?_
  refine ax_get (k := 1000) (v := .int r1) hx hb hts in_X6_holds_X6 hown hK hP (hq _ (by decide)) c_o rfl 2 (by decide) (hts _ wd_X6_holds_0) (fun _ h9 => h9) rfl dX6_holds_10 ?_
  refine lv_if_eq (x := r1) (tgt := 18) hx hb dX6_holds_13 (by decide) (fun h13 => ?_) (fun h13 => ?_)
  · skip
    obtain ⟨rfl, ⟨k1, hk1a, hk1b, rfl⟩, han⟩ := askP_0 hask h13
    have hcm := hqp.1 k1 hk1b
    have hc5 := hpv.cnt hk1b
    refine lv_iconst (v := nI 1) hx hb dX6_holds_18 (by decide) ?_
    refine lv_istore_n (lv' := [(2, .int (nI 1)), (0, .ref (ad 1000)), (1, .int (nI k1))]) hx hb dX6_holds_19 rfl hl (by decide) rfl (fun ls hl => ?_)
    refine lv_iconst (v := nI 0) hx hb dX6_holds_20 (by decide) ?_
    refine lv_istore_n (lv' := [(3, .int (nI 0)), (2, .int (nI 1)), (0, .ref (ad 1000)), (1, .int (nI k1))]) hx hb dX6_holds_21 rfl hl (by decide) rfl (fun ls hl => ?_)
    have LP22 : ∀ (fu : Nat) (i : Nat) (iq : Nat), (i ≤ mn k1) → ((iq = 1 ∧ ∀ a : Nat, a < i → dot d (P.2.2.2.2.1 k1 a) (V + 1) = 0) ∨ (iq = 0 ∧ ¬ ∀ a : Nat, a < i → dot d (P.2.2.2.2.1 k1 a) (V + 1) = 0)) → (mn k1 - i) < fu → ∀ (H : Heap) (locs : List Loc) (ls : Array Slot), va_P G.1 vwCl (wl L ad g2) H → va_S (cx_A L ad s.heap.size) s.heap H locs → lv_has ls 7 [(3, .int (nI i)), (2, .int (nI iq)), (0, .ref (ad 1000)), (1, .int (nI k1))] → W p l e rm_X6_holds s m args below meth c H locs 0 0 Q (F0 m 22 ls []) := by
      intro fu
      induction fu with
      | zero => intro i iq him hiq hfu; exact absurd hfu (Nat.not_lt_zero _)
      | succ fu ih22 =>
        intro i iq him hiq hfu22 H locs ls hP hS hl
        have hiq01 : iq = 0 ∨ iq = 1 := hiq.elim (fun z => Or.inr z.1) (fun z => Or.inl z.1)
        refine lv_iload_n hx hb dX6_holds_22 rfl (lv_at hl 0 rfl) ?_
        refine lv_aload_n hx hb dX6_holds_23 rfl (lv_at hl 2 rfl) ?_
        refine ax_get (k := 1000) (v := .ref (ad 1012)) hx hb hts in_X6_holds_X6 hown hK hP (hq _ (by decide)) c_o rfl 12 (by decide) (hts _ wd_X6_holds_2) (fun _ h9 => h9) rfl dX6_holds_24 ?_
        refine lv_iload_n hx hb dX6_holds_27 rfl (lv_at hl 3 rfl) ?_
        refine ax_iald (k := 1012) (i := k1) (v := nI (mn k1)) hx hb hK hP (hq _ (by decide)) c_M (by omega) (by omega) rfl dX6_holds_28 ?_
        refine ax_icge (a := i) (b := mn k1) (tgt := 105) hx hb dX6_holds_29 (by decide) (by omega) (by omega) (fun h29 => ?_) (fun h29 => ?_)
        · skip
          refine lv_aload_n hx hb dX6_holds_105 rfl (lv_at hl 2 rfl) ?_
          refine cx_Vv (As := []) (rest := []) ⟨hx, hb, hml, hown, hts⟩ (c_X6_clearDraft hD hN1 hN hV1 hV hq c_o c_d hd) (cwV 0 hts gX6_holds_X6_clearDraft rfl rfl rfl (by decide +kernel) ⟨Nat.le_of_ble_eq_true rfl, Nat.le_of_ble_eq_true rfl⟩) hK hP hS hz (hq _ (by decide)) c_o rfl ⟨Nat.zero_le _, Nat.zero_le _⟩ rfl hl.1 rfl (Nat.le_of_ble_eq_true rfl) dX6_holds_106 (fun g4 H locs hp4 hP hS => ?_)
          obtain ⟨hp4a, hp4b⟩ := hp4
          have c_o : g4 1000 = .inr (6, [.int (nI N), .int (nI V), .int (nI 0), .ref (ad 1003), .int (nI ec), .ref (ad 1005), .ref (ad 1006), .ref (ad 1007), .ref (ad 1008), .ref (ad 1009), .int (nI en), .int (if an = true then 1 else 0), .ref (ad 1012), .ref (ad 1013), .ref (ad 1014), .int (nI al), .ref (ad 1016), .ref (ad 1017), .ref (ad 1018), .ref (ad 1019), .int (nI pl), .ref (ad 1021), .int (nI nc), .ref (ad 1023), .ref (ad 1024), .int (nI sz), .ref (ad 1026), .ref (ad 1027), .ref (ad 1028)]) := (hp4a 1000 (by omega)).trans c_o
          have c_M : g4 1012 = nA G 8 mn := (hp4a 1012 (by omega)).trans c_M
          have c_Q : g4 1013 = nA G 200 (vN pq) := (hp4a 1013 (by omega)).trans c_Q
          have fr : ∀ j : Nat, (j ≠ 1000 ∧ j ≠ 1003) → g4 j = g j := fun j hj => (hp4a j (by omega)).trans (fr j hj)
          have c_d := hp4b
          have c_d : g4 1003 = nA G 5 (vN (if nI 0 = nI 0 then (fun _ => 0) else d)) := by rw [if_pos rfl]; exact c_d
          refine lv_iload_n hx hb dX6_holds_109 rfl (lv_at hl 1 rfl) ?_
          exact hret (nI iq) g4 _ _ _ _ (nr01 hiq01) ⟨fr, _, hask, c_o, c_d, fun _ => ⟨k1, hk1b, rfl, hiq.elim (fun z => by rw [z.1]; exact hld_t (fun a ha => z.2 a (by omega))) (fun z => by rw [z.1, show hldF (V + 1) d (P.2.2.2.2.1 k1) (P.2.2.2.1 k1) = false from decide_eq_false (fun q => z.2 (fun a ha => q a (by omega)))]; rfl)⟩⟩ hP hS dX6_holds_110
        · skip
          refine lv_lconst (v := lN 0) hx hb dX6_holds_32 rfl ?_
          refine lv_lstore (lv' := [(4, .long (lN 0)), (3, .int (nI i)), (2, .int (nI iq)), (0, .ref (ad 1000)), (1, .int (nI k1))]) hx hb dX6_holds_33 hl (by decide) rfl (fun ls hl => ?_)
          refine lv_iconst (v := nI 0) hx hb dX6_holds_35 (by decide) ?_
          refine lv_istore (lv' := [(6, .int (nI 0)), (4, .long (lN 0)), (3, .int (nI i)), (2, .int (nI iq)), (0, .ref (ad 1000)), (1, .int (nI k1))]) hx hb dX6_holds_36 hl (by decide) rfl (fun ls hl => ?_)
          have LP38 : ∀ (fu : Nat) (k : Nat), (k ≤ 5) → (5 - k) < fu → ∀ (ls : Array Slot), lv_has ls 7 [(4, .long (lN (dotN d (fun k => pq (25 * k1 + 5 * i + k)) k))), (6, .int (nI k)), (3, .int (nI i)), (2, .int (nI iq)), (0, .ref (ad 1000)), (1, .int (nI k1))] → W p l e rm_X6_holds s m args below meth c H locs 0 0 Q (F0 m 38 ls []) := by
            intro fu
            induction fu with
            | zero => intro k hk5 hfu; exact absurd hfu (Nat.not_lt_zero _)
            | succ fu ih38 =>
              intro k hk5 hfu38 ls hl
              refine lv_iload hx hb dX6_holds_38 (lv_at hl 1 rfl) ?_
              refine lv_iconst (v := nI 5) hx hb dX6_holds_40 (by decide) ?_
              refine ax_icge (a := k) (b := 5) (tgt := 81) hx hb dX6_holds_41 (by decide) (by omega) (by omega) (fun h41 => ?_) (fun h41 => ?_)
              · skip
                refine lv_iload_n hx hb dX6_holds_81 rfl (lv_at hl 3 rfl) ?_
                refine ax_ifeq (a := iq) (tgt := 97) hx hb dX6_holds_82 (by decide) (by omega) (fun h82 => ?_) (fun h82 => ?_)
                · skip
                  refine lv_iconst (v := nI 0) hx hb dX6_holds_97 (by decide) ?_
                  refine lv_istore_n (lv' := [(2, .int (nI 0)), (4, .long (lN (dotN d (fun k => pq (25 * k1 + 5 * i + k)) k))), (6, .int (nI k)), (3, .int (nI i)), (0, .ref (ad 1000)), (1, .int (nI k1))]) hx hb dX6_holds_98 rfl hl (by decide) rfl (fun ls hl => ?_)
                  refine lv_iinc (v := nI (i + 1)) (lv' := [(3, .int (nI (i + 1))), (2, .int (nI 0)), (4, .long (lN (dotN d (fun k => pq (25 * k1 + 5 * i + k)) k))), (6, .int (nI k)), (0, .ref (ad 1000)), (1, .int (nI k1))]) hx hb dX6_holds_99 hl (k := 3) rfl (nI_1 _) (by decide) rfl (fun ls hl => ?_)
                  refine lv_goto (tgt := 22) hx hb dX6_holds_102 (by decide) ?_
                  exact ih22 (i + 1) 0 (by omega) (Or.inr ⟨rfl, fun z => (hiq.resolve_left (fun q => absurd (q.1.symm.trans h82) (by decide))).2 (fun a ha => z a (by omega))⟩) (by omega) _ _ _ hP hS (lv_sub hl [0, 1, 4, 5] rfl)
                · skip
                  refine lv_lload hx hb dX6_holds_85 (lv_at hl 0 rfl) ?_
                  refine cx_Si (As := [.long (lN (dotN d (fun k => pq (25 * k1 + 5 * i + k)) k))]) (rest := []) ⟨hx, hb, hml, hown, hts⟩ (c_X6_mod hD (x := lN (dotN d (fun k => pq (25 * k1 + 5 * i + k)) k))) (va_cwS 1 hts gX6_holds_X6_mod rfl rfl rfl (by decide +kernel) ⟨Nat.le_of_ble_eq_true rfl, Nat.le_of_ble_eq_true rfl⟩) hK hP hS hz ⟨Nat.zero_le _, Nat.zero_le _⟩ rfl hl.1 rfl (Nat.le_of_ble_eq_true rfl) dX6_holds_87 (fun r6 g6 H locs hp6 hP hS => ?_)
                  obtain ⟨er6, ehp6g⟩ := hp6
                  rw [ehp6g] at hP
                  rw [er6]
                  rw [show fi (lN (dotN d (fun k => pq (25 * k1 + 5 * i + k)) k)).toInt = dot d (P.2.2.2.2.1 k1 i) (V + 1) from by rw [ln_fi (by have := dotN_le d (fun k => pq (25 * k1 + 5 * i + k)) k; omega), dotN_ff, show k = 5 by omega, dot_cg (u := d) (v := (fun k => pq (25 * k1 + 5 * i + k))) (w := d) (z := P.2.2.2.2.1 k1 i) (fun _ _ => rfl) (fun q hq5 => hqp.2.1 k1 i q hk1b (by omega) hq5), dot_zb hd (by omega)]]
                  have b3 := (dot d (P.2.2.2.2.1 k1 i) (V + 1)).isLt
                  refine ax_ifne (a := (dot d (P.2.2.2.2.1 k1 i) (V + 1)).val) (tgt := 97) hx hb dX6_holds_90 (by decide) (by omega) (fun h90 => ?_) (fun h90 => ?_)
                  · skip
                    refine lv_iconst (v := nI 0) hx hb dX6_holds_97 (by decide) ?_
                    refine lv_istore_n (lv' := [(2, .int (nI 0)), (4, .long (lN (dotN d (fun k => pq (25 * k1 + 5 * i + k)) k))), (6, .int (nI k)), (3, .int (nI i)), (0, .ref (ad 1000)), (1, .int (nI k1))]) hx hb dX6_holds_98 rfl hl (by decide) rfl (fun ls hl => ?_)
                    refine lv_iinc (v := nI (i + 1)) (lv' := [(3, .int (nI (i + 1))), (2, .int (nI 0)), (4, .long (lN (dotN d (fun k => pq (25 * k1 + 5 * i + k)) k))), (6, .int (nI k)), (0, .ref (ad 1000)), (1, .int (nI k1))]) hx hb dX6_holds_99 hl (k := 3) rfl (nI_1 _) (by decide) rfl (fun ls hl => ?_)
                    refine lv_goto (tgt := 22) hx hb dX6_holds_102 (by decide) ?_
                    exact ih22 (i + 1) 0 (by omega) (Or.inr ⟨rfl, fun z => h90 (by rw [z i (by omega)]; rfl)⟩) (by omega) _ _ _ hP hS (lv_sub hl [0, 1, 4, 5] rfl)
                  · skip
                    refine lv_iconst (v := nI 1) hx hb dX6_holds_93 (by decide) ?_
                    refine lv_goto (tgt := 98) hx hb dX6_holds_94 (by decide) ?_
                    refine lv_istore_n (lv' := [(2, .int (nI 1)), (4, .long (lN (dotN d (fun k => pq (25 * k1 + 5 * i + k)) k))), (6, .int (nI k)), (3, .int (nI i)), (0, .ref (ad 1000)), (1, .int (nI k1))]) hx hb dX6_holds_98 rfl hl (by decide) rfl (fun ls hl => ?_)
                    refine lv_iinc (v := nI (i + 1)) (lv' := [(3, .int (nI (i + 1))), (2, .int (nI 1)), (4, .long (lN (dotN d (fun k => pq (25 * k1 + 5 * i + k)) k))), (6, .int (nI k)), (0, .ref (ad 1000)), (1, .int (nI k1))]) hx hb dX6_holds_99 hl (k := 3) rfl (nI_1 _) (by decide) rfl (fun ls hl => ?_)
                    refine lv_goto (tgt := 22) hx hb dX6_holds_102 (by decide) ?_
                    exact ih22 (i + 1) 1 (by omega) (Or.inl ⟨rfl, fun a ha => by by_cases e9 : a = i; exact (by rw [e9]; exact Fin.ext h90); exact (hiq.resolve_right (fun z => h82 z.1)).2 a (by omega)⟩) (by omega) _ _ _ hP hS (lv_sub hl [0, 1, 4, 5] rfl)
              · skip
                have b1 := vN_lt d k
                have b2 := vN_lt pq (25 * k1 + 5 * i + k)
                refine lv_lload hx hb dX6_holds_44 (lv_at hl 0 rfl) ?_
                refine lv_aload_n hx hb dX6_holds_46 rfl (lv_at hl 4 rfl) ?_
                refine ax_get (k := 1000) (v := .ref (ad 1003)) hx hb hts in_X6_holds_X6 hown hK hP (hq _ (by decide)) c_o rfl 3 (by decide) (hts _ wd_X6_holds_3) (fun _ h9 => h9) rfl dX6_holds_47 ?_
                refine lv_iload hx hb dX6_holds_50 (lv_at hl 1 rfl) ?_
                refine ax_iald (k := 1003) (i := k) (v := nI ((vN d) k)) hx hb hK hP (hq _ (by decide)) c_d (by omega) (by omega) rfl dX6_holds_52 ?_
                refine ax_i2l (a := (vN d) k) hx hb dX6_holds_53 (by omega) ?_
                refine lv_aload_n hx hb dX6_holds_54 rfl (lv_at hl 4 rfl) ?_
                refine ax_get (k := 1000) (v := .ref (ad 1013)) hx hb hts in_X6_holds_X6 hown hK hP (hq _ (by decide)) c_o rfl 13 (by decide) (hts _ wd_X6_holds_4) (fun _ h9 => h9) rfl dX6_holds_55 ?_
                refine lv_bipush (v := nI 25) hx hb dX6_holds_58 (by decide) ?_
                refine lv_iload_n hx hb dX6_holds_60 rfl (lv_at hl 5 rfl) ?_
                refine ax_mul (a := 25) (b := k1) hx hb dX6_holds_61 ?_
                refine lv_iconst (v := nI 5) hx hb dX6_holds_62 (by decide) ?_
                refine lv_iload_n hx hb dX6_holds_63 rfl (lv_at hl 2 rfl) ?_
                refine ax_mul (a := 5) (b := i) hx hb dX6_holds_64 ?_
                refine ax_add (a := 25 * k1) (b := 5 * i) hx hb dX6_holds_65 ?_
                refine lv_iload hx hb dX6_holds_66 (lv_at hl 1 rfl) ?_
                refine ax_add (a := 25 * k1 + (5 * i)) (b := k) hx hb dX6_holds_68 ?_
                refine ax_iald (k := 1013) (i := 25 * k1 + (5 * i) + k) (v := nI ((vN pq) (25 * k1 + (5 * i) + k))) hx hb hK hP (hq _ (by decide)) c_Q (by omega) (by omega) rfl dX6_holds_69 ?_
                refine ax_i2l (a := (vN pq) (25 * k1 + (5 * i) + k)) hx hb dX6_holds_70 (by omega) ?_
                refine ax_lmul (a := (vN d) k) (b := (vN pq) (25 * k1 + (5 * i) + k)) hx hb dX6_holds_71 ?_
                refine ax_ladd (a := dotN d (fun k => pq (25 * k1 + 5 * i + k)) k) (b := ((vN d) k) * ((vN pq) (25 * k1 + (5 * i) + k))) hx hb dX6_holds_72 ?_
                refine lv_lstore (lv' := [(4, .long (lN (dotN d (fun k => pq (25 * k1 + 5 * i + k)) k + (((vN d) k) * ((vN pq) (25 * k1 + (5 * i) + k)))))), (6, .int (nI k)), (3, .int (nI i)), (2, .int (nI iq)), (0, .ref (ad 1000)), (1, .int (nI k1))]) hx hb dX6_holds_73 hl (by decide) rfl (fun ls hl => ?_)
                refine lv_iinc (v := nI (k + 1)) (lv' := [(6, .int (nI (k + 1))), (4, .long (lN (dotN d (fun k => pq (25 * k1 + 5 * i + k)) k + (((vN d) k) * ((vN pq) (25 * k1 + (5 * i) + k)))))), (3, .int (nI i)), (2, .int (nI iq)), (0, .ref (ad 1000)), (1, .int (nI k1))]) hx hb dX6_holds_75 hl (k := 1) rfl (nI_1 _) (by decide) rfl (fun ls hl => ?_)
                refine lv_goto (tgt := 38) hx hb dX6_holds_78 (by decide) ?_
                exact ih38 (k + 1) h41 (by omega) _ (lv_sub hl [1, 0, 2, 3, 4, 5] rfl)
          exact LP38 ((5 - 0) + 1) 0 (Nat.zero_le _) (Nat.lt_succ_self _) _ (lv_sub hl [1, 0, 2, 3, 4, 5] rfl)
    exact LP22 ((mn k1 - 0) + 1) 0 1 (Nat.zero_le _) (Or.inl ⟨rfl, fun a ha => absurd ha (Nat.not_lt_zero a)⟩) (Nat.lt_succ_self _) _ _ _ hP hS (lv_sub hl [0, 1, 2, 3] rfl)
  · skip
    have c_d : g2 1003 = nA G 5 (vN (if r1 = nI 0 then (fun _ => 0) else d)) := by rw [if_neg (fun z => h13 (z.trans nI_0))]; exact c_d
    refine lv_iconst (v := nI 0) hx hb dX6_holds_16 (by decide) ?_
    exact hret (nI 0) g2 _ _ _ _ (by decide) ⟨fr, _, hask, c_o, c_d, fun z => absurd (z.trans nI_0) h13⟩ hP hS dX6_holds_17

set_option maxRecDepth 20000 in
theorem wd_X6_go_0 : Cond.fieldLink RX6 74 "AffineHullsModel" "thrown" "I" ∈ wsX6_go := by decide +kernel
set_option maxRecDepth 20000 in
theorem in_X6_go_X6 : ∀ w ∈ u_ws RX6 TX6 29, w ∈ wsX6_go := by decide +kernel
set_option maxRecDepth 20000 in
theorem wd_X6_go_2 : Cond.fieldLink RX6 103 "AffineHullsModel" "edges" "I" ∈ wsX6_go := by decide +kernel
set_option maxRecDepth 20000 in
theorem wd_X6_go_3 : Cond.fieldLink RX6 13 "AffineHullsModel" "froms" "[I" ∈ wsX6_go := by decide +kernel
set_option maxRecDepth 20000 in
theorem wd_X6_go_4 : Cond.fieldLink RX6 116 "AffineHullsModel" "where" "I" ∈ wsX6_go := by decide +kernel
set_option maxRecDepth 20000 in
theorem wd_X6_go_5 : Cond.fieldLink RX6 19 "AffineHullsModel" "kinds" "[I" ∈ wsX6_go := by decide +kernel
set_option maxRecDepth 20000 in
theorem wd_X6_go_6 : Cond.fieldLink RX6 16 "AffineHullsModel" "tos" "[I" ∈ wsX6_go := by decide +kernel
set_option maxRecDepth 20000 in
theorem wd_X6_go_7 : Cond.fieldLink RX6 49 "AffineHullsModel" "values" "[I" ∈ wsX6_go := by decide +kernel
set_option maxRecDepth 20000 in
theorem wd_X6_go_8 : Cond.fieldLink RX6 64 "AffineHullsModel" "row" "[I" ∈ wsX6_go := by decide +kernel
abbrev rm_X6_go : Room := { frames := 3, cells := 0, slots := 0, locals := 69 }
set_option maxHeartbeats 4000000 in
set_option maxRecDepth 100000 in
theorem c_X6_go {l : Launch} {G : cx_G} {L : List Nat} {ad : Nat → Nat} {g : Nat → va_E} (hD : cx_D L ad) {N V th ec en al pl nc sz : Nat} {an : Bool} {x1 x2 : Int32} {va : Nat → FF} {ef et ek ev : Nat → Nat} {ez : Nat → Int32} {eg : Nat → Nat → FF} {fm rr : Nat → FF} (hN1 : 1 ≤ N) (hN : N ≤ 8) (hV1 : 1 ≤ V) (hV : V ≤ 4) (hq : ∀ j : Nat, lbM j = true → j ∈ L) (c_o : g 1000 = .inr (6, [.int (nI N), .int (nI V), .int (nI th), .ref (ad 1003), .int (nI ec), .ref (ad 1005), .ref (ad 1006), .ref (ad 1007), .ref (ad 1008), .ref (ad 1009), .int (nI en), .int (if an = true then 1 else 0), .ref (ad 1012), .ref (ad 1013), .ref (ad 1014), .int (nI al), .ref (ad 1016), .ref (ad 1017), .ref (ad 1018), .ref (ad 1019), .int (nI pl), .ref (ad 1021), .int (nI nc), .ref (ad 1023), .ref (ad 1024), .int (nI sz), .ref (ad 1026), .ref (ad 1027), .ref (ad 1028)])) (c_v : g 1021 = nA G 5 (vN va)) (c_K : g 1007 = nA G 20 ek) (c_Z : g 1008 = iA G 20 ez) (c_F : g 1009 = nA G 100 (vN fm)) (c_TO : g 1006 = nA G 20 et) (c_R : g 1028 = nA G 5 (vN rr)) (c_FO : g 1005 = nA G 20 ef) (hpl : pl < N) (hva : Zb (V + 1) va) (hzr : Zb 5 rr) (hfr : FR fm eg) (hev : EV N V ec ef et ek ez ev eg) : MI l yX6_go wsX6_go rm_X6_go G L ad g [.ref (ad 1000), .int x1, .int x2] (fun r u => (∀ j : Nat, (j ≠ 1000 ∧ j ≠ 1021 ∧ j ≠ 1028) → u j = g j) ∧ ∃ rr2 : Nat → FF, Zb 5 rr2 ∧ u 1028 = nA G 5 (vN rr2) ∧ ((∃ k1 : Nat, k1 < ec ∧ x1 = nI k1 ∧ ef k1 = pl ∧ ((r = nI 0 ∧ nI 0 = (if opn (ek k1) (dot (eg k1) va (V + 1)) = true then 1 else 0) ∧ u 1000 = .inr (6, [.int (nI N), .int (nI V), .int (nI 0), .ref (ad 1003), .int (nI ec), .ref (ad 1005), .ref (ad 1006), .ref (ad 1007), .ref (ad 1008), .ref (ad 1009), .int (nI en), .int (if an = true then 1 else 0), .ref (ad 1012), .ref (ad 1013), .ref (ad 1014), .int (nI al), .ref (ad 1016), .ref (ad 1017), .ref (ad 1018), .ref (ad 1019), .int (nI pl), .ref (ad 1021), .int (nI nc), .ref (ad 1023), .ref (ad 1024), .int (nI sz), .ref (ad 1026), .ref (ad 1027), .ref (ad 1028)]) ∧ u 1021 = nA G 5 (vN va)) ∨ (r = nI 1 ∧ nI 1 = (if opn (ek k1) (dot (eg k1) va (V + 1)) = true then 1 else 0) ∧ u 1000 = .inr (6, [.int (nI N), .int (nI V), .int (nI 0), .ref (ad 1003), .int (nI ec), .ref (ad 1005), .ref (ad 1006), .ref (ad 1007), .ref (ad 1008), .ref (ad 1009), .int (nI en), .int (if an = true then 1 else 0), .ref (ad 1012), .ref (ad 1013), .ref (ad 1014), .int (nI al), .ref (ad 1016), .ref (ad 1017), .ref (ad 1018), .ref (ad 1019), .int (nI (et k1)), .ref (ad 1021), .int (nI nc), .ref (ad 1023), .ref (ad 1024), .int (nI sz), .ref (ad 1026), .ref (ad 1027), .ref (ad 1028)]) ∧ u 1021 = nA G 5 (vN (stepF (V + 1) (ek k1) (ev k1) (eg k1) (fi x2.toInt) va))))) ∨ ((¬ ∃ k : Nat, k < ec ∧ x1 = nI k ∧ ef k = pl) ∧ u 1000 = .inr (6, [.int (nI N), .int (nI V), .int (nI 1), .ref (ad 1003), .int (nI ec), .ref (ad 1005), .ref (ad 1006), .ref (ad 1007), .ref (ad 1008), .ref (ad 1009), .int (nI en), .int (if an = true then 1 else 0), .ref (ad 1012), .ref (ad 1013), .ref (ad 1014), .int (nI al), .ref (ad 1016), .ref (ad 1017), .ref (ad 1018), .ref (ad 1019), .int (nI pl), .ref (ad 1021), .int (nI nc), .ref (ad 1023), .ref (ad 1024), .int (nI sz), .ref (ad 1026), .ref (ad 1027), .ref (ad 1028)]) ∧ u 1021 = nA G 5 (vN va)))) := by
  refine cx_ofI (cc := cX6_go) (maxL := 4) (by decide +kernel) rfl (Nat.le_of_ble_eq_true rfl) ?_
  intro p e s m args below meth c Q hx hb hts hown hml hP hK hS hz hret ls hl
  have hown : s.vm.findClass RX6 = some m.cls := hown
  have hl : lv_has ls 4 [(0, .ref (ad 1000)), (1, .int x1), (2, .int x2)] := hl
  have fr : ∀ j : Nat, (j ≠ 1000 ∧ j ≠ 1021 ∧ j ≠ 1028) → g j = g j := fun _ _ => rfl
  have hec := hev.1
  have hzf := hev.2.2
  refine lv_aload_n hx hb dX6_go_0 rfl (lv_at hl 0 rfl) ?_
  refine lv_iload_n hx hb dX6_go_1 rfl (lv_at hl 1 rfl) ?_
  refine lv_if_lt (x := x1) (tgt := 26) hx hb dX6_go_2 (by decide) (fun h2 => ?_) (fun h2 => ?_)
  · skip
    refine lv_iconst (v := nI 1) hx hb dX6_go_26 (by decide) ?_
    refine lv_goto (tgt := 31) hx hb dX6_go_27 (by decide) ?_
    refine ax_put (k := 1000) (v := .int (nI 1)) (fs' := [.int (nI N), .int (nI V), .int (nI 1), .ref (ad 1003), .int (nI ec), .ref (ad 1005), .ref (ad 1006), .ref (ad 1007), .ref (ad 1008), .ref (ad 1009), .int (nI en), .int (if an = true then 1 else 0), .ref (ad 1012), .ref (ad 1013), .ref (ad 1014), .int (nI al), .ref (ad 1016), .ref (ad 1017), .ref (ad 1018), .ref (ad 1019), .int (nI pl), .ref (ad 1021), .int (nI nc), .ref (ad 1023), .ref (ad 1024), .int (nI sz), .ref (ad 1026), .ref (ad 1027), .ref (ad 1028)]) hx hb hts in_X6_go_X6 tyX6 tyX6_ok nmX6 hown hK hP hD hS (hq _ (by decide)) c_o rfl 2 (by decide) (hts _ wd_X6_go_0) (fun _ h9 => h9) rfl (ty := .int) (by decide +kernel) rfl rfl (Nat.le_of_ble_eq_true rfl) rfl dX6_go_31 (fun H locs g1 eg1 hP hS => ?_)
    have c_v : g1 1021 = nA G 5 (vN va) := (cx_ne eg1 1021 (by omega)).trans c_v
    have c_K : g1 1007 = nA G 20 ek := (cx_ne eg1 1007 (by omega)).trans c_K
    have c_Z : g1 1008 = iA G 20 ez := (cx_ne eg1 1008 (by omega)).trans c_Z
    have c_F : g1 1009 = nA G 100 (vN fm) := (cx_ne eg1 1009 (by omega)).trans c_F
    have c_TO : g1 1006 = nA G 20 et := (cx_ne eg1 1006 (by omega)).trans c_TO
    have c_R : g1 1028 = nA G 5 (vN rr) := (cx_ne eg1 1028 (by omega)).trans c_R
    have c_FO : g1 1005 = nA G 20 ef := (cx_ne eg1 1005 (by omega)).trans c_FO
    have c_o : g1 1000 = .inr (6, [.int (nI N), .int (nI V), .int (nI 1), .ref (ad 1003), .int (nI ec), .ref (ad 1005), .ref (ad 1006), .ref (ad 1007), .ref (ad 1008), .ref (ad 1009), .int (nI en), .int (if an = true then 1 else 0), .ref (ad 1012), .ref (ad 1013), .ref (ad 1014), .int (nI al), .ref (ad 1016), .ref (ad 1017), .ref (ad 1018), .ref (ad 1019), .int (nI pl), .ref (ad 1021), .int (nI nc), .ref (ad 1023), .ref (ad 1024), .int (nI sz), .ref (ad 1026), .ref (ad 1027), .ref (ad 1028)]) := cx_eq eg1
    have fr : ∀ j : Nat, (j ≠ 1000 ∧ j ≠ 1021 ∧ j ≠ 1028) → g1 j = g j := fun j hj => (cx_ne eg1 j (by omega)).trans (fr j hj)
    refine lv_aload_n hx hb dX6_go_34 rfl (lv_at hl 0 rfl) ?_
    refine ax_get (k := 1000) (v := .int (nI 1)) hx hb hts in_X6_go_X6 hown hK hP (hq _ (by decide)) c_o rfl 2 (by decide) (hts _ wd_X6_go_0) (fun _ h9 => h9) rfl dX6_go_35 ?_
    refine ax_ifeq (a := 1) (tgt := 43) hx hb dX6_go_38 (by decide) (by omega) (fun h38 => ?_) (fun h38 => ?_)
    · skip
      exact absurd h38 (by decide)
    · skip
      refine lv_iconst (v := nI 0) hx hb dX6_go_41 (by decide) ?_
      exact hret (nI 0) g1 _ _ _ _ (by decide) ⟨fr, rr, hzr, c_R, Or.inr ⟨fun ⟨k, q1, q2, q3⟩ => nb_0 (n := ec) (by omega) h2 ⟨k, Nat.zero_le _, q1, q2⟩, c_o, c_v⟩⟩ hP hS dX6_go_42
  · skip
    refine lv_iload_n hx hb dX6_go_5 rfl (lv_at hl 1 rfl) ?_
    refine lv_aload_n hx hb dX6_go_6 rfl (lv_at hl 0 rfl) ?_
    refine ax_get (k := 1000) (v := .int (nI ec)) hx hb hts in_X6_go_X6 hown hK hP (hq _ (by decide)) c_o rfl 4 (by decide) (hts _ wd_X6_go_2) (fun _ h9 => h9) rfl dX6_go_7 ?_
    refine lv_icmp_ge (x := x1) (y := nI ec) (tgt := 26) hx hb dX6_go_10 (by decide) (fun h10 => ?_) (fun h10 => ?_)
    · skip
      refine lv_iconst (v := nI 1) hx hb dX6_go_26 (by decide) ?_
      refine lv_goto (tgt := 31) hx hb dX6_go_27 (by decide) ?_
      refine ax_put (k := 1000) (v := .int (nI 1)) (fs' := [.int (nI N), .int (nI V), .int (nI 1), .ref (ad 1003), .int (nI ec), .ref (ad 1005), .ref (ad 1006), .ref (ad 1007), .ref (ad 1008), .ref (ad 1009), .int (nI en), .int (if an = true then 1 else 0), .ref (ad 1012), .ref (ad 1013), .ref (ad 1014), .int (nI al), .ref (ad 1016), .ref (ad 1017), .ref (ad 1018), .ref (ad 1019), .int (nI pl), .ref (ad 1021), .int (nI nc), .ref (ad 1023), .ref (ad 1024), .int (nI sz), .ref (ad 1026), .ref (ad 1027), .ref (ad 1028)]) hx hb hts in_X6_go_X6 tyX6 tyX6_ok nmX6 hown hK hP hD hS (hq _ (by decide)) c_o rfl 2 (by decide) (hts _ wd_X6_go_0) (fun _ h9 => h9) rfl (ty := .int) (by decide +kernel) rfl rfl (Nat.le_of_ble_eq_true rfl) rfl dX6_go_31 (fun H locs g2 eg2 hP hS => ?_)
      have c_v : g2 1021 = nA G 5 (vN va) := (cx_ne eg2 1021 (by omega)).trans c_v
      have c_K : g2 1007 = nA G 20 ek := (cx_ne eg2 1007 (by omega)).trans c_K
      have c_Z : g2 1008 = iA G 20 ez := (cx_ne eg2 1008 (by omega)).trans c_Z
      have c_F : g2 1009 = nA G 100 (vN fm) := (cx_ne eg2 1009 (by omega)).trans c_F
      have c_TO : g2 1006 = nA G 20 et := (cx_ne eg2 1006 (by omega)).trans c_TO
      have c_R : g2 1028 = nA G 5 (vN rr) := (cx_ne eg2 1028 (by omega)).trans c_R
      have c_FO : g2 1005 = nA G 20 ef := (cx_ne eg2 1005 (by omega)).trans c_FO
      have c_o : g2 1000 = .inr (6, [.int (nI N), .int (nI V), .int (nI 1), .ref (ad 1003), .int (nI ec), .ref (ad 1005), .ref (ad 1006), .ref (ad 1007), .ref (ad 1008), .ref (ad 1009), .int (nI en), .int (if an = true then 1 else 0), .ref (ad 1012), .ref (ad 1013), .ref (ad 1014), .int (nI al), .ref (ad 1016), .ref (ad 1017), .ref (ad 1018), .ref (ad 1019), .int (nI pl), .ref (ad 1021), .int (nI nc), .ref (ad 1023), .ref (ad 1024), .int (nI sz), .ref (ad 1026), .ref (ad 1027), .ref (ad 1028)]) := cx_eq eg2
      have fr : ∀ j : Nat, (j ≠ 1000 ∧ j ≠ 1021 ∧ j ≠ 1028) → g2 j = g j := fun j hj => (cx_ne eg2 j (by omega)).trans (fr j hj)
      refine lv_aload_n hx hb dX6_go_34 rfl (lv_at hl 0 rfl) ?_
      refine ax_get (k := 1000) (v := .int (nI 1)) hx hb hts in_X6_go_X6 hown hK hP (hq _ (by decide)) c_o rfl 2 (by decide) (hts _ wd_X6_go_0) (fun _ h9 => h9) rfl dX6_go_35 ?_
      refine ax_ifeq (a := 1) (tgt := 43) hx hb dX6_go_38 (by decide) (by omega) (fun h38 => ?_) (fun h38 => ?_)
      · skip
        exact absurd h38 (by decide)
      · skip
        refine lv_iconst (v := nI 0) hx hb dX6_go_41 (by decide) ?_
        exact hret (nI 0) g2 _ _ _ _ (by decide) ⟨fr, rr, hzr, c_R, Or.inr ⟨fun ⟨k, q1, q2, q3⟩ => nb_n (lo := 0) (n := ec) (by omega) (Int32.not_lt.mpr h10) ⟨k, Nat.zero_le _, q1, q2⟩, c_o, c_v⟩⟩ hP hS dX6_go_42
    · skip
      obtain ⟨k1, hk1a, hk1b, rfl⟩ := yb_n (n := ec) (by omega) h2 (Int32.not_le.mp h10)
      obtain ⟨hf1, hf2, hf3, hf4⟩ := hev.2.1 k1 hk1b
      refine lv_aload_n hx hb dX6_go_13 rfl (lv_at hl 0 rfl) ?_
      refine ax_get (k := 1000) (v := .ref (ad 1005)) hx hb hts in_X6_go_X6 hown hK hP (hq _ (by decide)) c_o rfl 5 (by decide) (hts _ wd_X6_go_3) (fun _ h9 => h9) rfl dX6_go_14 ?_
      refine lv_iload_n hx hb dX6_go_17 rfl (lv_at hl 1 rfl) ?_
      refine ax_iald (k := 1005) (i := k1) (v := nI (ef k1)) hx hb hK hP (hq _ (by decide)) c_FO (by omega) (by omega) rfl dX6_go_18 ?_
      refine lv_aload_n hx hb dX6_go_19 rfl (lv_at hl 0 rfl) ?_
      refine ax_get (k := 1000) (v := .int (nI pl)) hx hb hts in_X6_go_X6 hown hK hP (hq _ (by decide)) c_o rfl 20 (by decide) (hts _ wd_X6_go_4) (fun _ h9 => h9) rfl dX6_go_20 ?_
      refine ax_iceq (a := ef k1) (b := pl) (tgt := 30) hx hb dX6_go_23 (by decide) (by omega) (by omega) (fun h23 => ?_) (fun h23 => ?_)
      · skip
        refine lv_iconst (v := nI 0) hx hb dX6_go_30 (by decide) ?_
        refine ax_put (k := 1000) (v := .int (nI 0)) (fs' := [.int (nI N), .int (nI V), .int (nI 0), .ref (ad 1003), .int (nI ec), .ref (ad 1005), .ref (ad 1006), .ref (ad 1007), .ref (ad 1008), .ref (ad 1009), .int (nI en), .int (if an = true then 1 else 0), .ref (ad 1012), .ref (ad 1013), .ref (ad 1014), .int (nI al), .ref (ad 1016), .ref (ad 1017), .ref (ad 1018), .ref (ad 1019), .int (nI pl), .ref (ad 1021), .int (nI nc), .ref (ad 1023), .ref (ad 1024), .int (nI sz), .ref (ad 1026), .ref (ad 1027), .ref (ad 1028)]) hx hb hts in_X6_go_X6 tyX6 tyX6_ok nmX6 hown hK hP hD hS (hq _ (by decide)) c_o rfl 2 (by decide) (hts _ wd_X6_go_0) (fun _ h9 => h9) rfl (ty := .int) (by decide +kernel) rfl rfl (Nat.le_of_ble_eq_true rfl) rfl dX6_go_31 (fun H locs g3 eg3 hP hS => ?_)
        have c_v : g3 1021 = nA G 5 (vN va) := (cx_ne eg3 1021 (by omega)).trans c_v
        have c_K : g3 1007 = nA G 20 ek := (cx_ne eg3 1007 (by omega)).trans c_K
        have c_Z : g3 1008 = iA G 20 ez := (cx_ne eg3 1008 (by omega)).trans c_Z
        have c_F : g3 1009 = nA G 100 (vN fm) := (cx_ne eg3 1009 (by omega)).trans c_F
        have c_TO : g3 1006 = nA G 20 et := (cx_ne eg3 1006 (by omega)).trans c_TO
        have c_R : g3 1028 = nA G 5 (vN rr) := (cx_ne eg3 1028 (by omega)).trans c_R
        have c_FO : g3 1005 = nA G 20 ef := (cx_ne eg3 1005 (by omega)).trans c_FO
        have c_o : g3 1000 = .inr (6, [.int (nI N), .int (nI V), .int (nI 0), .ref (ad 1003), .int (nI ec), .ref (ad 1005), .ref (ad 1006), .ref (ad 1007), .ref (ad 1008), .ref (ad 1009), .int (nI en), .int (if an = true then 1 else 0), .ref (ad 1012), .ref (ad 1013), .ref (ad 1014), .int (nI al), .ref (ad 1016), .ref (ad 1017), .ref (ad 1018), .ref (ad 1019), .int (nI pl), .ref (ad 1021), .int (nI nc), .ref (ad 1023), .ref (ad 1024), .int (nI sz), .ref (ad 1026), .ref (ad 1027), .ref (ad 1028)]) := cx_eq eg3
        have fr : ∀ j : Nat, (j ≠ 1000 ∧ j ≠ 1021 ∧ j ≠ 1028) → g3 j = g j := fun j hj => (cx_ne eg3 j (by omega)).trans (fr j hj)
        refine lv_aload_n hx hb dX6_go_34 rfl (lv_at hl 0 rfl) ?_
        refine ax_get (k := 1000) (v := .int (nI 0)) hx hb hts in_X6_go_X6 hown hK hP (hq _ (by decide)) c_o rfl 2 (by decide) (hts _ wd_X6_go_0) (fun _ h9 => h9) rfl dX6_go_35 ?_
        refine ax_ifeq (a := 0) (tgt := 43) hx hb dX6_go_38 (by decide) (by omega) (fun h38 => ?_) (fun h38 => ?_)
        · skip
          refine lv_iconst (v := nI 0) hx hb dX6_go_43 (by decide) ?_
          refine lv_istore_n (lv' := [(3, .int (nI 0)), (0, .ref (ad 1000)), (1, .int (nI k1)), (2, .int x2)]) hx hb dX6_go_44 rfl hl (by decide) rfl (fun ls hl => ?_)
          have LP45 : ∀ (fu : Nat) (k : Nat) (y : Nat → FF), (k ≤ 5) → (∀ j : Nat, y j = if j < k then va j else rr j) → (5 - k) < fu → ∀ (ga4 : Nat → va_E) (H : Heap) (locs : List Loc) (ls : Array Slot), (ga4 1000 = .inr (6, [.int (nI N), .int (nI V), .int (nI 0), .ref (ad 1003), .int (nI ec), .ref (ad 1005), .ref (ad 1006), .ref (ad 1007), .ref (ad 1008), .ref (ad 1009), .int (nI en), .int (if an = true then 1 else 0), .ref (ad 1012), .ref (ad 1013), .ref (ad 1014), .int (nI al), .ref (ad 1016), .ref (ad 1017), .ref (ad 1018), .ref (ad 1019), .int (nI pl), .ref (ad 1021), .int (nI nc), .ref (ad 1023), .ref (ad 1024), .int (nI sz), .ref (ad 1026), .ref (ad 1027), .ref (ad 1028)])) → (ga4 1021 = nA G 5 (vN va)) → (ga4 1007 = nA G 20 ek) → (ga4 1008 = iA G 20 ez) → (ga4 1009 = nA G 100 (vN fm)) → (ga4 1006 = nA G 20 et) → (ga4 1028 = nA G 5 (vN y)) → (ga4 1005 = nA G 20 ef) → (∀ j : Nat, (j ≠ 1000 ∧ j ≠ 1021 ∧ j ≠ 1028) → ga4 j = g j) → va_P G.1 vwCl (wl L ad ga4) H → va_S (cx_A L ad s.heap.size) s.heap H locs → lv_has ls 4 [(3, .int (nI k)), (0, .ref (ad 1000)), (1, .int (nI k1)), (2, .int x2)] → W p l e rm_X6_go s m args below meth c H locs 0 0 Q (F0 m 45 ls []) := by
            intro fu
            induction fu with
            | zero => intro k y hk5 hr hfu; exact absurd hfu (Nat.not_lt_zero _)
            | succ fu ih45 =>
              intro k y hk5 hr hfu45 ga4 H locs ls c_o c_v c_K c_Z c_F c_TO c_R c_FO fr hP hS hl
              refine lv_iload_n hx hb dX6_go_45 rfl (lv_at hl 0 rfl) ?_
              refine lv_iconst (v := nI 5) hx hb dX6_go_46 (by decide) ?_
              refine ax_icge (a := k) (b := 5) (tgt := 68) hx hb dX6_go_47 (by decide) (by omega) (by omega) (fun h47 => ?_) (fun h47 => ?_)
              · skip
                rw [cp_done h47 hzr (Zb.five hva hV) hr] at c_R
                have b9 := (dot (eg k1) va (V + 1)).isLt
                refine lv_aload_n hx hb dX6_go_68 rfl (lv_at hl 1 rfl) ?_
                refine ax_get (k := 1000) (v := .ref (ad 1007)) hx hb hts in_X6_go_X6 hown hK hP (hq _ (by decide)) c_o rfl 7 (by decide) (hts _ wd_X6_go_5) (fun _ h9 => h9) rfl dX6_go_69 ?_
                refine lv_iload_n hx hb dX6_go_72 rfl (lv_at hl 2 rfl) ?_
                refine ax_iald (k := 1007) (i := k1) (v := nI (ek k1)) hx hb hK hP (hq _ (by decide)) c_K (by omega) (by omega) rfl dX6_go_73 ?_
                refine lv_iconst (v := nI 3) hx hb dX6_go_74 (by decide) ?_
                refine ax_icne (a := ek k1) (b := 3) (tgt := 86) hx hb dX6_go_75 (by decide) (by omega) (by omega) (fun h75 => ?_) (fun h75 => ?_)
                · skip
                  refine lv_aload_n hx hb dX6_go_86 rfl (lv_at hl 1 rfl) ?_
                  refine ax_get (k := 1000) (v := .ref (ad 1007)) hx hb hts in_X6_go_X6 hown hK hP (hq _ (by decide)) c_o rfl 7 (by decide) (hts _ wd_X6_go_5) (fun _ h9 => h9) rfl dX6_go_87 ?_
                  refine lv_iload_n hx hb dX6_go_90 rfl (lv_at hl 2 rfl) ?_
                  refine ax_iald (k := 1007) (i := k1) (v := nI (ek k1)) hx hb hK hP (hq _ (by decide)) c_K (by omega) (by omega) rfl dX6_go_91 ?_
                  refine lv_iconst (v := nI 4) hx hb dX6_go_92 (by decide) ?_
                  refine ax_icne (a := ek k1) (b := 4) (tgt := 106) hx hb dX6_go_93 (by decide) (by omega) (by omega) (fun h93 => ?_) (fun h93 => ?_)
                  · skip
                    refine lv_aload_n hx hb dX6_go_106 rfl (lv_at hl 1 rfl) ?_
                    refine lv_iload_n hx hb dX6_go_107 rfl (lv_at hl 2 rfl) ?_
                    refine lv_iload_n hx hb dX6_go_108 rfl (lv_at hl 3 rfl) ?_
                    refine lv_i2l (v := x2.toInt64) hx hb dX6_go_109 rfl ?_
                    refine cx_Si (As := [.long x2.toInt64]) (rest := [.int (nI k1), .ref (ad 1000)]) ⟨hx, hb, hml, hown, hts⟩ (c_X6_mod hD (x := x2.toInt64)) (va_cwS 1 hts gX6_go_X6_mod rfl rfl rfl (by decide +kernel) ⟨Nat.le_of_ble_eq_true rfl, Nat.le_of_ble_eq_true rfl⟩) hK hP hS hz ⟨Nat.zero_le _, Nat.zero_le _⟩ rfl hl.1 rfl (Nat.le_of_ble_eq_true rfl) dX6_go_110 (fun r5 g5 H locs hp5 hP hS => ?_)
                    obtain ⟨er5, ehp5g⟩ := hp5
                    rw [ehp5g] at hP
                    rw [er5]
                    rw [show fi (x2.toInt64).toInt = fi x2.toInt from by rw [i2l_fi]]
                    refine cx_Vv (As := [.int (nI k1), .int (nI ((fi x2.toInt).val))]) (rest := []) ⟨hx, hb, hml, hown, hts⟩ (c_X6_change hD hN1 hN hV1 hV hq (ei := k1) (xx := fi x2.toInt) (ev := ev) (rr := va) (eg := eg) c_o c_K c_Z c_F c_R (by omega) hfr hev.2.2 hf3 hf4) (cwV 2 hts gX6_go_X6_change rfl rfl rfl (by decide +kernel) ⟨Nat.le_of_ble_eq_true rfl, Nat.le_of_ble_eq_true rfl⟩) hK hP hS hz (hq _ (by decide)) c_o rfl ⟨Nat.zero_le _, Nat.zero_le _⟩ rfl hl.1 rfl (Nat.le_of_ble_eq_true rfl) dX6_go_113 (fun g6 H locs hp6 hP hS => ?_)
                    obtain ⟨hp6a, hp6b⟩ := hp6
                    have c_o : g6 1000 = .inr (6, [.int (nI N), .int (nI V), .int (nI 0), .ref (ad 1003), .int (nI ec), .ref (ad 1005), .ref (ad 1006), .ref (ad 1007), .ref (ad 1008), .ref (ad 1009), .int (nI en), .int (if an = true then 1 else 0), .ref (ad 1012), .ref (ad 1013), .ref (ad 1014), .int (nI al), .ref (ad 1016), .ref (ad 1017), .ref (ad 1018), .ref (ad 1019), .int (nI pl), .ref (ad 1021), .int (nI nc), .ref (ad 1023), .ref (ad 1024), .int (nI sz), .ref (ad 1026), .ref (ad 1027), .ref (ad 1028)]) := (hp6a 1000 (by omega)).trans c_o
                    have c_v : g6 1021 = nA G 5 (vN va) := (hp6a 1021 (by omega)).trans c_v
                    have c_K : g6 1007 = nA G 20 ek := (hp6a 1007 (by omega)).trans c_K
                    have c_Z : g6 1008 = iA G 20 ez := (hp6a 1008 (by omega)).trans c_Z
                    have c_F : g6 1009 = nA G 100 (vN fm) := (hp6a 1009 (by omega)).trans c_F
                    have c_TO : g6 1006 = nA G 20 et := (hp6a 1006 (by omega)).trans c_TO
                    have c_FO : g6 1005 = nA G 20 ef := (hp6a 1005 (by omega)).trans c_FO
                    have fr : ∀ j : Nat, (j ≠ 1000 ∧ j ≠ 1021 ∧ j ≠ 1028) → g6 j = g j := fun j hj => (hp6a j (by omega)).trans (fr j hj)
                    have c_R := hp6b
                    have hzn : Zb (V + 1) (stepF (V + 1) (ek k1) (ev k1) (eg k1) (fi x2.toInt) va) := stepF_z hva (fun h => (hf4 h).2.2)
                    refine lv_iconst (v := nI 0) hx hb dX6_go_116 (by decide) ?_
                    refine lv_istore_n (lv' := [(3, .int (nI 0)), (0, .ref (ad 1000)), (1, .int (nI k1)), (2, .int x2)]) hx hb dX6_go_117 rfl hl (by decide) rfl (fun ls hl => ?_)
                    have LP118 : ∀ (fu : Nat) (k : Nat) (y2 : Nat → FF), (k ≤ 5) → (∀ j : Nat, y2 j = if j < k then (stepF (V + 1) (ek k1) (ev k1) (eg k1) (fi x2.toInt) va) j else va j) → (5 - k) < fu → ∀ (ga7 : Nat → va_E) (H : Heap) (locs : List Loc) (ls : Array Slot), (ga7 1000 = .inr (6, [.int (nI N), .int (nI V), .int (nI 0), .ref (ad 1003), .int (nI ec), .ref (ad 1005), .ref (ad 1006), .ref (ad 1007), .ref (ad 1008), .ref (ad 1009), .int (nI en), .int (if an = true then 1 else 0), .ref (ad 1012), .ref (ad 1013), .ref (ad 1014), .int (nI al), .ref (ad 1016), .ref (ad 1017), .ref (ad 1018), .ref (ad 1019), .int (nI pl), .ref (ad 1021), .int (nI nc), .ref (ad 1023), .ref (ad 1024), .int (nI sz), .ref (ad 1026), .ref (ad 1027), .ref (ad 1028)])) → (ga7 1021 = nA G 5 (vN y2)) → (ga7 1007 = nA G 20 ek) → (ga7 1008 = iA G 20 ez) → (ga7 1009 = nA G 100 (vN fm)) → (ga7 1006 = nA G 20 et) → (ga7 1028 = nA G 5 (vN (stepF (V + 1) (ek k1) (ev k1) (eg k1) (fi x2.toInt) va))) → (ga7 1005 = nA G 20 ef) → (∀ j : Nat, (j ≠ 1000 ∧ j ≠ 1021 ∧ j ≠ 1028) → ga7 j = g j) → va_P G.1 vwCl (wl L ad ga7) H → va_S (cx_A L ad s.heap.size) s.heap H locs → lv_has ls 4 [(3, .int (nI k)), (0, .ref (ad 1000)), (1, .int (nI k1)), (2, .int x2)] → W p l e rm_X6_go s m args below meth c H locs 0 0 Q (F0 m 118 ls []) := by
                      intro fu
                      induction fu with
                      | zero => intro k y2 hk5b hr2 hfu; exact absurd hfu (Nat.not_lt_zero _)
                      | succ fu ih118 =>
                        intro k y2 hk5b hr2 hfu118 ga7 H locs ls c_o c_v c_K c_Z c_F c_TO c_R c_FO fr hP hS hl
                        refine lv_iload_n hx hb dX6_go_118 rfl (lv_at hl 0 rfl) ?_
                        refine lv_iconst (v := nI 5) hx hb dX6_go_119 (by decide) ?_
                        refine ax_icge (a := k) (b := 5) (tgt := 141) hx hb dX6_go_120 (by decide) (by omega) (by omega) (fun h120 => ?_) (fun h120 => ?_)
                        · skip
                          rw [cp_done h120 (Zb.five hva hV) (Zb.five hzn hV) hr2] at c_v
                          refine lv_aload_n hx hb dX6_go_141 rfl (lv_at hl 1 rfl) ?_
                          refine lv_aload_n hx hb dX6_go_142 rfl (lv_at hl 1 rfl) ?_
                          refine ax_get (k := 1000) (v := .ref (ad 1006)) hx hb hts in_X6_go_X6 hown hK hP (hq _ (by decide)) c_o rfl 6 (by decide) (hts _ wd_X6_go_6) (fun _ h9 => h9) rfl dX6_go_143 ?_
                          refine lv_iload_n hx hb dX6_go_146 rfl (lv_at hl 2 rfl) ?_
                          refine ax_iald (k := 1006) (i := k1) (v := nI (et k1)) hx hb hK hP (hq _ (by decide)) c_TO (by omega) (by omega) rfl dX6_go_147 ?_
                          refine ax_put (k := 1000) (v := .int (nI (et k1))) (fs' := [.int (nI N), .int (nI V), .int (nI 0), .ref (ad 1003), .int (nI ec), .ref (ad 1005), .ref (ad 1006), .ref (ad 1007), .ref (ad 1008), .ref (ad 1009), .int (nI en), .int (if an = true then 1 else 0), .ref (ad 1012), .ref (ad 1013), .ref (ad 1014), .int (nI al), .ref (ad 1016), .ref (ad 1017), .ref (ad 1018), .ref (ad 1019), .int (nI (et k1)), .ref (ad 1021), .int (nI nc), .ref (ad 1023), .ref (ad 1024), .int (nI sz), .ref (ad 1026), .ref (ad 1027), .ref (ad 1028)]) hx hb hts in_X6_go_X6 tyX6 tyX6_ok nmX6 hown hK hP hD hS (hq _ (by decide)) c_o rfl 20 (by decide) (hts _ wd_X6_go_4) (fun _ h9 => h9) rfl (ty := .int) (by decide +kernel) rfl rfl (Nat.le_of_ble_eq_true rfl) rfl dX6_go_148 (fun H locs g8 eg8 hP hS => ?_)
                          have c_v : g8 1021 = nA G 5 (vN (stepF (V + 1) (ek k1) (ev k1) (eg k1) (fi x2.toInt) va)) := (cx_ne eg8 1021 (by omega)).trans c_v
                          have c_K : g8 1007 = nA G 20 ek := (cx_ne eg8 1007 (by omega)).trans c_K
                          have c_Z : g8 1008 = iA G 20 ez := (cx_ne eg8 1008 (by omega)).trans c_Z
                          have c_F : g8 1009 = nA G 100 (vN fm) := (cx_ne eg8 1009 (by omega)).trans c_F
                          have c_TO : g8 1006 = nA G 20 et := (cx_ne eg8 1006 (by omega)).trans c_TO
                          have c_R : g8 1028 = nA G 5 (vN (stepF (V + 1) (ek k1) (ev k1) (eg k1) (fi x2.toInt) va)) := (cx_ne eg8 1028 (by omega)).trans c_R
                          have c_FO : g8 1005 = nA G 20 ef := (cx_ne eg8 1005 (by omega)).trans c_FO
                          have c_o : g8 1000 = .inr (6, [.int (nI N), .int (nI V), .int (nI 0), .ref (ad 1003), .int (nI ec), .ref (ad 1005), .ref (ad 1006), .ref (ad 1007), .ref (ad 1008), .ref (ad 1009), .int (nI en), .int (if an = true then 1 else 0), .ref (ad 1012), .ref (ad 1013), .ref (ad 1014), .int (nI al), .ref (ad 1016), .ref (ad 1017), .ref (ad 1018), .ref (ad 1019), .int (nI (et k1)), .ref (ad 1021), .int (nI nc), .ref (ad 1023), .ref (ad 1024), .int (nI sz), .ref (ad 1026), .ref (ad 1027), .ref (ad 1028)]) := cx_eq eg8
                          have fr : ∀ j : Nat, (j ≠ 1000 ∧ j ≠ 1021 ∧ j ≠ 1028) → g8 j = g j := fun j hj => (cx_ne eg8 j (by omega)).trans (fr j hj)
                          refine lv_iconst (v := nI 1) hx hb dX6_go_151 (by decide) ?_
                          exact hret (nI 1) g8 _ _ _ _ (by decide) ⟨fr, stepF (V + 1) (ek k1) (ev k1) (eg k1) (fi x2.toInt) va, Zb.five hzn hV, c_R, Or.inl ⟨k1, hk1b, rfl, h23, Or.inr ⟨rfl, opn_n h75 h93, c_o, c_v⟩⟩⟩ hP hS dX6_go_152
                        · skip
                          refine lv_aload_n hx hb dX6_go_123 rfl (lv_at hl 1 rfl) ?_
                          refine ax_get (k := 1000) (v := .ref (ad 1021)) hx hb hts in_X6_go_X6 hown hK hP (hq _ (by decide)) c_o rfl 21 (by decide) (hts _ wd_X6_go_7) (fun _ h9 => h9) rfl dX6_go_124 ?_
                          refine lv_iload_n hx hb dX6_go_127 rfl (lv_at hl 0 rfl) ?_
                          refine lv_aload_n hx hb dX6_go_128 rfl (lv_at hl 1 rfl) ?_
                          refine ax_get (k := 1000) (v := .ref (ad 1028)) hx hb hts in_X6_go_X6 hown hK hP (hq _ (by decide)) c_o rfl 28 (by decide) (hts _ wd_X6_go_8) (fun _ h9 => h9) rfl dX6_go_129 ?_
                          refine lv_iload_n hx hb dX6_go_132 rfl (lv_at hl 0 rfl) ?_
                          refine ax_iald (k := 1028) (i := k) (v := nI ((vN (stepF (V + 1) (ek k1) (ev k1) (eg k1) (fi x2.toInt) va)) k)) hx hb hK hP (hq _ (by decide)) c_R (by omega) (by omega) rfl dX6_go_133 ?_
                          refine ax_iast (k := 1021) (i := k) (f' := (fun j => nI ((nu (vN y2) k ((vN (stepF (V + 1) (ek k1) (ev k1) (eg k1) (fi x2.toInt) va)) k)) j))) hx hb hK hP hD hS (hq _ (by decide)) c_v (by omega) (by omega) (up_n _ _ _) dX6_go_134 (fun H locs g9 eg9 hP hS => ?_)
                          have c_o : g9 1000 = .inr (6, [.int (nI N), .int (nI V), .int (nI 0), .ref (ad 1003), .int (nI ec), .ref (ad 1005), .ref (ad 1006), .ref (ad 1007), .ref (ad 1008), .ref (ad 1009), .int (nI en), .int (if an = true then 1 else 0), .ref (ad 1012), .ref (ad 1013), .ref (ad 1014), .int (nI al), .ref (ad 1016), .ref (ad 1017), .ref (ad 1018), .ref (ad 1019), .int (nI pl), .ref (ad 1021), .int (nI nc), .ref (ad 1023), .ref (ad 1024), .int (nI sz), .ref (ad 1026), .ref (ad 1027), .ref (ad 1028)]) := (cx_ne eg9 1000 (by omega)).trans c_o
                          have c_K : g9 1007 = nA G 20 ek := (cx_ne eg9 1007 (by omega)).trans c_K
                          have c_Z : g9 1008 = iA G 20 ez := (cx_ne eg9 1008 (by omega)).trans c_Z
                          have c_F : g9 1009 = nA G 100 (vN fm) := (cx_ne eg9 1009 (by omega)).trans c_F
                          have c_TO : g9 1006 = nA G 20 et := (cx_ne eg9 1006 (by omega)).trans c_TO
                          have c_R : g9 1028 = nA G 5 (vN (stepF (V + 1) (ek k1) (ev k1) (eg k1) (fi x2.toInt) va)) := (cx_ne eg9 1028 (by omega)).trans c_R
                          have c_FO : g9 1005 = nA G 20 ef := (cx_ne eg9 1005 (by omega)).trans c_FO
                          have c_v : g9 1021 = nA G 5 (nu (vN y2) k ((vN (stepF (V + 1) (ek k1) (ev k1) (eg k1) (fi x2.toInt) va)) k)) := cx_eq eg9
                          have fr : ∀ j : Nat, (j ≠ 1000 ∧ j ≠ 1021 ∧ j ≠ 1028) → g9 j = g j := fun j hj => (cx_ne eg9 j (by omega)).trans (fr j hj)
                          have c_v : g9 1021 = nA G 5 (vN (nu y2 k ((stepF (V + 1) (ek k1) (ev k1) (eg k1) (fi x2.toInt) va) k))) := by rw [← vN_nu]; exact c_v
                          refine lv_iinc (v := nI (k + 1)) (lv' := [(3, .int (nI (k + 1))), (0, .ref (ad 1000)), (1, .int (nI k1)), (2, .int x2)]) hx hb dX6_go_135 hl (k := 0) rfl (nI_1 _) (by decide) rfl (fun ls hl => ?_)
                          refine lv_goto (tgt := 118) hx hb dX6_go_138 (by decide) ?_
                          exact ih118 (k + 1) (nu y2 k ((stepF (V + 1) (ek k1) (ev k1) (eg k1) (fi x2.toInt) va) k)) h120 (cp_step hr2) (by omega) g9 _ _ _ c_o c_v c_K c_Z c_F c_TO c_R c_FO  fr hP hS (lv_sub hl [0, 1, 2, 3] rfl)
                    exact LP118 ((5 - 0) + 1) 0 va (Nat.zero_le _) cp_0 (Nat.lt_succ_self _) g6 _ _ _ c_o c_v c_K c_Z c_F c_TO c_R c_FO  fr hP hS (lv_sub hl [0, 1, 2, 3] rfl)
                  · skip
                    refine lv_aload_n hx hb dX6_go_96 rfl (lv_at hl 1 rfl) ?_
                    refine lv_iload_n hx hb dX6_go_97 rfl (lv_at hl 2 rfl) ?_
                    refine cx_Vi (As := [.int (nI k1)]) (rest := []) ⟨hx, hb, hml, hown, hts⟩ (c_X6_formValue hD hN1 hN hV1 hV hq (ei := k1) (fm := fm) (rr := va) (eg := eg) c_o c_F c_R (by omega) hfr (hzf k1)) (cwV 1 hts gX6_go_X6_formValue rfl rfl rfl (by decide +kernel) ⟨Nat.le_of_ble_eq_true rfl, Nat.le_of_ble_eq_true rfl⟩) hK hP hS hz (hq _ (by decide)) c_o rfl ⟨Nat.zero_le _, Nat.zero_le _⟩ rfl hl.1 rfl (Nat.le_of_ble_eq_true rfl) dX6_go_98 (fun r10 g10 H locs hp10 hP hS => ?_)
                    obtain ⟨er10, ehp10g⟩ := hp10
                    rw [ehp10g] at hP
                    rw [er10]
                    refine ax_ifne (a := (dot (eg k1) va (V + 1)).val) (tgt := 106) hx hb dX6_go_101 (by decide) (by omega) (fun h101 => ?_) (fun h101 => ?_)
                    · skip
                      refine lv_aload_n hx hb dX6_go_106 rfl (lv_at hl 1 rfl) ?_
                      refine lv_iload_n hx hb dX6_go_107 rfl (lv_at hl 2 rfl) ?_
                      refine lv_iload_n hx hb dX6_go_108 rfl (lv_at hl 3 rfl) ?_
                      refine lv_i2l (v := x2.toInt64) hx hb dX6_go_109 rfl ?_
                      refine cx_Si (As := [.long x2.toInt64]) (rest := [.int (nI k1), .ref (ad 1000)]) ⟨hx, hb, hml, hown, hts⟩ (c_X6_mod hD (x := x2.toInt64)) (va_cwS 1 hts gX6_go_X6_mod rfl rfl rfl (by decide +kernel) ⟨Nat.le_of_ble_eq_true rfl, Nat.le_of_ble_eq_true rfl⟩) hK hP hS hz ⟨Nat.zero_le _, Nat.zero_le _⟩ rfl hl.1 rfl (Nat.le_of_ble_eq_true rfl) dX6_go_110 (fun r11 g11 H locs hp11 hP hS => ?_)
                      obtain ⟨er11, ehp11g⟩ := hp11
                      rw [ehp11g] at hP
                      rw [er11]
                      rw [show fi (x2.toInt64).toInt = fi x2.toInt from by rw [i2l_fi]]
                      refine cx_Vv (As := [.int (nI k1), .int (nI ((fi x2.toInt).val))]) (rest := []) ⟨hx, hb, hml, hown, hts⟩ (c_X6_change hD hN1 hN hV1 hV hq (ei := k1) (xx := fi x2.toInt) (ev := ev) (rr := va) (eg := eg) c_o c_K c_Z c_F c_R (by omega) hfr hev.2.2 hf3 hf4) (cwV 2 hts gX6_go_X6_change rfl rfl rfl (by decide +kernel) ⟨Nat.le_of_ble_eq_true rfl, Nat.le_of_ble_eq_true rfl⟩) hK hP hS hz (hq _ (by decide)) c_o rfl ⟨Nat.zero_le _, Nat.zero_le _⟩ rfl hl.1 rfl (Nat.le_of_ble_eq_true rfl) dX6_go_113 (fun g12 H locs hp12 hP hS => ?_)
                      obtain ⟨hp12a, hp12b⟩ := hp12
                      have c_o : g12 1000 = .inr (6, [.int (nI N), .int (nI V), .int (nI 0), .ref (ad 1003), .int (nI ec), .ref (ad 1005), .ref (ad 1006), .ref (ad 1007), .ref (ad 1008), .ref (ad 1009), .int (nI en), .int (if an = true then 1 else 0), .ref (ad 1012), .ref (ad 1013), .ref (ad 1014), .int (nI al), .ref (ad 1016), .ref (ad 1017), .ref (ad 1018), .ref (ad 1019), .int (nI pl), .ref (ad 1021), .int (nI nc), .ref (ad 1023), .ref (ad 1024), .int (nI sz), .ref (ad 1026), .ref (ad 1027), .ref (ad 1028)]) := (hp12a 1000 (by omega)).trans c_o
                      have c_v : g12 1021 = nA G 5 (vN va) := (hp12a 1021 (by omega)).trans c_v
                      have c_K : g12 1007 = nA G 20 ek := (hp12a 1007 (by omega)).trans c_K
                      have c_Z : g12 1008 = iA G 20 ez := (hp12a 1008 (by omega)).trans c_Z
                      have c_F : g12 1009 = nA G 100 (vN fm) := (hp12a 1009 (by omega)).trans c_F
                      have c_TO : g12 1006 = nA G 20 et := (hp12a 1006 (by omega)).trans c_TO
                      have c_FO : g12 1005 = nA G 20 ef := (hp12a 1005 (by omega)).trans c_FO
                      have fr : ∀ j : Nat, (j ≠ 1000 ∧ j ≠ 1021 ∧ j ≠ 1028) → g12 j = g j := fun j hj => (hp12a j (by omega)).trans (fr j hj)
                      have c_R := hp12b
                      have hzn : Zb (V + 1) (stepF (V + 1) (ek k1) (ev k1) (eg k1) (fi x2.toInt) va) := stepF_z hva (fun h => (hf4 h).2.2)
                      refine lv_iconst (v := nI 0) hx hb dX6_go_116 (by decide) ?_
                      refine lv_istore_n (lv' := [(3, .int (nI 0)), (0, .ref (ad 1000)), (1, .int (nI k1)), (2, .int x2)]) hx hb dX6_go_117 rfl hl (by decide) rfl (fun ls hl => ?_)
                      have LP118 : ∀ (fu : Nat) (k : Nat) (y2 : Nat → FF), (k ≤ 5) → (∀ j : Nat, y2 j = if j < k then (stepF (V + 1) (ek k1) (ev k1) (eg k1) (fi x2.toInt) va) j else va j) → (5 - k) < fu → ∀ (ga13 : Nat → va_E) (H : Heap) (locs : List Loc) (ls : Array Slot), (ga13 1000 = .inr (6, [.int (nI N), .int (nI V), .int (nI 0), .ref (ad 1003), .int (nI ec), .ref (ad 1005), .ref (ad 1006), .ref (ad 1007), .ref (ad 1008), .ref (ad 1009), .int (nI en), .int (if an = true then 1 else 0), .ref (ad 1012), .ref (ad 1013), .ref (ad 1014), .int (nI al), .ref (ad 1016), .ref (ad 1017), .ref (ad 1018), .ref (ad 1019), .int (nI pl), .ref (ad 1021), .int (nI nc), .ref (ad 1023), .ref (ad 1024), .int (nI sz), .ref (ad 1026), .ref (ad 1027), .ref (ad 1028)])) → (ga13 1021 = nA G 5 (vN y2)) → (ga13 1007 = nA G 20 ek) → (ga13 1008 = iA G 20 ez) → (ga13 1009 = nA G 100 (vN fm)) → (ga13 1006 = nA G 20 et) → (ga13 1028 = nA G 5 (vN (stepF (V + 1) (ek k1) (ev k1) (eg k1) (fi x2.toInt) va))) → (ga13 1005 = nA G 20 ef) → (∀ j : Nat, (j ≠ 1000 ∧ j ≠ 1021 ∧ j ≠ 1028) → ga13 j = g j) → va_P G.1 vwCl (wl L ad ga13) H → va_S (cx_A L ad s.heap.size) s.heap H locs → lv_has ls 4 [(3, .int (nI k)), (0, .ref (ad 1000)), (1, .int (nI k1)), (2, .int x2)] → W p l e rm_X6_go s m args below meth c H locs 0 0 Q (F0 m 118 ls []) := by
                        intro fu
                        induction fu with
                        | zero => intro k y2 hk5b hr2 hfu; exact absurd hfu (Nat.not_lt_zero _)
                        | succ fu ih118 =>
                          intro k y2 hk5b hr2 hfu118 ga13 H locs ls c_o c_v c_K c_Z c_F c_TO c_R c_FO fr hP hS hl
                          refine lv_iload_n hx hb dX6_go_118 rfl (lv_at hl 0 rfl) ?_
                          refine lv_iconst (v := nI 5) hx hb dX6_go_119 (by decide) ?_
                          refine ax_icge (a := k) (b := 5) (tgt := 141) hx hb dX6_go_120 (by decide) (by omega) (by omega) (fun h120 => ?_) (fun h120 => ?_)
                          · skip
                            rw [cp_done h120 (Zb.five hva hV) (Zb.five hzn hV) hr2] at c_v
                            refine lv_aload_n hx hb dX6_go_141 rfl (lv_at hl 1 rfl) ?_
                            refine lv_aload_n hx hb dX6_go_142 rfl (lv_at hl 1 rfl) ?_
                            refine ax_get (k := 1000) (v := .ref (ad 1006)) hx hb hts in_X6_go_X6 hown hK hP (hq _ (by decide)) c_o rfl 6 (by decide) (hts _ wd_X6_go_6) (fun _ h9 => h9) rfl dX6_go_143 ?_
                            refine lv_iload_n hx hb dX6_go_146 rfl (lv_at hl 2 rfl) ?_
                            refine ax_iald (k := 1006) (i := k1) (v := nI (et k1)) hx hb hK hP (hq _ (by decide)) c_TO (by omega) (by omega) rfl dX6_go_147 ?_
                            refine ax_put (k := 1000) (v := .int (nI (et k1))) (fs' := [.int (nI N), .int (nI V), .int (nI 0), .ref (ad 1003), .int (nI ec), .ref (ad 1005), .ref (ad 1006), .ref (ad 1007), .ref (ad 1008), .ref (ad 1009), .int (nI en), .int (if an = true then 1 else 0), .ref (ad 1012), .ref (ad 1013), .ref (ad 1014), .int (nI al), .ref (ad 1016), .ref (ad 1017), .ref (ad 1018), .ref (ad 1019), .int (nI (et k1)), .ref (ad 1021), .int (nI nc), .ref (ad 1023), .ref (ad 1024), .int (nI sz), .ref (ad 1026), .ref (ad 1027), .ref (ad 1028)]) hx hb hts in_X6_go_X6 tyX6 tyX6_ok nmX6 hown hK hP hD hS (hq _ (by decide)) c_o rfl 20 (by decide) (hts _ wd_X6_go_4) (fun _ h9 => h9) rfl (ty := .int) (by decide +kernel) rfl rfl (Nat.le_of_ble_eq_true rfl) rfl dX6_go_148 (fun H locs g14 eg14 hP hS => ?_)
                            have c_v : g14 1021 = nA G 5 (vN (stepF (V + 1) (ek k1) (ev k1) (eg k1) (fi x2.toInt) va)) := (cx_ne eg14 1021 (by omega)).trans c_v
                            have c_K : g14 1007 = nA G 20 ek := (cx_ne eg14 1007 (by omega)).trans c_K
                            have c_Z : g14 1008 = iA G 20 ez := (cx_ne eg14 1008 (by omega)).trans c_Z
                            have c_F : g14 1009 = nA G 100 (vN fm) := (cx_ne eg14 1009 (by omega)).trans c_F
                            have c_TO : g14 1006 = nA G 20 et := (cx_ne eg14 1006 (by omega)).trans c_TO
                            have c_R : g14 1028 = nA G 5 (vN (stepF (V + 1) (ek k1) (ev k1) (eg k1) (fi x2.toInt) va)) := (cx_ne eg14 1028 (by omega)).trans c_R
                            have c_FO : g14 1005 = nA G 20 ef := (cx_ne eg14 1005 (by omega)).trans c_FO
                            have c_o : g14 1000 = .inr (6, [.int (nI N), .int (nI V), .int (nI 0), .ref (ad 1003), .int (nI ec), .ref (ad 1005), .ref (ad 1006), .ref (ad 1007), .ref (ad 1008), .ref (ad 1009), .int (nI en), .int (if an = true then 1 else 0), .ref (ad 1012), .ref (ad 1013), .ref (ad 1014), .int (nI al), .ref (ad 1016), .ref (ad 1017), .ref (ad 1018), .ref (ad 1019), .int (nI (et k1)), .ref (ad 1021), .int (nI nc), .ref (ad 1023), .ref (ad 1024), .int (nI sz), .ref (ad 1026), .ref (ad 1027), .ref (ad 1028)]) := cx_eq eg14
                            have fr : ∀ j : Nat, (j ≠ 1000 ∧ j ≠ 1021 ∧ j ≠ 1028) → g14 j = g j := fun j hj => (cx_ne eg14 j (by omega)).trans (fr j hj)
                            refine lv_iconst (v := nI 1) hx hb dX6_go_151 (by decide) ?_
                            exact hret (nI 1) g14 _ _ _ _ (by decide) ⟨fr, stepF (V + 1) (ek k1) (ev k1) (eg k1) (fi x2.toInt) va, Zb.five hzn hV, c_R, Or.inl ⟨k1, hk1b, rfl, h23, Or.inr ⟨rfl, opn_4t h93 h101, c_o, c_v⟩⟩⟩ hP hS dX6_go_152
                          · skip
                            refine lv_aload_n hx hb dX6_go_123 rfl (lv_at hl 1 rfl) ?_
                            refine ax_get (k := 1000) (v := .ref (ad 1021)) hx hb hts in_X6_go_X6 hown hK hP (hq _ (by decide)) c_o rfl 21 (by decide) (hts _ wd_X6_go_7) (fun _ h9 => h9) rfl dX6_go_124 ?_
                            refine lv_iload_n hx hb dX6_go_127 rfl (lv_at hl 0 rfl) ?_
                            refine lv_aload_n hx hb dX6_go_128 rfl (lv_at hl 1 rfl) ?_
                            refine ax_get (k := 1000) (v := .ref (ad 1028)) hx hb hts in_X6_go_X6 hown hK hP (hq _ (by decide)) c_o rfl 28 (by decide) (hts _ wd_X6_go_8) (fun _ h9 => h9) rfl dX6_go_129 ?_
                            refine lv_iload_n hx hb dX6_go_132 rfl (lv_at hl 0 rfl) ?_
                            refine ax_iald (k := 1028) (i := k) (v := nI ((vN (stepF (V + 1) (ek k1) (ev k1) (eg k1) (fi x2.toInt) va)) k)) hx hb hK hP (hq _ (by decide)) c_R (by omega) (by omega) rfl dX6_go_133 ?_
                            refine ax_iast (k := 1021) (i := k) (f' := (fun j => nI ((nu (vN y2) k ((vN (stepF (V + 1) (ek k1) (ev k1) (eg k1) (fi x2.toInt) va)) k)) j))) hx hb hK hP hD hS (hq _ (by decide)) c_v (by omega) (by omega) (up_n _ _ _) dX6_go_134 (fun H locs g15 eg15 hP hS => ?_)
                            have c_o : g15 1000 = .inr (6, [.int (nI N), .int (nI V), .int (nI 0), .ref (ad 1003), .int (nI ec), .ref (ad 1005), .ref (ad 1006), .ref (ad 1007), .ref (ad 1008), .ref (ad 1009), .int (nI en), .int (if an = true then 1 else 0), .ref (ad 1012), .ref (ad 1013), .ref (ad 1014), .int (nI al), .ref (ad 1016), .ref (ad 1017), .ref (ad 1018), .ref (ad 1019), .int (nI pl), .ref (ad 1021), .int (nI nc), .ref (ad 1023), .ref (ad 1024), .int (nI sz), .ref (ad 1026), .ref (ad 1027), .ref (ad 1028)]) := (cx_ne eg15 1000 (by omega)).trans c_o
                            have c_K : g15 1007 = nA G 20 ek := (cx_ne eg15 1007 (by omega)).trans c_K
                            have c_Z : g15 1008 = iA G 20 ez := (cx_ne eg15 1008 (by omega)).trans c_Z
                            have c_F : g15 1009 = nA G 100 (vN fm) := (cx_ne eg15 1009 (by omega)).trans c_F
                            have c_TO : g15 1006 = nA G 20 et := (cx_ne eg15 1006 (by omega)).trans c_TO
                            have c_R : g15 1028 = nA G 5 (vN (stepF (V + 1) (ek k1) (ev k1) (eg k1) (fi x2.toInt) va)) := (cx_ne eg15 1028 (by omega)).trans c_R
                            have c_FO : g15 1005 = nA G 20 ef := (cx_ne eg15 1005 (by omega)).trans c_FO
                            have c_v : g15 1021 = nA G 5 (nu (vN y2) k ((vN (stepF (V + 1) (ek k1) (ev k1) (eg k1) (fi x2.toInt) va)) k)) := cx_eq eg15
                            have fr : ∀ j : Nat, (j ≠ 1000 ∧ j ≠ 1021 ∧ j ≠ 1028) → g15 j = g j := fun j hj => (cx_ne eg15 j (by omega)).trans (fr j hj)
                            have c_v : g15 1021 = nA G 5 (vN (nu y2 k ((stepF (V + 1) (ek k1) (ev k1) (eg k1) (fi x2.toInt) va) k))) := by rw [← vN_nu]; exact c_v
                            refine lv_iinc (v := nI (k + 1)) (lv' := [(3, .int (nI (k + 1))), (0, .ref (ad 1000)), (1, .int (nI k1)), (2, .int x2)]) hx hb dX6_go_135 hl (k := 0) rfl (nI_1 _) (by decide) rfl (fun ls hl => ?_)
                            refine lv_goto (tgt := 118) hx hb dX6_go_138 (by decide) ?_
                            exact ih118 (k + 1) (nu y2 k ((stepF (V + 1) (ek k1) (ev k1) (eg k1) (fi x2.toInt) va) k)) h120 (cp_step hr2) (by omega) g15 _ _ _ c_o c_v c_K c_Z c_F c_TO c_R c_FO  fr hP hS (lv_sub hl [0, 1, 2, 3] rfl)
                      exact LP118 ((5 - 0) + 1) 0 va (Nat.zero_le _) cp_0 (Nat.lt_succ_self _) g12 _ _ _ c_o c_v c_K c_Z c_F c_TO c_R c_FO  fr hP hS (lv_sub hl [0, 1, 2, 3] rfl)
                    · skip
                      refine lv_iconst (v := nI 0) hx hb dX6_go_104 (by decide) ?_
                      exact hret (nI 0) ga4 _ _ _ _ (by decide) ⟨fr, va, Zb.five hva hV, c_R, Or.inl ⟨k1, hk1b, rfl, h23, Or.inl ⟨rfl, opn_4f h93 h101, c_o, c_v⟩⟩⟩ hP hS dX6_go_105
                · skip
                  refine lv_aload_n hx hb dX6_go_78 rfl (lv_at hl 1 rfl) ?_
                  refine lv_iload_n hx hb dX6_go_79 rfl (lv_at hl 2 rfl) ?_
                  refine cx_Vi (As := [.int (nI k1)]) (rest := []) ⟨hx, hb, hml, hown, hts⟩ (c_X6_formValue hD hN1 hN hV1 hV hq (ei := k1) (fm := fm) (rr := va) (eg := eg) c_o c_F c_R (by omega) hfr (hzf k1)) (cwV 1 hts gX6_go_X6_formValue rfl rfl rfl (by decide +kernel) ⟨Nat.le_of_ble_eq_true rfl, Nat.le_of_ble_eq_true rfl⟩) hK hP hS hz (hq _ (by decide)) c_o rfl ⟨Nat.zero_le _, Nat.zero_le _⟩ rfl hl.1 rfl (Nat.le_of_ble_eq_true rfl) dX6_go_80 (fun r16 g16 H locs hp16 hP hS => ?_)
                  obtain ⟨er16, ehp16g⟩ := hp16
                  rw [ehp16g] at hP
                  rw [er16]
                  refine ax_ifne (a := (dot (eg k1) va (V + 1)).val) (tgt := 104) hx hb dX6_go_83 (by decide) (by omega) (fun h83 => ?_) (fun h83 => ?_)
                  · skip
                    refine lv_iconst (v := nI 0) hx hb dX6_go_104 (by decide) ?_
                    exact hret (nI 0) ga4 _ _ _ _ (by decide) ⟨fr, va, Zb.five hva hV, c_R, Or.inl ⟨k1, hk1b, rfl, h23, Or.inl ⟨rfl, opn_3f h75 h83, c_o, c_v⟩⟩⟩ hP hS dX6_go_105
                  · skip
                    refine lv_aload_n hx hb dX6_go_86 rfl (lv_at hl 1 rfl) ?_
                    refine ax_get (k := 1000) (v := .ref (ad 1007)) hx hb hts in_X6_go_X6 hown hK hP (hq _ (by decide)) c_o rfl 7 (by decide) (hts _ wd_X6_go_5) (fun _ h9 => h9) rfl dX6_go_87 ?_
                    refine lv_iload_n hx hb dX6_go_90 rfl (lv_at hl 2 rfl) ?_
                    refine ax_iald (k := 1007) (i := k1) (v := nI (ek k1)) hx hb hK hP (hq _ (by decide)) c_K (by omega) (by omega) rfl dX6_go_91 ?_
                    refine lv_iconst (v := nI 4) hx hb dX6_go_92 (by decide) ?_
                    refine ax_icne (a := ek k1) (b := 4) (tgt := 106) hx hb dX6_go_93 (by decide) (by omega) (by omega) (fun h93 => ?_) (fun h93 => ?_)
                    · skip
                      refine lv_aload_n hx hb dX6_go_106 rfl (lv_at hl 1 rfl) ?_
                      refine lv_iload_n hx hb dX6_go_107 rfl (lv_at hl 2 rfl) ?_
                      refine lv_iload_n hx hb dX6_go_108 rfl (lv_at hl 3 rfl) ?_
                      refine lv_i2l (v := x2.toInt64) hx hb dX6_go_109 rfl ?_
                      refine cx_Si (As := [.long x2.toInt64]) (rest := [.int (nI k1), .ref (ad 1000)]) ⟨hx, hb, hml, hown, hts⟩ (c_X6_mod hD (x := x2.toInt64)) (va_cwS 1 hts gX6_go_X6_mod rfl rfl rfl (by decide +kernel) ⟨Nat.le_of_ble_eq_true rfl, Nat.le_of_ble_eq_true rfl⟩) hK hP hS hz ⟨Nat.zero_le _, Nat.zero_le _⟩ rfl hl.1 rfl (Nat.le_of_ble_eq_true rfl) dX6_go_110 (fun r17 g17 H locs hp17 hP hS => ?_)
                      obtain ⟨er17, ehp17g⟩ := hp17
                      rw [ehp17g] at hP
                      rw [er17]
                      rw [show fi (x2.toInt64).toInt = fi x2.toInt from by rw [i2l_fi]]
                      refine cx_Vv (As := [.int (nI k1), .int (nI ((fi x2.toInt).val))]) (rest := []) ⟨hx, hb, hml, hown, hts⟩ (c_X6_change hD hN1 hN hV1 hV hq (ei := k1) (xx := fi x2.toInt) (ev := ev) (rr := va) (eg := eg) c_o c_K c_Z c_F c_R (by omega) hfr hev.2.2 hf3 hf4) (cwV 2 hts gX6_go_X6_change rfl rfl rfl (by decide +kernel) ⟨Nat.le_of_ble_eq_true rfl, Nat.le_of_ble_eq_true rfl⟩) hK hP hS hz (hq _ (by decide)) c_o rfl ⟨Nat.zero_le _, Nat.zero_le _⟩ rfl hl.1 rfl (Nat.le_of_ble_eq_true rfl) dX6_go_113 (fun g18 H locs hp18 hP hS => ?_)
                      obtain ⟨hp18a, hp18b⟩ := hp18
                      have c_o : g18 1000 = .inr (6, [.int (nI N), .int (nI V), .int (nI 0), .ref (ad 1003), .int (nI ec), .ref (ad 1005), .ref (ad 1006), .ref (ad 1007), .ref (ad 1008), .ref (ad 1009), .int (nI en), .int (if an = true then 1 else 0), .ref (ad 1012), .ref (ad 1013), .ref (ad 1014), .int (nI al), .ref (ad 1016), .ref (ad 1017), .ref (ad 1018), .ref (ad 1019), .int (nI pl), .ref (ad 1021), .int (nI nc), .ref (ad 1023), .ref (ad 1024), .int (nI sz), .ref (ad 1026), .ref (ad 1027), .ref (ad 1028)]) := (hp18a 1000 (by omega)).trans c_o
                      have c_v : g18 1021 = nA G 5 (vN va) := (hp18a 1021 (by omega)).trans c_v
                      have c_K : g18 1007 = nA G 20 ek := (hp18a 1007 (by omega)).trans c_K
                      have c_Z : g18 1008 = iA G 20 ez := (hp18a 1008 (by omega)).trans c_Z
                      have c_F : g18 1009 = nA G 100 (vN fm) := (hp18a 1009 (by omega)).trans c_F
                      have c_TO : g18 1006 = nA G 20 et := (hp18a 1006 (by omega)).trans c_TO
                      have c_FO : g18 1005 = nA G 20 ef := (hp18a 1005 (by omega)).trans c_FO
                      have fr : ∀ j : Nat, (j ≠ 1000 ∧ j ≠ 1021 ∧ j ≠ 1028) → g18 j = g j := fun j hj => (hp18a j (by omega)).trans (fr j hj)
                      have c_R := hp18b
                      have hzn : Zb (V + 1) (stepF (V + 1) (ek k1) (ev k1) (eg k1) (fi x2.toInt) va) := stepF_z hva (fun h => (hf4 h).2.2)
                      refine lv_iconst (v := nI 0) hx hb dX6_go_116 (by decide) ?_
                      refine lv_istore_n (lv' := [(3, .int (nI 0)), (0, .ref (ad 1000)), (1, .int (nI k1)), (2, .int x2)]) hx hb dX6_go_117 rfl hl (by decide) rfl (fun ls hl => ?_)
                      have LP118 : ∀ (fu : Nat) (k : Nat) (y2 : Nat → FF), (k ≤ 5) → (∀ j : Nat, y2 j = if j < k then (stepF (V + 1) (ek k1) (ev k1) (eg k1) (fi x2.toInt) va) j else va j) → (5 - k) < fu → ∀ (ga19 : Nat → va_E) (H : Heap) (locs : List Loc) (ls : Array Slot), (ga19 1000 = .inr (6, [.int (nI N), .int (nI V), .int (nI 0), .ref (ad 1003), .int (nI ec), .ref (ad 1005), .ref (ad 1006), .ref (ad 1007), .ref (ad 1008), .ref (ad 1009), .int (nI en), .int (if an = true then 1 else 0), .ref (ad 1012), .ref (ad 1013), .ref (ad 1014), .int (nI al), .ref (ad 1016), .ref (ad 1017), .ref (ad 1018), .ref (ad 1019), .int (nI pl), .ref (ad 1021), .int (nI nc), .ref (ad 1023), .ref (ad 1024), .int (nI sz), .ref (ad 1026), .ref (ad 1027), .ref (ad 1028)])) → (ga19 1021 = nA G 5 (vN y2)) → (ga19 1007 = nA G 20 ek) → (ga19 1008 = iA G 20 ez) → (ga19 1009 = nA G 100 (vN fm)) → (ga19 1006 = nA G 20 et) → (ga19 1028 = nA G 5 (vN (stepF (V + 1) (ek k1) (ev k1) (eg k1) (fi x2.toInt) va))) → (ga19 1005 = nA G 20 ef) → (∀ j : Nat, (j ≠ 1000 ∧ j ≠ 1021 ∧ j ≠ 1028) → ga19 j = g j) → va_P G.1 vwCl (wl L ad ga19) H → va_S (cx_A L ad s.heap.size) s.heap H locs → lv_has ls 4 [(3, .int (nI k)), (0, .ref (ad 1000)), (1, .int (nI k1)), (2, .int x2)] → W p l e rm_X6_go s m args below meth c H locs 0 0 Q (F0 m 118 ls []) := by
                        intro fu
                        induction fu with
                        | zero => intro k y2 hk5b hr2 hfu; exact absurd hfu (Nat.not_lt_zero _)
                        | succ fu ih118 =>
                          intro k y2 hk5b hr2 hfu118 ga19 H locs ls c_o c_v c_K c_Z c_F c_TO c_R c_FO fr hP hS hl
                          refine lv_iload_n hx hb dX6_go_118 rfl (lv_at hl 0 rfl) ?_
                          refine lv_iconst (v := nI 5) hx hb dX6_go_119 (by decide) ?_
                          refine ax_icge (a := k) (b := 5) (tgt := 141) hx hb dX6_go_120 (by decide) (by omega) (by omega) (fun h120 => ?_) (fun h120 => ?_)
                          · skip
                            rw [cp_done h120 (Zb.five hva hV) (Zb.five hzn hV) hr2] at c_v
                            refine lv_aload_n hx hb dX6_go_141 rfl (lv_at hl 1 rfl) ?_
                            refine lv_aload_n hx hb dX6_go_142 rfl (lv_at hl 1 rfl) ?_
                            refine ax_get (k := 1000) (v := .ref (ad 1006)) hx hb hts in_X6_go_X6 hown hK hP (hq _ (by decide)) c_o rfl 6 (by decide) (hts _ wd_X6_go_6) (fun _ h9 => h9) rfl dX6_go_143 ?_
                            refine lv_iload_n hx hb dX6_go_146 rfl (lv_at hl 2 rfl) ?_
                            refine ax_iald (k := 1006) (i := k1) (v := nI (et k1)) hx hb hK hP (hq _ (by decide)) c_TO (by omega) (by omega) rfl dX6_go_147 ?_
                            refine ax_put (k := 1000) (v := .int (nI (et k1))) (fs' := [.int (nI N), .int (nI V), .int (nI 0), .ref (ad 1003), .int (nI ec), .ref (ad 1005), .ref (ad 1006), .ref (ad 1007), .ref (ad 1008), .ref (ad 1009), .int (nI en), .int (if an = true then 1 else 0), .ref (ad 1012), .ref (ad 1013), .ref (ad 1014), .int (nI al), .ref (ad 1016), .ref (ad 1017), .ref (ad 1018), .ref (ad 1019), .int (nI (et k1)), .ref (ad 1021), .int (nI nc), .ref (ad 1023), .ref (ad 1024), .int (nI sz), .ref (ad 1026), .ref (ad 1027), .ref (ad 1028)]) hx hb hts in_X6_go_X6 tyX6 tyX6_ok nmX6 hown hK hP hD hS (hq _ (by decide)) c_o rfl 20 (by decide) (hts _ wd_X6_go_4) (fun _ h9 => h9) rfl (ty := .int) (by decide +kernel) rfl rfl (Nat.le_of_ble_eq_true rfl) rfl dX6_go_148 (fun H locs g20 eg20 hP hS => ?_)
                            have c_v : g20 1021 = nA G 5 (vN (stepF (V + 1) (ek k1) (ev k1) (eg k1) (fi x2.toInt) va)) := (cx_ne eg20 1021 (by omega)).trans c_v
                            have c_K : g20 1007 = nA G 20 ek := (cx_ne eg20 1007 (by omega)).trans c_K
                            have c_Z : g20 1008 = iA G 20 ez := (cx_ne eg20 1008 (by omega)).trans c_Z
                            have c_F : g20 1009 = nA G 100 (vN fm) := (cx_ne eg20 1009 (by omega)).trans c_F
                            have c_TO : g20 1006 = nA G 20 et := (cx_ne eg20 1006 (by omega)).trans c_TO
                            have c_R : g20 1028 = nA G 5 (vN (stepF (V + 1) (ek k1) (ev k1) (eg k1) (fi x2.toInt) va)) := (cx_ne eg20 1028 (by omega)).trans c_R
                            have c_FO : g20 1005 = nA G 20 ef := (cx_ne eg20 1005 (by omega)).trans c_FO
                            have c_o : g20 1000 = .inr (6, [.int (nI N), .int (nI V), .int (nI 0), .ref (ad 1003), .int (nI ec), .ref (ad 1005), .ref (ad 1006), .ref (ad 1007), .ref (ad 1008), .ref (ad 1009), .int (nI en), .int (if an = true then 1 else 0), .ref (ad 1012), .ref (ad 1013), .ref (ad 1014), .int (nI al), .ref (ad 1016), .ref (ad 1017), .ref (ad 1018), .ref (ad 1019), .int (nI (et k1)), .ref (ad 1021), .int (nI nc), .ref (ad 1023), .ref (ad 1024), .int (nI sz), .ref (ad 1026), .ref (ad 1027), .ref (ad 1028)]) := cx_eq eg20
                            have fr : ∀ j : Nat, (j ≠ 1000 ∧ j ≠ 1021 ∧ j ≠ 1028) → g20 j = g j := fun j hj => (cx_ne eg20 j (by omega)).trans (fr j hj)
                            refine lv_iconst (v := nI 1) hx hb dX6_go_151 (by decide) ?_
                            exact hret (nI 1) g20 _ _ _ _ (by decide) ⟨fr, stepF (V + 1) (ek k1) (ev k1) (eg k1) (fi x2.toInt) va, Zb.five hzn hV, c_R, Or.inl ⟨k1, hk1b, rfl, h23, Or.inr ⟨rfl, opn_3t h75 h83, c_o, c_v⟩⟩⟩ hP hS dX6_go_152
                          · skip
                            refine lv_aload_n hx hb dX6_go_123 rfl (lv_at hl 1 rfl) ?_
                            refine ax_get (k := 1000) (v := .ref (ad 1021)) hx hb hts in_X6_go_X6 hown hK hP (hq _ (by decide)) c_o rfl 21 (by decide) (hts _ wd_X6_go_7) (fun _ h9 => h9) rfl dX6_go_124 ?_
                            refine lv_iload_n hx hb dX6_go_127 rfl (lv_at hl 0 rfl) ?_
                            refine lv_aload_n hx hb dX6_go_128 rfl (lv_at hl 1 rfl) ?_
                            refine ax_get (k := 1000) (v := .ref (ad 1028)) hx hb hts in_X6_go_X6 hown hK hP (hq _ (by decide)) c_o rfl 28 (by decide) (hts _ wd_X6_go_8) (fun _ h9 => h9) rfl dX6_go_129 ?_
                            refine lv_iload_n hx hb dX6_go_132 rfl (lv_at hl 0 rfl) ?_
                            refine ax_iald (k := 1028) (i := k) (v := nI ((vN (stepF (V + 1) (ek k1) (ev k1) (eg k1) (fi x2.toInt) va)) k)) hx hb hK hP (hq _ (by decide)) c_R (by omega) (by omega) rfl dX6_go_133 ?_
                            refine ax_iast (k := 1021) (i := k) (f' := (fun j => nI ((nu (vN y2) k ((vN (stepF (V + 1) (ek k1) (ev k1) (eg k1) (fi x2.toInt) va)) k)) j))) hx hb hK hP hD hS (hq _ (by decide)) c_v (by omega) (by omega) (up_n _ _ _) dX6_go_134 (fun H locs g21 eg21 hP hS => ?_)
                            have c_o : g21 1000 = .inr (6, [.int (nI N), .int (nI V), .int (nI 0), .ref (ad 1003), .int (nI ec), .ref (ad 1005), .ref (ad 1006), .ref (ad 1007), .ref (ad 1008), .ref (ad 1009), .int (nI en), .int (if an = true then 1 else 0), .ref (ad 1012), .ref (ad 1013), .ref (ad 1014), .int (nI al), .ref (ad 1016), .ref (ad 1017), .ref (ad 1018), .ref (ad 1019), .int (nI pl), .ref (ad 1021), .int (nI nc), .ref (ad 1023), .ref (ad 1024), .int (nI sz), .ref (ad 1026), .ref (ad 1027), .ref (ad 1028)]) := (cx_ne eg21 1000 (by omega)).trans c_o
                            have c_K : g21 1007 = nA G 20 ek := (cx_ne eg21 1007 (by omega)).trans c_K
                            have c_Z : g21 1008 = iA G 20 ez := (cx_ne eg21 1008 (by omega)).trans c_Z
                            have c_F : g21 1009 = nA G 100 (vN fm) := (cx_ne eg21 1009 (by omega)).trans c_F
                            have c_TO : g21 1006 = nA G 20 et := (cx_ne eg21 1006 (by omega)).trans c_TO
                            have c_R : g21 1028 = nA G 5 (vN (stepF (V + 1) (ek k1) (ev k1) (eg k1) (fi x2.toInt) va)) := (cx_ne eg21 1028 (by omega)).trans c_R
                            have c_FO : g21 1005 = nA G 20 ef := (cx_ne eg21 1005 (by omega)).trans c_FO
                            have c_v : g21 1021 = nA G 5 (nu (vN y2) k ((vN (stepF (V + 1) (ek k1) (ev k1) (eg k1) (fi x2.toInt) va)) k)) := cx_eq eg21
                            have fr : ∀ j : Nat, (j ≠ 1000 ∧ j ≠ 1021 ∧ j ≠ 1028) → g21 j = g j := fun j hj => (cx_ne eg21 j (by omega)).trans (fr j hj)
                            have c_v : g21 1021 = nA G 5 (vN (nu y2 k ((stepF (V + 1) (ek k1) (ev k1) (eg k1) (fi x2.toInt) va) k))) := by rw [← vN_nu]; exact c_v
                            refine lv_iinc (v := nI (k + 1)) (lv' := [(3, .int (nI (k + 1))), (0, .ref (ad 1000)), (1, .int (nI k1)), (2, .int x2)]) hx hb dX6_go_135 hl (k := 0) rfl (nI_1 _) (by decide) rfl (fun ls hl => ?_)
                            refine lv_goto (tgt := 118) hx hb dX6_go_138 (by decide) ?_
                            exact ih118 (k + 1) (nu y2 k ((stepF (V + 1) (ek k1) (ev k1) (eg k1) (fi x2.toInt) va) k)) h120 (cp_step hr2) (by omega) g21 _ _ _ c_o c_v c_K c_Z c_F c_TO c_R c_FO  fr hP hS (lv_sub hl [0, 1, 2, 3] rfl)
                      exact LP118 ((5 - 0) + 1) 0 va (Nat.zero_le _) cp_0 (Nat.lt_succ_self _) g18 _ _ _ c_o c_v c_K c_Z c_F c_TO c_R c_FO  fr hP hS (lv_sub hl [0, 1, 2, 3] rfl)
                    · skip
                      exact absurd h93 (by omega)
              · skip
                refine lv_aload_n hx hb dX6_go_50 rfl (lv_at hl 1 rfl) ?_
                refine ax_get (k := 1000) (v := .ref (ad 1028)) hx hb hts in_X6_go_X6 hown hK hP (hq _ (by decide)) c_o rfl 28 (by decide) (hts _ wd_X6_go_8) (fun _ h9 => h9) rfl dX6_go_51 ?_
                refine lv_iload_n hx hb dX6_go_54 rfl (lv_at hl 0 rfl) ?_
                refine lv_aload_n hx hb dX6_go_55 rfl (lv_at hl 1 rfl) ?_
                refine ax_get (k := 1000) (v := .ref (ad 1021)) hx hb hts in_X6_go_X6 hown hK hP (hq _ (by decide)) c_o rfl 21 (by decide) (hts _ wd_X6_go_7) (fun _ h9 => h9) rfl dX6_go_56 ?_
                refine lv_iload_n hx hb dX6_go_59 rfl (lv_at hl 0 rfl) ?_
                refine ax_iald (k := 1021) (i := k) (v := nI ((vN va) k)) hx hb hK hP (hq _ (by decide)) c_v (by omega) (by omega) rfl dX6_go_60 ?_
                refine ax_iast (k := 1028) (i := k) (f' := (fun j => nI ((nu (vN y) k ((vN va) k)) j))) hx hb hK hP hD hS (hq _ (by decide)) c_R (by omega) (by omega) (up_n _ _ _) dX6_go_61 (fun H locs g22 eg22 hP hS => ?_)
                have c_o : g22 1000 = .inr (6, [.int (nI N), .int (nI V), .int (nI 0), .ref (ad 1003), .int (nI ec), .ref (ad 1005), .ref (ad 1006), .ref (ad 1007), .ref (ad 1008), .ref (ad 1009), .int (nI en), .int (if an = true then 1 else 0), .ref (ad 1012), .ref (ad 1013), .ref (ad 1014), .int (nI al), .ref (ad 1016), .ref (ad 1017), .ref (ad 1018), .ref (ad 1019), .int (nI pl), .ref (ad 1021), .int (nI nc), .ref (ad 1023), .ref (ad 1024), .int (nI sz), .ref (ad 1026), .ref (ad 1027), .ref (ad 1028)]) := (cx_ne eg22 1000 (by omega)).trans c_o
                have c_v : g22 1021 = nA G 5 (vN va) := (cx_ne eg22 1021 (by omega)).trans c_v
                have c_K : g22 1007 = nA G 20 ek := (cx_ne eg22 1007 (by omega)).trans c_K
                have c_Z : g22 1008 = iA G 20 ez := (cx_ne eg22 1008 (by omega)).trans c_Z
                have c_F : g22 1009 = nA G 100 (vN fm) := (cx_ne eg22 1009 (by omega)).trans c_F
                have c_TO : g22 1006 = nA G 20 et := (cx_ne eg22 1006 (by omega)).trans c_TO
                have c_FO : g22 1005 = nA G 20 ef := (cx_ne eg22 1005 (by omega)).trans c_FO
                have c_R : g22 1028 = nA G 5 (nu (vN y) k ((vN va) k)) := cx_eq eg22
                have fr : ∀ j : Nat, (j ≠ 1000 ∧ j ≠ 1021 ∧ j ≠ 1028) → g22 j = g j := fun j hj => (cx_ne eg22 j (by omega)).trans (fr j hj)
                have c_R : g22 1028 = nA G 5 (vN (nu y k (va k))) := by rw [← vN_nu]; exact c_R
                refine lv_iinc (v := nI (k + 1)) (lv' := [(3, .int (nI (k + 1))), (0, .ref (ad 1000)), (1, .int (nI k1)), (2, .int x2)]) hx hb dX6_go_62 hl (k := 0) rfl (nI_1 _) (by decide) rfl (fun ls hl => ?_)
                refine lv_goto (tgt := 45) hx hb dX6_go_65 (by decide) ?_
                exact ih45 (k + 1) (nu y k (va k)) h47 (cp_step hr) (by omega) g22 _ _ _ c_o c_v c_K c_Z c_F c_TO c_R c_FO  fr hP hS (lv_sub hl [0, 1, 2, 3] rfl)
          exact LP45 ((5 - 0) + 1) 0 rr (Nat.zero_le _) cp_0 (Nat.lt_succ_self _) g3 _ _ _ c_o c_v c_K c_Z c_F c_TO c_R c_FO  fr hP hS (lv_sub hl [0, 1, 2, 3] rfl)
        · skip
          exact absurd h38 (by decide)
      · skip
        refine lv_iconst (v := nI 1) hx hb dX6_go_26 (by decide) ?_
        refine lv_goto (tgt := 31) hx hb dX6_go_27 (by decide) ?_
        refine ax_put (k := 1000) (v := .int (nI 1)) (fs' := [.int (nI N), .int (nI V), .int (nI 1), .ref (ad 1003), .int (nI ec), .ref (ad 1005), .ref (ad 1006), .ref (ad 1007), .ref (ad 1008), .ref (ad 1009), .int (nI en), .int (if an = true then 1 else 0), .ref (ad 1012), .ref (ad 1013), .ref (ad 1014), .int (nI al), .ref (ad 1016), .ref (ad 1017), .ref (ad 1018), .ref (ad 1019), .int (nI pl), .ref (ad 1021), .int (nI nc), .ref (ad 1023), .ref (ad 1024), .int (nI sz), .ref (ad 1026), .ref (ad 1027), .ref (ad 1028)]) hx hb hts in_X6_go_X6 tyX6 tyX6_ok nmX6 hown hK hP hD hS (hq _ (by decide)) c_o rfl 2 (by decide) (hts _ wd_X6_go_0) (fun _ h9 => h9) rfl (ty := .int) (by decide +kernel) rfl rfl (Nat.le_of_ble_eq_true rfl) rfl dX6_go_31 (fun H locs g23 eg23 hP hS => ?_)
        have c_v : g23 1021 = nA G 5 (vN va) := (cx_ne eg23 1021 (by omega)).trans c_v
        have c_K : g23 1007 = nA G 20 ek := (cx_ne eg23 1007 (by omega)).trans c_K
        have c_Z : g23 1008 = iA G 20 ez := (cx_ne eg23 1008 (by omega)).trans c_Z
        have c_F : g23 1009 = nA G 100 (vN fm) := (cx_ne eg23 1009 (by omega)).trans c_F
        have c_TO : g23 1006 = nA G 20 et := (cx_ne eg23 1006 (by omega)).trans c_TO
        have c_R : g23 1028 = nA G 5 (vN rr) := (cx_ne eg23 1028 (by omega)).trans c_R
        have c_FO : g23 1005 = nA G 20 ef := (cx_ne eg23 1005 (by omega)).trans c_FO
        have c_o : g23 1000 = .inr (6, [.int (nI N), .int (nI V), .int (nI 1), .ref (ad 1003), .int (nI ec), .ref (ad 1005), .ref (ad 1006), .ref (ad 1007), .ref (ad 1008), .ref (ad 1009), .int (nI en), .int (if an = true then 1 else 0), .ref (ad 1012), .ref (ad 1013), .ref (ad 1014), .int (nI al), .ref (ad 1016), .ref (ad 1017), .ref (ad 1018), .ref (ad 1019), .int (nI pl), .ref (ad 1021), .int (nI nc), .ref (ad 1023), .ref (ad 1024), .int (nI sz), .ref (ad 1026), .ref (ad 1027), .ref (ad 1028)]) := cx_eq eg23
        have fr : ∀ j : Nat, (j ≠ 1000 ∧ j ≠ 1021 ∧ j ≠ 1028) → g23 j = g j := fun j hj => (cx_ne eg23 j (by omega)).trans (fr j hj)
        refine lv_aload_n hx hb dX6_go_34 rfl (lv_at hl 0 rfl) ?_
        refine ax_get (k := 1000) (v := .int (nI 1)) hx hb hts in_X6_go_X6 hown hK hP (hq _ (by decide)) c_o rfl 2 (by decide) (hts _ wd_X6_go_0) (fun _ h9 => h9) rfl dX6_go_35 ?_
        refine ax_ifeq (a := 1) (tgt := 43) hx hb dX6_go_38 (by decide) (by omega) (fun h38 => ?_) (fun h38 => ?_)
        · skip
          exact absurd h38 (by decide)
        · skip
          refine lv_iconst (v := nI 0) hx hb dX6_go_41 (by decide) ?_
          exact hret (nI 0) g23 _ _ _ _ (by decide) ⟨fr, rr, hzr, c_R, Or.inr ⟨fun ⟨k, q1, q2, q3⟩ => h23 (by have q9 := congrArg Int32.toInt q2; rw [nI_toInt (by omega), nI_toInt (by omega)] at q9; have q8 : k1 = k := (by omega); rw [q8]; exact q3), c_o, c_v⟩⟩ hP hS dX6_go_42

set_option maxRecDepth 20000 in
theorem wd_X6_noteAll_0 : Cond.fieldLink RX6 67 "AffineHullsModel" "n" "I" ∈ wsX6_noteAll := by decide +kernel
set_option maxRecDepth 20000 in
theorem in_X6_noteAll_X6 : ∀ w ∈ u_ws RX6 TX6 29, w ∈ wsX6_noteAll := by decide +kernel
set_option maxRecDepth 20000 in
theorem wd_X6_noteAll_2 : Cond.fieldLink RX6 109 "AffineHullsModel" "analysed" "Z" ∈ wsX6_noteAll := by decide +kernel
set_option maxRecDepth 20000 in
theorem wd_X6_noteAll_3 : Cond.fieldLink RX6 74 "AffineHullsModel" "thrown" "I" ∈ wsX6_noteAll := by decide +kernel
set_option maxRecDepth 20000 in
theorem wd_X6_noteAll_4 : Cond.fieldLink RX6 151 "AffineHullsModel" "notes" "I" ∈ wsX6_noteAll := by decide +kernel
set_option maxRecDepth 20000 in
theorem wd_X6_noteAll_5 : Cond.fieldLink RX6 43 "AffineHullsModel" "rows" "[I" ∈ wsX6_noteAll := by decide +kernel
set_option maxRecDepth 20000 in
theorem wd_X6_noteAll_6 : Cond.fieldLink RX6 52 "AffineHullsModel" "noteNode" "[I" ∈ wsX6_noteAll := by decide +kernel
set_option maxRecDepth 20000 in
theorem wd_X6_noteAll_7 : Cond.fieldLink RX6 55 "AffineHullsModel" "noteForm" "[I" ∈ wsX6_noteAll := by decide +kernel
set_option maxRecDepth 20000 in
theorem wd_X6_noteAll_8 : Cond.fieldLink RX6 46 "AffineHullsModel" "equations" "[I" ∈ wsX6_noteAll := by decide +kernel
abbrev rm_X6_noteAll : Room := { frames := 0, cells := 0, slots := 0, locals := 0 }
set_option maxHeartbeats 4000000 in
set_option maxRecDepth 100000 in
theorem c_X6_noteAll {l : Launch} {G : cx_G} {L : List Nat} {ad : Nat → Nat} {g : Nat → va_E} (hD : cx_D L ad) {N V th ec en al pl nc sz : Nat} {an : Bool} {P : PS} {rz nn : Nat → Nat} {eq nf : Nat → FF} {ng : Nat → Nat → FF} (hN1 : 1 ≤ N) (hN : N ≤ 8) (hV1 : 1 ≤ V) (hV : V ≤ 4) (hq : ∀ j : Nat, lbM j = true → j ∈ L) (c_o : g 1000 = .inr (6, [.int (nI N), .int (nI V), .int (nI th), .ref (ad 1003), .int (nI ec), .ref (ad 1005), .ref (ad 1006), .ref (ad 1007), .ref (ad 1008), .ref (ad 1009), .int (nI en), .int (if an = true then 1 else 0), .ref (ad 1012), .ref (ad 1013), .ref (ad 1014), .int (nI al), .ref (ad 1016), .ref (ad 1017), .ref (ad 1018), .ref (ad 1019), .int (nI pl), .ref (ad 1021), .int (nI nc), .ref (ad 1023), .ref (ad 1024), .int (nI sz), .ref (ad 1026), .ref (ad 1027), .ref (ad 1028)])) (c_W : g 1018 = nA G 8 rz) (c_E : g 1019 = nA G 200 (vN eq)) (c_NN : g 1023 = nA G 24 nn) (c_NF : g 1024 = nA G 120 (vN nf)) (hqe : an = true → QE V P rz eq N) (hfn : FR nf ng) : MI l yX6_noteAll wsX6_noteAll rm_X6_noteAll G L ad g [.ref (ad 1000)] (fun r u => (∀ j : Nat, (j ≠ 1000 ∧ j ≠ 1023 ∧ j ≠ 1024) → u j = g j) ∧ ((an = true ∧ csum (fun i => V + 1 - P.2.2.2.1 i) N ≤ 24 ∧ r = nI (csum (fun i => V + 1 - P.2.2.2.1 i) N) ∧ u 1000 = .inr (6, [.int (nI N), .int (nI V), .int (nI 0), .ref (ad 1003), .int (nI ec), .ref (ad 1005), .ref (ad 1006), .ref (ad 1007), .ref (ad 1008), .ref (ad 1009), .int (nI en), .int (if an = true then 1 else 0), .ref (ad 1012), .ref (ad 1013), .ref (ad 1014), .int (nI al), .ref (ad 1016), .ref (ad 1017), .ref (ad 1018), .ref (ad 1019), .int (nI pl), .ref (ad 1021), .int (nI (csum (fun i => V + 1 - P.2.2.2.1 i) N)), .ref (ad 1023), .ref (ad 1024), .int (nI sz), .ref (ad 1026), .ref (ad 1027), .ref (ad 1028)]) ∧ u 1023 = nA G 24 (naF (V + 1) P nn ng N).1 ∧ ∃ nf2 : Nat → FF, u 1024 = nA G 120 (vN nf2) ∧ FR nf2 (naF (V + 1) P nn ng N).2) ∨ (an = false ∧ u 1000 = .inr (6, [.int (nI N), .int (nI V), .int (nI 1), .ref (ad 1003), .int (nI ec), .ref (ad 1005), .ref (ad 1006), .ref (ad 1007), .ref (ad 1008), .ref (ad 1009), .int (nI en), .int (if an = true then 1 else 0), .ref (ad 1012), .ref (ad 1013), .ref (ad 1014), .int (nI al), .ref (ad 1016), .ref (ad 1017), .ref (ad 1018), .ref (ad 1019), .int (nI pl), .ref (ad 1021), .int (nI nc), .ref (ad 1023), .ref (ad 1024), .int (nI sz), .ref (ad 1026), .ref (ad 1027), .ref (ad 1028)]) ∧ u 1023 = nA G 24 nn ∧ u 1024 = nA G 120 (vN nf)) ∨ (an = true ∧ ¬ csum (fun i => V + 1 - P.2.2.2.1 i) N ≤ 24 ∧ u 1000 = .inr (6, [.int (nI N), .int (nI V), .int (nI 2), .ref (ad 1003), .int (nI ec), .ref (ad 1005), .ref (ad 1006), .ref (ad 1007), .ref (ad 1008), .ref (ad 1009), .int (nI en), .int (if an = true then 1 else 0), .ref (ad 1012), .ref (ad 1013), .ref (ad 1014), .int (nI al), .ref (ad 1016), .ref (ad 1017), .ref (ad 1018), .ref (ad 1019), .int (nI pl), .ref (ad 1021), .int (nI nc), .ref (ad 1023), .ref (ad 1024), .int (nI sz), .ref (ad 1026), .ref (ad 1027), .ref (ad 1028)]) ∧ u 1023 = nA G 24 nn ∧ u 1024 = nA G 120 (vN nf)))) := by
  refine cx_ofI (cc := cX6_noteAll) (maxL := 5) (by decide +kernel) rfl (Nat.le_of_ble_eq_true rfl) ?_
  intro p e s m args below meth c Q hx hb hts hown hml hP hK hS hz hret ls hl
  have hown : s.vm.findClass RX6 = some m.cls := hown
  have hl : lv_has ls 5 [(0, .ref (ad 1000))] := hl
  have fr : ∀ j : Nat, (j ≠ 1000 ∧ j ≠ 1023 ∧ j ≠ 1024) → g j = g j := fun _ _ => rfl
  refine lv_iconst (v := nI 0) hx hb dX6_noteAll_0 (by decide) ?_
  refine lv_istore_n (lv' := [(1, .int (nI 0)), (0, .ref (ad 1000))]) hx hb dX6_noteAll_1 rfl hl (by decide) rfl (fun ls hl => ?_)
  refine lv_iconst (v := nI 0) hx hb dX6_noteAll_2 (by decide) ?_
  refine lv_istore_n (lv' := [(2, .int (nI 0)), (1, .int (nI 0)), (0, .ref (ad 1000))]) hx hb dX6_noteAll_3 rfl hl (by decide) rfl (fun ls hl => ?_)
  have LP4 : ∀ (fu : Nat) (k : Nat), (k ≤ N) → (N - k) < fu → ∀ (ls : Array Slot), lv_has ls 5 [(2, .int (nI k)), (1, .int (nI (csum rz k))), (0, .ref (ad 1000))] → W p l e rm_X6_noteAll s m args below meth c s.heap [] 0 0 Q (F0 m 4 ls []) := by
    intro fu
    induction fu with
    | zero => intro k hkN hfu; exact absurd hfu (Nat.not_lt_zero _)
    | succ fu ih4 =>
      intro k hkN hfu4 ls hl
      refine lv_iload_n hx hb dX6_noteAll_4 rfl (lv_at hl 0 rfl) ?_
      refine lv_aload_n hx hb dX6_noteAll_5 rfl (lv_at hl 2 rfl) ?_
      refine ax_get (k := 1000) (v := .int (nI N)) hx hb hts in_X6_noteAll_X6 hown hK hP (hq _ (by decide)) c_o rfl 0 (by decide) (hts _ wd_X6_noteAll_0) (fun _ h9 => h9) rfl dX6_noteAll_6 ?_
      refine ax_icge (a := k) (b := N) (tgt := 34) hx hb dX6_noteAll_9 (by decide) (by omega) (by omega) (fun h9 => ?_) (fun h9 => ?_)
      · skip
        refine lv_aload_n hx hb dX6_noteAll_34 rfl (lv_at hl 2 rfl) ?_
        refine lv_aload_n hx hb dX6_noteAll_35 rfl (lv_at hl 2 rfl) ?_
        refine ax_get (k := 1000) (v := .int (if an = true then 1 else 0)) hx hb hts in_X6_noteAll_X6 hown hK hP (hq _ (by decide)) c_o rfl 11 (by decide) (hts _ wd_X6_noteAll_2) (fun _ h9 => h9) rfl dX6_noteAll_36 ?_
        refine ax_zne (b := an) (tgt := 46) hx hb dX6_noteAll_39 (by decide) (fun h39 => ?_) (fun h39 => ?_)
        · skip
          have ek9 : N = k := by omega
          subst ek9
          have hqn := hqe h39
          have ecs : csum rz N = csum (fun i => V + 1 - P.2.2.2.1 i) N := csum_cg (fun i hi => (hqn i hi).1)
          have hcs := csum_le (f := (fun i => V + 1 - P.2.2.2.1 i)) (c := V + 1) (n := N) (fun i _ => Nat.sub_le _ _)
          have hcs2 : N * (V + 1) ≤ 8 * 5 := Nat.mul_le_mul (by omega) (by omega)
          refine lv_iload_n hx hb dX6_noteAll_46 rfl (lv_at hl 1 rfl) ?_
          refine lv_bipush (v := nI 24) hx hb dX6_noteAll_47 (by decide) ?_
          refine ax_icle (a := csum rz N) (b := 24) (tgt := 56) hx hb dX6_noteAll_49 (by decide) (by omega) (by omega) (fun h49 => ?_) (fun h49 => ?_)
          · skip
            refine lv_iconst (v := nI 0) hx hb dX6_noteAll_56 (by decide) ?_
            refine ax_put (k := 1000) (v := .int (nI 0)) (fs' := [.int (nI N), .int (nI V), .int (nI 0), .ref (ad 1003), .int (nI ec), .ref (ad 1005), .ref (ad 1006), .ref (ad 1007), .ref (ad 1008), .ref (ad 1009), .int (nI en), .int (if an = true then 1 else 0), .ref (ad 1012), .ref (ad 1013), .ref (ad 1014), .int (nI al), .ref (ad 1016), .ref (ad 1017), .ref (ad 1018), .ref (ad 1019), .int (nI pl), .ref (ad 1021), .int (nI nc), .ref (ad 1023), .ref (ad 1024), .int (nI sz), .ref (ad 1026), .ref (ad 1027), .ref (ad 1028)]) hx hb hts in_X6_noteAll_X6 tyX6 tyX6_ok nmX6 hown hK hP hD hS (hq _ (by decide)) c_o rfl 2 (by decide) (hts _ wd_X6_noteAll_3) (fun _ h9 => h9) rfl (ty := .int) (by decide +kernel) rfl rfl (Nat.le_of_ble_eq_true rfl) rfl dX6_noteAll_57 (fun H locs g2 eg2 hP hS => ?_)
            have c_W : g2 1018 = nA G 8 rz := (cx_ne eg2 1018 (by omega)).trans c_W
            have c_E : g2 1019 = nA G 200 (vN eq) := (cx_ne eg2 1019 (by omega)).trans c_E
            have c_NN : g2 1023 = nA G 24 nn := (cx_ne eg2 1023 (by omega)).trans c_NN
            have c_NF : g2 1024 = nA G 120 (vN nf) := (cx_ne eg2 1024 (by omega)).trans c_NF
            have c_o : g2 1000 = .inr (6, [.int (nI N), .int (nI V), .int (nI 0), .ref (ad 1003), .int (nI ec), .ref (ad 1005), .ref (ad 1006), .ref (ad 1007), .ref (ad 1008), .ref (ad 1009), .int (nI en), .int (if an = true then 1 else 0), .ref (ad 1012), .ref (ad 1013), .ref (ad 1014), .int (nI al), .ref (ad 1016), .ref (ad 1017), .ref (ad 1018), .ref (ad 1019), .int (nI pl), .ref (ad 1021), .int (nI nc), .ref (ad 1023), .ref (ad 1024), .int (nI sz), .ref (ad 1026), .ref (ad 1027), .ref (ad 1028)]) := cx_eq eg2
            have fr : ∀ j : Nat, (j ≠ 1000 ∧ j ≠ 1023 ∧ j ≠ 1024) → g2 j = g j := fun j hj => (cx_ne eg2 j (by omega)).trans (fr j hj)
            refine lv_aload_n hx hb dX6_noteAll_60 rfl (lv_at hl 2 rfl) ?_
            refine ax_get (k := 1000) (v := .int (nI 0)) hx hb hts in_X6_noteAll_X6 hown hK hP (hq _ (by decide)) c_o rfl 2 (by decide) (hts _ wd_X6_noteAll_3) (fun _ h9 => h9) rfl dX6_noteAll_61 ?_
            refine ax_ifeq (a := 0) (tgt := 69) hx hb dX6_noteAll_64 (by decide) (by omega) (fun h64 => ?_) (fun h64 => ?_)
            · skip
              refine lv_aload_n hx hb dX6_noteAll_69 rfl (lv_at hl 2 rfl) ?_
              refine lv_iconst (v := nI 0) hx hb dX6_noteAll_70 (by decide) ?_
              refine ax_put (k := 1000) (v := .int (nI 0)) (fs' := [.int (nI N), .int (nI V), .int (nI 0), .ref (ad 1003), .int (nI ec), .ref (ad 1005), .ref (ad 1006), .ref (ad 1007), .ref (ad 1008), .ref (ad 1009), .int (nI en), .int (if an = true then 1 else 0), .ref (ad 1012), .ref (ad 1013), .ref (ad 1014), .int (nI al), .ref (ad 1016), .ref (ad 1017), .ref (ad 1018), .ref (ad 1019), .int (nI pl), .ref (ad 1021), .int (nI 0), .ref (ad 1023), .ref (ad 1024), .int (nI sz), .ref (ad 1026), .ref (ad 1027), .ref (ad 1028)]) hx hb hts in_X6_noteAll_X6 tyX6 tyX6_ok nmX6 hown hK hP hD hS (hq _ (by decide)) c_o rfl 22 (by decide) (hts _ wd_X6_noteAll_4) (fun _ h9 => h9) rfl (ty := .int) (by decide +kernel) rfl rfl (Nat.le_of_ble_eq_true rfl) rfl dX6_noteAll_71 (fun H locs g3 eg3 hP hS => ?_)
              have c_W : g3 1018 = nA G 8 rz := (cx_ne eg3 1018 (by omega)).trans c_W
              have c_E : g3 1019 = nA G 200 (vN eq) := (cx_ne eg3 1019 (by omega)).trans c_E
              have c_NN : g3 1023 = nA G 24 nn := (cx_ne eg3 1023 (by omega)).trans c_NN
              have c_NF : g3 1024 = nA G 120 (vN nf) := (cx_ne eg3 1024 (by omega)).trans c_NF
              have c_o : g3 1000 = .inr (6, [.int (nI N), .int (nI V), .int (nI 0), .ref (ad 1003), .int (nI ec), .ref (ad 1005), .ref (ad 1006), .ref (ad 1007), .ref (ad 1008), .ref (ad 1009), .int (nI en), .int (if an = true then 1 else 0), .ref (ad 1012), .ref (ad 1013), .ref (ad 1014), .int (nI al), .ref (ad 1016), .ref (ad 1017), .ref (ad 1018), .ref (ad 1019), .int (nI pl), .ref (ad 1021), .int (nI 0), .ref (ad 1023), .ref (ad 1024), .int (nI sz), .ref (ad 1026), .ref (ad 1027), .ref (ad 1028)]) := cx_eq eg3
              have fr : ∀ j : Nat, (j ≠ 1000 ∧ j ≠ 1023 ∧ j ≠ 1024) → g3 j = g j := fun j hj => (cx_ne eg3 j (by omega)).trans (fr j hj)
              refine lv_iconst (v := nI 0) hx hb dX6_noteAll_74 (by decide) ?_
              refine lv_istore_n (lv' := [(2, .int (nI 0)), (1, .int (nI (csum rz N))), (0, .ref (ad 1000))]) hx hb dX6_noteAll_75 rfl hl (by decide) rfl (fun ls hl => ?_)
              have LP76 : ∀ (fu : Nat) (k2 : Nat) (y : Nat → FF), (k2 ≤ N) → (FR y (naF (V + 1) P nn ng k2).2) → (N - k2) < fu → ∀ (ga4 : Nat → va_E) (H : Heap) (locs : List Loc) (ls : Array Slot), (ga4 1000 = .inr (6, [.int (nI N), .int (nI V), .int (nI 0), .ref (ad 1003), .int (nI ec), .ref (ad 1005), .ref (ad 1006), .ref (ad 1007), .ref (ad 1008), .ref (ad 1009), .int (nI en), .int (if an = true then 1 else 0), .ref (ad 1012), .ref (ad 1013), .ref (ad 1014), .int (nI al), .ref (ad 1016), .ref (ad 1017), .ref (ad 1018), .ref (ad 1019), .int (nI pl), .ref (ad 1021), .int (nI (csum (fun i => V + 1 - P.2.2.2.1 i) k2)), .ref (ad 1023), .ref (ad 1024), .int (nI sz), .ref (ad 1026), .ref (ad 1027), .ref (ad 1028)])) → (ga4 1018 = nA G 8 rz) → (ga4 1019 = nA G 200 (vN eq)) → (ga4 1023 = nA G 24 ((naF (V + 1) P nn ng k2).1)) → (ga4 1024 = nA G 120 (vN y)) → (∀ j : Nat, (j ≠ 1000 ∧ j ≠ 1023 ∧ j ≠ 1024) → ga4 j = g j) → va_P G.1 vwCl (wl L ad ga4) H → va_S (cx_A L ad s.heap.size) s.heap H locs → lv_has ls 5 [(2, .int (nI k2)), (0, .ref (ad 1000))] → W p l e rm_X6_noteAll s m args below meth c H locs 0 0 Q (F0 m 76 ls []) := by
                intro fu
                induction fu with
                | zero => intro k2 y hk2 hfy hfu; exact absurd hfu (Nat.not_lt_zero _)
                | succ fu ih76 =>
                  intro k2 y hk2 hfy hfu76 ga4 H locs ls c_o c_W c_E c_NN c_NF fr hP hS hl
                  refine lv_iload_n hx hb dX6_noteAll_76 rfl (lv_at hl 0 rfl) ?_
                  refine lv_aload_n hx hb dX6_noteAll_77 rfl (lv_at hl 1 rfl) ?_
                  refine ax_get (k := 1000) (v := .int (nI N)) hx hb hts in_X6_noteAll_X6 hown hK hP (hq _ (by decide)) c_o rfl 0 (by decide) (hts _ wd_X6_noteAll_0) (fun _ h9 => h9) rfl dX6_noteAll_78 ?_
                  refine ax_icge (a := k2) (b := N) (tgt := 173) hx hb dX6_noteAll_81 (by decide) (by omega) (by omega) (fun h81 => ?_) (fun h81 => ?_)
                  · skip
                    refine lv_aload_n hx hb dX6_noteAll_173 rfl (lv_at hl 1 rfl) ?_
                    refine ax_get (k := 1000) (v := .int (nI (csum (fun i => V + 1 - P.2.2.2.1 i) k2))) hx hb hts in_X6_noteAll_X6 hown hK hP (hq _ (by decide)) c_o rfl 22 (by decide) (hts _ wd_X6_noteAll_4) (fun _ h9 => h9) rfl dX6_noteAll_174 ?_
                    exact hret (nI (csum (fun i => V + 1 - P.2.2.2.1 i) k2)) ga4 _ _ _ _ rfl (by have ek : N = k2 := (by omega); subst ek; exact ⟨fr, Or.inl ⟨h39, by omega, rfl, c_o, c_NN, y, c_NF, hfy⟩⟩) hP hS dX6_noteAll_177
                  · skip
                    have hrk := (hqn k2 h81).1
                    have hrv := (hqn k2 h81).2
                    have hcm : csum (fun i => V + 1 - P.2.2.2.1 i) (k2 + 1) ≤ csum (fun i => V + 1 - P.2.2.2.1 i) N := csum_mono (by omega)
                    have hcm2 : csum (fun i => V + 1 - P.2.2.2.1 i) (k2 + 1) = csum (fun i => V + 1 - P.2.2.2.1 i) k2 + (V + 1 - P.2.2.2.1 k2) := rfl
                    refine lv_iconst (v := nI 0) hx hb dX6_noteAll_84 (by decide) ?_
                    refine lv_istore_n (lv' := [(3, .int (nI 0)), (2, .int (nI k2)), (0, .ref (ad 1000))]) hx hb dX6_noteAll_85 rfl hl (by decide) rfl (fun ls hl => ?_)
                    have LP86 : ∀ (fu : Nat) (i : Nat) (y2 : Nat → FF), (i ≤ V + 1 - P.2.2.2.1 k2) → (FR y2 (eqnG (eqF (V + 1) (P.2.2.2.2.1 k2) (P.2.2.2.1 k2)) (csum (fun i => V + 1 - P.2.2.2.1 i) k2) (naF (V + 1) P nn ng k2).2 i)) → (V + 1 - P.2.2.2.1 k2 - i) < fu → ∀ (ga5 : Nat → va_E) (H : Heap) (locs : List Loc) (ls : Array Slot), (ga5 1000 = .inr (6, [.int (nI N), .int (nI V), .int (nI 0), .ref (ad 1003), .int (nI ec), .ref (ad 1005), .ref (ad 1006), .ref (ad 1007), .ref (ad 1008), .ref (ad 1009), .int (nI en), .int (if an = true then 1 else 0), .ref (ad 1012), .ref (ad 1013), .ref (ad 1014), .int (nI al), .ref (ad 1016), .ref (ad 1017), .ref (ad 1018), .ref (ad 1019), .int (nI pl), .ref (ad 1021), .int (nI (csum (fun i => V + 1 - P.2.2.2.1 i) k2 + i)), .ref (ad 1023), .ref (ad 1024), .int (nI sz), .ref (ad 1026), .ref (ad 1027), .ref (ad 1028)])) → (ga5 1018 = nA G 8 rz) → (ga5 1019 = nA G 200 (vN eq)) → (ga5 1023 = nA G 24 (eqnN k2 (csum (fun i => V + 1 - P.2.2.2.1 i) k2) (naF (V + 1) P nn ng k2).1 i)) → (ga5 1024 = nA G 120 (vN y2)) → (∀ j : Nat, (j ≠ 1000 ∧ j ≠ 1023 ∧ j ≠ 1024) → ga5 j = g j) → va_P G.1 vwCl (wl L ad ga5) H → va_S (cx_A L ad s.heap.size) s.heap H locs → lv_has ls 5 [(3, .int (nI i)), (2, .int (nI k2)), (0, .ref (ad 1000))] → W p l e rm_X6_noteAll s m args below meth c H locs 0 0 Q (F0 m 86 ls []) := by
                      intro fu
                      induction fu with
                      | zero => intro i y2 hii hfy2 hfu; exact absurd hfu (Nat.not_lt_zero _)
                      | succ fu ih86 =>
                        intro i y2 hii hfy2 hfu86 ga5 H locs ls c_o c_W c_E c_NN c_NF fr hP hS hl
                        refine lv_iload_n hx hb dX6_noteAll_86 rfl (lv_at hl 0 rfl) ?_
                        refine lv_aload_n hx hb dX6_noteAll_87 rfl (lv_at hl 2 rfl) ?_
                        refine ax_get (k := 1000) (v := .ref (ad 1018)) hx hb hts in_X6_noteAll_X6 hown hK hP (hq _ (by decide)) c_o rfl 18 (by decide) (hts _ wd_X6_noteAll_5) (fun _ h9 => h9) rfl dX6_noteAll_88 ?_
                        refine lv_iload_n hx hb dX6_noteAll_91 rfl (lv_at hl 1 rfl) ?_
                        refine ax_iald (k := 1018) (i := k2) (v := nI (rz k2)) hx hb hK hP (hq _ (by decide)) c_W (by omega) (by omega) rfl dX6_noteAll_92 ?_
                        refine ax_icge (a := i) (b := rz k2) (tgt := 167) hx hb dX6_noteAll_93 (by decide) (by omega) (by omega) (fun h93 => ?_) (fun h93 => ?_)
                        · skip
                          refine lv_iinc (v := nI (k2 + 1)) (lv' := [(2, .int (nI (k2 + 1))), (3, .int (nI i)), (0, .ref (ad 1000))]) hx hb dX6_noteAll_167 hl (k := 1) rfl (nI_1 _) (by decide) rfl (fun ls hl => ?_)
                          refine lv_goto (tgt := 76) hx hb dX6_noteAll_170 (by decide) ?_
                          exact ih76 (k2 + 1) y2 h81 (by have ei9 : i = V + 1 - P.2.2.2.1 k2 := (by omega); rw [ei9] at hfy2; exact hfy2) (by omega) ga5 _ _ _ (by have ei9 : i = V + 1 - P.2.2.2.1 k2 := (by omega); rw [ei9] at c_o; exact c_o) c_W c_E (by have ei9 : i = V + 1 - P.2.2.2.1 k2 := (by omega); rw [ei9] at c_NN; exact c_NN) c_NF  fr hP hS (lv_sub hl [0, 2] rfl)
                        · skip
                          refine lv_aload_n hx hb dX6_noteAll_96 rfl (lv_at hl 2 rfl) ?_
                          refine ax_get (k := 1000) (v := .ref (ad 1023)) hx hb hts in_X6_noteAll_X6 hown hK hP (hq _ (by decide)) c_o rfl 23 (by decide) (hts _ wd_X6_noteAll_6) (fun _ h9 => h9) rfl dX6_noteAll_97 ?_
                          refine lv_aload_n hx hb dX6_noteAll_100 rfl (lv_at hl 2 rfl) ?_
                          refine ax_get (k := 1000) (v := .int (nI (csum (fun i => V + 1 - P.2.2.2.1 i) k2 + i))) hx hb hts in_X6_noteAll_X6 hown hK hP (hq _ (by decide)) c_o rfl 22 (by decide) (hts _ wd_X6_noteAll_4) (fun _ h9 => h9) rfl dX6_noteAll_101 ?_
                          refine lv_iload_n hx hb dX6_noteAll_104 rfl (lv_at hl 1 rfl) ?_
                          refine ax_iast (k := 1023) (i := csum (fun i => V + 1 - P.2.2.2.1 i) k2 + i) (f' := (fun j => nI ((nu (eqnN k2 (csum (fun i => V + 1 - P.2.2.2.1 i) k2) (naF (V + 1) P nn ng k2).1 i) (csum (fun i => V + 1 - P.2.2.2.1 i) k2 + i) k2) j))) hx hb hK hP hD hS (hq _ (by decide)) c_NN (by omega) (by omega) (up_n _ _ _) dX6_noteAll_105 (fun H locs g6 eg6 hP hS => ?_)
                          have c_o : g6 1000 = .inr (6, [.int (nI N), .int (nI V), .int (nI 0), .ref (ad 1003), .int (nI ec), .ref (ad 1005), .ref (ad 1006), .ref (ad 1007), .ref (ad 1008), .ref (ad 1009), .int (nI en), .int (if an = true then 1 else 0), .ref (ad 1012), .ref (ad 1013), .ref (ad 1014), .int (nI al), .ref (ad 1016), .ref (ad 1017), .ref (ad 1018), .ref (ad 1019), .int (nI pl), .ref (ad 1021), .int (nI (csum (fun i => V + 1 - P.2.2.2.1 i) k2 + i)), .ref (ad 1023), .ref (ad 1024), .int (nI sz), .ref (ad 1026), .ref (ad 1027), .ref (ad 1028)]) := (cx_ne eg6 1000 (by omega)).trans c_o
                          have c_W : g6 1018 = nA G 8 rz := (cx_ne eg6 1018 (by omega)).trans c_W
                          have c_E : g6 1019 = nA G 200 (vN eq) := (cx_ne eg6 1019 (by omega)).trans c_E
                          have c_NF : g6 1024 = nA G 120 (vN y2) := (cx_ne eg6 1024 (by omega)).trans c_NF
                          have c_NN : g6 1023 = nA G 24 (nu (eqnN k2 (csum (fun i => V + 1 - P.2.2.2.1 i) k2) (naF (V + 1) P nn ng k2).1 i) (csum (fun i => V + 1 - P.2.2.2.1 i) k2 + i) k2) := cx_eq eg6
                          have fr : ∀ j : Nat, (j ≠ 1000 ∧ j ≠ 1023 ∧ j ≠ 1024) → g6 j = g j := fun j hj => (cx_ne eg6 j (by omega)).trans (fr j hj)
                          refine lv_iconst (v := nI 0) hx hb dX6_noteAll_106 (by decide) ?_
                          refine lv_istore (lv' := [(4, .int (nI 0)), (3, .int (nI i)), (2, .int (nI k2)), (0, .ref (ad 1000))]) hx hb dX6_noteAll_107 hl (by decide) rfl (fun ls hl => ?_)
                          have LP109 : ∀ (fu : Nat) (k : Nat) (y3 : Nat → FF), (k ≤ 5) → (OF (5 * (csum (fun i => V + 1 - P.2.2.2.1 i) k2 + i)) y2 (fun b => eq (25 * k2 + 5 * i + b)) k y3) → (5 - k) < fu → ∀ (ga7 : Nat → va_E) (H : Heap) (locs : List Loc) (ls : Array Slot), (ga7 1000 = .inr (6, [.int (nI N), .int (nI V), .int (nI 0), .ref (ad 1003), .int (nI ec), .ref (ad 1005), .ref (ad 1006), .ref (ad 1007), .ref (ad 1008), .ref (ad 1009), .int (nI en), .int (if an = true then 1 else 0), .ref (ad 1012), .ref (ad 1013), .ref (ad 1014), .int (nI al), .ref (ad 1016), .ref (ad 1017), .ref (ad 1018), .ref (ad 1019), .int (nI pl), .ref (ad 1021), .int (nI (csum (fun i => V + 1 - P.2.2.2.1 i) k2 + i)), .ref (ad 1023), .ref (ad 1024), .int (nI sz), .ref (ad 1026), .ref (ad 1027), .ref (ad 1028)])) → (ga7 1018 = nA G 8 rz) → (ga7 1019 = nA G 200 (vN eq)) → (ga7 1023 = nA G 24 (eqnN k2 (csum (fun i => V + 1 - P.2.2.2.1 i) k2) (naF (V + 1) P nn ng k2).1 (i + 1))) → (ga7 1024 = nA G 120 (vN y3)) → (∀ j : Nat, (j ≠ 1000 ∧ j ≠ 1023 ∧ j ≠ 1024) → ga7 j = g j) → va_P G.1 vwCl (wl L ad ga7) H → va_S (cx_A L ad s.heap.size) s.heap H locs → lv_has ls 5 [(4, .int (nI k)), (3, .int (nI i)), (2, .int (nI k2)), (0, .ref (ad 1000))] → W p l e rm_X6_noteAll s m args below meth c H locs 0 0 Q (F0 m 109 ls []) := by
                            intro fu
                            induction fu with
                            | zero => intro k y3 hk5 hof hfu; exact absurd hfu (Nat.not_lt_zero _)
                            | succ fu ih109 =>
                              intro k y3 hk5 hof hfu109 ga7 H locs ls c_o c_W c_E c_NN c_NF fr hP hS hl
                              refine lv_iload hx hb dX6_noteAll_109 (lv_at hl 0 rfl) ?_
                              refine lv_iconst (v := nI 5) hx hb dX6_noteAll_111 (by decide) ?_
                              refine ax_icge (a := k) (b := 5) (tgt := 151) hx hb dX6_noteAll_112 (by decide) (by omega) (by omega) (fun h112 => ?_) (fun h112 => ?_)
                              · skip
                                refine lv_aload_n hx hb dX6_noteAll_151 rfl (lv_at hl 3 rfl) ?_
                                refine lv_dup hx hb dX6_noteAll_152 rfl ?_
                                refine ax_get (k := 1000) (v := .int (nI (csum (fun i => V + 1 - P.2.2.2.1 i) k2 + i))) hx hb hts in_X6_noteAll_X6 hown hK hP (hq _ (by decide)) c_o rfl 22 (by decide) (hts _ wd_X6_noteAll_4) (fun _ h9 => h9) rfl dX6_noteAll_153 ?_
                                refine lv_iconst (v := nI 1) hx hb dX6_noteAll_156 (by decide) ?_
                                refine ax_add (a := csum (fun i => V + 1 - P.2.2.2.1 i) k2 + i) (b := 1) hx hb dX6_noteAll_157 ?_
                                refine ax_put (k := 1000) (v := .int (nI (csum (fun i => V + 1 - P.2.2.2.1 i) k2 + i + 1))) (fs' := [.int (nI N), .int (nI V), .int (nI 0), .ref (ad 1003), .int (nI ec), .ref (ad 1005), .ref (ad 1006), .ref (ad 1007), .ref (ad 1008), .ref (ad 1009), .int (nI en), .int (if an = true then 1 else 0), .ref (ad 1012), .ref (ad 1013), .ref (ad 1014), .int (nI al), .ref (ad 1016), .ref (ad 1017), .ref (ad 1018), .ref (ad 1019), .int (nI pl), .ref (ad 1021), .int (nI (csum (fun i => V + 1 - P.2.2.2.1 i) k2 + i + 1)), .ref (ad 1023), .ref (ad 1024), .int (nI sz), .ref (ad 1026), .ref (ad 1027), .ref (ad 1028)]) hx hb hts in_X6_noteAll_X6 tyX6 tyX6_ok nmX6 hown hK hP hD hS (hq _ (by decide)) c_o rfl 22 (by decide) (hts _ wd_X6_noteAll_4) (fun _ h9 => h9) rfl (ty := .int) (by decide +kernel) rfl rfl (Nat.le_of_ble_eq_true rfl) rfl dX6_noteAll_158 (fun H locs g8 eg8 hP hS => ?_)
                                have c_W : g8 1018 = nA G 8 rz := (cx_ne eg8 1018 (by omega)).trans c_W
                                have c_E : g8 1019 = nA G 200 (vN eq) := (cx_ne eg8 1019 (by omega)).trans c_E
                                have c_NN : g8 1023 = nA G 24 (eqnN k2 (csum (fun i => V + 1 - P.2.2.2.1 i) k2) (naF (V + 1) P nn ng k2).1 (i + 1)) := (cx_ne eg8 1023 (by omega)).trans c_NN
                                have c_NF : g8 1024 = nA G 120 (vN y3) := (cx_ne eg8 1024 (by omega)).trans c_NF
                                have c_o : g8 1000 = .inr (6, [.int (nI N), .int (nI V), .int (nI 0), .ref (ad 1003), .int (nI ec), .ref (ad 1005), .ref (ad 1006), .ref (ad 1007), .ref (ad 1008), .ref (ad 1009), .int (nI en), .int (if an = true then 1 else 0), .ref (ad 1012), .ref (ad 1013), .ref (ad 1014), .int (nI al), .ref (ad 1016), .ref (ad 1017), .ref (ad 1018), .ref (ad 1019), .int (nI pl), .ref (ad 1021), .int (nI (csum (fun i => V + 1 - P.2.2.2.1 i) k2 + i + 1)), .ref (ad 1023), .ref (ad 1024), .int (nI sz), .ref (ad 1026), .ref (ad 1027), .ref (ad 1028)]) := cx_eq eg8
                                have fr : ∀ j : Nat, (j ≠ 1000 ∧ j ≠ 1023 ∧ j ≠ 1024) → g8 j = g j := fun j hj => (cx_ne eg8 j (by omega)).trans (fr j hj)
                                refine lv_iinc (v := nI (i + 1)) (lv' := [(3, .int (nI (i + 1))), (4, .int (nI k)), (2, .int (nI k2)), (0, .ref (ad 1000))]) hx hb dX6_noteAll_161 hl (k := 1) rfl (nI_1 _) (by decide) rfl (fun ls hl => ?_)
                                refine lv_goto (tgt := 86) hx hb dX6_noteAll_164 (by decide) ?_
                                exact ih86 (i + 1) y3 (by omega) (by have e5 : k = 5 := (by omega); subst e5; exact FR.set hfy2 hof (fun b hb => hrv i b (by omega) hb)) (by omega) g8 _ _ _ c_o c_W c_E c_NN c_NF  fr hP hS (lv_sub hl [0, 2, 3] rfl)
                              · skip
                                refine lv_aload_n hx hb dX6_noteAll_115 rfl (lv_at hl 3 rfl) ?_
                                refine ax_get (k := 1000) (v := .ref (ad 1024)) hx hb hts in_X6_noteAll_X6 hown hK hP (hq _ (by decide)) c_o rfl 24 (by decide) (hts _ wd_X6_noteAll_7) (fun _ h9 => h9) rfl dX6_noteAll_116 ?_
                                refine lv_iconst (v := nI 5) hx hb dX6_noteAll_119 (by decide) ?_
                                refine lv_aload_n hx hb dX6_noteAll_120 rfl (lv_at hl 3 rfl) ?_
                                refine ax_get (k := 1000) (v := .int (nI (csum (fun i => V + 1 - P.2.2.2.1 i) k2 + i))) hx hb hts in_X6_noteAll_X6 hown hK hP (hq _ (by decide)) c_o rfl 22 (by decide) (hts _ wd_X6_noteAll_4) (fun _ h9 => h9) rfl dX6_noteAll_121 ?_
                                refine ax_mul (a := 5) (b := csum (fun i => V + 1 - P.2.2.2.1 i) k2 + i) hx hb dX6_noteAll_124 ?_
                                refine lv_iload hx hb dX6_noteAll_125 (lv_at hl 0 rfl) ?_
                                refine ax_add (a := 5 * (csum (fun i => V + 1 - P.2.2.2.1 i) k2 + i)) (b := k) hx hb dX6_noteAll_127 ?_
                                refine lv_aload_n hx hb dX6_noteAll_128 rfl (lv_at hl 3 rfl) ?_
                                refine ax_get (k := 1000) (v := .ref (ad 1019)) hx hb hts in_X6_noteAll_X6 hown hK hP (hq _ (by decide)) c_o rfl 19 (by decide) (hts _ wd_X6_noteAll_8) (fun _ h9 => h9) rfl dX6_noteAll_129 ?_
                                refine lv_bipush (v := nI 25) hx hb dX6_noteAll_132 (by decide) ?_
                                refine lv_iload_n hx hb dX6_noteAll_134 rfl (lv_at hl 2 rfl) ?_
                                refine ax_mul (a := 25) (b := k2) hx hb dX6_noteAll_135 ?_
                                refine lv_iconst (v := nI 5) hx hb dX6_noteAll_136 (by decide) ?_
                                refine lv_iload_n hx hb dX6_noteAll_137 rfl (lv_at hl 1 rfl) ?_
                                refine ax_mul (a := 5) (b := i) hx hb dX6_noteAll_138 ?_
                                refine ax_add (a := 25 * k2) (b := 5 * i) hx hb dX6_noteAll_139 ?_
                                refine lv_iload hx hb dX6_noteAll_140 (lv_at hl 0 rfl) ?_
                                refine ax_add (a := 25 * k2 + (5 * i)) (b := k) hx hb dX6_noteAll_142 ?_
                                refine ax_iald (k := 1019) (i := 25 * k2 + (5 * i) + k) (v := nI ((vN eq) (25 * k2 + (5 * i) + k))) hx hb hK hP (hq _ (by decide)) c_E (by omega) (by omega) rfl dX6_noteAll_143 ?_
                                refine ax_iast (k := 1024) (i := 5 * (csum (fun i => V + 1 - P.2.2.2.1 i) k2 + i) + k) (f' := (fun j => nI ((nu (vN y3) (5 * (csum (fun i => V + 1 - P.2.2.2.1 i) k2 + i) + k) ((vN eq) (25 * k2 + (5 * i) + k))) j))) hx hb hK hP hD hS (hq _ (by decide)) c_NF (by omega) (by omega) (up_n _ _ _) dX6_noteAll_144 (fun H locs g9 eg9 hP hS => ?_)
                                have c_o : g9 1000 = .inr (6, [.int (nI N), .int (nI V), .int (nI 0), .ref (ad 1003), .int (nI ec), .ref (ad 1005), .ref (ad 1006), .ref (ad 1007), .ref (ad 1008), .ref (ad 1009), .int (nI en), .int (if an = true then 1 else 0), .ref (ad 1012), .ref (ad 1013), .ref (ad 1014), .int (nI al), .ref (ad 1016), .ref (ad 1017), .ref (ad 1018), .ref (ad 1019), .int (nI pl), .ref (ad 1021), .int (nI (csum (fun i => V + 1 - P.2.2.2.1 i) k2 + i)), .ref (ad 1023), .ref (ad 1024), .int (nI sz), .ref (ad 1026), .ref (ad 1027), .ref (ad 1028)]) := (cx_ne eg9 1000 (by omega)).trans c_o
                                have c_W : g9 1018 = nA G 8 rz := (cx_ne eg9 1018 (by omega)).trans c_W
                                have c_E : g9 1019 = nA G 200 (vN eq) := (cx_ne eg9 1019 (by omega)).trans c_E
                                have c_NN : g9 1023 = nA G 24 (eqnN k2 (csum (fun i => V + 1 - P.2.2.2.1 i) k2) (naF (V + 1) P nn ng k2).1 (i + 1)) := (cx_ne eg9 1023 (by omega)).trans c_NN
                                have c_NF : g9 1024 = nA G 120 (nu (vN y3) (5 * (csum (fun i => V + 1 - P.2.2.2.1 i) k2 + i) + k) ((vN eq) (25 * k2 + (5 * i) + k))) := cx_eq eg9
                                have fr : ∀ j : Nat, (j ≠ 1000 ∧ j ≠ 1023 ∧ j ≠ 1024) → g9 j = g j := fun j hj => (cx_ne eg9 j (by omega)).trans (fr j hj)
                                have c_NF : g9 1024 = nA G 120 (vN (nu y3 (5 * (csum (fun i => V + 1 - P.2.2.2.1 i) k2 + i) + k) (eq (25 * k2 + 5 * i + k)))) := by rw [← vN_nu]; exact c_NF
                                refine lv_iinc (v := nI (k + 1)) (lv' := [(4, .int (nI (k + 1))), (3, .int (nI i)), (2, .int (nI k2)), (0, .ref (ad 1000))]) hx hb dX6_noteAll_145 hl (k := 0) rfl (nI_1 _) (by decide) rfl (fun ls hl => ?_)
                                refine lv_goto (tgt := 109) hx hb dX6_noteAll_148 (by decide) ?_
                                exact ih109 (k + 1) (nu y3 (5 * (csum (fun i => V + 1 - P.2.2.2.1 i) k2 + i) + k) (eq (25 * k2 + 5 * i + k))) h112 (hof.step rfl) (by omega) g9 _ _ _ c_o c_W c_E c_NN c_NF  fr hP hS (lv_sub hl [0, 1, 2, 3] rfl)
                          exact LP109 ((5 - 0) + 1) 0 y2 (Nat.zero_le _) OF.start (Nat.lt_succ_self _) g6 _ _ _ c_o c_W c_E c_NN c_NF  fr hP hS (lv_sub hl [0, 1, 2, 3] rfl)
                    exact LP86 ((V + 1 - P.2.2.2.1 k2 - 0) + 1) 0 y (Nat.zero_le _) hfy (Nat.lt_succ_self _) ga4 _ _ _ c_o c_W c_E c_NN c_NF  fr hP hS (lv_sub hl [0, 1, 2] rfl)
              exact LP76 ((N - 0) + 1) 0 nf (Nat.zero_le _) hfn (Nat.lt_succ_self _) g3 _ _ _ c_o c_W c_E c_NN c_NF  fr hP hS (lv_sub hl [0, 2] rfl)
            · skip
              exact absurd h64 (by decide)
          · skip
            refine lv_iconst (v := nI 2) hx hb dX6_noteAll_52 (by decide) ?_
            refine lv_goto (tgt := 57) hx hb dX6_noteAll_53 (by decide) ?_
            refine ax_put (k := 1000) (v := .int (nI 2)) (fs' := [.int (nI N), .int (nI V), .int (nI 2), .ref (ad 1003), .int (nI ec), .ref (ad 1005), .ref (ad 1006), .ref (ad 1007), .ref (ad 1008), .ref (ad 1009), .int (nI en), .int (if an = true then 1 else 0), .ref (ad 1012), .ref (ad 1013), .ref (ad 1014), .int (nI al), .ref (ad 1016), .ref (ad 1017), .ref (ad 1018), .ref (ad 1019), .int (nI pl), .ref (ad 1021), .int (nI nc), .ref (ad 1023), .ref (ad 1024), .int (nI sz), .ref (ad 1026), .ref (ad 1027), .ref (ad 1028)]) hx hb hts in_X6_noteAll_X6 tyX6 tyX6_ok nmX6 hown hK hP hD hS (hq _ (by decide)) c_o rfl 2 (by decide) (hts _ wd_X6_noteAll_3) (fun _ h9 => h9) rfl (ty := .int) (by decide +kernel) rfl rfl (Nat.le_of_ble_eq_true rfl) rfl dX6_noteAll_57 (fun H locs g10 eg10 hP hS => ?_)
            have c_W : g10 1018 = nA G 8 rz := (cx_ne eg10 1018 (by omega)).trans c_W
            have c_E : g10 1019 = nA G 200 (vN eq) := (cx_ne eg10 1019 (by omega)).trans c_E
            have c_NN : g10 1023 = nA G 24 nn := (cx_ne eg10 1023 (by omega)).trans c_NN
            have c_NF : g10 1024 = nA G 120 (vN nf) := (cx_ne eg10 1024 (by omega)).trans c_NF
            have c_o : g10 1000 = .inr (6, [.int (nI N), .int (nI V), .int (nI 2), .ref (ad 1003), .int (nI ec), .ref (ad 1005), .ref (ad 1006), .ref (ad 1007), .ref (ad 1008), .ref (ad 1009), .int (nI en), .int (if an = true then 1 else 0), .ref (ad 1012), .ref (ad 1013), .ref (ad 1014), .int (nI al), .ref (ad 1016), .ref (ad 1017), .ref (ad 1018), .ref (ad 1019), .int (nI pl), .ref (ad 1021), .int (nI nc), .ref (ad 1023), .ref (ad 1024), .int (nI sz), .ref (ad 1026), .ref (ad 1027), .ref (ad 1028)]) := cx_eq eg10
            have fr : ∀ j : Nat, (j ≠ 1000 ∧ j ≠ 1023 ∧ j ≠ 1024) → g10 j = g j := fun j hj => (cx_ne eg10 j (by omega)).trans (fr j hj)
            refine lv_aload_n hx hb dX6_noteAll_60 rfl (lv_at hl 2 rfl) ?_
            refine ax_get (k := 1000) (v := .int (nI 2)) hx hb hts in_X6_noteAll_X6 hown hK hP (hq _ (by decide)) c_o rfl 2 (by decide) (hts _ wd_X6_noteAll_3) (fun _ h9 => h9) rfl dX6_noteAll_61 ?_
            refine ax_ifeq (a := 2) (tgt := 69) hx hb dX6_noteAll_64 (by decide) (by omega) (fun h64 => ?_) (fun h64 => ?_)
            · skip
              exact absurd h64 (by decide)
            · skip
              refine lv_iconst (v := nI 0) hx hb dX6_noteAll_67 (by decide) ?_
              exact hret (nI 0) g10 _ _ _ _ rfl ⟨fr, Or.inr (Or.inr ⟨h39, by omega, c_o, c_NN, c_NF⟩)⟩ hP hS dX6_noteAll_68
        · skip
          refine lv_iconst (v := nI 1) hx hb dX6_noteAll_42 (by decide) ?_
          refine lv_goto (tgt := 57) hx hb dX6_noteAll_43 (by decide) ?_
          refine ax_put (k := 1000) (v := .int (nI 1)) (fs' := [.int (nI N), .int (nI V), .int (nI 1), .ref (ad 1003), .int (nI ec), .ref (ad 1005), .ref (ad 1006), .ref (ad 1007), .ref (ad 1008), .ref (ad 1009), .int (nI en), .int (if an = true then 1 else 0), .ref (ad 1012), .ref (ad 1013), .ref (ad 1014), .int (nI al), .ref (ad 1016), .ref (ad 1017), .ref (ad 1018), .ref (ad 1019), .int (nI pl), .ref (ad 1021), .int (nI nc), .ref (ad 1023), .ref (ad 1024), .int (nI sz), .ref (ad 1026), .ref (ad 1027), .ref (ad 1028)]) hx hb hts in_X6_noteAll_X6 tyX6 tyX6_ok nmX6 hown hK hP hD hS (hq _ (by decide)) c_o rfl 2 (by decide) (hts _ wd_X6_noteAll_3) (fun _ h9 => h9) rfl (ty := .int) (by decide +kernel) rfl rfl (Nat.le_of_ble_eq_true rfl) rfl dX6_noteAll_57 (fun H locs g11 eg11 hP hS => ?_)
          have c_W : g11 1018 = nA G 8 rz := (cx_ne eg11 1018 (by omega)).trans c_W
          have c_E : g11 1019 = nA G 200 (vN eq) := (cx_ne eg11 1019 (by omega)).trans c_E
          have c_NN : g11 1023 = nA G 24 nn := (cx_ne eg11 1023 (by omega)).trans c_NN
          have c_NF : g11 1024 = nA G 120 (vN nf) := (cx_ne eg11 1024 (by omega)).trans c_NF
          have c_o : g11 1000 = .inr (6, [.int (nI N), .int (nI V), .int (nI 1), .ref (ad 1003), .int (nI ec), .ref (ad 1005), .ref (ad 1006), .ref (ad 1007), .ref (ad 1008), .ref (ad 1009), .int (nI en), .int (if an = true then 1 else 0), .ref (ad 1012), .ref (ad 1013), .ref (ad 1014), .int (nI al), .ref (ad 1016), .ref (ad 1017), .ref (ad 1018), .ref (ad 1019), .int (nI pl), .ref (ad 1021), .int (nI nc), .ref (ad 1023), .ref (ad 1024), .int (nI sz), .ref (ad 1026), .ref (ad 1027), .ref (ad 1028)]) := cx_eq eg11
          have fr : ∀ j : Nat, (j ≠ 1000 ∧ j ≠ 1023 ∧ j ≠ 1024) → g11 j = g j := fun j hj => (cx_ne eg11 j (by omega)).trans (fr j hj)
          refine lv_aload_n hx hb dX6_noteAll_60 rfl (lv_at hl 2 rfl) ?_
          refine ax_get (k := 1000) (v := .int (nI 1)) hx hb hts in_X6_noteAll_X6 hown hK hP (hq _ (by decide)) c_o rfl 2 (by decide) (hts _ wd_X6_noteAll_3) (fun _ h9 => h9) rfl dX6_noteAll_61 ?_
          refine ax_ifeq (a := 1) (tgt := 69) hx hb dX6_noteAll_64 (by decide) (by omega) (fun h64 => ?_) (fun h64 => ?_)
          · skip
            exact absurd h64 (by decide)
          · skip
            refine lv_iconst (v := nI 0) hx hb dX6_noteAll_67 (by decide) ?_
            exact hret (nI 0) g11 _ _ _ _ rfl ⟨fr, Or.inr (Or.inl ⟨h39, c_o, c_NN, c_NF⟩)⟩ hP hS dX6_noteAll_68
      · skip
        refine lv_aload_n hx hb dX6_noteAll_12 rfl (lv_at hl 2 rfl) ?_
        refine ax_get (k := 1000) (v := .int (if an = true then 1 else 0)) hx hb hts in_X6_noteAll_X6 hown hK hP (hq _ (by decide)) c_o rfl 11 (by decide) (hts _ wd_X6_noteAll_2) (fun _ h9 => h9) rfl dX6_noteAll_13 ?_
        refine ax_zeq (b := an) (tgt := 34) hx hb dX6_noteAll_16 (by decide) (fun h16 => ?_) (fun h16 => ?_)
        · skip
          refine lv_aload_n hx hb dX6_noteAll_34 rfl (lv_at hl 2 rfl) ?_
          refine lv_aload_n hx hb dX6_noteAll_35 rfl (lv_at hl 2 rfl) ?_
          refine ax_get (k := 1000) (v := .int (if an = true then 1 else 0)) hx hb hts in_X6_noteAll_X6 hown hK hP (hq _ (by decide)) c_o rfl 11 (by decide) (hts _ wd_X6_noteAll_2) (fun _ h9 => h9) rfl dX6_noteAll_36 ?_
          refine ax_zne (b := an) (tgt := 46) hx hb dX6_noteAll_39 (by decide) (fun h39 => ?_) (fun h39 => ?_)
          · skip
            exact absurd (h39.symm.trans h16) (by decide)
          · skip
            refine lv_iconst (v := nI 1) hx hb dX6_noteAll_42 (by decide) ?_
            refine lv_goto (tgt := 57) hx hb dX6_noteAll_43 (by decide) ?_
            refine ax_put (k := 1000) (v := .int (nI 1)) (fs' := [.int (nI N), .int (nI V), .int (nI 1), .ref (ad 1003), .int (nI ec), .ref (ad 1005), .ref (ad 1006), .ref (ad 1007), .ref (ad 1008), .ref (ad 1009), .int (nI en), .int (if an = true then 1 else 0), .ref (ad 1012), .ref (ad 1013), .ref (ad 1014), .int (nI al), .ref (ad 1016), .ref (ad 1017), .ref (ad 1018), .ref (ad 1019), .int (nI pl), .ref (ad 1021), .int (nI nc), .ref (ad 1023), .ref (ad 1024), .int (nI sz), .ref (ad 1026), .ref (ad 1027), .ref (ad 1028)]) hx hb hts in_X6_noteAll_X6 tyX6 tyX6_ok nmX6 hown hK hP hD hS (hq _ (by decide)) c_o rfl 2 (by decide) (hts _ wd_X6_noteAll_3) (fun _ h9 => h9) rfl (ty := .int) (by decide +kernel) rfl rfl (Nat.le_of_ble_eq_true rfl) rfl dX6_noteAll_57 (fun H locs g12 eg12 hP hS => ?_)
            have c_W : g12 1018 = nA G 8 rz := (cx_ne eg12 1018 (by omega)).trans c_W
            have c_E : g12 1019 = nA G 200 (vN eq) := (cx_ne eg12 1019 (by omega)).trans c_E
            have c_NN : g12 1023 = nA G 24 nn := (cx_ne eg12 1023 (by omega)).trans c_NN
            have c_NF : g12 1024 = nA G 120 (vN nf) := (cx_ne eg12 1024 (by omega)).trans c_NF
            have c_o : g12 1000 = .inr (6, [.int (nI N), .int (nI V), .int (nI 1), .ref (ad 1003), .int (nI ec), .ref (ad 1005), .ref (ad 1006), .ref (ad 1007), .ref (ad 1008), .ref (ad 1009), .int (nI en), .int (if an = true then 1 else 0), .ref (ad 1012), .ref (ad 1013), .ref (ad 1014), .int (nI al), .ref (ad 1016), .ref (ad 1017), .ref (ad 1018), .ref (ad 1019), .int (nI pl), .ref (ad 1021), .int (nI nc), .ref (ad 1023), .ref (ad 1024), .int (nI sz), .ref (ad 1026), .ref (ad 1027), .ref (ad 1028)]) := cx_eq eg12
            have fr : ∀ j : Nat, (j ≠ 1000 ∧ j ≠ 1023 ∧ j ≠ 1024) → g12 j = g j := fun j hj => (cx_ne eg12 j (by omega)).trans (fr j hj)
            refine lv_aload_n hx hb dX6_noteAll_60 rfl (lv_at hl 2 rfl) ?_
            refine ax_get (k := 1000) (v := .int (nI 1)) hx hb hts in_X6_noteAll_X6 hown hK hP (hq _ (by decide)) c_o rfl 2 (by decide) (hts _ wd_X6_noteAll_3) (fun _ h9 => h9) rfl dX6_noteAll_61 ?_
            refine ax_ifeq (a := 1) (tgt := 69) hx hb dX6_noteAll_64 (by decide) (by omega) (fun h64 => ?_) (fun h64 => ?_)
            · skip
              exact absurd h64 (by decide)
            · skip
              refine lv_iconst (v := nI 0) hx hb dX6_noteAll_67 (by decide) ?_
              exact hret (nI 0) g12 _ _ _ _ rfl ⟨fr, Or.inr (Or.inl ⟨h39, c_o, c_NN, c_NF⟩)⟩ hP hS dX6_noteAll_68
        · skip
          refine lv_iload_n hx hb dX6_noteAll_19 rfl (lv_at hl 1 rfl) ?_
          refine lv_aload_n hx hb dX6_noteAll_20 rfl (lv_at hl 2 rfl) ?_
          refine ax_get (k := 1000) (v := .ref (ad 1018)) hx hb hts in_X6_noteAll_X6 hown hK hP (hq _ (by decide)) c_o rfl 18 (by decide) (hts _ wd_X6_noteAll_5) (fun _ h9 => h9) rfl dX6_noteAll_21 ?_
          refine lv_iload_n hx hb dX6_noteAll_24 rfl (lv_at hl 0 rfl) ?_
          refine ax_iald (k := 1018) (i := k) (v := nI (rz k)) hx hb hK hP (hq _ (by decide)) c_W (by omega) (by omega) rfl dX6_noteAll_25 ?_
          refine ax_add (a := csum rz k) (b := rz k) hx hb dX6_noteAll_26 ?_
          refine lv_istore_n (lv' := [(1, .int (nI (csum rz k + (rz k)))), (2, .int (nI k)), (0, .ref (ad 1000))]) hx hb dX6_noteAll_27 rfl hl (by decide) rfl (fun ls hl => ?_)
          refine lv_iinc (v := nI (k + 1)) (lv' := [(2, .int (nI (k + 1))), (1, .int (nI (csum rz k + (rz k)))), (0, .ref (ad 1000))]) hx hb dX6_noteAll_28 hl (k := 1) rfl (nI_1 _) (by decide) rfl (fun ls hl => ?_)
          refine lv_goto (tgt := 4) hx hb dX6_noteAll_31 (by decide) ?_
          exact ih4 (k + 1) h9 (by omega) _ (lv_sub hl [0, 1, 2] rfl)
  exact LP4 ((N - 0) + 1) 0 (Nat.zero_le _) (Nat.lt_succ_self _) _ (lv_sub hl [0, 1, 2] rfl)
