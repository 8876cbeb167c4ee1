/-! CONSTRUCTORS -/
set_option maxRecDepth 20000 in
theorem wd_X0_init_0 : Cond.methodLink RX0 3 objectInit ∈ wsX0_init := by decide +kernel
set_option maxRecDepth 20000 in
theorem wd_X0_init_1 : Cond.instanceMethod objectInit ∈ wsX0_init := by decide +kernel
set_option maxRecDepth 20000 in
theorem wd_X0_init_2 : Cond.code objectInit ⟨#[0xb1]⟩ 1 none ∈ wsX0_init := by decide +kernel
set_option maxRecDepth 20000 in
theorem wd_X0_init_3 : Cond.arrayClass .int ∈ wsX0_init := by decide +kernel
set_option maxRecDepth 20000 in
theorem wd_X0_init_4 : Cond.fieldLink RX0 9 "AffineHulls$Edge" "form" "[I" ∈ wsX0_init := by decide +kernel
set_option maxRecDepth 20000 in
theorem in_X0_init_X0 : ∀ w ∈ u_ws RX0 TX0 5, w ∈ wsX0_init := by decide +kernel
abbrev rm_X0_init : Room := { frames := 1, cells := 1, slots := 5, locals := 20 }
set_option maxHeartbeats 4000000 in
set_option maxRecDepth 100000 in
theorem c_X0_init {l : Launch} {G : cx_G} {L : List Nat} {ad : Nat → Nat} {g : Nat → va_E} (hD : cx_D L ad) {sz : Nat} {k n : Nat} (hk1 : ad (k + 1) = sz) (hn : n ≤ 5) (c_o : g k = .inr (0, [.int (nI 0), .int (nI 0), .int (nI 0), .int (nI 0), .null])) (hmL : ∀ j : Nat, j = k → j ∈ L) : CV l yX0_init wsX0_init rm_X0_init G L ad g [.ref (ad k), .int (nI n)] (1) (fun u => (∀ j : Nat, (j = k ∨ j = k + 1) → j ∈ u.1) ∧ (∀ j : Nat, (j ≠ k ∧ j ≠ k + 1) → u.2 j = g j) ∧ u.2 k = .inr (0, [.int (nI 0), .int (nI 0), .int (nI 0), .int (nI 0), .ref (ad (k + 1))]) ∧ u.2 (k + 1) = nA G n (vN (fun _ => 0))) 1 5 sz := by
  refine cx_ofC (cc := cX0_init) (maxL := 2) (by decide +kernel) rfl rfl (Nat.le_of_ble_eq_true rfl) ?_
  intro p e s m args below meth c Q hx hb hts hown hml hin hP hK hY hS hz hH hret ls hl
  have hown : s.vm.findClass RX0 = some m.cls := hown
  have hl : lv_has ls 2 [(0, .ref (ad k)), (1, .int (nI n))] := hl
  replace hLL : ∀ j : Nat, j ∈ L → j ∈ L := fun _ h => h
  replace hA : ∀ q : Nat, cx_A L ad sz q → cx_A L ad sz q := fun _ h => h
  replace fr : ∀ j : Nat, (j ≠ k ∧ j ≠ k + 1) → g j = g j := fun _ _ => rfl
  refine lv_aload_n hx hb dX0_init_0 rfl (lv_at hl 0 rfl) ?_
  refine W.objInit hx hb hown (hts _ wd_X0_init_0) (hts _ wd_X0_init_1) (hts _ wd_X0_init_2) rfl (by rw [hml]; exact hl.1) rfl dX0_init_1 (Nat.le_of_ble_eq_true rfl) (Nat.le_of_ble_eq_true rfl) ?_
  refine W.eq (g2 := F0 m 4 ls []) rfl ?_
  refine lv_aload_n hx hb dX0_init_4 rfl (lv_at hl 0 rfl) ?_
  refine lv_iload_n hx hb dX0_init_5 rfl (lv_at hl 1 rfl) ?_
  have hk1 : ad (k + 1) = s.heap.size := by omega
  refine ax_newI (k := k + 1) (n := n) (f := (fun j => nI ((vN (fun _ => 0)) j))) hx hb (hts _ wd_X0_init_3) hK hP hD hS hk1 (fun _ => nI_0) (by omega) (show 0 + 1 ≤ 1 by omega) (show 0 + n ≤ 5 by omega) dX0_init_6 (fun L1 H g1 eL1 eg1 hH1 hP hD hS => ?_)
  replace c_o : g1 k = .inr (0, [.int (nI 0), .int (nI 0), .int (nI 0), .int (nI 0), .null]) := (cx_ne eg1 k (by omega)).trans c_o
  replace c_f : g1 (k + 1) = nA G n (vN (fun _ => 0)) := cx_eq eg1
  replace fr : ∀ j : Nat, (j ≠ k ∧ j ≠ k + 1) → g1 j = g j := fun j hj => (cx_ne eg1 j (by omega)).trans (fr j hj)
  replace hLL : ∀ j : Nat, j ∈ L → j ∈ L1 := fun j h => by rw [eL1]; exact List.mem_append_left _ (hLL j h)
  replace hmL : ∀ j : Nat, ((j = k) ∨ j = k + 1) → j ∈ L1 := fun j hj => by rw [eL1]; exact hj.elim (fun h => List.mem_append_left _ (hmL j h)) (fun h => by rw [h]; exact List.mem_append_right _ List.mem_cons_self)
  replace hA : ∀ q : Nat, cx_A L1 ad sz q → cx_A L ad sz q := fun q hq9 => hA q (cx_A.down (fun j hj => by rw [eL1] at hj; rcases List.mem_append.mp hj with h | h; exact Or.inl h; exact Or.inr (by rw [List.mem_singleton.mp h]; omega)) q hq9)
  replace hH : H.size = sz + 1 := by omega
  clear eg1 eL1 hk1 hH1
  refine ax_putFz (k := k) (v := .ref (ad (k + 1))) (fs' := [.int (nI 0), .int (nI 0), .int (nI 0), .int (nI 0), .ref (ad (k + 1))]) hx hb hts in_X0_init_X0 tyX0 tyX0_ok nmX0 hown hK hP hD hS (hmL _ (by omega)) c_o rfl 4 (by decide) (hts _ wd_X0_init_4) (fun _ h9 => h9) rfl hin rfl (ty := (.array .int)) (by decide +kernel) rfl rfl (Nat.le_of_ble_eq_true rfl) rfl dX0_init_8 (fun H locs g2 eg2 hH2 hP hS => ?_)
  replace c_f : g2 (k + 1) = nA G n (vN (fun _ => 0)) := (cx_ne eg2 (k + 1) (by omega)).trans c_f
  replace c_o : g2 k = .inr (0, [.int (nI 0), .int (nI 0), .int (nI 0), .int (nI 0), .ref (ad (k + 1))]) := cx_eq eg2
  replace fr : ∀ j : Nat, (j ≠ k ∧ j ≠ k + 1) → g2 j = g j := fun j hj => (cx_ne eg2 j (by omega)).trans (fr j hj)
  clear eg2
  replace hH : H.size = sz + 1 := by omega
  clear hH2
  exact hret L1 g2 _ _ _ _ _ _ ⟨(by omega), (by omega)⟩ ⟨fun j h => hmL j (by omega), fr, c_o, c_f⟩ hP hD (by omega) hLL hA hS dX0_init_11

set_option maxRecDepth 20000 in
theorem wd_X2_init_0 : Cond.methodLink RX2 1 objectInit ∈ wsX2_init := by decide +kernel
set_option maxRecDepth 20000 in
theorem wd_X2_init_1 : Cond.instanceMethod objectInit ∈ wsX2_init := by decide +kernel
set_option maxRecDepth 20000 in
theorem wd_X2_init_2 : Cond.code objectInit ⟨#[0xb1]⟩ 1 none ∈ wsX2_init := by decide +kernel
set_option maxRecDepth 20000 in
theorem wd_X2_init_3 : Cond.arrayClass .int ∈ wsX2_init := by decide +kernel
set_option maxRecDepth 20000 in
theorem wd_X2_init_4 : Cond.fieldLink RX2 7 "AffineHulls$Note" "form" "[I" ∈ wsX2_init := by decide +kernel
set_option maxRecDepth 20000 in
theorem in_X2_init_X2 : ∀ w ∈ u_ws RX2 TX2 2, w ∈ wsX2_init := by decide +kernel
abbrev rm_X2_init : Room := { frames := 1, cells := 1, slots := 5, locals := 20 }
set_option maxHeartbeats 4000000 in
set_option maxRecDepth 100000 in
theorem c_X2_init {l : Launch} {G : cx_G} {L : List Nat} {ad : Nat → Nat} {g : Nat → va_E} (hD : cx_D L ad) {sz : Nat} {k n : Nat} (hk1 : ad (k + 1) = sz) (hn : n ≤ 5) (c_o : g k = .inr (2, [.int (nI 0), .null])) (hmL : ∀ j : Nat, j = k → j ∈ L) : CV l yX2_init wsX2_init rm_X2_init G L ad g [.ref (ad k), .int (nI n)] (1) (fun u => (∀ j : Nat, (j = k ∨ j = k + 1) → j ∈ u.1) ∧ (∀ j : Nat, (j ≠ k ∧ j ≠ k + 1) → u.2 j = g j) ∧ u.2 k = .inr (2, [.int (nI 0), .ref (ad (k + 1))]) ∧ u.2 (k + 1) = nA G n (vN (fun _ => 0))) 1 5 sz := by
  refine cx_ofC (cc := cX2_init) (maxL := 2) (by decide +kernel) rfl rfl (Nat.le_of_ble_eq_true rfl) ?_
  intro p e s m args below meth c Q hx hb hts hown hml hin hP hK hY hS hz hH hret ls hl
  have hown : s.vm.findClass RX2 = some m.cls := hown
  have hl : lv_has ls 2 [(0, .ref (ad k)), (1, .int (nI n))] := hl
  replace hLL : ∀ j : Nat, j ∈ L → j ∈ L := fun _ h => h
  replace hA : ∀ q : Nat, cx_A L ad sz q → cx_A L ad sz q := fun _ h => h
  replace fr : ∀ j : Nat, (j ≠ k ∧ j ≠ k + 1) → g j = g j := fun _ _ => rfl
  refine lv_aload_n hx hb dX2_init_0 rfl (lv_at hl 0 rfl) ?_
  refine W.objInit hx hb hown (hts _ wd_X2_init_0) (hts _ wd_X2_init_1) (hts _ wd_X2_init_2) rfl (by rw [hml]; exact hl.1) rfl dX2_init_1 (Nat.le_of_ble_eq_true rfl) (Nat.le_of_ble_eq_true rfl) ?_
  refine W.eq (g2 := F0 m 4 ls []) rfl ?_
  refine lv_aload_n hx hb dX2_init_4 rfl (lv_at hl 0 rfl) ?_
  refine lv_iload_n hx hb dX2_init_5 rfl (lv_at hl 1 rfl) ?_
  have hk1 : ad (k + 1) = s.heap.size := by omega
  refine ax_newI (k := k + 1) (n := n) (f := (fun j => nI ((vN (fun _ => 0)) j))) hx hb (hts _ wd_X2_init_3) hK hP hD hS hk1 (fun _ => nI_0) (by omega) (show 0 + 1 ≤ 1 by omega) (show 0 + n ≤ 5 by omega) dX2_init_6 (fun L1 H g1 eL1 eg1 hH1 hP hD hS => ?_)
  replace c_o : g1 k = .inr (2, [.int (nI 0), .null]) := (cx_ne eg1 k (by omega)).trans c_o
  replace c_f : g1 (k + 1) = nA G n (vN (fun _ => 0)) := cx_eq eg1
  replace fr : ∀ j : Nat, (j ≠ k ∧ j ≠ k + 1) → g1 j = g j := fun j hj => (cx_ne eg1 j (by omega)).trans (fr j hj)
  replace hLL : ∀ j : Nat, j ∈ L → j ∈ L1 := fun j h => by rw [eL1]; exact List.mem_append_left _ (hLL j h)
  replace hmL : ∀ j : Nat, ((j = k) ∨ j = k + 1) → j ∈ L1 := fun j hj => by rw [eL1]; exact hj.elim (fun h => List.mem_append_left _ (hmL j h)) (fun h => by rw [h]; exact List.mem_append_right _ List.mem_cons_self)
  replace hA : ∀ q : Nat, cx_A L1 ad sz q → cx_A L ad sz q := fun q hq9 => hA q (cx_A.down (fun j hj => by rw [eL1] at hj; rcases List.mem_append.mp hj with h | h; exact Or.inl h; exact Or.inr (by rw [List.mem_singleton.mp h]; omega)) q hq9)
  replace hH : H.size = sz + 1 := by omega
  clear eg1 eL1 hk1 hH1
  refine ax_putFz (k := k) (v := .ref (ad (k + 1))) (fs' := [.int (nI 0), .ref (ad (k + 1))]) hx hb hts in_X2_init_X2 tyX2 tyX2_ok nmX2 hown hK hP hD hS (hmL _ (by omega)) c_o rfl 1 (by decide) (hts _ wd_X2_init_4) (fun _ h9 => h9) rfl hin rfl (ty := (.array .int)) (by decide +kernel) rfl rfl (Nat.le_of_ble_eq_true rfl) rfl dX2_init_8 (fun H locs g2 eg2 hH2 hP hS => ?_)
  replace c_f : g2 (k + 1) = nA G n (vN (fun _ => 0)) := (cx_ne eg2 (k + 1) (by omega)).trans c_f
  replace c_o : g2 k = .inr (2, [.int (nI 0), .ref (ad (k + 1))]) := cx_eq eg2
  replace fr : ∀ j : Nat, (j ≠ k ∧ j ≠ k + 1) → g2 j = g j := fun j hj => (cx_ne eg2 j (by omega)).trans (fr j hj)
  clear eg2
  replace hH : H.size = sz + 1 := by omega
  clear hH2
  exact hret L1 g2 _ _ _ _ _ _ ⟨(by omega), (by omega)⟩ ⟨fun j h => hmL j (by omega), fr, c_o, c_f⟩ hP hD (by omega) hLL hA hS dX2_init_11

set_option maxRecDepth 20000 in
theorem wd_X3_init_0 : Cond.methodLink RX3 1 objectInit ∈ wsX3_init := by decide +kernel
set_option maxRecDepth 20000 in
theorem wd_X3_init_1 : Cond.instanceMethod objectInit ∈ wsX3_init := by decide +kernel
set_option maxRecDepth 20000 in
theorem wd_X3_init_2 : Cond.code objectInit ⟨#[0xb1]⟩ 1 none ∈ wsX3_init := by decide +kernel
set_option maxRecDepth 20000 in
theorem wd_X3_init_3 : Cond.arrayClass .int ∈ wsX3_init := by decide +kernel
set_option maxRecDepth 20000 in
theorem wd_X3_init_4 : Cond.fieldLink RX3 7 "AffineHulls$Point" "row" "[I" ∈ wsX3_init := by decide +kernel
set_option maxRecDepth 20000 in
theorem in_X3_init_X3 : ∀ w ∈ u_ws RX3 TX3 4, w ∈ wsX3_init := by decide +kernel
abbrev rm_X3_init : Room := { frames := 1, cells := 1, slots := 5, locals := 20 }
set_option maxHeartbeats 4000000 in
set_option maxRecDepth 100000 in
theorem c_X3_init {l : Launch} {G : cx_G} {L : List Nat} {ad : Nat → Nat} {g : Nat → va_E} (hD : cx_D L ad) {sz : Nat} {k n : Nat} (hk1 : ad (k + 1) = sz) (hn : n ≤ 5) (c_o : g k = .inr (3, [.int (nI 0), .int (nI 0), .int (nI 0), .null])) (hmL : ∀ j : Nat, j = k → j ∈ L) : CV l yX3_init wsX3_init rm_X3_init G L ad g [.ref (ad k), .int (nI n)] (1) (fun u => (∀ j : Nat, (j = k ∨ j = k + 1) → j ∈ u.1) ∧ (∀ j : Nat, (j ≠ k ∧ j ≠ k + 1) → u.2 j = g j) ∧ u.2 k = .inr (3, [.int (nI 0), .int (nI 0), .int (nI 0), .ref (ad (k + 1))]) ∧ u.2 (k + 1) = nA G n (vN (fun _ => 0))) 1 5 sz := by
  refine cx_ofC (cc := cX3_init) (maxL := 2) (by decide +kernel) rfl rfl (Nat.le_of_ble_eq_true rfl) ?_
  intro p e s m args below meth c Q hx hb hts hown hml hin hP hK hY hS hz hH hret ls hl
  have hown : s.vm.findClass RX3 = some m.cls := hown
  have hl : lv_has ls 2 [(0, .ref (ad k)), (1, .int (nI n))] := hl
  replace hLL : ∀ j : Nat, j ∈ L → j ∈ L := fun _ h => h
  replace hA : ∀ q : Nat, cx_A L ad sz q → cx_A L ad sz q := fun _ h => h
  replace fr : ∀ j : Nat, (j ≠ k ∧ j ≠ k + 1) → g j = g j := fun _ _ => rfl
  refine lv_aload_n hx hb dX3_init_0 rfl (lv_at hl 0 rfl) ?_
  refine W.objInit hx hb hown (hts _ wd_X3_init_0) (hts _ wd_X3_init_1) (hts _ wd_X3_init_2) rfl (by rw [hml]; exact hl.1) rfl dX3_init_1 (Nat.le_of_ble_eq_true rfl) (Nat.le_of_ble_eq_true rfl) ?_
  refine W.eq (g2 := F0 m 4 ls []) rfl ?_
  refine lv_aload_n hx hb dX3_init_4 rfl (lv_at hl 0 rfl) ?_
  refine lv_iload_n hx hb dX3_init_5 rfl (lv_at hl 1 rfl) ?_
  have hk1 : ad (k + 1) = s.heap.size := by omega
  refine ax_newI (k := k + 1) (n := n) (f := (fun j => nI ((vN (fun _ => 0)) j))) hx hb (hts _ wd_X3_init_3) hK hP hD hS hk1 (fun _ => nI_0) (by omega) (show 0 + 1 ≤ 1 by omega) (show 0 + n ≤ 5 by omega) dX3_init_6 (fun L1 H g1 eL1 eg1 hH1 hP hD hS => ?_)
  replace c_o : g1 k = .inr (3, [.int (nI 0), .int (nI 0), .int (nI 0), .null]) := (cx_ne eg1 k (by omega)).trans c_o
  replace c_f : g1 (k + 1) = nA G n (vN (fun _ => 0)) := cx_eq eg1
  replace fr : ∀ j : Nat, (j ≠ k ∧ j ≠ k + 1) → g1 j = g j := fun j hj => (cx_ne eg1 j (by omega)).trans (fr j hj)
  replace hLL : ∀ j : Nat, j ∈ L → j ∈ L1 := fun j h => by rw [eL1]; exact List.mem_append_left _ (hLL j h)
  replace hmL : ∀ j : Nat, ((j = k) ∨ j = k + 1) → j ∈ L1 := fun j hj => by rw [eL1]; exact hj.elim (fun h => List.mem_append_left _ (hmL j h)) (fun h => by rw [h]; exact List.mem_append_right _ List.mem_cons_self)
  replace hA : ∀ q : Nat, cx_A L1 ad sz q → cx_A L ad sz q := fun q hq9 => hA q (cx_A.down (fun j hj => by rw [eL1] at hj; rcases List.mem_append.mp hj with h | h; exact Or.inl h; exact Or.inr (by rw [List.mem_singleton.mp h]; omega)) q hq9)
  replace hH : H.size = sz + 1 := by omega
  clear eg1 eL1 hk1 hH1
  refine ax_putFz (k := k) (v := .ref (ad (k + 1))) (fs' := [.int (nI 0), .int (nI 0), .int (nI 0), .ref (ad (k + 1))]) hx hb hts in_X3_init_X3 tyX3 tyX3_ok nmX3 hown hK hP hD hS (hmL _ (by omega)) c_o rfl 3 (by decide) (hts _ wd_X3_init_4) (fun _ h9 => h9) rfl hin rfl (ty := (.array .int)) (by decide +kernel) rfl rfl (Nat.le_of_ble_eq_true rfl) rfl dX3_init_8 (fun H locs g2 eg2 hH2 hP hS => ?_)
  replace c_f : g2 (k + 1) = nA G n (vN (fun _ => 0)) := (cx_ne eg2 (k + 1) (by omega)).trans c_f
  replace c_o : g2 k = .inr (3, [.int (nI 0), .int (nI 0), .int (nI 0), .ref (ad (k + 1))]) := cx_eq eg2
  replace fr : ∀ j : Nat, (j ≠ k ∧ j ≠ k + 1) → g2 j = g j := fun j hj => (cx_ne eg2 j (by omega)).trans (fr j hj)
  clear eg2
  replace hH : H.size = sz + 1 := by omega
  clear hH2
  exact hret L1 g2 _ _ _ _ _ _ ⟨(by omega), (by omega)⟩ ⟨fun j h => hmL j (by omega), fr, c_o, c_f⟩ hP hD (by omega) hLL hA hS dX3_init_11

set_option maxRecDepth 20000 in
theorem wd_X4_init_0 : Cond.methodLink RX4 3 objectInit ∈ wsX4_init := by decide +kernel
set_option maxRecDepth 20000 in
theorem wd_X4_init_1 : Cond.instanceMethod objectInit ∈ wsX4_init := by decide +kernel
set_option maxRecDepth 20000 in
theorem wd_X4_init_2 : Cond.code objectInit ⟨#[0xb1]⟩ 1 none ∈ wsX4_init := by decide +kernel
set_option maxRecDepth 20000 in
theorem wd_X4_init_3 : Cond.classLink RX4 9 "[[I" ∈ wsX4_init := by decide +kernel
set_option maxRecDepth 20000 in
theorem wd_X4_init_4 : Cond.arrayClass .int ∈ wsX4_init := by decide +kernel
set_option maxRecDepth 20000 in
theorem wd_X4_init_5 : Cond.fieldLink RX4 11 "AffineHulls$Span" "kept" "[[I" ∈ wsX4_init := by decide +kernel
set_option maxRecDepth 20000 in
theorem in_X4_init_X4 : ∀ w ∈ u_ws RX4 TX4 3, w ∈ wsX4_init := by decide +kernel
set_option maxRecDepth 20000 in
theorem wd_X4_init_7 : Cond.arrayClass .boolean ∈ wsX4_init := by decide +kernel
set_option maxRecDepth 20000 in
theorem wd_X4_init_8 : Cond.fieldLink RX4 16 "AffineHulls$Span" "taken" "[Z" ∈ wsX4_init := by decide +kernel
set_option maxRecDepth 20000 in
theorem wd_X4_init_9 : Cond.fieldLink RX4 20 "AffineHulls$Span" "rest" "[I" ∈ wsX4_init := by decide +kernel
abbrev rm_X4_init : Room := { frames := 1, cells := 8, slots := 40, locals := 20 }
set_option maxHeartbeats 4000000 in
set_option maxRecDepth 100000 in
theorem c_X4_init {l : Launch} {G : cx_G} {L : List Nat} {ad : Nat → Nat} {g : Nat → va_E} (hD : cx_D L ad) {sz : Nat} {b n : Nat} (hk1 : ad (b + 1) = sz) (hkr : ∀ i : Nat, i < n → ad (b + 4 + i) = sz + 1 + i) (hk2 : ad (b + 2) = sz + 1 + n) (hk3 : ad (b + 3) = sz + 2 + n) (hn : n ≤ 5) (c_o : g b = .inr (4, [.null, .null, .null])) (hmL : ∀ j : Nat, j = b → j ∈ L) : CV l yX4_init wsX4_init rm_X4_init G L ad g [.ref (ad b), .int (nI n)] (n + 3) (fun u => (∀ j : Nat, (b ≤ j ∧ j < b + 4 + n) → j ∈ u.1) ∧ (∀ j : Nat, (j < b ∨ b + 4 + n ≤ j) → u.2 j = g j) ∧ SpanAt G ad u.2 b n (fun _ => false) (fun _ _ => 0) (fun _ => 0)) 8 40 sz := by
  refine cx_ofC (cc := cX4_init) (maxL := 2) (by decide +kernel) rfl rfl (Nat.le_of_ble_eq_true rfl) ?_
  intro p e s m args below meth c Q hx hb hts hown hml hin hP hK hY hS hz hH hret ls hl
  have hown : s.vm.findClass RX4 = some m.cls := hown
  have hl : lv_has ls 2 [(0, .ref (ad b)), (1, .int (nI n))] := hl
  replace hLL : ∀ j : Nat, j ∈ L → j ∈ L := fun _ h => h
  replace hA : ∀ q : Nat, cx_A L ad sz q → cx_A L ad sz q := fun _ h => h
  replace fr : ∀ j : Nat, (j < b ∨ b + 4 + n ≤ j) → g j = g j := fun _ _ => rfl
  have hnn : n * n ≤ 5 * 5 := Nat.mul_le_mul hn hn
  refine lv_aload_n hx hb dX4_init_0 rfl (lv_at hl 0 rfl) ?_
  refine W.objInit hx hb hown (hts _ wd_X4_init_0) (hts _ wd_X4_init_1) (hts _ wd_X4_init_2) rfl (by rw [hml]; exact hl.1) rfl dX4_init_1 (Nat.le_of_ble_eq_true rfl) (Nat.le_of_ble_eq_true rfl) ?_
  refine W.eq (g2 := F0 m 4 ls []) rfl ?_
  refine lv_aload_n hx hb dX4_init_4 rfl (lv_at hl 0 rfl) ?_
  refine lv_iload_n hx hb dX4_init_5 rfl (lv_at hl 1 rfl) ?_
  refine lv_iload_n hx hb dX4_init_6 rfl (lv_at hl 1 rfl) ?_
  have hk1 : ad (b + 1) = s.heap.size := by omega
  refine ax_mna (b := b) (n := n) hx hb hown (hts _ wd_X4_init_3) hY.1 (hts _ wd_X4_init_4) hK hP hD hS hk1 (fun i hi => by have := hkr i hi; omega) (by omega) (show 0 + (1 + n) ≤ 8 by omega) (show 0 + (n + n * n) ≤ 40 by omega) dX4_init_7 (fun L1 H g1 em1 er1 eo1 ef1 hH1 hP hD hS => ?_)
  replace c_o : g1 b = .inr (4, [.null, .null, .null]) := (ef1 b (by omega) (by omega)).trans c_o
  replace fr : ∀ j : Nat, (j < b ∨ b + 4 + n ≤ j) → g1 j = g j := fun j hj => (ef1 j (by omega) (by omega)).trans (fr j hj)
  replace c_K := er1
  replace c_rows := eo1
  replace hLL : ∀ j : Nat, j ∈ L → j ∈ L1 := fun j h => (em1 j).mpr (Or.inl (hLL j h))
  replace hmL : ∀ j : Nat, ((j = b) ∨ j = b + 1 ∨ (b + 4 ≤ j ∧ j < b + 4 + n)) → j ∈ L1 := fun j hj => (em1 j).mpr (hj.elim (fun h => Or.inl (hmL j h)) Or.inr)
  replace hA : ∀ q : Nat, cx_A L1 ad sz q → cx_A L ad sz q := fun q hq9 => hA q (cx_A.down (fun j hj => ((em1 j).mp hj).elim Or.inl (fun h => Or.inr (by rcases h with h | h; rw [h]; omega; have h7 := hkr (j - (b + 4)) (by omega); rw [show b + 4 + (j - (b + 4)) = j by omega] at h7; omega))) q hq9)
  replace hH : H.size = sz + 1 + n := by omega
  refine ax_putFz (k := b) (v := .ref (ad (b + 1))) (fs' := [.ref (ad (b + 1)), .null, .null]) hx hb hts in_X4_init_X4 tyX4 tyX4_ok nmX4 hown hK hP hD hS (hmL _ (by omega)) c_o rfl 0 (by decide) (hts _ wd_X4_init_5) (fun _ h9 => h9) rfl hin rfl (ty := (.array (.array .int))) (by decide +kernel) rfl rfl (Nat.le_of_ble_eq_true rfl) rfl dX4_init_11 (fun H locs g2 eg2 hH2 hP hS => ?_)
  replace c_K : g2 (b + 1) = rA (G.2 6) n (fun i => if i < n then some (ad (b + 4 + i)) else none) := (cx_ne eg2 (b + 1) (by omega)).trans c_K
  replace c_rows : ∀ i : Nat, i < n → g2 (b + 4 + i) = nA G n (vN (fun _ => 0)) := fun i hi => (cx_ne eg2 _ (by omega)).trans (c_rows i hi)
  replace c_o : g2 b = .inr (4, [.ref (ad (b + 1)), .null, .null]) := cx_eq eg2
  replace fr : ∀ j : Nat, (j < b ∨ b + 4 + n ≤ j) → g2 j = g j := fun j hj => (cx_ne eg2 j (by omega)).trans (fr j hj)
  clear eg2
  replace hH : H.size = sz + 1 + n := by omega
  clear hH2
  refine lv_aload_n hx hb dX4_init_14 rfl (lv_at hl 0 rfl) ?_
  refine lv_iload_n hx hb dX4_init_15 rfl (lv_at hl 1 rfl) ?_
  have hk3 : ad (b + 2) = H.size := by omega
  refine ax_newZ (k := b + 2) (n := n) (f := (fun _ => false)) hx hb (hts _ wd_X4_init_7) hK hP hD hS hk3 (fun _ => rfl) (by omega) (show 0 + 1 + n + 1 ≤ 8 by omega) (show 0 + n + n * n + n ≤ 40 by omega) dX4_init_16 (fun L3 H g3 eL3 eg3 hH3 hP hD hS => ?_)
  replace c_o : g3 b = .inr (4, [.ref (ad (b + 1)), .null, .null]) := (cx_ne eg3 b (by omega)).trans c_o
  replace c_K : g3 (b + 1) = rA (G.2 6) n (fun i => if i < n then some (ad (b + 4 + i)) else none) := (cx_ne eg3 (b + 1) (by omega)).trans c_K
  replace c_rows : ∀ i : Nat, i < n → g3 (b + 4 + i) = nA G n (vN (fun _ => 0)) := fun i hi => (cx_ne eg3 _ (by omega)).trans (c_rows i hi)
  replace c_t : g3 (b + 2) = zA G n (fun _ => false) := cx_eq eg3
  replace fr : ∀ j : Nat, (j < b ∨ b + 4 + n ≤ j) → g3 j = g j := fun j hj => (cx_ne eg3 j (by omega)).trans (fr j hj)
  replace hLL : ∀ j : Nat, j ∈ L → j ∈ L3 := fun j h => by rw [eL3]; exact List.mem_append_left _ (hLL j h)
  replace hmL : ∀ j : Nat, (((j = b) ∨ j = b + 1 ∨ (b + 4 ≤ j ∧ j < b + 4 + n)) ∨ j = b + 2) → j ∈ L3 := fun j hj => by rw [eL3]; exact hj.elim (fun h => List.mem_append_left _ (hmL j h)) (fun h => by rw [h]; exact List.mem_append_right _ List.mem_cons_self)
  replace hA : ∀ q : Nat, cx_A L3 ad sz q → cx_A L ad sz q := fun q hq9 => hA q (cx_A.down (fun j hj => by rw [eL3] at hj; rcases List.mem_append.mp hj with h | h; exact Or.inl h; exact Or.inr (by rw [List.mem_singleton.mp h]; omega)) q hq9)
  replace hH : H.size = sz + 1 + n + 1 := by omega
  clear eg3 eL3 hk3 hH3
  refine ax_putFz (k := b) (v := .ref (ad (b + 2))) (fs' := [.ref (ad (b + 1)), .ref (ad (b + 2)), .null]) hx hb hts in_X4_init_X4 tyX4 tyX4_ok nmX4 hown hK hP hD hS (hmL _ (by omega)) c_o rfl 1 (by decide) (hts _ wd_X4_init_8) (fun _ h9 => h9) rfl hin rfl (ty := (.array .boolean)) (by decide +kernel) rfl rfl (Nat.le_of_ble_eq_true rfl) rfl dX4_init_18 (fun H locs g4 eg4 hH4 hP hS => ?_)
  replace c_K : g4 (b + 1) = rA (G.2 6) n (fun i => if i < n then some (ad (b + 4 + i)) else none) := (cx_ne eg4 (b + 1) (by omega)).trans c_K
  replace c_rows : ∀ i : Nat, i < n → g4 (b + 4 + i) = nA G n (vN (fun _ => 0)) := fun i hi => (cx_ne eg4 _ (by omega)).trans (c_rows i hi)
  replace c_t : g4 (b + 2) = zA G n (fun _ => false) := (cx_ne eg4 (b + 2) (by omega)).trans c_t
  replace c_o : g4 b = .inr (4, [.ref (ad (b + 1)), .ref (ad (b + 2)), .null]) := cx_eq eg4
  replace fr : ∀ j : Nat, (j < b ∨ b + 4 + n ≤ j) → g4 j = g j := fun j hj => (cx_ne eg4 j (by omega)).trans (fr j hj)
  clear eg4
  replace hH : H.size = sz + 1 + n + 1 := by omega
  clear hH4
  refine lv_aload_n hx hb dX4_init_21 rfl (lv_at hl 0 rfl) ?_
  refine lv_iload_n hx hb dX4_init_22 rfl (lv_at hl 1 rfl) ?_
  have hk5 : ad (b + 3) = H.size := by omega
  refine ax_newI (k := b + 3) (n := n) (f := (fun j => nI ((vN (fun _ => 0)) j))) hx hb (hts _ wd_X4_init_4) hK hP hD hS hk5 (fun _ => nI_0) (by omega) (show 0 + 1 + n + 1 + 1 ≤ 8 by omega) (show 0 + n + n * n + n + n ≤ 40 by omega) dX4_init_23 (fun L5 H g5 eL5 eg5 hH5 hP hD hS => ?_)
  replace c_o : g5 b = .inr (4, [.ref (ad (b + 1)), .ref (ad (b + 2)), .null]) := (cx_ne eg5 b (by omega)).trans c_o
  replace c_K : g5 (b + 1) = rA (G.2 6) n (fun i => if i < n then some (ad (b + 4 + i)) else none) := (cx_ne eg5 (b + 1) (by omega)).trans c_K
  replace c_rows : ∀ i : Nat, i < n → g5 (b + 4 + i) = nA G n (vN (fun _ => 0)) := fun i hi => (cx_ne eg5 _ (by omega)).trans (c_rows i hi)
  replace c_t : g5 (b + 2) = zA G n (fun _ => false) := (cx_ne eg5 (b + 2) (by omega)).trans c_t
  replace c_r : g5 (b + 3) = nA G n (vN (fun _ => 0)) := cx_eq eg5
  replace fr : ∀ j : Nat, (j < b ∨ b + 4 + n ≤ j) → g5 j = g j := fun j hj => (cx_ne eg5 j (by omega)).trans (fr j hj)
  replace hLL : ∀ j : Nat, j ∈ L → j ∈ L5 := fun j h => by rw [eL5]; exact List.mem_append_left _ (hLL j h)
  replace hmL : ∀ j : Nat, ((((j = b) ∨ j = b + 1 ∨ (b + 4 ≤ j ∧ j < b + 4 + n)) ∨ j = b + 2) ∨ j = b + 3) → j ∈ L5 := fun j hj => by rw [eL5]; exact hj.elim (fun h => List.mem_append_left _ (hmL j h)) (fun h => by rw [h]; exact List.mem_append_right _ List.mem_cons_self)
  replace hA : ∀ q : Nat, cx_A L5 ad sz q → cx_A L ad sz q := fun q hq9 => hA q (cx_A.down (fun j hj => by rw [eL5] at hj; rcases List.mem_append.mp hj with h | h; exact Or.inl h; exact Or.inr (by rw [List.mem_singleton.mp h]; omega)) q hq9)
  replace hH : H.size = sz + 1 + n + 1 + 1 := by omega
  clear eg5 eL5 hk5 hH5
  refine ax_putFz (k := b) (v := .ref (ad (b + 3))) (fs' := [.ref (ad (b + 1)), .ref (ad (b + 2)), .ref (ad (b + 3))]) hx hb hts in_X4_init_X4 tyX4 tyX4_ok nmX4 hown hK hP hD hS (hmL _ (by omega)) c_o rfl 2 (by decide) (hts _ wd_X4_init_9) (fun _ h9 => h9) rfl hin rfl (ty := (.array .int)) (by decide +kernel) rfl rfl (Nat.le_of_ble_eq_true rfl) rfl dX4_init_25 (fun H locs g6 eg6 hH6 hP hS => ?_)
  replace c_K : g6 (b + 1) = rA (G.2 6) n (fun i => if i < n then some (ad (b + 4 + i)) else none) := (cx_ne eg6 (b + 1) (by omega)).trans c_K
  replace c_rows : ∀ i : Nat, i < n → g6 (b + 4 + i) = nA G n (vN (fun _ => 0)) := fun i hi => (cx_ne eg6 _ (by omega)).trans (c_rows i hi)
  replace c_t : g6 (b + 2) = zA G n (fun _ => false) := (cx_ne eg6 (b + 2) (by omega)).trans c_t
  replace c_r : g6 (b + 3) = nA G n (vN (fun _ => 0)) := (cx_ne eg6 (b + 3) (by omega)).trans c_r
  replace c_o : g6 b = .inr (4, [.ref (ad (b + 1)), .ref (ad (b + 2)), .ref (ad (b + 3))]) := cx_eq eg6
  replace fr : ∀ j : Nat, (j < b ∨ b + 4 + n ≤ j) → g6 j = g j := fun j hj => (cx_ne eg6 j (by omega)).trans (fr j hj)
  clear eg6
  replace hH : H.size = sz + 1 + n + 1 + 1 := by omega
  clear hH6
  exact hret L5 g6 _ _ _ _ _ _ ⟨(by omega), (by omega)⟩ ⟨fun j h => hmL j (by omega), fr, c_o, c_K, c_t, c_r, c_rows⟩ hP hD (by omega) hLL hA hS dX4_init_28

set_option maxRecDepth 20000 in
theorem wd_X1_init_0 : Cond.methodLink RX1 1 objectInit ∈ wsX1_init := by decide +kernel
set_option maxRecDepth 20000 in
theorem wd_X1_init_1 : Cond.instanceMethod objectInit ∈ wsX1_init := by decide +kernel
set_option maxRecDepth 20000 in
theorem wd_X1_init_2 : Cond.code objectInit ⟨#[0xb1]⟩ 1 none ∈ wsX1_init := by decide +kernel
set_option maxRecDepth 20000 in
theorem in_X1_init_X4 : ∀ w ∈ u_ws RX4 TX4 3, w ∈ wsX1_init := by decide +kernel
set_option maxRecDepth 20000 in
theorem wd_X1_init_4 : Cond.classLink RX1 7 RX4 ∈ wsX1_init := by decide +kernel
set_option maxRecDepth 20000 in
theorem wd_X1_init_5 : Cond.instantiable RX4 3 ∈ wsX1_init := by decide +kernel
set_option maxRecDepth 20000 in
theorem wd_X1_init_6 : Cond.initialized RX4 ∈ wsX1_init := by decide +kernel
set_option maxRecDepth 20000 in
theorem wd_X1_init_7 : Cond.methodLink RX1 9 yX4_init ∈ wsX1_init := by decide +kernel
set_option maxRecDepth 20000 in
theorem wd_X1_init_8 : Cond.instanceMethod yX4_init ∈ wsX1_init := by decide +kernel
set_option maxRecDepth 20000 in
theorem wd_X1_init_9 : Cond.fieldLink RX1 12 "AffineHulls$Hull" "span" "LAffineHulls$Span;" ∈ wsX1_init := by decide +kernel
set_option maxRecDepth 20000 in
theorem in_X1_init_X1 : ∀ w ∈ u_ws RX1 TX1 3, w ∈ wsX1_init := by decide +kernel
set_option maxRecDepth 20000 in
theorem wd_X1_init_11 : Cond.arrayClass .int ∈ wsX1_init := by decide +kernel
set_option maxRecDepth 20000 in
theorem wd_X1_init_12 : Cond.fieldLink RX1 18 "AffineHulls$Hull" "members" "[I" ∈ wsX1_init := by decide +kernel
abbrev rm_X1_init : Room := { frames := 2, cells := 10, slots := 48, locals := 41 }
set_option maxHeartbeats 4000000 in
set_option maxRecDepth 100000 in
theorem c_X1_init {l : Launch} {G : cx_G} {L : List Nat} {ad : Nat → Nat} {g : Nat → va_E} (hD : cx_D L ad) {sz : Nat} {h b mb n : Nat} (hd1 : h ≠ mb) (hd2 : h < b ∨ b + 4 + n ≤ h) (hd3 : mb < b ∨ b + 4 + n ≤ mb) (hk0 : ad b = sz) (hk1 : ad (b + 1) = sz + 1) (hkr : ∀ i : Nat, i < n → ad (b + 4 + i) = sz + 2 + i) (hk2 : ad (b + 2) = sz + 2 + n) (hk3 : ad (b + 3) = sz + 3 + n) (hk4 : ad mb = sz + 4 + n) (hn : n ≤ 5) (c_o : g h = .inr (1, [.null, .null, .int (nI 0)])) (hmL : ∀ j : Nat, j = h → j ∈ L) : CV l yX1_init wsX1_init rm_X1_init G L ad g [.ref (ad h), .int (nI n)] (n + 5) (fun u => (∀ j : Nat, (j = h ∨ j = mb ∨ (b ≤ j ∧ j < b + 4 + n)) → j ∈ u.1) ∧ (∀ j : Nat, (j ≠ h ∧ j ≠ mb ∧ (j < b ∨ b + 4 + n ≤ j)) → u.2 j = g j) ∧ u.2 h = .inr (1, [.ref (ad b), .ref (ad mb), .int (nI 0)]) ∧ u.2 mb = nA G n (fun _ => 0) ∧ SpanAt G ad u.2 b n (fun _ => false) (fun _ _ => 0) (fun _ => 0)) 10 48 sz := by
  refine cx_ofC (cc := cX1_init) (maxL := 2) (by decide +kernel) rfl rfl (Nat.le_of_ble_eq_true rfl) ?_
  intro p e s m args below meth c Q hx hb hts hown hml hin hP hK hY hS hz hH hret ls hl
  have hown : s.vm.findClass RX1 = some m.cls := hown
  have hl : lv_has ls 2 [(0, .ref (ad h)), (1, .int (nI n))] := hl
  replace hLL : ∀ j : Nat, j ∈ L → j ∈ L := fun _ h => h
  replace hA : ∀ q : Nat, cx_A L ad sz q → cx_A L ad sz q := fun _ h => h
  replace fr : ∀ j : Nat, (j ≠ h ∧ j ≠ mb ∧ (j < b ∨ b + 4 + n ≤ j)) → g j = g j := fun _ _ => rfl
  refine lv_aload_n hx hb dX1_init_0 rfl (lv_at hl 0 rfl) ?_
  refine W.objInit hx hb hown (hts _ wd_X1_init_0) (hts _ wd_X1_init_1) (hts _ wd_X1_init_2) rfl (by rw [hml]; exact hl.1) rfl dX1_init_1 (Nat.le_of_ble_eq_true rfl) (Nat.le_of_ble_eq_true rfl) ?_
  refine W.eq (g2 := F0 m 4 ls []) rfl ?_
  refine lv_aload_n hx hb dX1_init_4 rfl (lv_at hl 0 rfl) ?_
  have hk1 : ad b = s.heap.size := by omega
  refine ax_new (k := b) (ci := 4) (fs := [.null, .null, .null]) (C := RX4) (T := TX4) (N := 3) hx hb hts in_X1_init_X4 tyX4 tyX4_ok hown (hts _ wd_X1_init_4) (hts _ wd_X1_init_5) (hts _ wd_X1_init_6) hK hP hD hS hk1 rfl (fun j hj => by rcases (show j = 0 ∨ j = 1 ∨ j = 2 by omega) with rfl | rfl | rfl <;> rfl) (show 0 + 1 ≤ 10 by omega) (show 0 + 3 ≤ 48 by omega) dX1_init_5 (fun L1 H g1 eL1 eg1 hH1 hP hD hS => ?_)
  replace c_o : g1 h = .inr (1, [.null, .null, .int (nI 0)]) := (cx_ne eg1 h (by omega)).trans c_o
  replace c_s : g1 b = .inr (4, [.null, .null, .null]) := cx_eq eg1
  replace fr : ∀ j : Nat, (j ≠ h ∧ j ≠ mb ∧ (j < b ∨ b + 4 + n ≤ j)) → g1 j = g j := fun j hj => (cx_ne eg1 j (by omega)).trans (fr j hj)
  replace hLL : ∀ j : Nat, j ∈ L → j ∈ L1 := fun j h => by rw [eL1]; exact List.mem_append_left _ (hLL j h)
  replace hmL : ∀ j : Nat, ((j = h) ∨ j = b) → j ∈ L1 := fun j hj => by rw [eL1]; exact hj.elim (fun h => List.mem_append_left _ (hmL j h)) (fun h => by rw [h]; exact List.mem_append_right _ List.mem_cons_self)
  replace hA : ∀ q : Nat, cx_A L1 ad sz q → cx_A L ad sz q := fun q hq9 => hA q (cx_A.down (fun j hj => by rw [eL1] at hj; rcases List.mem_append.mp hj with h | h; exact Or.inl h; exact Or.inr (by rw [List.mem_singleton.mp h]; omega)) q hq9)
  replace hH : H.size = sz + 1 := by omega
  clear eg1 eL1 hk1 hH1
  refine lv_dup hx hb dX1_init_8 rfl ?_
  refine lv_iload_n hx hb dX1_init_9 rfl (lv_at hl 1 rfl) ?_
  refine cx_Iv (As := [.int (nI n)]) (rest := [.ref (ad b), .ref (ad h)]) (na := (n + 3)) (mc := 8) (ms := 40) ⟨hx, hb, hml, hown, hts⟩ (c_X4_init hD (b := b) (n := n) (by omega) (fun i hi => by have := hkr i hi; omega) (by omega) (by omega) hn c_s (fun j hj => hmL j (by omega))) (cwI 1 hts gX1_init_X4_init rfl rfl rfl (hts _ wd_X1_init_6) (hts _ wd_X1_init_7) (hts _ wd_X1_init_8) rfl (by decide +kernel) ⟨Nat.le_of_ble_eq_true rfl, Nat.le_of_ble_eq_true rfl⟩) hK hY hP hS hz ⟨(show 0 + 1 + 8 ≤ 10 by omega), (show 0 + 3 + 40 ≤ 48 by omega)⟩ rfl hl.1 rfl (Nat.le_of_ble_eq_true rfl) dX1_init_10 (fun u2 H locs hp2 hlk2 hP hD hH2 hAn2 hS => ?_)
  obtain ⟨L2, g2⟩ := u2
  dsimp only at hp2 hlk2 hP hD hAn2 hS
  replace hLL : ∀ j : Nat, j ∈ L → j ∈ L2 := fun j h => hlk2 j (hLL j h)
  replace hA : ∀ q : Nat, cx_A L2 ad sz q → cx_A L ad sz q := fun q h => hA q (hAn2 q h)
  replace hH : H.size = sz + 1 + (n + 3) := by omega
  obtain ⟨hp2m, hp2f, hp2s⟩ := hp2
  replace c_o : g2 h = .inr (1, [.null, .null, .int (nI 0)]) := (hp2f h (by omega)).trans c_o
  replace fr : ∀ j : Nat, (j ≠ h ∧ j ≠ mb ∧ (j < b ∨ b + 4 + n ≤ j)) → g2 j = g j := fun j hj => (hp2f j (by omega)).trans (fr j hj)
  replace hmL : ∀ j : Nat, (((j = h) ∨ j = b) ∨ (b ≤ j ∧ j < b + 4 + n)) → j ∈ L2 := fun j hj => hj.elim (fun h => hlk2 j (hmL j h)) (fun h => hp2m j h)
  replace sp := hp2s
  refine ax_putFz (k := h) (v := .ref (ad b)) (fs' := [.ref (ad b), .null, .int (nI 0)]) hx hb hts in_X1_init_X1 tyX1 tyX1_ok nmX1 hown hK hP hD hS (hmL _ (by omega)) c_o rfl 0 (by decide) (hts _ wd_X1_init_9) (fun _ h9 => h9) rfl hin rfl (ty := (.object "AffineHulls$Span")) (by decide +kernel) rfl rfl (Nat.le_of_ble_eq_true rfl) rfl dX1_init_13 (fun H locs g3 eg3 hH3 hP hS => ?_)
  replace sp : SpanAt G ad g3 b n (fun _ => false) (fun _ _ => 0) (fun _ => 0) := sp.kept (fun j h1 h2 => cx_ne eg3 j (by omega))
  replace c_o : g3 h = .inr (1, [.ref (ad b), .null, .int (nI 0)]) := cx_eq eg3
  replace fr : ∀ j : Nat, (j ≠ h ∧ j ≠ mb ∧ (j < b ∨ b + 4 + n ≤ j)) → g3 j = g j := fun j hj => (cx_ne eg3 j (by omega)).trans (fr j hj)
  clear eg3
  replace hH : H.size = sz + 1 + (n + 3) := by omega
  clear hH3
  refine lv_aload_n hx hb dX1_init_16 rfl (lv_at hl 0 rfl) ?_
  refine lv_iload_n hx hb dX1_init_17 rfl (lv_at hl 1 rfl) ?_
  have hk4 : ad mb = H.size := by omega
  refine ax_newI (k := mb) (n := n) (f := (fun j => nI ((fun _ => 0) j))) hx hb (hts _ wd_X1_init_11) hK hP hD hS hk4 (fun _ => nI_0) (by omega) (show 0 + 1 + 8 + 1 ≤ 10 by omega) (show 0 + 3 + 40 + n ≤ 48 by omega) dX1_init_18 (fun L4 H g4 eL4 eg4 hH4 hP hD hS => ?_)
  replace c_o : g4 h = .inr (1, [.ref (ad b), .null, .int (nI 0)]) := (cx_ne eg4 h (by omega)).trans c_o
  replace sp : SpanAt G ad g4 b n (fun _ => false) (fun _ _ => 0) (fun _ => 0) := sp.kept (fun j h1 h2 => cx_ne eg4 j (by omega))
  replace c_m : g4 mb = nA G n (fun _ => 0) := cx_eq eg4
  replace fr : ∀ j : Nat, (j ≠ h ∧ j ≠ mb ∧ (j < b ∨ b + 4 + n ≤ j)) → g4 j = g j := fun j hj => (cx_ne eg4 j (by omega)).trans (fr j hj)
  replace hLL : ∀ j : Nat, j ∈ L → j ∈ L4 := fun j h => by rw [eL4]; exact List.mem_append_left _ (hLL j h)
  replace hmL : ∀ j : Nat, ((((j = h) ∨ j = b) ∨ (b ≤ j ∧ j < b + 4 + n)) ∨ j = mb) → j ∈ L4 := fun j hj => by rw [eL4]; exact hj.elim (fun h => List.mem_append_left _ (hmL j h)) (fun h => by rw [h]; exact List.mem_append_right _ List.mem_cons_self)
  replace hA : ∀ q : Nat, cx_A L4 ad sz q → cx_A L ad sz q := fun q hq9 => hA q (cx_A.down (fun j hj => by rw [eL4] at hj; rcases List.mem_append.mp hj with h | h; exact Or.inl h; exact Or.inr (by rw [List.mem_singleton.mp h]; omega)) q hq9)
  replace hH : H.size = sz + 1 + (n + 3) + 1 := by omega
  clear eg4 eL4 hk4 hH4
  refine ax_putFz (k := h) (v := .ref (ad mb)) (fs' := [.ref (ad b), .ref (ad mb), .int (nI 0)]) hx hb hts in_X1_init_X1 tyX1 tyX1_ok nmX1 hown hK hP hD hS (hmL _ (by omega)) c_o rfl 1 (by decide) (hts _ wd_X1_init_12) (fun _ h9 => h9) rfl hin rfl (ty := (.array .int)) (by decide +kernel) rfl rfl (Nat.le_of_ble_eq_true rfl) rfl dX1_init_20 (fun H locs g5 eg5 hH5 hP hS => ?_)
  replace c_m : g5 mb = nA G n (fun _ => 0) := (cx_ne eg5 mb (by omega)).trans c_m
  replace sp : SpanAt G ad g5 b n (fun _ => false) (fun _ _ => 0) (fun _ => 0) := sp.kept (fun j h1 h2 => cx_ne eg5 j (by omega))
  replace c_o : g5 h = .inr (1, [.ref (ad b), .ref (ad mb), .int (nI 0)]) := cx_eq eg5
  replace fr : ∀ j : Nat, (j ≠ h ∧ j ≠ mb ∧ (j < b ∨ b + 4 + n ≤ j)) → g5 j = g j := fun j hj => (cx_ne eg5 j (by omega)).trans (fr j hj)
  clear eg5
  replace hH : H.size = sz + 1 + (n + 3) + 1 := by omega
  clear hH5
  exact hret L4 g5 _ _ _ _ _ _ ⟨(by omega), (by omega)⟩ ⟨fun j h => hmL j (by omega), fr, c_o, c_m, sp⟩ hP hD (by omega) hLL hA hS dX1_init_23
