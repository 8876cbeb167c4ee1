abbrev rm_X5_init : Room := { frames := 3, cells := 300, slots := 1600, locals := 62 }
set_option maxHeartbeats 4000000 in
set_option maxRecDepth 100000 in
theorem c_X5_init {l : Launch} {G : cx_G} {L : List Nat} {ad : Nat → Nat} {g : Nat → va_E} (hD : cx_D L ad) {sz : Nat} {x1 x2 : Int32} {N V M na : Nat} {hB : Nat → Nat} (hNc : N = clN 8 x1) (hVc : V = clN 4 x2) (hM : M = N * (V + 1)) (hadx : ADX ad sz N V M na hB) (c_o : g 0 = .inr (5, [.int (nI 0), .null, .null, .int (nI 0), .int (nI 0), .null, .null, .int (nI 0), .int (if false = true then 1 else 0), .int (nI 0), .null, .null, .int (nI 0), .null, .null])) (hmL : ∀ j : Nat, j = 0 → j ∈ L) : CV l yX5_init wsX5_init rm_X5_init G L ad g [.ref (ad 0), .int x1, .int x2] (na) (fun u => (∀ j : Nat, lbX N V M j → j ∈ u.1) ∧ u.2 0 = .inr (5, [.int (nI V), .ref (ad 1), .ref (ad 4), .int (nI 0), .int (nI 0), .ref (ad 5), .ref (ad 6), .int (nI 0), .int (if false = true then 1 else 0), .int (nI 0), .ref (ad 2), .ref (ad 7), .int (nI 0), .ref (ad 180), .ref (ad 3)]) ∧ u.2 1 = nA G (V + 1) (vN (fun _ => 0)) ∧ u.2 2 = nA G (V + 1) (vN (nu (fun _ => 0) 0 1)) ∧ u.2 3 = nA G (V + 1) (vN (fun _ => 0)) ∧ u.2 4 = rA (G.2 2) 20 (fun i => if i < 20 then some (ad (300 + 2 * i)) else none) ∧ u.2 5 = rA (G.2 3) N (fun i => if i < N then some (ad (200 + 2 * i)) else none) ∧ u.2 6 = rA (G.2 5) M (fun i => if i < M then some (ad (500 + 2 * i)) else none) ∧ u.2 7 = rA (G.2 4) 24 (fun i => if i < 24 then some (ad (400 + 2 * i)) else none) ∧ XE G ad u.2 V (fun _ => 0) (fun _ => 0) (fun _ => 0) (fun _ => nI 0) (fun _ _ => 0) ∧ XN G ad u.2 V (fun _ => 0) (fun _ _ => 0) ∧ XA G ad u.2 N V M PS0 ∧ SpanAt G ad u.2 180 (V + 1) (fun _ => false) (fun _ _ => 0) (fun _ => 0)) 300 1600 sz := by
  refine cx_ofC (cc := cX5_init) (maxL := 6) (by decide +kernel) rfl rfl (Nat.le_of_ble_eq_true rfl) ?_
  intro p e s m args below meth c Q hx hb hts hown hml hin hP hK hY hS hz hH hret ls hl
  have hown : s.vm.findClass RX5 = some m.cls := hown
  have hl : lv_has ls 6 [(0, .ref (ad 0)), (1, .int x1), (2, .int x2)] := hl
  replace hLL : ∀ j : Nat, j ∈ L → j ∈ L := fun _ h => h
  replace hA : ∀ q : Nat, cx_A L ad sz q → cx_A L ad sz q := fun _ h => h
  have hNr := clN_r (mx := 8) (x := x1) (by decide)
  have hVr := clN_r (mx := 4) (x := x2) (by decide)
  rw [← hNc] at hNr
  rw [← hVc] at hVr
  have hM2 : M ≤ 8 * 5 := by rw [hM]; exact Nat.mul_le_mul hNr.2 (by omega)
  have m_o : 0 ∈ L := hmL 0 rfl
  refine lv_aload_n hx hb dX5_init_0 rfl (lv_at hl 0 rfl) ?_
  refine W.objInit hx hb hown (hts _ wd_X5_init_0) (hts _ wd_X5_init_1) (hts _ wd_X5_init_2) rfl (by rw [hml]; exact hl.1) rfl dX5_init_1 (Nat.le_of_ble_eq_true rfl) (Nat.le_of_ble_eq_true rfl) ?_
  refine W.eq (g2 := F0 m 4 ls []) rfl ?_
  refine lv_iconst (v := nI 1) hx hb dX5_init_4 (by decide) ?_
  refine lv_bipush (v := nI 8) hx hb dX5_init_5 (by decide) ?_
  refine lv_iload_n hx hb dX5_init_7 rfl (lv_at hl 1 rfl) ?_
  refine va_mmin hx hb (hml.trans hl.1.symm) hown (hts _ wd_X5_init_3) (hts _ wd_X5_init_4) (hts _ wd_X5_init_5) (hts _ wd_X5_init_6) (Nat.le_of_ble_eq_true rfl) (Nat.le_of_ble_eq_true rfl) (Nat.zero_le _) (Nat.zero_le _) dX5_init_8 ?_
  refine va_mmax hx hb (hml.trans hl.1.symm) hown (hts _ wd_X5_init_7) (hts _ wd_X5_init_8) (hts _ wd_X5_init_5) (hts _ wd_X5_init_9) (Nat.le_of_ble_eq_true rfl) (Nat.le_of_ble_eq_true rfl) (Nat.zero_le _) (Nat.zero_le _) dX5_init_11 ?_
  rw [mm_cl x1 (by decide), ← hNc]
  refine lv_istore_n (lv' := [(3, .int (nI N)), (0, .ref (ad 0)), (1, .int x1), (2, .int x2)]) hx hb dX5_init_14 rfl hl (by decide) rfl (fun ls hl => ?_)
  refine lv_aload_n hx hb dX5_init_15 rfl (lv_at hl 1 rfl) ?_
  refine lv_iconst (v := nI 1) hx hb dX5_init_16 (by decide) ?_
  refine lv_iconst (v := nI 4) hx hb dX5_init_17 (by decide) ?_
  refine lv_iload_n hx hb dX5_init_18 rfl (lv_at hl 3 rfl) ?_
  refine va_mmin hx hb (hml.trans hl.1.symm) hown (hts _ wd_X5_init_3) (hts _ wd_X5_init_4) (hts _ wd_X5_init_5) (hts _ wd_X5_init_6) (Nat.le_of_ble_eq_true rfl) (Nat.le_of_ble_eq_true rfl) (Nat.zero_le _) (Nat.zero_le _) dX5_init_19 ?_
  refine va_mmax hx hb (hml.trans hl.1.symm) hown (hts _ wd_X5_init_7) (hts _ wd_X5_init_8) (hts _ wd_X5_init_5) (hts _ wd_X5_init_9) (Nat.le_of_ble_eq_true rfl) (Nat.le_of_ble_eq_true rfl) (Nat.zero_le _) (Nat.zero_le _) dX5_init_22 ?_
  rw [mm_cl x2 (by decide), ← hVc]
  refine ax_putFz (k := 0) (v := .int (nI V)) (fs' := [.int (nI V), .null, .null, .int (nI 0), .int (nI 0), .null, .null, .int (nI 0), .int (if false = true then 1 else 0), .int (nI 0), .null, .null, .int (nI 0), .null, .null]) hx hb hts in_X5_init_X5 tyX5 tyX5_ok nmX5 hown hK hP hD hS m_o c_o rfl 0 (by decide) (hts _ wd_X5_init_10) (fun _ h9 => h9) rfl hin rfl (ty := .int) (by decide +kernel) rfl rfl (Nat.le_of_ble_eq_true rfl) rfl dX5_init_25 (fun H locs g1 eg1 hH1 hP hS => ?_)
  replace c_o : g1 0 = .inr (5, [.int (nI V), .null, .null, .int (nI 0), .int (nI 0), .null, .null, .int (nI 0), .int (if false = true then 1 else 0), .int (nI 0), .null, .null, .int (nI 0), .null, .null]) := cx_eq eg1
  clear eg1
  replace hH : H.size = sz := by omega
  clear hH1
  refine lv_aload_n hx hb dX5_init_28 rfl (lv_at hl 1 rfl) ?_
  refine ax_get (k := 0) (v := .int (nI V)) hx hb hts in_X5_init_X5 hown hK hP m_o c_o rfl 0 (by decide) (hts _ wd_X5_init_10) (fun _ h9 => h9) rfl dX5_init_29 ?_
  refine lv_iconst (v := nI 1) hx hb dX5_init_32 (by decide) ?_
  refine ax_add (a := V) (b := 1) hx hb dX5_init_33 ?_
  refine lv_istore (lv' := [(4, .int (nI (V + 1))), (3, .int (nI N)), (0, .ref (ad 0)), (1, .int x1), (2, .int x2)]) hx hb dX5_init_34 hl (by decide) rfl (fun ls hl => ?_)
  refine lv_aload_n hx hb dX5_init_36 rfl (lv_at hl 2 rfl) ?_
  refine lv_iload hx hb dX5_init_37 (lv_at hl 0 rfl) ?_
  have hg2 : sz ≤ H.size := Nat.le_trans hz hS.1
  have hk2 : ad 1 = H.size := by have h9 := hadx.k1; omega
  refine ax_newI (k := 1) (n := V + 1) (f := (fun j => nI ((vN (fun _ => 0)) j))) hx hb (hts _ wd_X5_init_12) hK hP hD hS hk2 (fun _ => nI_0) (by omega) (show 0 + 1 ≤ 300 by omega) (show 0 + (V + 1) ≤ 1600 by omega) dX5_init_39 (fun L2 H g2 eL2 eg2 hH2 hP hD hS => ?_)
  replace c_o : g2 0 = .inr (5, [.int (nI V), .null, .null, .int (nI 0), .int (nI 0), .null, .null, .int (nI 0), .int (if false = true then 1 else 0), .int (nI 0), .null, .null, .int (nI 0), .null, .null]) := (cx_ne eg2 0 (by decide)).trans c_o
  replace c_d : g2 1 = nA G (V + 1) (vN (fun _ => 0)) := cx_eq eg2
  have hup : ∀ j : Nat, j ∈ L → j ∈ L2 := fun j h => by rw [eL2]; exact List.mem_append_left _ h
  replace hLL : ∀ j : Nat, j ∈ L → j ∈ L2 := fun j h => hup j (hLL j h)
  replace m_o : 0 ∈ L2 := hup _ m_o
  have m_d : 1 ∈ L2 := by rw [eL2]; exact List.mem_append_right _ List.mem_cons_self
  replace hA : ∀ q : Nat, cx_A L2 ad sz q → cx_A L ad sz q := fun q hq9 => hA q (cx_A.down (fun j hj => by rw [eL2] at hj; rcases List.mem_append.mp hj with h | h; exact Or.inl h; exact Or.inr (by rw [List.mem_singleton.mp h]; omega)) q hq9)
  replace hH : H.size = sz + 1 := by omega
  clear eg2 eL2 hk2 hH2 hup hg2
  refine ax_putFz (k := 0) (v := .ref (ad 1)) (fs' := [.int (nI V), .ref (ad 1), .null, .int (nI 0), .int (nI 0), .null, .null, .int (nI 0), .int (if false = true then 1 else 0), .int (nI 0), .null, .null, .int (nI 0), .null, .null]) hx hb hts in_X5_init_X5 tyX5 tyX5_ok nmX5 hown hK hP hD hS m_o c_o rfl 1 (by decide) (hts _ wd_X5_init_13) (fun _ h9 => h9) rfl hin rfl (ty := (.array .int)) (by decide +kernel) rfl rfl (Nat.le_of_ble_eq_true rfl) rfl dX5_init_41 (fun H locs g3 eg3 hH3 hP hS => ?_)
  replace c_d : g3 1 = nA G (V + 1) (vN (fun _ => 0)) := (cx_ne eg3 1 (by decide)).trans c_d
  replace c_o : g3 0 = .inr (5, [.int (nI V), .ref (ad 1), .null, .int (nI 0), .int (nI 0), .null, .null, .int (nI 0), .int (if false = true then 1 else 0), .int (nI 0), .null, .null, .int (nI 0), .null, .null]) := cx_eq eg3
  clear eg3
  replace hH : H.size = sz + 1 := by omega
  clear hH3
  refine lv_aload_n hx hb dX5_init_44 rfl (lv_at hl 2 rfl) ?_
  refine lv_iload hx hb dX5_init_45 (lv_at hl 0 rfl) ?_
  have hg4 : sz ≤ H.size := Nat.le_trans hz hS.1
  have hk4 : ad 3 = H.size := by have h9 := hadx.k3; omega
  refine ax_newI (k := 3) (n := V + 1) (f := (fun j => nI ((vN (fun _ => 0)) j))) hx hb (hts _ wd_X5_init_12) hK hP hD hS hk4 (fun _ => nI_0) (by omega) (show 0 + 1 + 1 ≤ 300 by omega) (show 0 + (V + 1) + (V + 1) ≤ 1600 by omega) dX5_init_47 (fun L4 H g4 eL4 eg4 hH4 hP hD hS => ?_)
  replace c_o : g4 0 = .inr (5, [.int (nI V), .ref (ad 1), .null, .int (nI 0), .int (nI 0), .null, .null, .int (nI 0), .int (if false = true then 1 else 0), .int (nI 0), .null, .null, .int (nI 0), .null, .null]) := (cx_ne eg4 0 (by decide)).trans c_o
  replace c_d : g4 1 = nA G (V + 1) (vN (fun _ => 0)) := (cx_ne eg4 1 (by decide)).trans c_d
  replace c_w : g4 3 = nA G (V + 1) (vN (fun _ => 0)) := cx_eq eg4
  have hup : ∀ j : Nat, j ∈ L2 → j ∈ L4 := fun j h => by rw [eL4]; exact List.mem_append_left _ h
  replace hLL : ∀ j : Nat, j ∈ L → j ∈ L4 := fun j h => hup j (hLL j h)
  replace m_o : 0 ∈ L4 := hup _ m_o
  replace m_d : 1 ∈ L4 := hup _ m_d
  have m_w : 3 ∈ L4 := by rw [eL4]; exact List.mem_append_right _ List.mem_cons_self
  replace hA : ∀ q : Nat, cx_A L4 ad sz q → cx_A L ad sz q := fun q hq9 => hA q (cx_A.down (fun j hj => by rw [eL4] at hj; rcases List.mem_append.mp hj with h | h; exact Or.inl h; exact Or.inr (by rw [List.mem_singleton.mp h]; omega)) q hq9)
  replace hH : H.size = sz + 1 + 1 := by omega
  clear eg4 eL4 hk4 hH4 hup hg4
  refine ax_putFz (k := 0) (v := .ref (ad 3)) (fs' := [.int (nI V), .ref (ad 1), .null, .int (nI 0), .int (nI 0), .null, .null, .int (nI 0), .int (if false = true then 1 else 0), .int (nI 0), .null, .null, .int (nI 0), .null, .ref (ad 3)]) hx hb hts in_X5_init_X5 tyX5 tyX5_ok nmX5 hown hK hP hD hS m_o c_o rfl 14 (by decide) (hts _ wd_X5_init_14) (fun _ h9 => h9) rfl hin rfl (ty := (.array .int)) (by decide +kernel) rfl rfl (Nat.le_of_ble_eq_true rfl) rfl dX5_init_49 (fun H locs g5 eg5 hH5 hP hS => ?_)
  replace c_d : g5 1 = nA G (V + 1) (vN (fun _ => 0)) := (cx_ne eg5 1 (by decide)).trans c_d
  replace c_w : g5 3 = nA G (V + 1) (vN (fun _ => 0)) := (cx_ne eg5 3 (by decide)).trans c_w
  replace c_o : g5 0 = .inr (5, [.int (nI V), .ref (ad 1), .null, .int (nI 0), .int (nI 0), .null, .null, .int (nI 0), .int (if false = true then 1 else 0), .int (nI 0), .null, .null, .int (nI 0), .null, .ref (ad 3)]) := cx_eq eg5
  clear eg5
  replace hH : H.size = sz + 1 + 1 := by omega
  clear hH5
  refine lv_aload_n hx hb dX5_init_52 rfl (lv_at hl 2 rfl) ?_
  refine lv_iload hx hb dX5_init_53 (lv_at hl 0 rfl) ?_
  have hg6 : sz ≤ H.size := Nat.le_trans hz hS.1
  have hk6 : ad 2 = H.size := by have h9 := hadx.k2; omega
  refine ax_newI (k := 2) (n := V + 1) (f := (fun j => nI ((vN (fun _ => 0)) j))) hx hb (hts _ wd_X5_init_12) hK hP hD hS hk6 (fun _ => nI_0) (by omega) (show 0 + 1 + 1 + 1 ≤ 300 by omega) (show 0 + (V + 1) + (V + 1) + (V + 1) ≤ 1600 by omega) dX5_init_55 (fun L6 H g6 eL6 eg6 hH6 hP hD hS => ?_)
  replace c_o : g6 0 = .inr (5, [.int (nI V), .ref (ad 1), .null, .int (nI 0), .int (nI 0), .null, .null, .int (nI 0), .int (if false = true then 1 else 0), .int (nI 0), .null, .null, .int (nI 0), .null, .ref (ad 3)]) := (cx_ne eg6 0 (by decide)).trans c_o
  replace c_d : g6 1 = nA G (V + 1) (vN (fun _ => 0)) := (cx_ne eg6 1 (by decide)).trans c_d
  replace c_w : g6 3 = nA G (V + 1) (vN (fun _ => 0)) := (cx_ne eg6 3 (by decide)).trans c_w
  replace c_v : g6 2 = nA G (V + 1) (vN (fun _ => 0)) := cx_eq eg6
  have hup : ∀ j : Nat, j ∈ L4 → j ∈ L6 := fun j h => by rw [eL6]; exact List.mem_append_left _ h
  replace hLL : ∀ j : Nat, j ∈ L → j ∈ L6 := fun j h => hup j (hLL j h)
  replace m_o : 0 ∈ L6 := hup _ m_o
  replace m_d : 1 ∈ L6 := hup _ m_d
  replace m_w : 3 ∈ L6 := hup _ m_w
  have m_v : 2 ∈ L6 := by rw [eL6]; exact List.mem_append_right _ List.mem_cons_self
  replace hA : ∀ q : Nat, cx_A L6 ad sz q → cx_A L ad sz q := fun q hq9 => hA q (cx_A.down (fun j hj => by rw [eL6] at hj; rcases List.mem_append.mp hj with h | h; exact Or.inl h; exact Or.inr (by rw [List.mem_singleton.mp h]; omega)) q hq9)
  replace hH : H.size = sz + 1 + 1 + 1 := by omega
  clear eg6 eL6 hk6 hH6 hup hg6
  refine ax_putFz (k := 0) (v := .ref (ad 2)) (fs' := [.int (nI V), .ref (ad 1), .null, .int (nI 0), .int (nI 0), .null, .null, .int (nI 0), .int (if false = true then 1 else 0), .int (nI 0), .ref (ad 2), .null, .int (nI 0), .null, .ref (ad 3)]) hx hb hts in_X5_init_X5 tyX5 tyX5_ok nmX5 hown hK hP hD hS m_o c_o rfl 10 (by decide) (hts _ wd_X5_init_15) (fun _ h9 => h9) rfl hin rfl (ty := (.array .int)) (by decide +kernel) rfl rfl (Nat.le_of_ble_eq_true rfl) rfl dX5_init_57 (fun H locs g7 eg7 hH7 hP hS => ?_)
  replace c_d : g7 1 = nA G (V + 1) (vN (fun _ => 0)) := (cx_ne eg7 1 (by decide)).trans c_d
  replace c_w : g7 3 = nA G (V + 1) (vN (fun _ => 0)) := (cx_ne eg7 3 (by decide)).trans c_w
  replace c_v : g7 2 = nA G (V + 1) (vN (fun _ => 0)) := (cx_ne eg7 2 (by decide)).trans c_v
  replace c_o : g7 0 = .inr (5, [.int (nI V), .ref (ad 1), .null, .int (nI 0), .int (nI 0), .null, .null, .int (nI 0), .int (if false = true then 1 else 0), .int (nI 0), .ref (ad 2), .null, .int (nI 0), .null, .ref (ad 3)]) := cx_eq eg7
  clear eg7
  replace hH : H.size = sz + 1 + 1 + 1 := by omega
  clear hH7
  refine lv_aload_n hx hb dX5_init_60 rfl (lv_at hl 2 rfl) ?_
  refine ax_get (k := 0) (v := .ref (ad 2)) hx hb hts in_X5_init_X5 hown hK hP m_o c_o rfl 10 (by decide) (hts _ wd_X5_init_15) (fun _ h9 => h9) rfl dX5_init_61 ?_
  refine lv_iconst (v := nI 0) hx hb dX5_init_64 (by decide) ?_
  refine lv_iconst (v := nI 1) hx hb dX5_init_65 (by decide) ?_
  refine ax_iastz (k := 2) (i := 0) (f' := (fun j => nI ((nu (vN (fun _ => 0)) 0 1) j))) hx hb hK hP hD hS m_v c_v (by omega) (by omega) (up_n _ _ _) dX5_init_66 (fun H locs g8 eg8 hH8 hP hS => ?_)
  replace c_o : g8 0 = .inr (5, [.int (nI V), .ref (ad 1), .null, .int (nI 0), .int (nI 0), .null, .null, .int (nI 0), .int (if false = true then 1 else 0), .int (nI 0), .ref (ad 2), .null, .int (nI 0), .null, .ref (ad 3)]) := (cx_ne eg8 0 (by decide)).trans c_o
  replace c_d : g8 1 = nA G (V + 1) (vN (fun _ => 0)) := (cx_ne eg8 1 (by decide)).trans c_d
  replace c_w : g8 3 = nA G (V + 1) (vN (fun _ => 0)) := (cx_ne eg8 3 (by decide)).trans c_w
  replace c_v : g8 2 = nA G (V + 1) (nu (vN (fun _ => 0)) 0 1) := cx_eq eg8
  clear eg8
  replace hH : H.size = sz + 1 + 1 + 1 := by omega
  clear hH8
  replace c_v : g8 2 = nA G (V + 1) (vN (nu (fun _ => 0) 0 1)) := by rw [← vN_nu]; exact c_v
  refine lv_aload_n hx hb dX5_init_67 rfl (lv_at hl 2 rfl) ?_
  have hg9 : sz ≤ H.size := Nat.le_trans hz hS.1
  have hk9 : ad 180 = H.size := by have h9 := hadx.k180; omega
  refine ax_new (k := 180) (ci := 4) (fs := [.null, .null, .null]) (C := RX4) (T := TX4) (N := 3) hx hb hts in_X5_init_X4 tyX4 tyX4_ok hown (hts _ wd_X5_init_17) (hts _ wd_X5_init_18) (hts _ wd_X5_init_19) hK hP hD hS hk9 rfl (fun j hj => by rcases (show j = 0 ∨ j = 1 ∨ j = 2 by omega) with rfl | rfl | rfl <;> rfl) (show 0 + 1 + 1 + 1 + 1 ≤ 300 by omega) (show 0 + (V + 1) + (V + 1) + (V + 1) + 3 ≤ 1600 by omega) dX5_init_68 (fun L9 H g9 eL9 eg9 hH9 hP hD hS => ?_)
  replace c_o : g9 0 = .inr (5, [.int (nI V), .ref (ad 1), .null, .int (nI 0), .int (nI 0), .null, .null, .int (nI 0), .int (if false = true then 1 else 0), .int (nI 0), .ref (ad 2), .null, .int (nI 0), .null, .ref (ad 3)]) := (cx_ne eg9 0 (by decide)).trans c_o
  replace c_d : g9 1 = nA G (V + 1) (vN (fun _ => 0)) := (cx_ne eg9 1 (by decide)).trans c_d
  replace c_w : g9 3 = nA G (V + 1) (vN (fun _ => 0)) := (cx_ne eg9 3 (by decide)).trans c_w
  replace c_v : g9 2 = nA G (V + 1) (vN (nu (fun _ => 0) 0 1)) := (cx_ne eg9 2 (by decide)).trans c_v
  replace c_s : g9 180 = .inr (4, [.null, .null, .null]) := cx_eq eg9
  have hup : ∀ j : Nat, j ∈ L6 → j ∈ L9 := fun j h => by rw [eL9]; exact List.mem_append_left _ h
  replace hLL : ∀ j : Nat, j ∈ L → j ∈ L9 := fun j h => hup j (hLL j h)
  replace m_o : 0 ∈ L9 := hup _ m_o
  replace m_d : 1 ∈ L9 := hup _ m_d
  replace m_w : 3 ∈ L9 := hup _ m_w
  replace m_v : 2 ∈ L9 := hup _ m_v
  have m_s : 180 ∈ L9 := by rw [eL9]; exact List.mem_append_right _ List.mem_cons_self
  replace hA : ∀ q : Nat, cx_A L9 ad sz q → cx_A L ad sz q := fun q hq9 => hA q (cx_A.down (fun j hj => by rw [eL9] at hj; rcases List.mem_append.mp hj with h | h; exact Or.inl h; exact Or.inr (by rw [List.mem_singleton.mp h]; omega)) q hq9)
  replace hH : H.size = sz + 1 + 1 + 1 + 1 := by omega
  clear eg9 eL9 hk9 hH9 hup hg9
  refine lv_dup hx hb dX5_init_71 rfl ?_
  refine lv_iload hx hb dX5_init_72 (lv_at hl 0 rfl) ?_
  refine cx_Iv (As := [.int (nI (V + 1))]) (rest := [.ref (ad 180), .ref (ad 0)]) (na := (V + 1 + 3)) (mc := 8) (ms := 40) ⟨hx, hb, hml, hown, hts⟩ (c_X4_init hD (b := 180) (n := V + 1) (by have h9 := hadx.k181; show ad 181 = _; omega) (fun i hi => by show ad (184 + i) = _; have := hadx.kr i hi; omega) (by have h9 := hadx.k182; show ad 182 = _; omega) (by have h9 := hadx.k183; show ad 183 = _; omega) (by omega) c_s (fun j hj => by rw [hj]; exact m_s)) (cwI 1 hts gX5_init_X4_init rfl rfl rfl (hts _ wd_X5_init_19) (hts _ wd_X5_init_20) (hts _ wd_X5_init_21) rfl (by decide +kernel) ⟨Nat.le_of_ble_eq_true rfl, Nat.le_of_ble_eq_true rfl⟩) hK hY hP hS hz ⟨(show 0 + 1 + 1 + 1 + 1 + 8 ≤ 300 by omega), (show 0 + (V + 1) + (V + 1) + (V + 1) + 3 + 40 ≤ 1600 by omega)⟩ rfl hl.1 rfl (Nat.le_of_ble_eq_true rfl) dX5_init_74 (fun u10 H locs hp10 hlk10 hP hD hH10 hAn10 hS => ?_)
  obtain ⟨L10, g10⟩ := u10
  dsimp only at hp10 hlk10 hP hD hAn10 hS
  replace hLL : ∀ j : Nat, j ∈ L → j ∈ L10 := fun j h => hlk10 j (hLL j h)
  replace hA : ∀ q : Nat, cx_A L10 ad sz q → cx_A L ad sz q := fun q h => hA q (hAn10 q h)
  replace m_o : 0 ∈ L10 := hlk10 _ m_o
  replace m_d : 1 ∈ L10 := hlk10 _ m_d
  replace m_w : 3 ∈ L10 := hlk10 _ m_w
  replace m_v : 2 ∈ L10 := hlk10 _ m_v
  replace m_s : 180 ∈ L10 := hlk10 _ m_s
  replace hH : H.size = sz + 1 + 1 + 1 + 1 + (V + 1 + 3) := by omega
  obtain ⟨hp10m, hp10f, hp10s⟩ := hp10
  replace c_o : g10 0 = .inr (5, [.int (nI V), .ref (ad 1), .null, .int (nI 0), .int (nI 0), .null, .null, .int (nI 0), .int (if false = true then 1 else 0), .int (nI 0), .ref (ad 2), .null, .int (nI 0), .null, .ref (ad 3)]) := (hp10f 0 (by omega)).trans c_o
  replace c_d : g10 1 = nA G (V + 1) (vN (fun _ => 0)) := (hp10f 1 (by omega)).trans c_d
  replace c_w : g10 3 = nA G (V + 1) (vN (fun _ => 0)) := (hp10f 3 (by omega)).trans c_w
  replace c_v : g10 2 = nA G (V + 1) (vN (nu (fun _ => 0) 0 1)) := (hp10f 2 (by omega)).trans c_v
  have mSp : ∀ j : Nat, 180 ≤ j → j < 185 + V → j ∈ L10 := fun j a b => hp10m j ⟨a, by omega⟩
  have m_s : 180 ∈ L10 := mSp 180 (by decide) (by omega)
  replace sp0 := hp10s
  clear hlk10 hAn10 hH10
  refine ax_putFz (k := 0) (v := .ref (ad 180)) (fs' := [.int (nI V), .ref (ad 1), .null, .int (nI 0), .int (nI 0), .null, .null, .int (nI 0), .int (if false = true then 1 else 0), .int (nI 0), .ref (ad 2), .null, .int (nI 0), .ref (ad 180), .ref (ad 3)]) hx hb hts in_X5_init_X5 tyX5 tyX5_ok nmX5 hown hK hP hD hS m_o c_o rfl 13 (by decide) (hts _ wd_X5_init_22) (fun _ h9 => h9) rfl hin rfl (ty := (.object "AffineHulls$Span")) (by decide +kernel) rfl rfl (Nat.le_of_ble_eq_true rfl) rfl dX5_init_77 (fun H locs g11 eg11 hH11 hP hS => ?_)
  replace c_d : g11 1 = nA G (V + 1) (vN (fun _ => 0)) := (cx_ne eg11 1 (by decide)).trans c_d
  replace c_w : g11 3 = nA G (V + 1) (vN (fun _ => 0)) := (cx_ne eg11 3 (by decide)).trans c_w
  replace c_v : g11 2 = nA G (V + 1) (vN (nu (fun _ => 0) 0 1)) := (cx_ne eg11 2 (by decide)).trans c_v
  replace sp0 : SpanAt G ad g11 180 (V + 1) (fun _ => false) (fun _ _ => 0) (fun _ => 0) := sp0.kept (fun j q1 q2 => cx_ne eg11 j (by omega))
  replace c_o : g11 0 = .inr (5, [.int (nI V), .ref (ad 1), .null, .int (nI 0), .int (nI 0), .null, .null, .int (nI 0), .int (if false = true then 1 else 0), .int (nI 0), .ref (ad 2), .null, .int (nI 0), .ref (ad 180), .ref (ad 3)]) := cx_eq eg11
  clear eg11
  replace hH : H.size = sz + 1 + 1 + 1 + 1 + (V + 1 + 3) := by omega
  clear hH11
  refine lv_aload_n hx hb dX5_init_80 rfl (lv_at hl 2 rfl) ?_
  refine lv_bipush (v := nI 20) hx hb dX5_init_81 (by decide) ?_
  have hg12 : sz ≤ H.size := Nat.le_trans hz hS.1
  have hk12 : ad 4 = H.size := by have h9 := hadx.k4; omega
  refine ax_newq (k := 4) (n := 20) (t := 2) (f := (fun i => if i < 0 then some (ad (300 + 2 * i)) else none)) hx hb hown (hts _ wd_X5_init_23) hY.2.1 hK rfl hP hD hS hk12 (fun _ => rfl) (by omega) (show 0 + 1 + 1 + 1 + 1 + 8 + 1 ≤ 300 by omega) (show 0 + (V + 1) + (V + 1) + (V + 1) + 3 + 40 + 20 ≤ 1600 by omega) dX5_init_83 (fun L12 H g12 eL12 eg12 hH12 hP hD hS => ?_)
  replace c_o : g12 0 = .inr (5, [.int (nI V), .ref (ad 1), .null, .int (nI 0), .int (nI 0), .null, .null, .int (nI 0), .int (if false = true then 1 else 0), .int (nI 0), .ref (ad 2), .null, .int (nI 0), .ref (ad 180), .ref (ad 3)]) := (cx_ne eg12 0 (by decide)).trans c_o
  replace c_d : g12 1 = nA G (V + 1) (vN (fun _ => 0)) := (cx_ne eg12 1 (by decide)).trans c_d
  replace c_w : g12 3 = nA G (V + 1) (vN (fun _ => 0)) := (cx_ne eg12 3 (by decide)).trans c_w
  replace c_v : g12 2 = nA G (V + 1) (vN (nu (fun _ => 0) 0 1)) := (cx_ne eg12 2 (by decide)).trans c_v
  replace sp0 : SpanAt G ad g12 180 (V + 1) (fun _ => false) (fun _ _ => 0) (fun _ => 0) := sp0.kept (fun j q1 q2 => cx_ne eg12 j (by omega))
  replace c_E : g12 4 = rA (G.2 2) 20 (fun i => if i < 0 then some (ad (300 + 2 * i)) else none) := cx_eq eg12
  have hup : ∀ j : Nat, j ∈ L10 → j ∈ L12 := fun j h => by rw [eL12]; exact List.mem_append_left _ h
  replace hLL : ∀ j : Nat, j ∈ L → j ∈ L12 := fun j h => hup j (hLL j h)
  replace m_o : 0 ∈ L12 := hup _ m_o
  replace m_d : 1 ∈ L12 := hup _ m_d
  replace m_w : 3 ∈ L12 := hup _ m_w
  replace m_v : 2 ∈ L12 := hup _ m_v
  replace mSp : ∀ j : Nat, 180 ≤ j → j < 185 + V → j ∈ L12 := fun j a0 a1 => hup _ (mSp j a0 a1)
  replace m_s : 180 ∈ L12 := hup _ m_s
  have m_E : 4 ∈ L12 := by rw [eL12]; exact List.mem_append_right _ List.mem_cons_self
  replace hA : ∀ q : Nat, cx_A L12 ad sz q → cx_A L ad sz q := fun q hq9 => hA q (cx_A.down (fun j hj => by rw [eL12] at hj; rcases List.mem_append.mp hj with h | h; exact Or.inl h; exact Or.inr (by rw [List.mem_singleton.mp h]; omega)) q hq9)
  replace hH : H.size = sz + 1 + 1 + 1 + 1 + (V + 1 + 3) + 1 := by omega
  clear eg12 eL12 hk12 hH12 hup hg12
  refine ax_putFz (k := 0) (v := .ref (ad 4)) (fs' := [.int (nI V), .ref (ad 1), .ref (ad 4), .int (nI 0), .int (nI 0), .null, .null, .int (nI 0), .int (if false = true then 1 else 0), .int (nI 0), .ref (ad 2), .null, .int (nI 0), .ref (ad 180), .ref (ad 3)]) hx hb hts in_X5_init_X5 tyX5 tyX5_ok nmX5 hown hK hP hD hS m_o c_o rfl 2 (by decide) (hts _ wd_X5_init_24) (fun _ h9 => h9) rfl hin rfl (ty := (.array (.object "AffineHulls$Edge"))) (by decide +kernel) rfl rfl (Nat.le_of_ble_eq_true rfl) rfl dX5_init_86 (fun H locs g13 eg13 hH13 hP hS => ?_)
  replace c_d : g13 1 = nA G (V + 1) (vN (fun _ => 0)) := (cx_ne eg13 1 (by decide)).trans c_d
  replace c_w : g13 3 = nA G (V + 1) (vN (fun _ => 0)) := (cx_ne eg13 3 (by decide)).trans c_w
  replace c_v : g13 2 = nA G (V + 1) (vN (nu (fun _ => 0) 0 1)) := (cx_ne eg13 2 (by decide)).trans c_v
  replace c_E : g13 4 = rA (G.2 2) 20 (fun i => if i < 0 then some (ad (300 + 2 * i)) else none) := (cx_ne eg13 4 (by decide)).trans c_E
  replace sp0 : SpanAt G ad g13 180 (V + 1) (fun _ => false) (fun _ _ => 0) (fun _ => 0) := sp0.kept (fun j q1 q2 => cx_ne eg13 j (by omega))
  replace c_o : g13 0 = .inr (5, [.int (nI V), .ref (ad 1), .ref (ad 4), .int (nI 0), .int (nI 0), .null, .null, .int (nI 0), .int (if false = true then 1 else 0), .int (nI 0), .ref (ad 2), .null, .int (nI 0), .ref (ad 180), .ref (ad 3)]) := cx_eq eg13
  clear eg13
  replace hH : H.size = sz + 1 + 1 + 1 + 1 + (V + 1 + 3) + 1 := by omega
  clear hH13
  refine lv_iconst (v := nI 0) hx hb dX5_init_89 (by decide) ?_
  refine lv_istore (lv' := [(5, .int (nI 0)), (4, .int (nI (V + 1))), (3, .int (nI N)), (0, .ref (ad 0)), (1, .int x1), (2, .int x2)]) hx hb dX5_init_90 hl (by decide) rfl (fun ls hl => ?_)
  have LP92 : ∀ (fu : Nat) (k : Nat), (k ≤ 20) → (20 - k) < fu → ∀ (Lx14 : List Nat) (ga14 : Nat → va_E) (H : Heap) (locs : List Loc) (ls : Array Slot), (ga14 0 = .inr (5, [.int (nI V), .ref (ad 1), .ref (ad 4), .int (nI 0), .int (nI 0), .null, .null, .int (nI 0), .int (if false = true then 1 else 0), .int (nI 0), .ref (ad 2), .null, .int (nI 0), .ref (ad 180), .ref (ad 3)])) → (ga14 1 = nA G (V + 1) (vN (fun _ => 0))) → (ga14 3 = nA G (V + 1) (vN (fun _ => 0))) → (ga14 2 = nA G (V + 1) (vN (nu (fun _ => 0) 0 1))) → (ga14 4 = rA (G.2 2) 20 (fun i => if i < k then some (ad (300 + 2 * i)) else none)) → (SpanAt G ad ga14 180 (V + 1) (fun _ => false) (fun _ _ => 0) (fun _ => 0)) → (∀ i : Nat, i < k → ga14 (300 + 2 * i) = .inr (0, [.int (nI 0), .int (nI 0), .int (nI 0), .int (nI 0), .ref (ad (301 + 2 * i))]) ∧ ga14 (301 + 2 * i) = nA G (V + 1) (vN (fun _ => 0))) → (0 ∈ Lx14) → (1 ∈ Lx14) → (3 ∈ Lx14) → (2 ∈ Lx14) → (∀ j : Nat, 180 ≤ j → j < 185 + V → j ∈ Lx14) → (4 ∈ Lx14) → (∀ j : Nat, 300 ≤ j → j < 300 + 2 * k → j ∈ Lx14) → (∀ j : Nat, j ∈ L → j ∈ Lx14) → (∀ q : Nat, cx_A Lx14 ad sz q → cx_A L ad sz q) → H.size = sz + 8 + (V + 1) + 2 * k → va_P G.1 vwCl (wl Lx14 ad ga14) H → cx_D Lx14 ad → va_S (cx_A Lx14 ad sz) s.heap H locs → lv_has ls 6 [(5, .int (nI k)), (4, .int (nI (V + 1))), (3, .int (nI N)), (0, .ref (ad 0))] → W p l e rm_X5_init s m args below meth c H locs (20 + 2 * k) (100 + 10 * k) Q (F0 m 92 ls []) := by
    intro fu
    induction fu with
    | zero => intro k hkm hfu; exact absurd hfu (Nat.not_lt_zero _)
    | succ fu ih92 =>
      intro k hkm hfu92 Lx14 ga14 H locs ls c_o c_d c_w c_v c_E sp0 hE9 m_o m_d m_w m_v mSp m_E mF300 hLL hA hH hP hD hS hl
      refine lv_iload hx hb dX5_init_92 (lv_at hl 0 rfl) ?_
      refine lv_bipush (v := nI 20) hx hb dX5_init_94 (by decide) ?_
      refine ax_icge (a := k) (b := 20) (tgt := 121) hx hb dX5_init_96 (by decide) (by omega) (by omega) (fun h96 => ?_) (fun h96 => ?_)
      · skip
        have ek9 : k = 20 := by omega
        rw [ek9] at c_E hE9 hH mF300
        refine lv_aload_n hx hb dX5_init_121 rfl (lv_at hl 3 rfl) ?_
        refine lv_bipush (v := nI 24) hx hb dX5_init_122 (by decide) ?_
        have hg15 : sz ≤ H.size := Nat.le_trans hz hS.1
        have hk15 : ad 7 = H.size := by have h9 := hadx.k7; omega
        refine ax_newq (k := 7) (n := 24) (t := 4) (f := (fun i => if i < 0 then some (ad (400 + 2 * i)) else none)) hx hb hown (hts _ wd_X5_init_25) hY.2.2.2.1 hK rfl hP hD hS hk15 (fun _ => rfl) (by omega) (show 20 + 2 * k + 1 ≤ 300 by omega) (show 100 + 10 * k + 24 ≤ 1600 by omega) dX5_init_124 (fun L15 H g15 eL15 eg15 hH15 hP hD hS => ?_)
        replace c_o : g15 0 = .inr (5, [.int (nI V), .ref (ad 1), .ref (ad 4), .int (nI 0), .int (nI 0), .null, .null, .int (nI 0), .int (if false = true then 1 else 0), .int (nI 0), .ref (ad 2), .null, .int (nI 0), .ref (ad 180), .ref (ad 3)]) := (cx_ne eg15 0 (by decide)).trans c_o
        replace c_d : g15 1 = nA G (V + 1) (vN (fun _ => 0)) := (cx_ne eg15 1 (by decide)).trans c_d
        replace c_w : g15 3 = nA G (V + 1) (vN (fun _ => 0)) := (cx_ne eg15 3 (by decide)).trans c_w
        replace c_v : g15 2 = nA G (V + 1) (vN (nu (fun _ => 0) 0 1)) := (cx_ne eg15 2 (by decide)).trans c_v
        replace c_E : g15 4 = rA (G.2 2) 20 (fun i => if i < 20 then some (ad (300 + 2 * i)) else none) := (cx_ne eg15 4 (by decide)).trans c_E
        replace sp0 : SpanAt G ad g15 180 (V + 1) (fun _ => false) (fun _ _ => 0) (fun _ => 0) := sp0.kept (fun j q1 q2 => cx_ne eg15 j (by omega))
        replace hE9 : ∀ i : Nat, i < 20 → g15 (300 + 2 * i) = .inr (0, [.int (nI 0), .int (nI 0), .int (nI 0), .int (nI 0), .ref (ad (301 + 2 * i))]) ∧ g15 (301 + 2 * i) = nA G (V + 1) (vN (fun _ => 0)) := fun i hi => ⟨(cx_ne eg15 (300 + 2 * i) (by omega)).trans (hE9 i hi).1, (cx_ne eg15 (301 + 2 * i) (by omega)).trans (hE9 i hi).2⟩
        replace c_N : g15 7 = rA (G.2 4) 24 (fun i => if i < 0 then some (ad (400 + 2 * i)) else none) := cx_eq eg15
        have hup : ∀ j : Nat, j ∈ Lx14 → j ∈ L15 := fun j h => by rw [eL15]; exact List.mem_append_left _ h
        replace hLL : ∀ j : Nat, j ∈ L → j ∈ L15 := fun j h => hup j (hLL j h)
        replace m_o : 0 ∈ L15 := hup _ m_o
        replace m_d : 1 ∈ L15 := hup _ m_d
        replace m_w : 3 ∈ L15 := hup _ m_w
        replace m_v : 2 ∈ L15 := hup _ m_v
        replace mSp : ∀ j : Nat, 180 ≤ j → j < 185 + V → j ∈ L15 := fun j a0 a1 => hup _ (mSp j a0 a1)
        replace m_E : 4 ∈ L15 := hup _ m_E
        replace mF300 : ∀ j : Nat, 300 ≤ j → j < 300 + 2 * 20 → j ∈ L15 := fun j a0 a1 => hup _ (mF300 j a0 a1)
        have m_N : 7 ∈ L15 := by rw [eL15]; exact List.mem_append_right _ List.mem_cons_self
        replace hA : ∀ q : Nat, cx_A L15 ad sz q → cx_A L ad sz q := fun q hq9 => hA q (cx_A.down (fun j hj => by rw [eL15] at hj; rcases List.mem_append.mp hj with h | h; exact Or.inl h; exact Or.inr (by rw [List.mem_singleton.mp h]; omega)) q hq9)
        replace hH : H.size = sz + 8 + (V + 1) + 2 * 20 + 1 := by omega
        clear eg15 eL15 hk15 hH15 hup hg15
        refine ax_putFz (k := 0) (v := .ref (ad 7)) (fs' := [.int (nI V), .ref (ad 1), .ref (ad 4), .int (nI 0), .int (nI 0), .null, .null, .int (nI 0), .int (if false = true then 1 else 0), .int (nI 0), .ref (ad 2), .ref (ad 7), .int (nI 0), .ref (ad 180), .ref (ad 3)]) hx hb hts in_X5_init_X5 tyX5 tyX5_ok nmX5 hown hK hP hD hS m_o c_o rfl 11 (by decide) (hts _ wd_X5_init_26) (fun _ h9 => h9) rfl hin rfl (ty := (.array (.object "AffineHulls$Note"))) (by decide +kernel) rfl rfl (Nat.le_of_ble_eq_true rfl) rfl dX5_init_127 (fun H locs g16 eg16 hH16 hP hS => ?_)
        replace c_d : g16 1 = nA G (V + 1) (vN (fun _ => 0)) := (cx_ne eg16 1 (by decide)).trans c_d
        replace c_w : g16 3 = nA G (V + 1) (vN (fun _ => 0)) := (cx_ne eg16 3 (by decide)).trans c_w
        replace c_v : g16 2 = nA G (V + 1) (vN (nu (fun _ => 0) 0 1)) := (cx_ne eg16 2 (by decide)).trans c_v
        replace c_E : g16 4 = rA (G.2 2) 20 (fun i => if i < 20 then some (ad (300 + 2 * i)) else none) := (cx_ne eg16 4 (by decide)).trans c_E
        replace c_N : g16 7 = rA (G.2 4) 24 (fun i => if i < 0 then some (ad (400 + 2 * i)) else none) := (cx_ne eg16 7 (by decide)).trans c_N
        replace sp0 : SpanAt G ad g16 180 (V + 1) (fun _ => false) (fun _ _ => 0) (fun _ => 0) := sp0.kept (fun j q1 q2 => cx_ne eg16 j (by omega))
        replace hE9 : ∀ i : Nat, i < 20 → g16 (300 + 2 * i) = .inr (0, [.int (nI 0), .int (nI 0), .int (nI 0), .int (nI 0), .ref (ad (301 + 2 * i))]) ∧ g16 (301 + 2 * i) = nA G (V + 1) (vN (fun _ => 0)) := fun i hi => ⟨(cx_ne eg16 (300 + 2 * i) (by omega)).trans (hE9 i hi).1, (cx_ne eg16 (301 + 2 * i) (by omega)).trans (hE9 i hi).2⟩
        replace c_o : g16 0 = .inr (5, [.int (nI V), .ref (ad 1), .ref (ad 4), .int (nI 0), .int (nI 0), .null, .null, .int (nI 0), .int (if false = true then 1 else 0), .int (nI 0), .ref (ad 2), .ref (ad 7), .int (nI 0), .ref (ad 180), .ref (ad 3)]) := cx_eq eg16
        clear eg16
        replace hH : H.size = sz + 8 + (V + 1) + 2 * 20 + 1 := by omega
        clear hH16
        refine lv_iconst (v := nI 0) hx hb dX5_init_130 (by decide) ?_
        refine lv_istore (lv' := [(5, .int (nI 0)), (4, .int (nI (V + 1))), (3, .int (nI N)), (0, .ref (ad 0))]) hx hb dX5_init_131 hl (by decide) rfl (fun ls hl => ?_)
        have LP133 : ∀ (fu : Nat) (k : Nat), (k ≤ 24) → (24 - k) < fu → ∀ (Lx17 : List Nat) (ga17 : Nat → va_E) (H : Heap) (locs : List Loc) (ls : Array Slot), (ga17 0 = .inr (5, [.int (nI V), .ref (ad 1), .ref (ad 4), .int (nI 0), .int (nI 0), .null, .null, .int (nI 0), .int (if false = true then 1 else 0), .int (nI 0), .ref (ad 2), .ref (ad 7), .int (nI 0), .ref (ad 180), .ref (ad 3)])) → (ga17 1 = nA G (V + 1) (vN (fun _ => 0))) → (ga17 3 = nA G (V + 1) (vN (fun _ => 0))) → (ga17 2 = nA G (V + 1) (vN (nu (fun _ => 0) 0 1))) → (ga17 4 = rA (G.2 2) 20 (fun i => if i < 20 then some (ad (300 + 2 * i)) else none)) → (ga17 7 = rA (G.2 4) 24 (fun i => if i < k then some (ad (400 + 2 * i)) else none)) → (SpanAt G ad ga17 180 (V + 1) (fun _ => false) (fun _ _ => 0) (fun _ => 0)) → (∀ i : Nat, i < 20 → ga17 (300 + 2 * i) = .inr (0, [.int (nI 0), .int (nI 0), .int (nI 0), .int (nI 0), .ref (ad (301 + 2 * i))]) ∧ ga17 (301 + 2 * i) = nA G (V + 1) (vN (fun _ => 0))) → (∀ i : Nat, i < k → ga17 (400 + 2 * i) = .inr (2, [.int (nI 0), .ref (ad (401 + 2 * i))]) ∧ ga17 (401 + 2 * i) = nA G (V + 1) (vN (fun _ => 0))) → (0 ∈ Lx17) → (1 ∈ Lx17) → (3 ∈ Lx17) → (2 ∈ Lx17) → (∀ j : Nat, 180 ≤ j → j < 185 + V → j ∈ Lx17) → (4 ∈ Lx17) → (∀ j : Nat, 300 ≤ j → j < 300 + 2 * 20 → j ∈ Lx17) → (7 ∈ Lx17) → (∀ j : Nat, 400 ≤ j → j < 400 + 2 * k → j ∈ Lx17) → (∀ j : Nat, j ∈ L → j ∈ Lx17) → (∀ q : Nat, cx_A Lx17 ad sz q → cx_A L ad sz q) → H.size = sz + 49 + (V + 1) + 2 * k → va_P G.1 vwCl (wl Lx17 ad ga17) H → cx_D Lx17 ad → va_S (cx_A Lx17 ad sz) s.heap H locs → lv_has ls 6 [(5, .int (nI k)), (4, .int (nI (V + 1))), (3, .int (nI N)), (0, .ref (ad 0))] → W p l e rm_X5_init s m args below meth c H locs (70 + 2 * k) (350 + 10 * k) Q (F0 m 133 ls []) := by
          intro fu
          induction fu with
          | zero => intro k hkm hfu; exact absurd hfu (Nat.not_lt_zero _)
          | succ fu ih133 =>
            intro k hkm hfu133 Lx17 ga17 H locs ls c_o c_d c_w c_v c_E c_N sp0 hE9 hN9 m_o m_d m_w m_v mSp m_E mF300 m_N mF400 hLL hA hH hP hD hS hl
            refine lv_iload hx hb dX5_init_133 (lv_at hl 0 rfl) ?_
            refine lv_bipush (v := nI 24) hx hb dX5_init_135 (by decide) ?_
            refine ax_icge (a := k) (b := 24) (tgt := 162) hx hb dX5_init_137 (by decide) (by omega) (by omega) (fun h137 => ?_) (fun h137 => ?_)
            · skip
              have ek9 : k = 24 := by omega
              rw [ek9] at c_N hN9 hH mF400
              refine lv_aload_n hx hb dX5_init_162 rfl (lv_at hl 3 rfl) ?_
              refine lv_iload_n hx hb dX5_init_163 rfl (lv_at hl 2 rfl) ?_
              have hg18 : sz ≤ H.size := Nat.le_trans hz hS.1
              have hk18 : ad 5 = H.size := by have h9 := hadx.k5; omega
              refine ax_newq (k := 5) (n := N) (t := 3) (f := (fun i => if i < 0 then some (ad (200 + 2 * i)) else none)) hx hb hown (hts _ wd_X5_init_27) hY.2.2.1 hK rfl hP hD hS hk18 (fun _ => rfl) (by omega) (show 70 + 2 * k + 1 ≤ 300 by omega) (show 350 + 10 * k + N ≤ 1600 by omega) dX5_init_164 (fun L18 H g18 eL18 eg18 hH18 hP hD hS => ?_)
              replace c_o : g18 0 = .inr (5, [.int (nI V), .ref (ad 1), .ref (ad 4), .int (nI 0), .int (nI 0), .null, .null, .int (nI 0), .int (if false = true then 1 else 0), .int (nI 0), .ref (ad 2), .ref (ad 7), .int (nI 0), .ref (ad 180), .ref (ad 3)]) := (cx_ne eg18 0 (by decide)).trans c_o
              replace c_d : g18 1 = nA G (V + 1) (vN (fun _ => 0)) := (cx_ne eg18 1 (by decide)).trans c_d
              replace c_w : g18 3 = nA G (V + 1) (vN (fun _ => 0)) := (cx_ne eg18 3 (by decide)).trans c_w
              replace c_v : g18 2 = nA G (V + 1) (vN (nu (fun _ => 0) 0 1)) := (cx_ne eg18 2 (by decide)).trans c_v
              replace c_E : g18 4 = rA (G.2 2) 20 (fun i => if i < 20 then some (ad (300 + 2 * i)) else none) := (cx_ne eg18 4 (by decide)).trans c_E
              replace c_N : g18 7 = rA (G.2 4) 24 (fun i => if i < 24 then some (ad (400 + 2 * i)) else none) := (cx_ne eg18 7 (by decide)).trans c_N
              replace sp0 : SpanAt G ad g18 180 (V + 1) (fun _ => false) (fun _ _ => 0) (fun _ => 0) := sp0.kept (fun j q1 q2 => cx_ne eg18 j (by omega))
              replace hE9 : ∀ i : Nat, i < 20 → g18 (300 + 2 * i) = .inr (0, [.int (nI 0), .int (nI 0), .int (nI 0), .int (nI 0), .ref (ad (301 + 2 * i))]) ∧ g18 (301 + 2 * i) = nA G (V + 1) (vN (fun _ => 0)) := fun i hi => ⟨(cx_ne eg18 (300 + 2 * i) (by omega)).trans (hE9 i hi).1, (cx_ne eg18 (301 + 2 * i) (by omega)).trans (hE9 i hi).2⟩
              replace hN9 : ∀ i : Nat, i < 24 → g18 (400 + 2 * i) = .inr (2, [.int (nI 0), .ref (ad (401 + 2 * i))]) ∧ g18 (401 + 2 * i) = nA G (V + 1) (vN (fun _ => 0)) := fun i hi => ⟨(cx_ne eg18 (400 + 2 * i) (by omega)).trans (hN9 i hi).1, (cx_ne eg18 (401 + 2 * i) (by omega)).trans (hN9 i hi).2⟩
              replace c_H : g18 5 = rA (G.2 3) N (fun i => if i < 0 then some (ad (200 + 2 * i)) else none) := cx_eq eg18
              have hup : ∀ j : Nat, j ∈ Lx17 → j ∈ L18 := fun j h => by rw [eL18]; exact List.mem_append_left _ h
              replace hLL : ∀ j : Nat, j ∈ L → j ∈ L18 := fun j h => hup j (hLL j h)
              replace m_o : 0 ∈ L18 := hup _ m_o
              replace m_d : 1 ∈ L18 := hup _ m_d
              replace m_w : 3 ∈ L18 := hup _ m_w
              replace m_v : 2 ∈ L18 := hup _ m_v
              replace mSp : ∀ j : Nat, 180 ≤ j → j < 185 + V → j ∈ L18 := fun j a0 a1 => hup _ (mSp j a0 a1)
              replace m_E : 4 ∈ L18 := hup _ m_E
              replace mF300 : ∀ j : Nat, 300 ≤ j → j < 300 + 2 * 20 → j ∈ L18 := fun j a0 a1 => hup _ (mF300 j a0 a1)
              replace m_N : 7 ∈ L18 := hup _ m_N
              replace mF400 : ∀ j : Nat, 400 ≤ j → j < 400 + 2 * 24 → j ∈ L18 := fun j a0 a1 => hup _ (mF400 j a0 a1)
              have m_H : 5 ∈ L18 := by rw [eL18]; exact List.mem_append_right _ List.mem_cons_self
              replace hA : ∀ q : Nat, cx_A L18 ad sz q → cx_A L ad sz q := fun q hq9 => hA q (cx_A.down (fun j hj => by rw [eL18] at hj; rcases List.mem_append.mp hj with h | h; exact Or.inl h; exact Or.inr (by rw [List.mem_singleton.mp h]; omega)) q hq9)
              replace hH : H.size = sz + 49 + (V + 1) + 2 * 24 + 1 := by omega
              clear eg18 eL18 hk18 hH18 hup hg18
              refine ax_putFz (k := 0) (v := .ref (ad 5)) (fs' := [.int (nI V), .ref (ad 1), .ref (ad 4), .int (nI 0), .int (nI 0), .ref (ad 5), .null, .int (nI 0), .int (if false = true then 1 else 0), .int (nI 0), .ref (ad 2), .ref (ad 7), .int (nI 0), .ref (ad 180), .ref (ad 3)]) hx hb hts in_X5_init_X5 tyX5 tyX5_ok nmX5 hown hK hP hD hS m_o c_o rfl 5 (by decide) (hts _ wd_X5_init_28) (fun _ h9 => h9) rfl hin rfl (ty := (.array (.object "AffineHulls$Hull"))) (by decide +kernel) rfl rfl (Nat.le_of_ble_eq_true rfl) rfl dX5_init_167 (fun H locs g19 eg19 hH19 hP hS => ?_)
              replace c_d : g19 1 = nA G (V + 1) (vN (fun _ => 0)) := (cx_ne eg19 1 (by decide)).trans c_d
              replace c_w : g19 3 = nA G (V + 1) (vN (fun _ => 0)) := (cx_ne eg19 3 (by decide)).trans c_w
              replace c_v : g19 2 = nA G (V + 1) (vN (nu (fun _ => 0) 0 1)) := (cx_ne eg19 2 (by decide)).trans c_v
              replace c_E : g19 4 = rA (G.2 2) 20 (fun i => if i < 20 then some (ad (300 + 2 * i)) else none) := (cx_ne eg19 4 (by decide)).trans c_E
              replace c_N : g19 7 = rA (G.2 4) 24 (fun i => if i < 24 then some (ad (400 + 2 * i)) else none) := (cx_ne eg19 7 (by decide)).trans c_N
              replace c_H : g19 5 = rA (G.2 3) N (fun i => if i < 0 then some (ad (200 + 2 * i)) else none) := (cx_ne eg19 5 (by decide)).trans c_H
              replace sp0 : SpanAt G ad g19 180 (V + 1) (fun _ => false) (fun _ _ => 0) (fun _ => 0) := sp0.kept (fun j q1 q2 => cx_ne eg19 j (by omega))
              replace hE9 : ∀ i : Nat, i < 20 → g19 (300 + 2 * i) = .inr (0, [.int (nI 0), .int (nI 0), .int (nI 0), .int (nI 0), .ref (ad (301 + 2 * i))]) ∧ g19 (301 + 2 * i) = nA G (V + 1) (vN (fun _ => 0)) := fun i hi => ⟨(cx_ne eg19 (300 + 2 * i) (by omega)).trans (hE9 i hi).1, (cx_ne eg19 (301 + 2 * i) (by omega)).trans (hE9 i hi).2⟩
              replace hN9 : ∀ i : Nat, i < 24 → g19 (400 + 2 * i) = .inr (2, [.int (nI 0), .ref (ad (401 + 2 * i))]) ∧ g19 (401 + 2 * i) = nA G (V + 1) (vN (fun _ => 0)) := fun i hi => ⟨(cx_ne eg19 (400 + 2 * i) (by omega)).trans (hN9 i hi).1, (cx_ne eg19 (401 + 2 * i) (by omega)).trans (hN9 i hi).2⟩
              replace c_o : g19 0 = .inr (5, [.int (nI V), .ref (ad 1), .ref (ad 4), .int (nI 0), .int (nI 0), .ref (ad 5), .null, .int (nI 0), .int (if false = true then 1 else 0), .int (nI 0), .ref (ad 2), .ref (ad 7), .int (nI 0), .ref (ad 180), .ref (ad 3)]) := cx_eq eg19
              clear eg19
              replace hH : H.size = sz + 49 + (V + 1) + 2 * 24 + 1 := by omega
              clear hH19
              refine lv_iconst (v := nI 0) hx hb dX5_init_170 (by decide) ?_
              have hB09 := hadx.B0
              refine lv_istore (lv' := [(5, .int (nI 0)), (4, .int (nI (V + 1))), (3, .int (nI N)), (0, .ref (ad 0))]) hx hb dX5_init_171 hl (by decide) rfl (fun ls hl => ?_)
              have LP173 : ∀ (fu : Nat) (k : Nat), (k ≤ N) → (N - k) < fu → ∀ (Lx20 : List Nat) (ga20 : Nat → va_E) (H : Heap) (locs : List Loc) (ls : Array Slot), (ga20 0 = .inr (5, [.int (nI V), .ref (ad 1), .ref (ad 4), .int (nI 0), .int (nI 0), .ref (ad 5), .null, .int (nI 0), .int (if false = true then 1 else 0), .int (nI 0), .ref (ad 2), .ref (ad 7), .int (nI 0), .ref (ad 180), .ref (ad 3)])) → (ga20 1 = nA G (V + 1) (vN (fun _ => 0))) → (ga20 3 = nA G (V + 1) (vN (fun _ => 0))) → (ga20 2 = nA G (V + 1) (vN (nu (fun _ => 0) 0 1))) → (ga20 4 = rA (G.2 2) 20 (fun i => if i < 20 then some (ad (300 + 2 * i)) else none)) → (ga20 7 = rA (G.2 4) 24 (fun i => if i < 24 then some (ad (400 + 2 * i)) else none)) → (ga20 5 = rA (G.2 3) N (fun i => if i < k then some (ad (200 + 2 * i)) else none)) → (SpanAt G ad ga20 180 (V + 1) (fun _ => false) (fun _ _ => 0) (fun _ => 0)) → (∀ i : Nat, i < 20 → ga20 (300 + 2 * i) = .inr (0, [.int (nI 0), .int (nI 0), .int (nI 0), .int (nI 0), .ref (ad (301 + 2 * i))]) ∧ ga20 (301 + 2 * i) = nA G (V + 1) (vN (fun _ => 0))) → (∀ i : Nat, i < 24 → ga20 (400 + 2 * i) = .inr (2, [.int (nI 0), .ref (ad (401 + 2 * i))]) ∧ ga20 (401 + 2 * i) = nA G (V + 1) (vN (fun _ => 0))) → (∀ i : Nat, i < k → ga20 (200 + 2 * i) = .inr (1, [.ref (ad (100 + 10 * i)), .ref (ad (201 + 2 * i)), .int (nI 0)]) ∧ ga20 (201 + 2 * i) = nA G (V + 1) (fun _ => 0) ∧ SpanAt G ad ga20 (100 + 10 * i) (V + 1) (fun _ => false) (fun _ _ => 0) (fun _ => 0)) → (0 ∈ Lx20) → (1 ∈ Lx20) → (3 ∈ Lx20) → (2 ∈ Lx20) → (∀ j : Nat, 180 ≤ j → j < 185 + V → j ∈ Lx20) → (4 ∈ Lx20) → (∀ j : Nat, 300 ≤ j → j < 300 + 2 * 20 → j ∈ Lx20) → (7 ∈ Lx20) → (∀ j : Nat, 400 ≤ j → j < 400 + 2 * 24 → j ∈ Lx20) → (5 ∈ Lx20) → (∀ j : Nat, 200 ≤ j → j < 200 + 2 * k → j ∈ Lx20) → (∀ j : Nat, 100 ≤ j → j < 100 + 10 * k → j % 10 < V + 5 → j ∈ Lx20) → (∀ j : Nat, j ∈ L → j ∈ Lx20) → (∀ q : Nat, cx_A Lx20 ad sz q → cx_A L ad sz q) → H.size = hB k → va_P G.1 vwCl (wl Lx20 ad ga20) H → cx_D Lx20 ad → va_S (cx_A Lx20 ad sz) s.heap H locs → lv_has ls 6 [(5, .int (nI k)), (4, .int (nI (V + 1))), (3, .int (nI N)), (0, .ref (ad 0))] → W p l e rm_X5_init s m args below meth c H locs (120 + 11 * k) (600 + 60 * k) Q (F0 m 173 ls []) := by
                intro fu
                induction fu with
                | zero => intro k hkm hfu; exact absurd hfu (Nat.not_lt_zero _)
                | succ fu ih173 =>
                  intro k hkm hfu173 Lx20 ga20 H locs ls c_o c_d c_w c_v c_E c_N c_H sp0 hE9 hN9 hH9 m_o m_d m_w m_v mSp m_E mF300 m_N mF400 m_H mF200 mHS hLL hA hH hP hD hS hl
                  refine lv_iload hx hb dX5_init_173 (lv_at hl 0 rfl) ?_
                  refine lv_iload_n hx hb dX5_init_175 rfl (lv_at hl 2 rfl) ?_
                  refine ax_icge (a := k) (b := N) (tgt := 201) hx hb dX5_init_176 (by decide) (by omega) (by omega) (fun h176 => ?_) (fun h176 => ?_)
                  · skip
                    have ek9 : k = N := by omega
                    rw [ek9] at c_H hH9 hH mF200 mHS
                    refine lv_aload_n hx hb dX5_init_201 rfl (lv_at hl 3 rfl) ?_
                    refine lv_iload_n hx hb dX5_init_202 rfl (lv_at hl 2 rfl) ?_
                    refine lv_iload hx hb dX5_init_203 (lv_at hl 1 rfl) ?_
                    refine ax_mul (a := N) (b := V + 1) hx hb dX5_init_205 ?_
                    rw [← hM]
                    have hg21 : sz ≤ H.size := Nat.le_trans hz hS.1
                    have hk21 : ad 6 = H.size := by have h9 := hadx.k6; omega
                    refine ax_newq (k := 6) (n := M) (t := 5) (f := (fun i => if i < 0 then some (ad (500 + 2 * i)) else none)) hx hb hown (hts _ wd_X5_init_29) hY.2.2.2.2 hK rfl hP hD hS hk21 (fun _ => rfl) (by omega) (show 120 + 11 * k + 1 ≤ 300 by omega) (show 600 + 60 * k + M ≤ 1600 by omega) dX5_init_206 (fun L21 H g21 eL21 eg21 hH21 hP hD hS => ?_)
                    replace c_o : g21 0 = .inr (5, [.int (nI V), .ref (ad 1), .ref (ad 4), .int (nI 0), .int (nI 0), .ref (ad 5), .null, .int (nI 0), .int (if false = true then 1 else 0), .int (nI 0), .ref (ad 2), .ref (ad 7), .int (nI 0), .ref (ad 180), .ref (ad 3)]) := (cx_ne eg21 0 (by decide)).trans c_o
                    replace c_d : g21 1 = nA G (V + 1) (vN (fun _ => 0)) := (cx_ne eg21 1 (by decide)).trans c_d
                    replace c_w : g21 3 = nA G (V + 1) (vN (fun _ => 0)) := (cx_ne eg21 3 (by decide)).trans c_w
                    replace c_v : g21 2 = nA G (V + 1) (vN (nu (fun _ => 0) 0 1)) := (cx_ne eg21 2 (by decide)).trans c_v
                    replace c_E : g21 4 = rA (G.2 2) 20 (fun i => if i < 20 then some (ad (300 + 2 * i)) else none) := (cx_ne eg21 4 (by decide)).trans c_E
                    replace c_N : g21 7 = rA (G.2 4) 24 (fun i => if i < 24 then some (ad (400 + 2 * i)) else none) := (cx_ne eg21 7 (by decide)).trans c_N
                    replace c_H : g21 5 = rA (G.2 3) N (fun i => if i < N then some (ad (200 + 2 * i)) else none) := (cx_ne eg21 5 (by decide)).trans c_H
                    replace sp0 : SpanAt G ad g21 180 (V + 1) (fun _ => false) (fun _ _ => 0) (fun _ => 0) := sp0.kept (fun j q1 q2 => cx_ne eg21 j (by omega))
                    replace hE9 : ∀ i : Nat, i < 20 → g21 (300 + 2 * i) = .inr (0, [.int (nI 0), .int (nI 0), .int (nI 0), .int (nI 0), .ref (ad (301 + 2 * i))]) ∧ g21 (301 + 2 * i) = nA G (V + 1) (vN (fun _ => 0)) := fun i hi => ⟨(cx_ne eg21 (300 + 2 * i) (by omega)).trans (hE9 i hi).1, (cx_ne eg21 (301 + 2 * i) (by omega)).trans (hE9 i hi).2⟩
                    replace hN9 : ∀ i : Nat, i < 24 → g21 (400 + 2 * i) = .inr (2, [.int (nI 0), .ref (ad (401 + 2 * i))]) ∧ g21 (401 + 2 * i) = nA G (V + 1) (vN (fun _ => 0)) := fun i hi => ⟨(cx_ne eg21 (400 + 2 * i) (by omega)).trans (hN9 i hi).1, (cx_ne eg21 (401 + 2 * i) (by omega)).trans (hN9 i hi).2⟩
                    replace hH9 : ∀ i : Nat, i < N → g21 (200 + 2 * i) = .inr (1, [.ref (ad (100 + 10 * i)), .ref (ad (201 + 2 * i)), .int (nI 0)]) ∧ g21 (201 + 2 * i) = nA G (V + 1) (fun _ => 0) ∧ SpanAt G ad g21 (100 + 10 * i) (V + 1) (fun _ => false) (fun _ _ => 0) (fun _ => 0) := fun i hi => ⟨(cx_ne eg21 (200 + 2 * i) (by omega)).trans (hH9 i hi).1, (cx_ne eg21 (201 + 2 * i) (by omega)).trans (hH9 i hi).2.1, (hH9 i hi).2.2.kept (fun j q1 q2 => cx_ne eg21 j (by omega))⟩
                    replace c_A : g21 6 = rA (G.2 5) M (fun i => if i < 0 then some (ad (500 + 2 * i)) else none) := cx_eq eg21
                    have hup : ∀ j : Nat, j ∈ Lx20 → j ∈ L21 := fun j h => by rw [eL21]; exact List.mem_append_left _ h
                    replace hLL : ∀ j : Nat, j ∈ L → j ∈ L21 := fun j h => hup j (hLL j h)
                    replace m_o : 0 ∈ L21 := hup _ m_o
                    replace m_d : 1 ∈ L21 := hup _ m_d
                    replace m_w : 3 ∈ L21 := hup _ m_w
                    replace m_v : 2 ∈ L21 := hup _ m_v
                    replace mSp : ∀ j : Nat, 180 ≤ j → j < 185 + V → j ∈ L21 := fun j a0 a1 => hup _ (mSp j a0 a1)
                    replace m_E : 4 ∈ L21 := hup _ m_E
                    replace mF300 : ∀ j : Nat, 300 ≤ j → j < 300 + 2 * 20 → j ∈ L21 := fun j a0 a1 => hup _ (mF300 j a0 a1)
                    replace m_N : 7 ∈ L21 := hup _ m_N
                    replace mF400 : ∀ j : Nat, 400 ≤ j → j < 400 + 2 * 24 → j ∈ L21 := fun j a0 a1 => hup _ (mF400 j a0 a1)
                    replace m_H : 5 ∈ L21 := hup _ m_H
                    replace mF200 : ∀ j : Nat, 200 ≤ j → j < 200 + 2 * N → j ∈ L21 := fun j a0 a1 => hup _ (mF200 j a0 a1)
                    replace mHS : ∀ j : Nat, 100 ≤ j → j < 100 + 10 * N → j % 10 < V + 5 → j ∈ L21 := fun j a0 a1 a2 => hup _ (mHS j a0 a1 a2)
                    have m_A : 6 ∈ L21 := by rw [eL21]; exact List.mem_append_right _ List.mem_cons_self
                    replace hA : ∀ q : Nat, cx_A L21 ad sz q → cx_A L ad sz q := fun q hq9 => hA q (cx_A.down (fun j hj => by rw [eL21] at hj; rcases List.mem_append.mp hj with h | h; exact Or.inl h; exact Or.inr (by rw [List.mem_singleton.mp h]; omega)) q hq9)
                    replace hH : H.size = hB N + 1 := by omega
                    clear eg21 eL21 hk21 hH21 hup hg21
                    refine ax_putFz (k := 0) (v := .ref (ad 6)) (fs' := [.int (nI V), .ref (ad 1), .ref (ad 4), .int (nI 0), .int (nI 0), .ref (ad 5), .ref (ad 6), .int (nI 0), .int (if false = true then 1 else 0), .int (nI 0), .ref (ad 2), .ref (ad 7), .int (nI 0), .ref (ad 180), .ref (ad 3)]) hx hb hts in_X5_init_X5 tyX5 tyX5_ok nmX5 hown hK hP hD hS m_o c_o rfl 6 (by decide) (hts _ wd_X5_init_30) (fun _ h9 => h9) rfl hin rfl (ty := (.array (.object "AffineHulls$Point"))) (by decide +kernel) rfl rfl (Nat.le_of_ble_eq_true rfl) rfl dX5_init_209 (fun H locs g22 eg22 hH22 hP hS => ?_)
                    replace c_d : g22 1 = nA G (V + 1) (vN (fun _ => 0)) := (cx_ne eg22 1 (by decide)).trans c_d
                    replace c_w : g22 3 = nA G (V + 1) (vN (fun _ => 0)) := (cx_ne eg22 3 (by decide)).trans c_w
                    replace c_v : g22 2 = nA G (V + 1) (vN (nu (fun _ => 0) 0 1)) := (cx_ne eg22 2 (by decide)).trans c_v
                    replace c_E : g22 4 = rA (G.2 2) 20 (fun i => if i < 20 then some (ad (300 + 2 * i)) else none) := (cx_ne eg22 4 (by decide)).trans c_E
                    replace c_N : g22 7 = rA (G.2 4) 24 (fun i => if i < 24 then some (ad (400 + 2 * i)) else none) := (cx_ne eg22 7 (by decide)).trans c_N
                    replace c_H : g22 5 = rA (G.2 3) N (fun i => if i < N then some (ad (200 + 2 * i)) else none) := (cx_ne eg22 5 (by decide)).trans c_H
                    replace c_A : g22 6 = rA (G.2 5) M (fun i => if i < 0 then some (ad (500 + 2 * i)) else none) := (cx_ne eg22 6 (by decide)).trans c_A
                    replace sp0 : SpanAt G ad g22 180 (V + 1) (fun _ => false) (fun _ _ => 0) (fun _ => 0) := sp0.kept (fun j q1 q2 => cx_ne eg22 j (by omega))
                    replace hE9 : ∀ i : Nat, i < 20 → g22 (300 + 2 * i) = .inr (0, [.int (nI 0), .int (nI 0), .int (nI 0), .int (nI 0), .ref (ad (301 + 2 * i))]) ∧ g22 (301 + 2 * i) = nA G (V + 1) (vN (fun _ => 0)) := fun i hi => ⟨(cx_ne eg22 (300 + 2 * i) (by omega)).trans (hE9 i hi).1, (cx_ne eg22 (301 + 2 * i) (by omega)).trans (hE9 i hi).2⟩
                    replace hN9 : ∀ i : Nat, i < 24 → g22 (400 + 2 * i) = .inr (2, [.int (nI 0), .ref (ad (401 + 2 * i))]) ∧ g22 (401 + 2 * i) = nA G (V + 1) (vN (fun _ => 0)) := fun i hi => ⟨(cx_ne eg22 (400 + 2 * i) (by omega)).trans (hN9 i hi).1, (cx_ne eg22 (401 + 2 * i) (by omega)).trans (hN9 i hi).2⟩
                    replace hH9 : ∀ i : Nat, i < N → g22 (200 + 2 * i) = .inr (1, [.ref (ad (100 + 10 * i)), .ref (ad (201 + 2 * i)), .int (nI 0)]) ∧ g22 (201 + 2 * i) = nA G (V + 1) (fun _ => 0) ∧ SpanAt G ad g22 (100 + 10 * i) (V + 1) (fun _ => false) (fun _ _ => 0) (fun _ => 0) := fun i hi => ⟨(cx_ne eg22 (200 + 2 * i) (by omega)).trans (hH9 i hi).1, (cx_ne eg22 (201 + 2 * i) (by omega)).trans (hH9 i hi).2.1, (hH9 i hi).2.2.kept (fun j q1 q2 => cx_ne eg22 j (by omega))⟩
                    replace c_o : g22 0 = .inr (5, [.int (nI V), .ref (ad 1), .ref (ad 4), .int (nI 0), .int (nI 0), .ref (ad 5), .ref (ad 6), .int (nI 0), .int (if false = true then 1 else 0), .int (nI 0), .ref (ad 2), .ref (ad 7), .int (nI 0), .ref (ad 180), .ref (ad 3)]) := cx_eq eg22
                    clear eg22
                    replace hH : H.size = hB N + 1 := by omega
                    clear hH22
                    refine lv_iconst (v := nI 0) hx hb dX5_init_212 (by decide) ?_
                    refine lv_istore (lv' := [(5, .int (nI 0)), (4, .int (nI (V + 1))), (3, .int (nI N)), (0, .ref (ad 0))]) hx hb dX5_init_213 hl (by decide) rfl (fun ls hl => ?_)
                    have LP215 : ∀ (fu : Nat) (k : Nat), (k ≤ M) → (M - k) < fu → ∀ (Lx23 : List Nat) (ga23 : Nat → va_E) (H : Heap) (locs : List Loc) (ls : Array Slot), (ga23 0 = .inr (5, [.int (nI V), .ref (ad 1), .ref (ad 4), .int (nI 0), .int (nI 0), .ref (ad 5), .ref (ad 6), .int (nI 0), .int (if false = true then 1 else 0), .int (nI 0), .ref (ad 2), .ref (ad 7), .int (nI 0), .ref (ad 180), .ref (ad 3)])) → (ga23 1 = nA G (V + 1) (vN (fun _ => 0))) → (ga23 3 = nA G (V + 1) (vN (fun _ => 0))) → (ga23 2 = nA G (V + 1) (vN (nu (fun _ => 0) 0 1))) → (ga23 4 = rA (G.2 2) 20 (fun i => if i < 20 then some (ad (300 + 2 * i)) else none)) → (ga23 7 = rA (G.2 4) 24 (fun i => if i < 24 then some (ad (400 + 2 * i)) else none)) → (ga23 5 = rA (G.2 3) N (fun i => if i < N then some (ad (200 + 2 * i)) else none)) → (ga23 6 = rA (G.2 5) M (fun i => if i < k then some (ad (500 + 2 * i)) else none)) → (SpanAt G ad ga23 180 (V + 1) (fun _ => false) (fun _ _ => 0) (fun _ => 0)) → (∀ i : Nat, i < 20 → ga23 (300 + 2 * i) = .inr (0, [.int (nI 0), .int (nI 0), .int (nI 0), .int (nI 0), .ref (ad (301 + 2 * i))]) ∧ ga23 (301 + 2 * i) = nA G (V + 1) (vN (fun _ => 0))) → (∀ i : Nat, i < 24 → ga23 (400 + 2 * i) = .inr (2, [.int (nI 0), .ref (ad (401 + 2 * i))]) ∧ ga23 (401 + 2 * i) = nA G (V + 1) (vN (fun _ => 0))) → (∀ i : Nat, i < N → ga23 (200 + 2 * i) = .inr (1, [.ref (ad (100 + 10 * i)), .ref (ad (201 + 2 * i)), .int (nI 0)]) ∧ ga23 (201 + 2 * i) = nA G (V + 1) (fun _ => 0) ∧ SpanAt G ad ga23 (100 + 10 * i) (V + 1) (fun _ => false) (fun _ _ => 0) (fun _ => 0)) → (∀ i : Nat, i < k → ga23 (500 + 2 * i) = .inr (3, [.int (nI 0), .int (nI 0), .int (nI 0), .ref (ad (501 + 2 * i))]) ∧ ga23 (501 + 2 * i) = nA G (V + 1) (vN (fun _ => 0))) → (0 ∈ Lx23) → (1 ∈ Lx23) → (3 ∈ Lx23) → (2 ∈ Lx23) → (∀ j : Nat, 180 ≤ j → j < 185 + V → j ∈ Lx23) → (4 ∈ Lx23) → (∀ j : Nat, 300 ≤ j → j < 300 + 2 * 20 → j ∈ Lx23) → (7 ∈ Lx23) → (∀ j : Nat, 400 ≤ j → j < 400 + 2 * 24 → j ∈ Lx23) → (5 ∈ Lx23) → (∀ j : Nat, 200 ≤ j → j < 200 + 2 * N → j ∈ Lx23) → (∀ j : Nat, 100 ≤ j → j < 100 + 10 * N → j % 10 < V + 5 → j ∈ Lx23) → (6 ∈ Lx23) → (∀ j : Nat, 500 ≤ j → j < 500 + 2 * k → j ∈ Lx23) → (∀ j : Nat, j ∈ L → j ∈ Lx23) → (∀ q : Nat, cx_A Lx23 ad sz q → cx_A L ad sz q) → H.size = hB N + 1 + 2 * k → va_P G.1 vwCl (wl Lx23 ad ga23) H → cx_D Lx23 ad → va_S (cx_A Lx23 ad sz) s.heap H locs → lv_has ls 6 [(5, .int (nI k)), (4, .int (nI (V + 1))), (3, .int (nI N)), (0, .ref (ad 0))] → W p l e rm_X5_init s m args below meth c H locs (220 + 2 * k) (1150 + 10 * k) Q (F0 m 215 ls []) := by
                      intro fu
                      induction fu with
                      | zero => intro k hkm hfu; exact absurd hfu (Nat.not_lt_zero _)
                      | succ fu ih215 =>
                        intro k hkm hfu215 Lx23 ga23 H locs ls c_o c_d c_w c_v c_E c_N c_H c_A sp0 hE9 hN9 hH9 hP9 m_o m_d m_w m_v mSp m_E mF300 m_N mF400 m_H mF200 mHS m_A mF500 hLL hA hH hP hD hS hl
                        refine lv_iload hx hb dX5_init_215 (lv_at hl 0 rfl) ?_
                        refine lv_aload_n hx hb dX5_init_217 rfl (lv_at hl 3 rfl) ?_
                        refine ax_get (k := 0) (v := .ref (ad 6)) hx hb hts in_X5_init_X5 hown hK hP m_o c_o rfl 6 (by decide) (hts _ wd_X5_init_30) (fun _ h9 => h9) rfl dX5_init_218 ?_
                        refine ax_alen (k := 6) (n := M) hx hb hK hP m_A 5 rfl c_A rfl dX5_init_221 ?_
                        refine ax_icge (a := k) (b := M) (tgt := 247) hx hb dX5_init_222 (by decide) (by omega) (by omega) (fun h222 => ?_) (fun h222 => ?_)
                        · skip
                          have hna9 := hadx.na
                          exact hret Lx23 ga23 _ _ _ _ _ _ ⟨(by omega), (by omega)⟩ (by have ek9 : k = M := (by omega); rw [ek9] at c_A hP9 hH mF500; exact ⟨fun j h => h.elim (fun h => by rcases (show j = 0 ∨ j = 1 ∨ j = 2 ∨ j = 3 ∨ j = 4 ∨ j = 5 ∨ j = 6 ∨ j = 7 by omega) with rfl | rfl | rfl | rfl | rfl | rfl | rfl | rfl <;> assumption) (fun h => h.elim (fun h => mHS j h.1 h.2.1 h.2.2) (fun h => h.elim (fun h => mSp j h.1 h.2) (fun h => h.elim (fun h => mF200 j h.1 h.2) (fun h => h.elim (fun h => mF300 j h.1 h.2) (fun h => h.elim (fun h => mF400 j h.1 h.2) (fun h => mF500 j h.1 h.2)))))), c_o, c_d, c_v, c_w, c_E, c_H, c_A, c_N, ⟨fun i hi => (hE9 i hi).1, fun i hi => (hE9 i hi).2⟩, ⟨fun i hi => (hN9 i hi).1, fun i hi => (hN9 i hi).2⟩, XF.done ⟨fun _ => 0, fun _ => 0, fun _ => nI 0, fun _ _ => 0, fun _ => 0, fun _ _ => 0, fun _ _ => false, fun _ _ _ => 0, fun _ _ => 0, ⟨fun i hi => (hH9 i hi).1, fun i hi => (hH9 i hi).2.1, fun i hi => (hH9 i hi).2.2, fun i hi => (hP9 i hi).1, fun i hi => (hP9 i hi).2⟩, fun _ => Zb.zero _, fun i hi => ⟨rfl, fun _ _ => rfl⟩⟩, sp0⟩) hP hD (by omega) hLL hA hS dX5_init_247
                        · skip
                          obtain ⟨had1, had2⟩ := hadx.kP k h222
                          refine lv_aload_n hx hb dX5_init_225 rfl (lv_at hl 3 rfl) ?_
                          refine ax_get (k := 0) (v := .ref (ad 6)) hx hb hts in_X5_init_X5 hown hK hP m_o c_o rfl 6 (by decide) (hts _ wd_X5_init_30) (fun _ h9 => h9) rfl dX5_init_226 ?_
                          refine lv_iload hx hb dX5_init_229 (lv_at hl 0 rfl) ?_
                          have hg24 : sz ≤ H.size := Nat.le_trans hz hS.1
                          have hk24 : ad (500 + 2 * k) = H.size := by omega
                          refine ax_new (k := 500 + 2 * k) (ci := 3) (fs := [.int (nI 0), .int (nI 0), .int (nI 0), .null]) (C := RX3) (T := TX3) (N := 4) hx hb hts in_X5_init_X3 tyX3 tyX3_ok hown (hts _ wd_X5_init_29) (hts _ wd_X5_init_32) (hts _ wd_X5_init_33) hK hP hD hS hk24 rfl (fun j hj => by rcases (show j = 0 ∨ j = 1 ∨ j = 2 ∨ j = 3 by omega) with rfl | rfl | rfl | rfl <;> rfl) (show 220 + 2 * k + 1 ≤ 300 by omega) (show 1150 + 10 * k + 4 ≤ 1600 by omega) dX5_init_231 (fun L24 H g24 eL24 eg24 hH24 hP hD hS => ?_)
                          replace c_o : g24 0 = .inr (5, [.int (nI V), .ref (ad 1), .ref (ad 4), .int (nI 0), .int (nI 0), .ref (ad 5), .ref (ad 6), .int (nI 0), .int (if false = true then 1 else 0), .int (nI 0), .ref (ad 2), .ref (ad 7), .int (nI 0), .ref (ad 180), .ref (ad 3)]) := (cx_ne eg24 0 (by omega)).trans c_o
                          replace c_d : g24 1 = nA G (V + 1) (vN (fun _ => 0)) := (cx_ne eg24 1 (by omega)).trans c_d
                          replace c_w : g24 3 = nA G (V + 1) (vN (fun _ => 0)) := (cx_ne eg24 3 (by omega)).trans c_w
                          replace c_v : g24 2 = nA G (V + 1) (vN (nu (fun _ => 0) 0 1)) := (cx_ne eg24 2 (by omega)).trans c_v
                          replace c_E : g24 4 = rA (G.2 2) 20 (fun i => if i < 20 then some (ad (300 + 2 * i)) else none) := (cx_ne eg24 4 (by omega)).trans c_E
                          replace c_N : g24 7 = rA (G.2 4) 24 (fun i => if i < 24 then some (ad (400 + 2 * i)) else none) := (cx_ne eg24 7 (by omega)).trans c_N
                          replace c_H : g24 5 = rA (G.2 3) N (fun i => if i < N then some (ad (200 + 2 * i)) else none) := (cx_ne eg24 5 (by omega)).trans c_H
                          replace c_A : g24 6 = rA (G.2 5) M (fun i => if i < k then some (ad (500 + 2 * i)) else none) := (cx_ne eg24 6 (by omega)).trans c_A
                          replace sp0 : SpanAt G ad g24 180 (V + 1) (fun _ => false) (fun _ _ => 0) (fun _ => 0) := sp0.kept (fun j q1 q2 => cx_ne eg24 j (by omega))
                          replace hE9 : ∀ i : Nat, i < 20 → g24 (300 + 2 * i) = .inr (0, [.int (nI 0), .int (nI 0), .int (nI 0), .int (nI 0), .ref (ad (301 + 2 * i))]) ∧ g24 (301 + 2 * i) = nA G (V + 1) (vN (fun _ => 0)) := fun i hi => ⟨(cx_ne eg24 (300 + 2 * i) (by omega)).trans (hE9 i hi).1, (cx_ne eg24 (301 + 2 * i) (by omega)).trans (hE9 i hi).2⟩
                          replace hN9 : ∀ i : Nat, i < 24 → g24 (400 + 2 * i) = .inr (2, [.int (nI 0), .ref (ad (401 + 2 * i))]) ∧ g24 (401 + 2 * i) = nA G (V + 1) (vN (fun _ => 0)) := fun i hi => ⟨(cx_ne eg24 (400 + 2 * i) (by omega)).trans (hN9 i hi).1, (cx_ne eg24 (401 + 2 * i) (by omega)).trans (hN9 i hi).2⟩
                          replace hH9 : ∀ i : Nat, i < N → g24 (200 + 2 * i) = .inr (1, [.ref (ad (100 + 10 * i)), .ref (ad (201 + 2 * i)), .int (nI 0)]) ∧ g24 (201 + 2 * i) = nA G (V + 1) (fun _ => 0) ∧ SpanAt G ad g24 (100 + 10 * i) (V + 1) (fun _ => false) (fun _ _ => 0) (fun _ => 0) := fun i hi => ⟨(cx_ne eg24 (200 + 2 * i) (by omega)).trans (hH9 i hi).1, (cx_ne eg24 (201 + 2 * i) (by omega)).trans (hH9 i hi).2.1, (hH9 i hi).2.2.kept (fun j q1 q2 => cx_ne eg24 j (by omega))⟩
                          replace hP9 : ∀ i : Nat, i < k → g24 (500 + 2 * i) = .inr (3, [.int (nI 0), .int (nI 0), .int (nI 0), .ref (ad (501 + 2 * i))]) ∧ g24 (501 + 2 * i) = nA G (V + 1) (vN (fun _ => 0)) := fun i hi => ⟨(cx_ne eg24 (500 + 2 * i) (by omega)).trans (hP9 i hi).1, (cx_ne eg24 (501 + 2 * i) (by omega)).trans (hP9 i hi).2⟩
                          replace c_ob : g24 (500 + 2 * k) = .inr (3, [.int (nI 0), .int (nI 0), .int (nI 0), .null]) := cx_eq eg24
                          have hup : ∀ j : Nat, j ∈ Lx23 → j ∈ L24 := fun j h => by rw [eL24]; exact List.mem_append_left _ h
                          replace hLL : ∀ j : Nat, j ∈ L → j ∈ L24 := fun j h => hup j (hLL j h)
                          replace m_o : 0 ∈ L24 := hup _ m_o
                          replace m_d : 1 ∈ L24 := hup _ m_d
                          replace m_w : 3 ∈ L24 := hup _ m_w
                          replace m_v : 2 ∈ L24 := hup _ m_v
                          replace mSp : ∀ j : Nat, 180 ≤ j → j < 185 + V → j ∈ L24 := fun j a0 a1 => hup _ (mSp j a0 a1)
                          replace m_E : 4 ∈ L24 := hup _ m_E
                          replace mF300 : ∀ j : Nat, 300 ≤ j → j < 300 + 2 * 20 → j ∈ L24 := fun j a0 a1 => hup _ (mF300 j a0 a1)
                          replace m_N : 7 ∈ L24 := hup _ m_N
                          replace mF400 : ∀ j : Nat, 400 ≤ j → j < 400 + 2 * 24 → j ∈ L24 := fun j a0 a1 => hup _ (mF400 j a0 a1)
                          replace m_H : 5 ∈ L24 := hup _ m_H
                          replace mF200 : ∀ j : Nat, 200 ≤ j → j < 200 + 2 * N → j ∈ L24 := fun j a0 a1 => hup _ (mF200 j a0 a1)
                          replace mHS : ∀ j : Nat, 100 ≤ j → j < 100 + 10 * N → j % 10 < V + 5 → j ∈ L24 := fun j a0 a1 a2 => hup _ (mHS j a0 a1 a2)
                          replace m_A : 6 ∈ L24 := hup _ m_A
                          replace mF500 : ∀ j : Nat, 500 ≤ j → j < 500 + 2 * k → j ∈ L24 := fun j a0 a1 => hup _ (mF500 j a0 a1)
                          have m_ob : 500 + 2 * k ∈ L24 := by rw [eL24]; exact List.mem_append_right _ List.mem_cons_self
                          replace hA : ∀ q : Nat, cx_A L24 ad sz q → cx_A L ad sz q := fun q hq9 => hA q (cx_A.down (fun j hj => by rw [eL24] at hj; rcases List.mem_append.mp hj with h | h; exact Or.inl h; exact Or.inr (by rw [List.mem_singleton.mp h]; omega)) q hq9)
                          replace hH : H.size = hB N + 1 + 2 * k + 1 := by omega
                          clear eg24 eL24 hk24 hH24 hup hg24
                          refine lv_dup hx hb dX5_init_234 rfl ?_
                          refine lv_iload hx hb dX5_init_235 (lv_at hl 1 rfl) ?_
                          refine cx_Iv (As := [.int (nI (V + 1))]) (rest := [.ref (ad (500 + 2 * k)), .int (nI k), .ref (ad 6)]) (na := 1) (mc := 1) (ms := 5) ⟨hx, hb, hml, hown, hts⟩ (c_X3_init hD (k := 500 + 2 * k) (n := V + 1) (by rw [show 500 + 2 * k + 1 = 501 + 2 * k by omega]; omega) (by omega) c_ob (fun j hj => by rw [hj]; exact m_ob)) (cwI 1 hts gX5_init_X3_init rfl rfl rfl (hts _ wd_X5_init_33) (hts _ wd_X5_init_34) (hts _ wd_X5_init_35) rfl (by decide +kernel) ⟨Nat.le_of_ble_eq_true rfl, Nat.le_of_ble_eq_true rfl⟩) hK hY hP hS hz ⟨(show 220 + 2 * k + 1 + 1 ≤ 300 by omega), (show 1150 + 10 * k + 4 + 5 ≤ 1600 by omega)⟩ rfl hl.1 rfl (Nat.le_of_ble_eq_true rfl) dX5_init_237 (fun u25 H locs hp25 hlk25 hP hD hH25 hAn25 hS => ?_)
                          obtain ⟨L25, g25⟩ := u25
                          dsimp only at hp25 hlk25 hP hD hAn25 hS
                          replace hLL : ∀ j : Nat, j ∈ L → j ∈ L25 := fun j h => hlk25 j (hLL j h)
                          replace hA : ∀ q : Nat, cx_A L25 ad sz q → cx_A L ad sz q := fun q h => hA q (hAn25 q h)
                          replace m_o : 0 ∈ L25 := hlk25 _ m_o
                          replace m_d : 1 ∈ L25 := hlk25 _ m_d
                          replace m_w : 3 ∈ L25 := hlk25 _ m_w
                          replace m_v : 2 ∈ L25 := hlk25 _ m_v
                          replace mSp : ∀ j : Nat, 180 ≤ j → j < 185 + V → j ∈ L25 := fun j a0 a1 => hlk25 _ (mSp j a0 a1)
                          replace m_E : 4 ∈ L25 := hlk25 _ m_E
                          replace mF300 : ∀ j : Nat, 300 ≤ j → j < 300 + 2 * 20 → j ∈ L25 := fun j a0 a1 => hlk25 _ (mF300 j a0 a1)
                          replace m_N : 7 ∈ L25 := hlk25 _ m_N
                          replace mF400 : ∀ j : Nat, 400 ≤ j → j < 400 + 2 * 24 → j ∈ L25 := fun j a0 a1 => hlk25 _ (mF400 j a0 a1)
                          replace m_H : 5 ∈ L25 := hlk25 _ m_H
                          replace mF200 : ∀ j : Nat, 200 ≤ j → j < 200 + 2 * N → j ∈ L25 := fun j a0 a1 => hlk25 _ (mF200 j a0 a1)
                          replace mHS : ∀ j : Nat, 100 ≤ j → j < 100 + 10 * N → j % 10 < V + 5 → j ∈ L25 := fun j a0 a1 a2 => hlk25 _ (mHS j a0 a1 a2)
                          replace m_A : 6 ∈ L25 := hlk25 _ m_A
                          replace mF500 : ∀ j : Nat, 500 ≤ j → j < 500 + 2 * k → j ∈ L25 := fun j a0 a1 => hlk25 _ (mF500 j a0 a1)
                          replace m_ob : 500 + 2 * k ∈ L25 := hlk25 _ m_ob
                          replace hH : H.size = hB N + 1 + 2 * k + 1 + 1 := by omega
                          obtain ⟨hp25m, hp25f, hp25o, hp25x⟩ := hp25
                          rw [show 500 + 2 * k + 1 = 501 + 2 * k by omega] at hp25f hp25o hp25x
                          replace c_o : g25 0 = .inr (5, [.int (nI V), .ref (ad 1), .ref (ad 4), .int (nI 0), .int (nI 0), .ref (ad 5), .ref (ad 6), .int (nI 0), .int (if false = true then 1 else 0), .int (nI 0), .ref (ad 2), .ref (ad 7), .int (nI 0), .ref (ad 180), .ref (ad 3)]) := (hp25f 0 (by omega)).trans c_o
                          replace c_d : g25 1 = nA G (V + 1) (vN (fun _ => 0)) := (hp25f 1 (by omega)).trans c_d
                          replace c_w : g25 3 = nA G (V + 1) (vN (fun _ => 0)) := (hp25f 3 (by omega)).trans c_w
                          replace c_v : g25 2 = nA G (V + 1) (vN (nu (fun _ => 0) 0 1)) := (hp25f 2 (by omega)).trans c_v
                          replace c_E : g25 4 = rA (G.2 2) 20 (fun i => if i < 20 then some (ad (300 + 2 * i)) else none) := (hp25f 4 (by omega)).trans c_E
                          replace c_N : g25 7 = rA (G.2 4) 24 (fun i => if i < 24 then some (ad (400 + 2 * i)) else none) := (hp25f 7 (by omega)).trans c_N
                          replace c_H : g25 5 = rA (G.2 3) N (fun i => if i < N then some (ad (200 + 2 * i)) else none) := (hp25f 5 (by omega)).trans c_H
                          replace c_A : g25 6 = rA (G.2 5) M (fun i => if i < k then some (ad (500 + 2 * i)) else none) := (hp25f 6 (by omega)).trans c_A
                          replace sp0 : SpanAt G ad g25 180 (V + 1) (fun _ => false) (fun _ _ => 0) (fun _ => 0) := sp0.kept (fun j q1 q2 => hp25f j (by omega))
                          replace hE9 : ∀ i : Nat, i < 20 → g25 (300 + 2 * i) = .inr (0, [.int (nI 0), .int (nI 0), .int (nI 0), .int (nI 0), .ref (ad (301 + 2 * i))]) ∧ g25 (301 + 2 * i) = nA G (V + 1) (vN (fun _ => 0)) := fun i hi => ⟨(hp25f (300 + 2 * i) (by omega)).trans (hE9 i hi).1, (hp25f (301 + 2 * i) (by omega)).trans (hE9 i hi).2⟩
                          replace hN9 : ∀ i : Nat, i < 24 → g25 (400 + 2 * i) = .inr (2, [.int (nI 0), .ref (ad (401 + 2 * i))]) ∧ g25 (401 + 2 * i) = nA G (V + 1) (vN (fun _ => 0)) := fun i hi => ⟨(hp25f (400 + 2 * i) (by omega)).trans (hN9 i hi).1, (hp25f (401 + 2 * i) (by omega)).trans (hN9 i hi).2⟩
                          replace hH9 : ∀ i : Nat, i < N → g25 (200 + 2 * i) = .inr (1, [.ref (ad (100 + 10 * i)), .ref (ad (201 + 2 * i)), .int (nI 0)]) ∧ g25 (201 + 2 * i) = nA G (V + 1) (fun _ => 0) ∧ SpanAt G ad g25 (100 + 10 * i) (V + 1) (fun _ => false) (fun _ _ => 0) (fun _ => 0) := fun i hi => ⟨(hp25f (200 + 2 * i) (by omega)).trans (hH9 i hi).1, (hp25f (201 + 2 * i) (by omega)).trans (hH9 i hi).2.1, (hH9 i hi).2.2.kept (fun j q1 q2 => hp25f j (by omega))⟩
                          replace hP9 : ∀ i : Nat, i < k → g25 (500 + 2 * i) = .inr (3, [.int (nI 0), .int (nI 0), .int (nI 0), .ref (ad (501 + 2 * i))]) ∧ g25 (501 + 2 * i) = nA G (V + 1) (vN (fun _ => 0)) := fun i hi => ⟨(hp25f (500 + 2 * i) (by omega)).trans (hP9 i hi).1, (hp25f (501 + 2 * i) (by omega)).trans (hP9 i hi).2⟩
                          replace mF500 : ∀ j : Nat, 500 ≤ j → j < 500 + 2 * (k + 1) → j ∈ L25 := fun j a b => by by_cases e9 : j < 500 + 2 * k; exact mF500 j a e9; exact hp25m j (by omega)
                          replace c_ob := hp25o
                          replace hP9 : ∀ i : Nat, i < k + 1 → g25 (500 + 2 * i) = .inr (3, [.int (nI 0), .int (nI 0), .int (nI 0), .ref (ad (501 + 2 * i))]) ∧ g25 (501 + 2 * i) = nA G (V + 1) (vN (fun _ => 0)) := fam_s hP9 ⟨hp25o, hp25x⟩
                          clear hlk25 hAn25 hH25
                          refine ax_aast (k := 6) (kv := 500 + 2 * k) (t := 5) (ci := 3) (i := k) (f2 := fun i => if i < k + 1 then some (ad (500 + 2 * i)) else none) hx hb hK hP hD hS m_A m_ob rfl rfl c_A c_ob (by omega) (by omega) (nu_fam (fun i => ad (500 + 2 * i)) k) dX5_init_240 (fun H locs g26 eg26 hH26 hP hS => ?_)
                          replace c_o : g26 0 = .inr (5, [.int (nI V), .ref (ad 1), .ref (ad 4), .int (nI 0), .int (nI 0), .ref (ad 5), .ref (ad 6), .int (nI 0), .int (if false = true then 1 else 0), .int (nI 0), .ref (ad 2), .ref (ad 7), .int (nI 0), .ref (ad 180), .ref (ad 3)]) := (cx_ne eg26 0 (by decide)).trans c_o
                          replace c_d : g26 1 = nA G (V + 1) (vN (fun _ => 0)) := (cx_ne eg26 1 (by decide)).trans c_d
                          replace c_w : g26 3 = nA G (V + 1) (vN (fun _ => 0)) := (cx_ne eg26 3 (by decide)).trans c_w
                          replace c_v : g26 2 = nA G (V + 1) (vN (nu (fun _ => 0) 0 1)) := (cx_ne eg26 2 (by decide)).trans c_v
                          replace c_E : g26 4 = rA (G.2 2) 20 (fun i => if i < 20 then some (ad (300 + 2 * i)) else none) := (cx_ne eg26 4 (by decide)).trans c_E
                          replace c_N : g26 7 = rA (G.2 4) 24 (fun i => if i < 24 then some (ad (400 + 2 * i)) else none) := (cx_ne eg26 7 (by decide)).trans c_N
                          replace c_H : g26 5 = rA (G.2 3) N (fun i => if i < N then some (ad (200 + 2 * i)) else none) := (cx_ne eg26 5 (by decide)).trans c_H
                          replace c_ob : g26 (500 + 2 * k) = .inr (3, [.int (nI 0), .int (nI 0), .int (nI 0), .ref (ad (501 + 2 * k))]) := (cx_ne eg26 (500 + 2 * k) (by omega)).trans c_ob
                          replace sp0 : SpanAt G ad g26 180 (V + 1) (fun _ => false) (fun _ _ => 0) (fun _ => 0) := sp0.kept (fun j q1 q2 => cx_ne eg26 j (by omega))
                          replace hE9 : ∀ i : Nat, i < 20 → g26 (300 + 2 * i) = .inr (0, [.int (nI 0), .int (nI 0), .int (nI 0), .int (nI 0), .ref (ad (301 + 2 * i))]) ∧ g26 (301 + 2 * i) = nA G (V + 1) (vN (fun _ => 0)) := fun i hi => ⟨(cx_ne eg26 (300 + 2 * i) (by omega)).trans (hE9 i hi).1, (cx_ne eg26 (301 + 2 * i) (by omega)).trans (hE9 i hi).2⟩
                          replace hN9 : ∀ i : Nat, i < 24 → g26 (400 + 2 * i) = .inr (2, [.int (nI 0), .ref (ad (401 + 2 * i))]) ∧ g26 (401 + 2 * i) = nA G (V + 1) (vN (fun _ => 0)) := fun i hi => ⟨(cx_ne eg26 (400 + 2 * i) (by omega)).trans (hN9 i hi).1, (cx_ne eg26 (401 + 2 * i) (by omega)).trans (hN9 i hi).2⟩
                          replace hH9 : ∀ i : Nat, i < N → g26 (200 + 2 * i) = .inr (1, [.ref (ad (100 + 10 * i)), .ref (ad (201 + 2 * i)), .int (nI 0)]) ∧ g26 (201 + 2 * i) = nA G (V + 1) (fun _ => 0) ∧ SpanAt G ad g26 (100 + 10 * i) (V + 1) (fun _ => false) (fun _ _ => 0) (fun _ => 0) := fun i hi => ⟨(cx_ne eg26 (200 + 2 * i) (by omega)).trans (hH9 i hi).1, (cx_ne eg26 (201 + 2 * i) (by omega)).trans (hH9 i hi).2.1, (hH9 i hi).2.2.kept (fun j q1 q2 => cx_ne eg26 j (by omega))⟩
                          replace hP9 : ∀ i : Nat, i < k + 1 → g26 (500 + 2 * i) = .inr (3, [.int (nI 0), .int (nI 0), .int (nI 0), .ref (ad (501 + 2 * i))]) ∧ g26 (501 + 2 * i) = nA G (V + 1) (vN (fun _ => 0)) := fun i hi => ⟨(cx_ne eg26 (500 + 2 * i) (by omega)).trans (hP9 i hi).1, (cx_ne eg26 (501 + 2 * i) (by omega)).trans (hP9 i hi).2⟩
                          replace c_A : g26 6 = rA (G.2 5) M (fun i => if i < k + 1 then some (ad (500 + 2 * i)) else none) := cx_eq eg26
                          clear eg26
                          replace hH : H.size = hB N + 1 + 2 * k + 1 + 1 := by omega
                          clear hH26
                          refine lv_iinc (v := nI (k + 1)) (lv' := [(5, .int (nI (k + 1))), (4, .int (nI (V + 1))), (3, .int (nI N)), (0, .ref (ad 0))]) hx hb dX5_init_241 hl (k := 0) rfl (nI_1 _) (by decide) rfl (fun ls hl => ?_)
                          refine lv_goto (tgt := 215) hx hb dX5_init_244 (by decide) ?_
                          refine cx_wide (k := 220 + 2 * (k + 1)) (n := 1150 + 10 * (k + 1)) ⟨(by omega), (by omega)⟩ ?_
                          exact ih215 (k + 1) h222 (by omega) L25 g26 _ _ _ c_o c_d c_w c_v c_E c_N c_H c_A sp0 hE9 hN9 hH9 hP9 m_o m_d m_w m_v mSp m_E mF300 m_N mF400 m_H mF200 mHS m_A mF500 hLL hA (by omega) hP hD hS (lv_sub hl [0, 1, 2, 3] rfl)
                    refine cx_wide (k := 220 + 2 * 0) (n := 1150 + 10 * 0) ⟨(by omega), (by omega)⟩ ?_
                    exact LP215 ((M - 0) + 1) 0 (Nat.zero_le _) (Nat.lt_succ_self _) L21 g22 _ _ _ c_o c_d c_w c_v c_E c_N c_H c_A sp0 hE9 hN9 hH9 (fun i hi => absurd hi (Nat.not_lt_zero i)) m_o m_d m_w m_v mSp m_E mF300 m_N mF400 m_H mF200 mHS m_A (fun j a b => absurd b (by omega)) hLL hA (by omega) hP hD hS (lv_sub hl [0, 1, 2, 3] rfl)
                  · skip
                    obtain ⟨had1, had2, had3, had4, had5, had6, had7⟩ := hadx.kH k h176
                    have hbs := hadx.Bs k h176
                    refine lv_aload_n hx hb dX5_init_179 rfl (lv_at hl 3 rfl) ?_
                    refine ax_get (k := 0) (v := .ref (ad 5)) hx hb hts in_X5_init_X5 hown hK hP m_o c_o rfl 5 (by decide) (hts _ wd_X5_init_28) (fun _ h9 => h9) rfl dX5_init_180 ?_
                    refine lv_iload hx hb dX5_init_183 (lv_at hl 0 rfl) ?_
                    have hg27 : sz ≤ H.size := Nat.le_trans hz hS.1
                    have hk27 : ad (200 + 2 * k) = H.size := by omega
                    refine ax_new (k := 200 + 2 * k) (ci := 1) (fs := [.null, .null, .int (nI 0)]) (C := RX1) (T := TX1) (N := 3) hx hb hts in_X5_init_X1 tyX1 tyX1_ok hown (hts _ wd_X5_init_27) (hts _ wd_X5_init_37) (hts _ wd_X5_init_38) hK hP hD hS hk27 rfl (fun j hj => by rcases (show j = 0 ∨ j = 1 ∨ j = 2 by omega) with rfl | rfl | rfl <;> rfl) (show 120 + 11 * k + 1 ≤ 300 by omega) (show 600 + 60 * k + 3 ≤ 1600 by omega) dX5_init_185 (fun L27 H g27 eL27 eg27 hH27 hP hD hS => ?_)
                    replace c_o : g27 0 = .inr (5, [.int (nI V), .ref (ad 1), .ref (ad 4), .int (nI 0), .int (nI 0), .ref (ad 5), .null, .int (nI 0), .int (if false = true then 1 else 0), .int (nI 0), .ref (ad 2), .ref (ad 7), .int (nI 0), .ref (ad 180), .ref (ad 3)]) := (cx_ne eg27 0 (by omega)).trans c_o
                    replace c_d : g27 1 = nA G (V + 1) (vN (fun _ => 0)) := (cx_ne eg27 1 (by omega)).trans c_d
                    replace c_w : g27 3 = nA G (V + 1) (vN (fun _ => 0)) := (cx_ne eg27 3 (by omega)).trans c_w
                    replace c_v : g27 2 = nA G (V + 1) (vN (nu (fun _ => 0) 0 1)) := (cx_ne eg27 2 (by omega)).trans c_v
                    replace c_E : g27 4 = rA (G.2 2) 20 (fun i => if i < 20 then some (ad (300 + 2 * i)) else none) := (cx_ne eg27 4 (by omega)).trans c_E
                    replace c_N : g27 7 = rA (G.2 4) 24 (fun i => if i < 24 then some (ad (400 + 2 * i)) else none) := (cx_ne eg27 7 (by omega)).trans c_N
                    replace c_H : g27 5 = rA (G.2 3) N (fun i => if i < k then some (ad (200 + 2 * i)) else none) := (cx_ne eg27 5 (by omega)).trans c_H
                    replace sp0 : SpanAt G ad g27 180 (V + 1) (fun _ => false) (fun _ _ => 0) (fun _ => 0) := sp0.kept (fun j q1 q2 => cx_ne eg27 j (by omega))
                    replace hE9 : ∀ i : Nat, i < 20 → g27 (300 + 2 * i) = .inr (0, [.int (nI 0), .int (nI 0), .int (nI 0), .int (nI 0), .ref (ad (301 + 2 * i))]) ∧ g27 (301 + 2 * i) = nA G (V + 1) (vN (fun _ => 0)) := fun i hi => ⟨(cx_ne eg27 (300 + 2 * i) (by omega)).trans (hE9 i hi).1, (cx_ne eg27 (301 + 2 * i) (by omega)).trans (hE9 i hi).2⟩
                    replace hN9 : ∀ i : Nat, i < 24 → g27 (400 + 2 * i) = .inr (2, [.int (nI 0), .ref (ad (401 + 2 * i))]) ∧ g27 (401 + 2 * i) = nA G (V + 1) (vN (fun _ => 0)) := fun i hi => ⟨(cx_ne eg27 (400 + 2 * i) (by omega)).trans (hN9 i hi).1, (cx_ne eg27 (401 + 2 * i) (by omega)).trans (hN9 i hi).2⟩
                    replace hH9 : ∀ i : Nat, i < k → g27 (200 + 2 * i) = .inr (1, [.ref (ad (100 + 10 * i)), .ref (ad (201 + 2 * i)), .int (nI 0)]) ∧ g27 (201 + 2 * i) = nA G (V + 1) (fun _ => 0) ∧ SpanAt G ad g27 (100 + 10 * i) (V + 1) (fun _ => false) (fun _ _ => 0) (fun _ => 0) := fun i hi => ⟨(cx_ne eg27 (200 + 2 * i) (by omega)).trans (hH9 i hi).1, (cx_ne eg27 (201 + 2 * i) (by omega)).trans (hH9 i hi).2.1, (hH9 i hi).2.2.kept (fun j q1 q2 => cx_ne eg27 j (by omega))⟩
                    replace c_ob : g27 (200 + 2 * k) = .inr (1, [.null, .null, .int (nI 0)]) := cx_eq eg27
                    have hup : ∀ j : Nat, j ∈ Lx20 → j ∈ L27 := fun j h => by rw [eL27]; exact List.mem_append_left _ h
                    replace hLL : ∀ j : Nat, j ∈ L → j ∈ L27 := fun j h => hup j (hLL j h)
                    replace m_o : 0 ∈ L27 := hup _ m_o
                    replace m_d : 1 ∈ L27 := hup _ m_d
                    replace m_w : 3 ∈ L27 := hup _ m_w
                    replace m_v : 2 ∈ L27 := hup _ m_v
                    replace mSp : ∀ j : Nat, 180 ≤ j → j < 185 + V → j ∈ L27 := fun j a0 a1 => hup _ (mSp j a0 a1)
                    replace m_E : 4 ∈ L27 := hup _ m_E
                    replace mF300 : ∀ j : Nat, 300 ≤ j → j < 300 + 2 * 20 → j ∈ L27 := fun j a0 a1 => hup _ (mF300 j a0 a1)
                    replace m_N : 7 ∈ L27 := hup _ m_N
                    replace mF400 : ∀ j : Nat, 400 ≤ j → j < 400 + 2 * 24 → j ∈ L27 := fun j a0 a1 => hup _ (mF400 j a0 a1)
                    replace m_H : 5 ∈ L27 := hup _ m_H
                    replace mF200 : ∀ j : Nat, 200 ≤ j → j < 200 + 2 * k → j ∈ L27 := fun j a0 a1 => hup _ (mF200 j a0 a1)
                    replace mHS : ∀ j : Nat, 100 ≤ j → j < 100 + 10 * k → j % 10 < V + 5 → j ∈ L27 := fun j a0 a1 a2 => hup _ (mHS j a0 a1 a2)
                    have m_ob : 200 + 2 * k ∈ L27 := by rw [eL27]; exact List.mem_append_right _ List.mem_cons_self
                    replace hA : ∀ q : Nat, cx_A L27 ad sz q → cx_A L ad sz q := fun q hq9 => hA q (cx_A.down (fun j hj => by rw [eL27] at hj; rcases List.mem_append.mp hj with h | h; exact Or.inl h; exact Or.inr (by rw [List.mem_singleton.mp h]; omega)) q hq9)
                    replace hH : H.size = hB k + 1 := by omega
                    clear eg27 eL27 hk27 hH27 hup hg27
                    refine lv_dup hx hb dX5_init_188 rfl ?_
                    refine lv_iload hx hb dX5_init_189 (lv_at hl 1 rfl) ?_
                    refine cx_Iv (As := [.int (nI (V + 1))]) (rest := [.ref (ad (200 + 2 * k)), .int (nI k), .ref (ad 5)]) (na := (V + 1 + 5)) (mc := 10) (ms := 48) ⟨hx, hb, hml, hown, hts⟩ (c_X1_init hD (h := 200 + 2 * k) (b := 100 + 10 * k) (mb := 201 + 2 * k) (n := V + 1) (by omega) (by omega) (by omega) (by omega) (by omega) (fun i hi => by have := had4 i hi; omega) (by omega) (by omega) (by omega) (by omega) c_ob (fun j hj => by rw [hj]; exact m_ob)) (cwI 1 hts gX5_init_X1_init rfl rfl rfl (hts _ wd_X5_init_38) (hts _ wd_X5_init_39) (hts _ wd_X5_init_40) rfl (by decide +kernel) ⟨Nat.le_of_ble_eq_true rfl, Nat.le_of_ble_eq_true rfl⟩) hK hY hP hS hz ⟨(show 120 + 11 * k + 1 + 10 ≤ 300 by omega), (show 600 + 60 * k + 3 + 48 ≤ 1600 by omega)⟩ rfl hl.1 rfl (Nat.le_of_ble_eq_true rfl) dX5_init_191 (fun u28 H locs hp28 hlk28 hP hD hH28 hAn28 hS => ?_)
                    obtain ⟨L28, g28⟩ := u28
                    dsimp only at hp28 hlk28 hP hD hAn28 hS
                    replace hLL : ∀ j : Nat, j ∈ L → j ∈ L28 := fun j h => hlk28 j (hLL j h)
                    replace hA : ∀ q : Nat, cx_A L28 ad sz q → cx_A L ad sz q := fun q h => hA q (hAn28 q h)
                    replace m_o : 0 ∈ L28 := hlk28 _ m_o
                    replace m_d : 1 ∈ L28 := hlk28 _ m_d
                    replace m_w : 3 ∈ L28 := hlk28 _ m_w
                    replace m_v : 2 ∈ L28 := hlk28 _ m_v
                    replace mSp : ∀ j : Nat, 180 ≤ j → j < 185 + V → j ∈ L28 := fun j a0 a1 => hlk28 _ (mSp j a0 a1)
                    replace m_E : 4 ∈ L28 := hlk28 _ m_E
                    replace mF300 : ∀ j : Nat, 300 ≤ j → j < 300 + 2 * 20 → j ∈ L28 := fun j a0 a1 => hlk28 _ (mF300 j a0 a1)
                    replace m_N : 7 ∈ L28 := hlk28 _ m_N
                    replace mF400 : ∀ j : Nat, 400 ≤ j → j < 400 + 2 * 24 → j ∈ L28 := fun j a0 a1 => hlk28 _ (mF400 j a0 a1)
                    replace m_H : 5 ∈ L28 := hlk28 _ m_H
                    replace mF200 : ∀ j : Nat, 200 ≤ j → j < 200 + 2 * k → j ∈ L28 := fun j a0 a1 => hlk28 _ (mF200 j a0 a1)
                    replace mHS : ∀ j : Nat, 100 ≤ j → j < 100 + 10 * k → j % 10 < V + 5 → j ∈ L28 := fun j a0 a1 a2 => hlk28 _ (mHS j a0 a1 a2)
                    replace m_ob : 200 + 2 * k ∈ L28 := hlk28 _ m_ob
                    replace hH : H.size = hB k + 1 + (V + 1 + 5) := by omega
                    obtain ⟨hp28m, hp28f, hp28o, hp28x, hp28s⟩ := hp28
                    replace c_o : g28 0 = .inr (5, [.int (nI V), .ref (ad 1), .ref (ad 4), .int (nI 0), .int (nI 0), .ref (ad 5), .null, .int (nI 0), .int (if false = true then 1 else 0), .int (nI 0), .ref (ad 2), .ref (ad 7), .int (nI 0), .ref (ad 180), .ref (ad 3)]) := (hp28f 0 (by omega)).trans c_o
                    replace c_d : g28 1 = nA G (V + 1) (vN (fun _ => 0)) := (hp28f 1 (by omega)).trans c_d
                    replace c_w : g28 3 = nA G (V + 1) (vN (fun _ => 0)) := (hp28f 3 (by omega)).trans c_w
                    replace c_v : g28 2 = nA G (V + 1) (vN (nu (fun _ => 0) 0 1)) := (hp28f 2 (by omega)).trans c_v
                    replace c_E : g28 4 = rA (G.2 2) 20 (fun i => if i < 20 then some (ad (300 + 2 * i)) else none) := (hp28f 4 (by omega)).trans c_E
                    replace c_N : g28 7 = rA (G.2 4) 24 (fun i => if i < 24 then some (ad (400 + 2 * i)) else none) := (hp28f 7 (by omega)).trans c_N
                    replace c_H : g28 5 = rA (G.2 3) N (fun i => if i < k then some (ad (200 + 2 * i)) else none) := (hp28f 5 (by omega)).trans c_H
                    replace sp0 : SpanAt G ad g28 180 (V + 1) (fun _ => false) (fun _ _ => 0) (fun _ => 0) := sp0.kept (fun j q1 q2 => hp28f j (by omega))
                    replace hE9 : ∀ i : Nat, i < 20 → g28 (300 + 2 * i) = .inr (0, [.int (nI 0), .int (nI 0), .int (nI 0), .int (nI 0), .ref (ad (301 + 2 * i))]) ∧ g28 (301 + 2 * i) = nA G (V + 1) (vN (fun _ => 0)) := fun i hi => ⟨(hp28f (300 + 2 * i) (by omega)).trans (hE9 i hi).1, (hp28f (301 + 2 * i) (by omega)).trans (hE9 i hi).2⟩
                    replace hN9 : ∀ i : Nat, i < 24 → g28 (400 + 2 * i) = .inr (2, [.int (nI 0), .ref (ad (401 + 2 * i))]) ∧ g28 (401 + 2 * i) = nA G (V + 1) (vN (fun _ => 0)) := fun i hi => ⟨(hp28f (400 + 2 * i) (by omega)).trans (hN9 i hi).1, (hp28f (401 + 2 * i) (by omega)).trans (hN9 i hi).2⟩
                    replace hH9 : ∀ i : Nat, i < k → g28 (200 + 2 * i) = .inr (1, [.ref (ad (100 + 10 * i)), .ref (ad (201 + 2 * i)), .int (nI 0)]) ∧ g28 (201 + 2 * i) = nA G (V + 1) (fun _ => 0) ∧ SpanAt G ad g28 (100 + 10 * i) (V + 1) (fun _ => false) (fun _ _ => 0) (fun _ => 0) := fun i hi => ⟨(hp28f (200 + 2 * i) (by omega)).trans (hH9 i hi).1, (hp28f (201 + 2 * i) (by omega)).trans (hH9 i hi).2.1, (hH9 i hi).2.2.kept (fun j q1 q2 => hp28f j (by omega))⟩
                    replace mF200 : ∀ j : Nat, 200 ≤ j → j < 200 + 2 * (k + 1) → j ∈ L28 := fun j a b => by by_cases e9 : j < 200 + 2 * k; exact mF200 j a e9; exact hp28m j (by omega)
                    replace mHS : ∀ j : Nat, 100 ≤ j → j < 100 + 10 * (k + 1) → j % 10 < V + 5 → j ∈ L28 := fun j a b c9 => by by_cases e9 : j < 100 + 10 * k; exact mHS j a e9 c9; exact hp28m j (by omega)
                    replace c_ob := hp28o
                    replace hH9 : ∀ i : Nat, i < k + 1 → g28 (200 + 2 * i) = .inr (1, [.ref (ad (100 + 10 * i)), .ref (ad (201 + 2 * i)), .int (nI 0)]) ∧ g28 (201 + 2 * i) = nA G (V + 1) (fun _ => 0) ∧ SpanAt G ad g28 (100 + 10 * i) (V + 1) (fun _ => false) (fun _ _ => 0) (fun _ => 0) := fam_s hH9 ⟨hp28o, hp28x, hp28s⟩
                    clear hlk28 hAn28 hH28
                    refine ax_aast (k := 5) (kv := 200 + 2 * k) (t := 3) (ci := 1) (i := k) (f2 := fun i => if i < k + 1 then some (ad (200 + 2 * i)) else none) hx hb hK hP hD hS m_H m_ob rfl rfl c_H c_ob (by omega) (by omega) (nu_fam (fun i => ad (200 + 2 * i)) k) dX5_init_194 (fun H locs g29 eg29 hH29 hP hS => ?_)
                    replace c_o : g29 0 = .inr (5, [.int (nI V), .ref (ad 1), .ref (ad 4), .int (nI 0), .int (nI 0), .ref (ad 5), .null, .int (nI 0), .int (if false = true then 1 else 0), .int (nI 0), .ref (ad 2), .ref (ad 7), .int (nI 0), .ref (ad 180), .ref (ad 3)]) := (cx_ne eg29 0 (by decide)).trans c_o
                    replace c_d : g29 1 = nA G (V + 1) (vN (fun _ => 0)) := (cx_ne eg29 1 (by decide)).trans c_d
                    replace c_w : g29 3 = nA G (V + 1) (vN (fun _ => 0)) := (cx_ne eg29 3 (by decide)).trans c_w
                    replace c_v : g29 2 = nA G (V + 1) (vN (nu (fun _ => 0) 0 1)) := (cx_ne eg29 2 (by decide)).trans c_v
                    replace c_E : g29 4 = rA (G.2 2) 20 (fun i => if i < 20 then some (ad (300 + 2 * i)) else none) := (cx_ne eg29 4 (by decide)).trans c_E
                    replace c_N : g29 7 = rA (G.2 4) 24 (fun i => if i < 24 then some (ad (400 + 2 * i)) else none) := (cx_ne eg29 7 (by decide)).trans c_N
                    replace c_ob : g29 (200 + 2 * k) = .inr (1, [.ref (ad (100 + 10 * k)), .ref (ad (201 + 2 * k)), .int (nI 0)]) := (cx_ne eg29 (200 + 2 * k) (by omega)).trans c_ob
                    replace sp0 : SpanAt G ad g29 180 (V + 1) (fun _ => false) (fun _ _ => 0) (fun _ => 0) := sp0.kept (fun j q1 q2 => cx_ne eg29 j (by omega))
                    replace hE9 : ∀ i : Nat, i < 20 → g29 (300 + 2 * i) = .inr (0, [.int (nI 0), .int (nI 0), .int (nI 0), .int (nI 0), .ref (ad (301 + 2 * i))]) ∧ g29 (301 + 2 * i) = nA G (V + 1) (vN (fun _ => 0)) := fun i hi => ⟨(cx_ne eg29 (300 + 2 * i) (by omega)).trans (hE9 i hi).1, (cx_ne eg29 (301 + 2 * i) (by omega)).trans (hE9 i hi).2⟩
                    replace hN9 : ∀ i : Nat, i < 24 → g29 (400 + 2 * i) = .inr (2, [.int (nI 0), .ref (ad (401 + 2 * i))]) ∧ g29 (401 + 2 * i) = nA G (V + 1) (vN (fun _ => 0)) := fun i hi => ⟨(cx_ne eg29 (400 + 2 * i) (by omega)).trans (hN9 i hi).1, (cx_ne eg29 (401 + 2 * i) (by omega)).trans (hN9 i hi).2⟩
                    replace hH9 : ∀ i : Nat, i < k + 1 → g29 (200 + 2 * i) = .inr (1, [.ref (ad (100 + 10 * i)), .ref (ad (201 + 2 * i)), .int (nI 0)]) ∧ g29 (201 + 2 * i) = nA G (V + 1) (fun _ => 0) ∧ SpanAt G ad g29 (100 + 10 * i) (V + 1) (fun _ => false) (fun _ _ => 0) (fun _ => 0) := fun i hi => ⟨(cx_ne eg29 (200 + 2 * i) (by omega)).trans (hH9 i hi).1, (cx_ne eg29 (201 + 2 * i) (by omega)).trans (hH9 i hi).2.1, (hH9 i hi).2.2.kept (fun j q1 q2 => cx_ne eg29 j (by omega))⟩
                    replace c_H : g29 5 = rA (G.2 3) N (fun i => if i < k + 1 then some (ad (200 + 2 * i)) else none) := cx_eq eg29
                    clear eg29
                    replace hH : H.size = hB k + 1 + (V + 1 + 5) := by omega
                    clear hH29
                    refine lv_iinc (v := nI (k + 1)) (lv' := [(5, .int (nI (k + 1))), (4, .int (nI (V + 1))), (3, .int (nI N)), (0, .ref (ad 0))]) hx hb dX5_init_195 hl (k := 0) rfl (nI_1 _) (by decide) rfl (fun ls hl => ?_)
                    refine lv_goto (tgt := 173) hx hb dX5_init_198 (by decide) ?_
                    refine cx_wide (k := 120 + 11 * (k + 1)) (n := 600 + 60 * (k + 1)) ⟨(by omega), (by omega)⟩ ?_
                    exact ih173 (k + 1) h176 (by omega) L28 g29 _ _ _ c_o c_d c_w c_v c_E c_N c_H sp0 hE9 hN9 hH9 m_o m_d m_w m_v mSp m_E mF300 m_N mF400 m_H mF200 mHS hLL hA (by omega) hP hD hS (lv_sub hl [0, 1, 2, 3] rfl)
              refine cx_wide (k := 120 + 11 * 0) (n := 600 + 60 * 0) ⟨(by omega), (by omega)⟩ ?_
              exact LP173 ((N - 0) + 1) 0 (Nat.zero_le _) (Nat.lt_succ_self _) L18 g19 _ _ _ c_o c_d c_w c_v c_E c_N c_H sp0 hE9 hN9 (fun i hi => absurd hi (Nat.not_lt_zero i)) m_o m_d m_w m_v mSp m_E mF300 m_N mF400 m_H (fun j a b => absurd b (by omega)) (fun j a b c9 => absurd b (by omega)) hLL hA (by omega) hP hD hS (lv_sub hl [0, 1, 2, 3] rfl)
            · skip
              obtain ⟨had1, had2⟩ := hadx.kN k h137
              refine lv_aload_n hx hb dX5_init_140 rfl (lv_at hl 3 rfl) ?_
              refine ax_get (k := 0) (v := .ref (ad 7)) hx hb hts in_X5_init_X5 hown hK hP m_o c_o rfl 11 (by decide) (hts _ wd_X5_init_26) (fun _ h9 => h9) rfl dX5_init_141 ?_
              refine lv_iload hx hb dX5_init_144 (lv_at hl 0 rfl) ?_
              have hg30 : sz ≤ H.size := Nat.le_trans hz hS.1
              have hk30 : ad (400 + 2 * k) = H.size := by omega
              refine ax_new (k := 400 + 2 * k) (ci := 2) (fs := [.int (nI 0), .null]) (C := RX2) (T := TX2) (N := 2) hx hb hts in_X5_init_X2 tyX2 tyX2_ok hown (hts _ wd_X5_init_25) (hts _ wd_X5_init_42) (hts _ wd_X5_init_43) hK hP hD hS hk30 rfl (fun j hj => by rcases (show j = 0 ∨ j = 1 by omega) with rfl | rfl <;> rfl) (show 70 + 2 * k + 1 ≤ 300 by omega) (show 350 + 10 * k + 2 ≤ 1600 by omega) dX5_init_146 (fun L30 H g30 eL30 eg30 hH30 hP hD hS => ?_)
              replace c_o : g30 0 = .inr (5, [.int (nI V), .ref (ad 1), .ref (ad 4), .int (nI 0), .int (nI 0), .null, .null, .int (nI 0), .int (if false = true then 1 else 0), .int (nI 0), .ref (ad 2), .ref (ad 7), .int (nI 0), .ref (ad 180), .ref (ad 3)]) := (cx_ne eg30 0 (by omega)).trans c_o
              replace c_d : g30 1 = nA G (V + 1) (vN (fun _ => 0)) := (cx_ne eg30 1 (by omega)).trans c_d
              replace c_w : g30 3 = nA G (V + 1) (vN (fun _ => 0)) := (cx_ne eg30 3 (by omega)).trans c_w
              replace c_v : g30 2 = nA G (V + 1) (vN (nu (fun _ => 0) 0 1)) := (cx_ne eg30 2 (by omega)).trans c_v
              replace c_E : g30 4 = rA (G.2 2) 20 (fun i => if i < 20 then some (ad (300 + 2 * i)) else none) := (cx_ne eg30 4 (by omega)).trans c_E
              replace c_N : g30 7 = rA (G.2 4) 24 (fun i => if i < k then some (ad (400 + 2 * i)) else none) := (cx_ne eg30 7 (by omega)).trans c_N
              replace sp0 : SpanAt G ad g30 180 (V + 1) (fun _ => false) (fun _ _ => 0) (fun _ => 0) := sp0.kept (fun j q1 q2 => cx_ne eg30 j (by omega))
              replace hE9 : ∀ i : Nat, i < 20 → g30 (300 + 2 * i) = .inr (0, [.int (nI 0), .int (nI 0), .int (nI 0), .int (nI 0), .ref (ad (301 + 2 * i))]) ∧ g30 (301 + 2 * i) = nA G (V + 1) (vN (fun _ => 0)) := fun i hi => ⟨(cx_ne eg30 (300 + 2 * i) (by omega)).trans (hE9 i hi).1, (cx_ne eg30 (301 + 2 * i) (by omega)).trans (hE9 i hi).2⟩
              replace hN9 : ∀ i : Nat, i < k → g30 (400 + 2 * i) = .inr (2, [.int (nI 0), .ref (ad (401 + 2 * i))]) ∧ g30 (401 + 2 * i) = nA G (V + 1) (vN (fun _ => 0)) := fun i hi => ⟨(cx_ne eg30 (400 + 2 * i) (by omega)).trans (hN9 i hi).1, (cx_ne eg30 (401 + 2 * i) (by omega)).trans (hN9 i hi).2⟩
              replace c_ob : g30 (400 + 2 * k) = .inr (2, [.int (nI 0), .null]) := cx_eq eg30
              have hup : ∀ j : Nat, j ∈ Lx17 → j ∈ L30 := fun j h => by rw [eL30]; exact List.mem_append_left _ h
              replace hLL : ∀ j : Nat, j ∈ L → j ∈ L30 := fun j h => hup j (hLL j h)
              replace m_o : 0 ∈ L30 := hup _ m_o
              replace m_d : 1 ∈ L30 := hup _ m_d
              replace m_w : 3 ∈ L30 := hup _ m_w
              replace m_v : 2 ∈ L30 := hup _ m_v
              replace mSp : ∀ j : Nat, 180 ≤ j → j < 185 + V → j ∈ L30 := fun j a0 a1 => hup _ (mSp j a0 a1)
              replace m_E : 4 ∈ L30 := hup _ m_E
              replace mF300 : ∀ j : Nat, 300 ≤ j → j < 300 + 2 * 20 → j ∈ L30 := fun j a0 a1 => hup _ (mF300 j a0 a1)
              replace m_N : 7 ∈ L30 := hup _ m_N
              replace mF400 : ∀ j : Nat, 400 ≤ j → j < 400 + 2 * k → j ∈ L30 := fun j a0 a1 => hup _ (mF400 j a0 a1)
              have m_ob : 400 + 2 * k ∈ L30 := by rw [eL30]; exact List.mem_append_right _ List.mem_cons_self
              replace hA : ∀ q : Nat, cx_A L30 ad sz q → cx_A L ad sz q := fun q hq9 => hA q (cx_A.down (fun j hj => by rw [eL30] at hj; rcases List.mem_append.mp hj with h | h; exact Or.inl h; exact Or.inr (by rw [List.mem_singleton.mp h]; omega)) q hq9)
              replace hH : H.size = sz + 49 + (V + 1) + 2 * k + 1 := by omega
              clear eg30 eL30 hk30 hH30 hup hg30
              refine lv_dup hx hb dX5_init_149 rfl ?_
              refine lv_iload hx hb dX5_init_150 (lv_at hl 1 rfl) ?_
              refine cx_Iv (As := [.int (nI (V + 1))]) (rest := [.ref (ad (400 + 2 * k)), .int (nI k), .ref (ad 7)]) (na := 1) (mc := 1) (ms := 5) ⟨hx, hb, hml, hown, hts⟩ (c_X2_init hD (k := 400 + 2 * k) (n := V + 1) (by rw [show 400 + 2 * k + 1 = 401 + 2 * k by omega]; omega) (by omega) c_ob (fun j hj => by rw [hj]; exact m_ob)) (cwI 1 hts gX5_init_X2_init rfl rfl rfl (hts _ wd_X5_init_43) (hts _ wd_X5_init_44) (hts _ wd_X5_init_45) rfl (by decide +kernel) ⟨Nat.le_of_ble_eq_true rfl, Nat.le_of_ble_eq_true rfl⟩) hK hY hP hS hz ⟨(show 70 + 2 * k + 1 + 1 ≤ 300 by omega), (show 350 + 10 * k + 2 + 5 ≤ 1600 by omega)⟩ rfl hl.1 rfl (Nat.le_of_ble_eq_true rfl) dX5_init_152 (fun u31 H locs hp31 hlk31 hP hD hH31 hAn31 hS => ?_)
              obtain ⟨L31, g31⟩ := u31
              dsimp only at hp31 hlk31 hP hD hAn31 hS
              replace hLL : ∀ j : Nat, j ∈ L → j ∈ L31 := fun j h => hlk31 j (hLL j h)
              replace hA : ∀ q : Nat, cx_A L31 ad sz q → cx_A L ad sz q := fun q h => hA q (hAn31 q h)
              replace m_o : 0 ∈ L31 := hlk31 _ m_o
              replace m_d : 1 ∈ L31 := hlk31 _ m_d
              replace m_w : 3 ∈ L31 := hlk31 _ m_w
              replace m_v : 2 ∈ L31 := hlk31 _ m_v
              replace mSp : ∀ j : Nat, 180 ≤ j → j < 185 + V → j ∈ L31 := fun j a0 a1 => hlk31 _ (mSp j a0 a1)
              replace m_E : 4 ∈ L31 := hlk31 _ m_E
              replace mF300 : ∀ j : Nat, 300 ≤ j → j < 300 + 2 * 20 → j ∈ L31 := fun j a0 a1 => hlk31 _ (mF300 j a0 a1)
              replace m_N : 7 ∈ L31 := hlk31 _ m_N
              replace mF400 : ∀ j : Nat, 400 ≤ j → j < 400 + 2 * k → j ∈ L31 := fun j a0 a1 => hlk31 _ (mF400 j a0 a1)
              replace m_ob : 400 + 2 * k ∈ L31 := hlk31 _ m_ob
              replace hH : H.size = sz + 49 + (V + 1) + 2 * k + 1 + 1 := by omega
              obtain ⟨hp31m, hp31f, hp31o, hp31x⟩ := hp31
              rw [show 400 + 2 * k + 1 = 401 + 2 * k by omega] at hp31f hp31o hp31x
              replace c_o : g31 0 = .inr (5, [.int (nI V), .ref (ad 1), .ref (ad 4), .int (nI 0), .int (nI 0), .null, .null, .int (nI 0), .int (if false = true then 1 else 0), .int (nI 0), .ref (ad 2), .ref (ad 7), .int (nI 0), .ref (ad 180), .ref (ad 3)]) := (hp31f 0 (by omega)).trans c_o
              replace c_d : g31 1 = nA G (V + 1) (vN (fun _ => 0)) := (hp31f 1 (by omega)).trans c_d
              replace c_w : g31 3 = nA G (V + 1) (vN (fun _ => 0)) := (hp31f 3 (by omega)).trans c_w
              replace c_v : g31 2 = nA G (V + 1) (vN (nu (fun _ => 0) 0 1)) := (hp31f 2 (by omega)).trans c_v
              replace c_E : g31 4 = rA (G.2 2) 20 (fun i => if i < 20 then some (ad (300 + 2 * i)) else none) := (hp31f 4 (by omega)).trans c_E
              replace c_N : g31 7 = rA (G.2 4) 24 (fun i => if i < k then some (ad (400 + 2 * i)) else none) := (hp31f 7 (by omega)).trans c_N
              replace sp0 : SpanAt G ad g31 180 (V + 1) (fun _ => false) (fun _ _ => 0) (fun _ => 0) := sp0.kept (fun j q1 q2 => hp31f j (by omega))
              replace hE9 : ∀ i : Nat, i < 20 → g31 (300 + 2 * i) = .inr (0, [.int (nI 0), .int (nI 0), .int (nI 0), .int (nI 0), .ref (ad (301 + 2 * i))]) ∧ g31 (301 + 2 * i) = nA G (V + 1) (vN (fun _ => 0)) := fun i hi => ⟨(hp31f (300 + 2 * i) (by omega)).trans (hE9 i hi).1, (hp31f (301 + 2 * i) (by omega)).trans (hE9 i hi).2⟩
              replace hN9 : ∀ i : Nat, i < k → g31 (400 + 2 * i) = .inr (2, [.int (nI 0), .ref (ad (401 + 2 * i))]) ∧ g31 (401 + 2 * i) = nA G (V + 1) (vN (fun _ => 0)) := fun i hi => ⟨(hp31f (400 + 2 * i) (by omega)).trans (hN9 i hi).1, (hp31f (401 + 2 * i) (by omega)).trans (hN9 i hi).2⟩
              replace mF400 : ∀ j : Nat, 400 ≤ j → j < 400 + 2 * (k + 1) → j ∈ L31 := fun j a b => by by_cases e9 : j < 400 + 2 * k; exact mF400 j a e9; exact hp31m j (by omega)
              replace c_ob := hp31o
              replace hN9 : ∀ i : Nat, i < k + 1 → g31 (400 + 2 * i) = .inr (2, [.int (nI 0), .ref (ad (401 + 2 * i))]) ∧ g31 (401 + 2 * i) = nA G (V + 1) (vN (fun _ => 0)) := fam_s hN9 ⟨hp31o, hp31x⟩
              clear hlk31 hAn31 hH31
              refine ax_aast (k := 7) (kv := 400 + 2 * k) (t := 4) (ci := 2) (i := k) (f2 := fun i => if i < k + 1 then some (ad (400 + 2 * i)) else none) hx hb hK hP hD hS m_N m_ob rfl rfl c_N c_ob (by omega) (by omega) (nu_fam (fun i => ad (400 + 2 * i)) k) dX5_init_155 (fun H locs g32 eg32 hH32 hP hS => ?_)
              replace c_o : g32 0 = .inr (5, [.int (nI V), .ref (ad 1), .ref (ad 4), .int (nI 0), .int (nI 0), .null, .null, .int (nI 0), .int (if false = true then 1 else 0), .int (nI 0), .ref (ad 2), .ref (ad 7), .int (nI 0), .ref (ad 180), .ref (ad 3)]) := (cx_ne eg32 0 (by decide)).trans c_o
              replace c_d : g32 1 = nA G (V + 1) (vN (fun _ => 0)) := (cx_ne eg32 1 (by decide)).trans c_d
              replace c_w : g32 3 = nA G (V + 1) (vN (fun _ => 0)) := (cx_ne eg32 3 (by decide)).trans c_w
              replace c_v : g32 2 = nA G (V + 1) (vN (nu (fun _ => 0) 0 1)) := (cx_ne eg32 2 (by decide)).trans c_v
              replace c_E : g32 4 = rA (G.2 2) 20 (fun i => if i < 20 then some (ad (300 + 2 * i)) else none) := (cx_ne eg32 4 (by decide)).trans c_E
              replace c_ob : g32 (400 + 2 * k) = .inr (2, [.int (nI 0), .ref (ad (401 + 2 * k))]) := (cx_ne eg32 (400 + 2 * k) (by omega)).trans c_ob
              replace sp0 : SpanAt G ad g32 180 (V + 1) (fun _ => false) (fun _ _ => 0) (fun _ => 0) := sp0.kept (fun j q1 q2 => cx_ne eg32 j (by omega))
              replace hE9 : ∀ i : Nat, i < 20 → g32 (300 + 2 * i) = .inr (0, [.int (nI 0), .int (nI 0), .int (nI 0), .int (nI 0), .ref (ad (301 + 2 * i))]) ∧ g32 (301 + 2 * i) = nA G (V + 1) (vN (fun _ => 0)) := fun i hi => ⟨(cx_ne eg32 (300 + 2 * i) (by omega)).trans (hE9 i hi).1, (cx_ne eg32 (301 + 2 * i) (by omega)).trans (hE9 i hi).2⟩
              replace hN9 : ∀ i : Nat, i < k + 1 → g32 (400 + 2 * i) = .inr (2, [.int (nI 0), .ref (ad (401 + 2 * i))]) ∧ g32 (401 + 2 * i) = nA G (V + 1) (vN (fun _ => 0)) := fun i hi => ⟨(cx_ne eg32 (400 + 2 * i) (by omega)).trans (hN9 i hi).1, (cx_ne eg32 (401 + 2 * i) (by omega)).trans (hN9 i hi).2⟩
              replace c_N : g32 7 = rA (G.2 4) 24 (fun i => if i < k + 1 then some (ad (400 + 2 * i)) else none) := cx_eq eg32
              clear eg32
              replace hH : H.size = sz + 49 + (V + 1) + 2 * k + 1 + 1 := by omega
              clear hH32
              refine lv_iinc (v := nI (k + 1)) (lv' := [(5, .int (nI (k + 1))), (4, .int (nI (V + 1))), (3, .int (nI N)), (0, .ref (ad 0))]) hx hb dX5_init_156 hl (k := 0) rfl (nI_1 _) (by decide) rfl (fun ls hl => ?_)
              refine lv_goto (tgt := 133) hx hb dX5_init_159 (by decide) ?_
              refine cx_wide (k := 70 + 2 * (k + 1)) (n := 350 + 10 * (k + 1)) ⟨(by omega), (by omega)⟩ ?_
              exact ih133 (k + 1) h137 (by omega) L31 g32 _ _ _ c_o c_d c_w c_v c_E c_N sp0 hE9 hN9 m_o m_d m_w m_v mSp m_E mF300 m_N mF400 hLL hA (by omega) hP hD hS (lv_sub hl [0, 1, 2, 3] rfl)
        refine cx_wide (k := 70 + 2 * 0) (n := 350 + 10 * 0) ⟨(by omega), (by omega)⟩ ?_
        exact LP133 ((24 - 0) + 1) 0 (Nat.zero_le _) (Nat.lt_succ_self _) L15 g16 _ _ _ c_o c_d c_w c_v c_E c_N sp0 hE9 (fun i hi => absurd hi (Nat.not_lt_zero i)) m_o m_d m_w m_v mSp m_E mF300 m_N (fun j a b => absurd b (by omega)) hLL hA (by omega) hP hD hS (lv_sub hl [0, 1, 2, 3] rfl)
      · skip
        obtain ⟨had1, had2⟩ := hadx.kE k h96
        refine lv_aload_n hx hb dX5_init_99 rfl (lv_at hl 3 rfl) ?_
        refine ax_get (k := 0) (v := .ref (ad 4)) hx hb hts in_X5_init_X5 hown hK hP m_o c_o rfl 2 (by decide) (hts _ wd_X5_init_24) (fun _ h9 => h9) rfl dX5_init_100 ?_
        refine lv_iload hx hb dX5_init_103 (lv_at hl 0 rfl) ?_
        have hg33 : sz ≤ H.size := Nat.le_trans hz hS.1
        have hk33 : ad (300 + 2 * k) = H.size := by omega
        refine ax_new (k := 300 + 2 * k) (ci := 0) (fs := [.int (nI 0), .int (nI 0), .int (nI 0), .int (nI 0), .null]) (C := RX0) (T := TX0) (N := 5) hx hb hts in_X5_init_X0 tyX0 tyX0_ok hown (hts _ wd_X5_init_23) (hts _ wd_X5_init_47) (hts _ wd_X5_init_48) hK hP hD hS hk33 rfl (fun j hj => by rcases (show j = 0 ∨ j = 1 ∨ j = 2 ∨ j = 3 ∨ j = 4 by omega) with rfl | rfl | rfl | rfl | rfl <;> rfl) (show 20 + 2 * k + 1 ≤ 300 by omega) (show 100 + 10 * k + 5 ≤ 1600 by omega) dX5_init_105 (fun L33 H g33 eL33 eg33 hH33 hP hD hS => ?_)
        replace c_o : g33 0 = .inr (5, [.int (nI V), .ref (ad 1), .ref (ad 4), .int (nI 0), .int (nI 0), .null, .null, .int (nI 0), .int (if false = true then 1 else 0), .int (nI 0), .ref (ad 2), .null, .int (nI 0), .ref (ad 180), .ref (ad 3)]) := (cx_ne eg33 0 (by omega)).trans c_o
        replace c_d : g33 1 = nA G (V + 1) (vN (fun _ => 0)) := (cx_ne eg33 1 (by omega)).trans c_d
        replace c_w : g33 3 = nA G (V + 1) (vN (fun _ => 0)) := (cx_ne eg33 3 (by omega)).trans c_w
        replace c_v : g33 2 = nA G (V + 1) (vN (nu (fun _ => 0) 0 1)) := (cx_ne eg33 2 (by omega)).trans c_v
        replace c_E : g33 4 = rA (G.2 2) 20 (fun i => if i < k then some (ad (300 + 2 * i)) else none) := (cx_ne eg33 4 (by omega)).trans c_E
        replace sp0 : SpanAt G ad g33 180 (V + 1) (fun _ => false) (fun _ _ => 0) (fun _ => 0) := sp0.kept (fun j q1 q2 => cx_ne eg33 j (by omega))
        replace hE9 : ∀ i : Nat, i < k → g33 (300 + 2 * i) = .inr (0, [.int (nI 0), .int (nI 0), .int (nI 0), .int (nI 0), .ref (ad (301 + 2 * i))]) ∧ g33 (301 + 2 * i) = nA G (V + 1) (vN (fun _ => 0)) := fun i hi => ⟨(cx_ne eg33 (300 + 2 * i) (by omega)).trans (hE9 i hi).1, (cx_ne eg33 (301 + 2 * i) (by omega)).trans (hE9 i hi).2⟩
        replace c_ob : g33 (300 + 2 * k) = .inr (0, [.int (nI 0), .int (nI 0), .int (nI 0), .int (nI 0), .null]) := cx_eq eg33
        have hup : ∀ j : Nat, j ∈ Lx14 → j ∈ L33 := fun j h => by rw [eL33]; exact List.mem_append_left _ h
        replace hLL : ∀ j : Nat, j ∈ L → j ∈ L33 := fun j h => hup j (hLL j h)
        replace m_o : 0 ∈ L33 := hup _ m_o
        replace m_d : 1 ∈ L33 := hup _ m_d
        replace m_w : 3 ∈ L33 := hup _ m_w
        replace m_v : 2 ∈ L33 := hup _ m_v
        replace mSp : ∀ j : Nat, 180 ≤ j → j < 185 + V → j ∈ L33 := fun j a0 a1 => hup _ (mSp j a0 a1)
        replace m_E : 4 ∈ L33 := hup _ m_E
        replace mF300 : ∀ j : Nat, 300 ≤ j → j < 300 + 2 * k → j ∈ L33 := fun j a0 a1 => hup _ (mF300 j a0 a1)
        have m_ob : 300 + 2 * k ∈ L33 := by rw [eL33]; exact List.mem_append_right _ List.mem_cons_self
        replace hA : ∀ q : Nat, cx_A L33 ad sz q → cx_A L ad sz q := fun q hq9 => hA q (cx_A.down (fun j hj => by rw [eL33] at hj; rcases List.mem_append.mp hj with h | h; exact Or.inl h; exact Or.inr (by rw [List.mem_singleton.mp h]; omega)) q hq9)
        replace hH : H.size = sz + 8 + (V + 1) + 2 * k + 1 := by omega
        clear eg33 eL33 hk33 hH33 hup hg33
        refine lv_dup hx hb dX5_init_108 rfl ?_
        refine lv_iload hx hb dX5_init_109 (lv_at hl 1 rfl) ?_
        refine cx_Iv (As := [.int (nI (V + 1))]) (rest := [.ref (ad (300 + 2 * k)), .int (nI k), .ref (ad 4)]) (na := 1) (mc := 1) (ms := 5) ⟨hx, hb, hml, hown, hts⟩ (c_X0_init hD (k := 300 + 2 * k) (n := V + 1) (by rw [show 300 + 2 * k + 1 = 301 + 2 * k by omega]; omega) (by omega) c_ob (fun j hj => by rw [hj]; exact m_ob)) (cwI 1 hts gX5_init_X0_init rfl rfl rfl (hts _ wd_X5_init_48) (hts _ wd_X5_init_49) (hts _ wd_X5_init_50) rfl (by decide +kernel) ⟨Nat.le_of_ble_eq_true rfl, Nat.le_of_ble_eq_true rfl⟩) hK hY hP hS hz ⟨(show 20 + 2 * k + 1 + 1 ≤ 300 by omega), (show 100 + 10 * k + 5 + 5 ≤ 1600 by omega)⟩ rfl hl.1 rfl (Nat.le_of_ble_eq_true rfl) dX5_init_111 (fun u34 H locs hp34 hlk34 hP hD hH34 hAn34 hS => ?_)
        obtain ⟨L34, g34⟩ := u34
        dsimp only at hp34 hlk34 hP hD hAn34 hS
        replace hLL : ∀ j : Nat, j ∈ L → j ∈ L34 := fun j h => hlk34 j (hLL j h)
        replace hA : ∀ q : Nat, cx_A L34 ad sz q → cx_A L ad sz q := fun q h => hA q (hAn34 q h)
        replace m_o : 0 ∈ L34 := hlk34 _ m_o
        replace m_d : 1 ∈ L34 := hlk34 _ m_d
        replace m_w : 3 ∈ L34 := hlk34 _ m_w
        replace m_v : 2 ∈ L34 := hlk34 _ m_v
        replace mSp : ∀ j : Nat, 180 ≤ j → j < 185 + V → j ∈ L34 := fun j a0 a1 => hlk34 _ (mSp j a0 a1)
        replace m_E : 4 ∈ L34 := hlk34 _ m_E
        replace mF300 : ∀ j : Nat, 300 ≤ j → j < 300 + 2 * k → j ∈ L34 := fun j a0 a1 => hlk34 _ (mF300 j a0 a1)
        replace m_ob : 300 + 2 * k ∈ L34 := hlk34 _ m_ob
        replace hH : H.size = sz + 8 + (V + 1) + 2 * k + 1 + 1 := by omega
        obtain ⟨hp34m, hp34f, hp34o, hp34x⟩ := hp34
        rw [show 300 + 2 * k + 1 = 301 + 2 * k by omega] at hp34f hp34o hp34x
        replace c_o : g34 0 = .inr (5, [.int (nI V), .ref (ad 1), .ref (ad 4), .int (nI 0), .int (nI 0), .null, .null, .int (nI 0), .int (if false = true then 1 else 0), .int (nI 0), .ref (ad 2), .null, .int (nI 0), .ref (ad 180), .ref (ad 3)]) := (hp34f 0 (by omega)).trans c_o
        replace c_d : g34 1 = nA G (V + 1) (vN (fun _ => 0)) := (hp34f 1 (by omega)).trans c_d
        replace c_w : g34 3 = nA G (V + 1) (vN (fun _ => 0)) := (hp34f 3 (by omega)).trans c_w
        replace c_v : g34 2 = nA G (V + 1) (vN (nu (fun _ => 0) 0 1)) := (hp34f 2 (by omega)).trans c_v
        replace c_E : g34 4 = rA (G.2 2) 20 (fun i => if i < k then some (ad (300 + 2 * i)) else none) := (hp34f 4 (by omega)).trans c_E
        replace sp0 : SpanAt G ad g34 180 (V + 1) (fun _ => false) (fun _ _ => 0) (fun _ => 0) := sp0.kept (fun j q1 q2 => hp34f j (by omega))
        replace hE9 : ∀ i : Nat, i < k → g34 (300 + 2 * i) = .inr (0, [.int (nI 0), .int (nI 0), .int (nI 0), .int (nI 0), .ref (ad (301 + 2 * i))]) ∧ g34 (301 + 2 * i) = nA G (V + 1) (vN (fun _ => 0)) := fun i hi => ⟨(hp34f (300 + 2 * i) (by omega)).trans (hE9 i hi).1, (hp34f (301 + 2 * i) (by omega)).trans (hE9 i hi).2⟩
        replace mF300 : ∀ j : Nat, 300 ≤ j → j < 300 + 2 * (k + 1) → j ∈ L34 := fun j a b => by by_cases e9 : j < 300 + 2 * k; exact mF300 j a e9; exact hp34m j (by omega)
        replace c_ob := hp34o
        replace hE9 : ∀ i : Nat, i < k + 1 → g34 (300 + 2 * i) = .inr (0, [.int (nI 0), .int (nI 0), .int (nI 0), .int (nI 0), .ref (ad (301 + 2 * i))]) ∧ g34 (301 + 2 * i) = nA G (V + 1) (vN (fun _ => 0)) := fam_s hE9 ⟨hp34o, hp34x⟩
        clear hlk34 hAn34 hH34
        refine ax_aast (k := 4) (kv := 300 + 2 * k) (t := 2) (ci := 0) (i := k) (f2 := fun i => if i < k + 1 then some (ad (300 + 2 * i)) else none) hx hb hK hP hD hS m_E m_ob rfl rfl c_E c_ob (by omega) (by omega) (nu_fam (fun i => ad (300 + 2 * i)) k) dX5_init_114 (fun H locs g35 eg35 hH35 hP hS => ?_)
        replace c_o : g35 0 = .inr (5, [.int (nI V), .ref (ad 1), .ref (ad 4), .int (nI 0), .int (nI 0), .null, .null, .int (nI 0), .int (if false = true then 1 else 0), .int (nI 0), .ref (ad 2), .null, .int (nI 0), .ref (ad 180), .ref (ad 3)]) := (cx_ne eg35 0 (by decide)).trans c_o
        replace c_d : g35 1 = nA G (V + 1) (vN (fun _ => 0)) := (cx_ne eg35 1 (by decide)).trans c_d
        replace c_w : g35 3 = nA G (V + 1) (vN (fun _ => 0)) := (cx_ne eg35 3 (by decide)).trans c_w
        replace c_v : g35 2 = nA G (V + 1) (vN (nu (fun _ => 0) 0 1)) := (cx_ne eg35 2 (by decide)).trans c_v
        replace c_ob : g35 (300 + 2 * k) = .inr (0, [.int (nI 0), .int (nI 0), .int (nI 0), .int (nI 0), .ref (ad (301 + 2 * k))]) := (cx_ne eg35 (300 + 2 * k) (by omega)).trans c_ob
        replace sp0 : SpanAt G ad g35 180 (V + 1) (fun _ => false) (fun _ _ => 0) (fun _ => 0) := sp0.kept (fun j q1 q2 => cx_ne eg35 j (by omega))
        replace hE9 : ∀ i : Nat, i < k + 1 → g35 (300 + 2 * i) = .inr (0, [.int (nI 0), .int (nI 0), .int (nI 0), .int (nI 0), .ref (ad (301 + 2 * i))]) ∧ g35 (301 + 2 * i) = nA G (V + 1) (vN (fun _ => 0)) := fun i hi => ⟨(cx_ne eg35 (300 + 2 * i) (by omega)).trans (hE9 i hi).1, (cx_ne eg35 (301 + 2 * i) (by omega)).trans (hE9 i hi).2⟩
        replace c_E : g35 4 = rA (G.2 2) 20 (fun i => if i < k + 1 then some (ad (300 + 2 * i)) else none) := cx_eq eg35
        clear eg35
        replace hH : H.size = sz + 8 + (V + 1) + 2 * k + 1 + 1 := by omega
        clear hH35
        refine lv_iinc (v := nI (k + 1)) (lv' := [(5, .int (nI (k + 1))), (4, .int (nI (V + 1))), (3, .int (nI N)), (0, .ref (ad 0))]) hx hb dX5_init_115 hl (k := 0) rfl (nI_1 _) (by decide) rfl (fun ls hl => ?_)
        refine lv_goto (tgt := 92) hx hb dX5_init_118 (by decide) ?_
        refine cx_wide (k := 20 + 2 * (k + 1)) (n := 100 + 10 * (k + 1)) ⟨(by omega), (by omega)⟩ ?_
        exact ih92 (k + 1) h96 (by omega) L34 g35 _ _ _ c_o c_d c_w c_v c_E sp0 hE9 m_o m_d m_w m_v mSp m_E mF300 hLL hA (by omega) hP hD hS (lv_sub hl [0, 1, 2, 3] rfl)
  refine cx_wide (k := 20 + 2 * 0) (n := 100 + 10 * 0) ⟨(by omega), (by omega)⟩ ?_
  exact LP92 ((20 - 0) + 1) 0 (Nat.zero_le _) (Nat.lt_succ_self _) L12 g13 _ _ _ c_o c_d c_w c_v c_E sp0 (fun i hi => absurd hi (Nat.not_lt_zero i)) m_o m_d m_w m_v mSp m_E (fun j a b => absurd b (by omega)) hLL hA (by omega) hP hD hS (lv_sub hl [0, 1, 2, 3] rfl)
