set_option maxRecDepth 20000 in
theorem wd_X5_holdsAtPoints_0 : Cond.fieldLink RX5 130 "AffineHulls$Hull" "pointCount" "I" ∈ wsX5_holdsAtPoints := by decide +kernel
set_option maxRecDepth 20000 in
theorem in_X5_holdsAtPoints_X1 : ∀ w ∈ u_ws RX1 TX1 3, w ∈ wsX5_holdsAtPoints := by decide +kernel
set_option maxRecDepth 20000 in
theorem wd_X5_holdsAtPoints_2 : Cond.fieldLink RX5 22 "AffineHulls" "draft" "[I" ∈ wsX5_holdsAtPoints := by decide +kernel
set_option maxRecDepth 20000 in
theorem in_X5_holdsAtPoints_X5 : ∀ w ∈ u_ws RX5 TX5 15, w ∈ wsX5_holdsAtPoints := by decide +kernel
set_option maxRecDepth 20000 in
theorem wd_X5_holdsAtPoints_4 : Cond.fieldLink RX5 64 "AffineHulls" "arrivals" "[LAffineHulls$Point;" ∈ wsX5_holdsAtPoints := by decide +kernel
set_option maxRecDepth 20000 in
theorem wd_X5_holdsAtPoints_5 : Cond.fieldLink RX5 138 "AffineHulls$Hull" "members" "[I" ∈ wsX5_holdsAtPoints := by decide +kernel
set_option maxRecDepth 20000 in
theorem wd_X5_holdsAtPoints_6 : Cond.fieldLink RX5 144 "AffineHulls$Point" "row" "[I" ∈ wsX5_holdsAtPoints := by decide +kernel
set_option maxRecDepth 20000 in
theorem in_X5_holdsAtPoints_X3 : ∀ w ∈ u_ws RX3 TX3 4, w ∈ wsX5_holdsAtPoints := by decide +kernel
abbrev rm_X5_holdsAtPoints : Room := { frames := 1, cells := 0, slots := 0, locals := 24 }
set_option maxHeartbeats 4000000 in
set_option maxRecDepth 100000 in
theorem c_X5_holdsAtPoints {l : Launch} {G : cx_G} {L : List Nat} {ad : Nat → Nat} {g : Nat → va_E} (hD : cx_D L ad) {N V M ec en al pl nc : Nat} {an : Bool} {node : Nat} {P : PS} {d : Nat → FF} (hN : N ≤ 8) (hV1 : 1 ≤ V) (hV : V ≤ 4) (hM : M = N * (V + 1)) (hM2 : M ≤ 40) (hm : ∀ j : Nat, lbX N V M j → j ∈ L) (hnode : node < N) (c_o : g 0 = .inr (5, [.int (nI V), .ref (ad 1), .ref (ad 4), .int (nI ec), .int (nI en), .ref (ad 5), .ref (ad 6), .int (nI al), .int (if an = true then 1 else 0), .int (nI pl), .ref (ad 2), .ref (ad 7), .int (nI nc), .ref (ad 180), .ref (ad 3)])) (c_d : g 1 = nA G (V + 1) (vN d)) (c_A : g 6 = rA (G.2 5) M (fun i => if i < M then some (ad (500 + 2 * i)) else none)) (xa : XA G ad g N V M P) : MI l yX5_holdsAtPoints wsX5_holdsAtPoints rm_X5_holdsAtPoints G L ad g [.ref (ad 0), .ref (ad (200 + 2 * node))] (fun r u => r = (if hldF (V + 1) d (P.2.2.2.2.1 node) (P.2.2.2.1 node) = true then 1 else 0) ∧ u = g) := by
  refine cx_ofI (cc := cX5_holdsAtPoints) (maxL := 3) (by decide +kernel) rfl (Nat.le_of_ble_eq_true rfl) ?_
  intro p e s m args below meth c Q hx hb hts hown hml hP hK hS hz hret ls hl
  have hown : s.vm.findClass RX5 = some m.cls := hown
  have hl : lv_has ls 3 [(0, .ref (ad 0)), (1, .ref (ad (200 + 2 * node)))] := hl
  have fr : ∀ j : Nat, True → g j = g j := fun _ _ => rfl
  obtain ⟨mbn, t, kp, rs, c_h, c_m, hct, hsp, hcn, hrr, hpt⟩ := xa.hull hnode
  refine lv_iconst (v := nI 0) hx hb dX5_holdsAtPoints_0 (by decide) ?_
  refine lv_istore_n (lv' := [(2, .int (nI 0)), (0, .ref (ad 0)), (1, .ref (ad (200 + 2 * node)))]) hx hb dX5_holdsAtPoints_1 rfl hl (by decide) rfl (fun ls hl => ?_)
  have LP2 : ∀ (fu : Nat) (k : Nat), (k ≤ P.2.2.2.1 node) → (∀ i : Nat, i < k → dot d (P.2.2.2.2.1 node i) (V + 1) = 0) → (P.2.2.2.1 node - k) < fu → ∀ (ga1 : Nat → va_E) (H : Heap) (locs : List Loc) (ls : Array Slot), (ga1 0 = .inr (5, [.int (nI V), .ref (ad 1), .ref (ad 4), .int (nI ec), .int (nI en), .ref (ad 5), .ref (ad 6), .int (nI al), .int (if an = true then 1 else 0), .int (nI pl), .ref (ad 2), .ref (ad 7), .int (nI nc), .ref (ad 180), .ref (ad 3)])) → (ga1 1 = nA G (V + 1) (vN d)) → (ga1 6 = rA (G.2 5) M (fun i => if i < M then some (ad (500 + 2 * i)) else none)) → (ga1 (200 + 2 * node) = .inr (1, [.ref (ad (100 + 10 * node)), .ref (ad (201 + 2 * node)), .int (nI (P.2.2.2.1 node))])) → (ga1 (201 + 2 * node) = nA G (V + 1) mbn) → (∀ j : Nat, True → ga1 j = g j) → va_P G.1 vwCl (wl L ad ga1) H → va_S (cx_A L ad s.heap.size) s.heap H locs → lv_has ls 3 [(2, .int (nI k)), (0, .ref (ad 0)), (1, .ref (ad (200 + 2 * node)))] → W p l e rm_X5_holdsAtPoints s m args below meth c H locs 0 0 Q (F0 m 2 ls []) := by
    intro fu
    induction fu with
    | zero => intro k hkn hal hfu; exact absurd hfu (Nat.not_lt_zero _)
    | succ fu ih2 =>
      intro k hkn hal hfu2 ga1 H locs ls c_o c_d c_A c_h c_m fr hP hS hl
      refine lv_iload_n hx hb dX5_holdsAtPoints_2 rfl (lv_at hl 0 rfl) ?_
      refine lv_aload_n hx hb dX5_holdsAtPoints_3 rfl (lv_at hl 2 rfl) ?_
      refine ax_get (k := 200 + 2 * node) (v := .int (nI (P.2.2.2.1 node))) hx hb hts in_X5_holdsAtPoints_X1 hown hK hP (hm _ (by unfold lbX; omega)) c_h rfl 2 (by decide) (hts _ wd_X5_holdsAtPoints_0) (fun _ h9 => h9) rfl dX5_holdsAtPoints_4 ?_
      refine ax_icge (a := k) (b := P.2.2.2.1 node) (tgt := 42) hx hb dX5_holdsAtPoints_7 (by decide) (by omega) (by omega) (fun h7 => ?_) (fun h7 => ?_)
      · skip
        refine lv_iconst (v := nI 1) hx hb dX5_holdsAtPoints_42 (by decide) ?_
        exact hret (nI 1) ga1 _ _ _ _ (by decide) ⟨hld_t (fun i hi => hal i (by omega)), funext fun j => fr j trivial⟩ hP hS dX5_holdsAtPoints_43
      · skip
        obtain ⟨hbM, ⟨a9, b9, c_p9⟩, c_pr9⟩ := hpt k h7
        have c_p := (fr _ trivial).trans c_p9
        have c_pr := (fr _ trivial).trans c_pr9
        refine lv_aload_n hx hb dX5_holdsAtPoints_10 rfl (lv_at hl 1 rfl) ?_
        refine ax_get (k := 0) (v := .ref (ad 1)) hx hb hts in_X5_holdsAtPoints_X5 hown hK hP (hm _ (by unfold lbX; omega)) c_o rfl 1 (by decide) (hts _ wd_X5_holdsAtPoints_2) (fun _ h9 => h9) rfl dX5_holdsAtPoints_11 ?_
        refine lv_aload_n hx hb dX5_holdsAtPoints_14 rfl (lv_at hl 1 rfl) ?_
        refine ax_get (k := 0) (v := .ref (ad 6)) hx hb hts in_X5_holdsAtPoints_X5 hown hK hP (hm _ (by unfold lbX; omega)) c_o rfl 6 (by decide) (hts _ wd_X5_holdsAtPoints_4) (fun _ h9 => h9) rfl dX5_holdsAtPoints_15 ?_
        refine lv_aload_n hx hb dX5_holdsAtPoints_18 rfl (lv_at hl 2 rfl) ?_
        refine ax_get (k := 200 + 2 * node) (v := .ref (ad (201 + 2 * node))) hx hb hts in_X5_holdsAtPoints_X1 hown hK hP (hm _ (by unfold lbX; omega)) c_h rfl 1 (by decide) (hts _ wd_X5_holdsAtPoints_5) (fun _ h9 => h9) rfl dX5_holdsAtPoints_19 ?_
        refine lv_iload_n hx hb dX5_holdsAtPoints_22 rfl (lv_at hl 0 rfl) ?_
        refine ax_iald (k := 201 + 2 * node) (i := k) (v := nI (mbn k)) hx hb hK hP (hm _ (by unfold lbX; omega)) c_m (by omega) (by omega) rfl dX5_holdsAtPoints_23 ?_
        refine ax_aald (k := 6) (i := mbn k) (b := ad (500 + 2 * (mbn k))) hx hb hK hP (hm _ (by unfold lbX; omega)) 5 rfl rfl c_A (by omega) (by omega) (if_pos (by omega)) dX5_holdsAtPoints_24 ?_
        refine ax_get (k := 500 + 2 * (mbn k)) (v := .ref (ad (501 + 2 * mbn k))) hx hb hts in_X5_holdsAtPoints_X3 hown hK hP (hm _ (by unfold lbX; omega)) c_p rfl 3 (by decide) (hts _ wd_X5_holdsAtPoints_6) (fun _ h9 => h9) rfl dX5_holdsAtPoints_25 ?_
        refine cx_Si (As := [.ref (ad 1), .ref (ad (501 + 2 * mbn k))]) (rest := []) ⟨hx, hb, hml, hown, hts⟩ (c_X5_valueOf hD (a := 1) (b := 501 + 2 * mbn k) (n := V + 1) (v := d) (w := P.2.2.2.2.1 node k) (hm _ (by unfold lbX; omega)) (hm _ (by unfold lbX; omega)) (by omega) c_d c_pr) (va_cwS 2 hts gX5_holdsAtPoints_X5_valueOf rfl rfl rfl (by decide +kernel) ⟨Nat.le_of_ble_eq_true rfl, Nat.le_of_ble_eq_true rfl⟩) hK hP hS hz ⟨Nat.zero_le _, Nat.zero_le _⟩ rfl hl.1 rfl (Nat.le_of_ble_eq_true rfl) dX5_holdsAtPoints_28 (fun r2 g2 H locs hp2 hP hS => ?_)
        obtain ⟨er2, ehp2g⟩ := hp2
        rw [ehp2g] at hP
        rw [er2]
        have b0 := (dot d (P.2.2.2.2.1 node k) (V + 1)).isLt
        refine ax_ifeq (a := (dot d (P.2.2.2.2.1 node k) (V + 1)).val) (tgt := 36) hx hb dX5_holdsAtPoints_31 (by decide) (by omega) (fun h31 => ?_) (fun h31 => ?_)
        · skip
          refine lv_iinc (v := nI (k + 1)) (lv' := [(2, .int (nI (k + 1))), (0, .ref (ad 0)), (1, .ref (ad (200 + 2 * node)))]) hx hb dX5_holdsAtPoints_36 hl (k := 0) rfl (nI_1 _) (by decide) rfl (fun ls hl => ?_)
          refine lv_goto (tgt := 2) hx hb dX5_holdsAtPoints_39 (by decide) ?_
          exact ih2 (k + 1) h7 (fun i hi => by by_cases q : i = k; rw [q]; exact Fin.ext h31; exact hal i (by omega)) (by omega) ga1 _ _ _ c_o c_d c_A c_h c_m  fr hP hS (lv_sub hl [0, 1, 2] rfl)
        · skip
          refine lv_iconst (v := nI 0) hx hb dX5_holdsAtPoints_34 (by decide) ?_
          exact hret (nI 0) ga1 _ _ _ _ (by decide) ⟨hld_f h7 (fn0 h31), funext fun j => fr j trivial⟩ hP hS dX5_holdsAtPoints_35
  exact LP2 ((P.2.2.2.1 node - 0) + 1) 0 (Nat.zero_le _) (fun i hi => absurd hi (Nat.not_lt_zero i)) (Nat.lt_succ_self _) g _ _ _ c_o c_d c_A c_h c_m  fr hP hS (lv_sub hl [0, 1, 2] rfl)

set_option maxRecDepth 20000 in
theorem wd_X5_noteEquations_0 : Cond.fieldLink RX5 57 "AffineHulls" "hulls" "[LAffineHulls$Hull;" ∈ wsX5_noteEquations := by decide +kernel
set_option maxRecDepth 20000 in
theorem in_X5_noteEquations_X5 : ∀ w ∈ u_ws RX5 TX5 15, w ∈ wsX5_noteEquations := by decide +kernel
set_option maxRecDepth 20000 in
theorem wd_X5_noteEquations_2 : Cond.fieldLink RX5 153 "AffineHulls$Hull" "span" "LAffineHulls$Span;" ∈ wsX5_noteEquations := by decide +kernel
set_option maxRecDepth 20000 in
theorem in_X5_noteEquations_X1 : ∀ w ∈ u_ws RX1 TX1 3, w ∈ wsX5_noteEquations := by decide +kernel
set_option maxRecDepth 20000 in
theorem wd_X5_noteEquations_4 : Cond.fieldLink RX5 18 "AffineHulls" "variables" "I" ∈ wsX5_noteEquations := by decide +kernel
set_option maxRecDepth 20000 in
theorem wd_X5_noteEquations_5 : Cond.fieldLink RX5 50 "AffineHulls" "notes" "[LAffineHulls$Note;" ∈ wsX5_noteEquations := by decide +kernel
set_option maxRecDepth 20000 in
theorem wd_X5_noteEquations_6 : Cond.fieldLink RX5 184 "AffineHulls" "noteCount" "I" ∈ wsX5_noteEquations := by decide +kernel
set_option maxRecDepth 20000 in
theorem wd_X5_noteEquations_7 : Cond.fieldLink RX5 26 "AffineHulls" "work" "[I" ∈ wsX5_noteEquations := by decide +kernel
abbrev rm_X5_noteEquations : Room := { frames := 3, cells := 0, slots := 0, locals := 103 }
set_option maxHeartbeats 4000000 in
set_option maxRecDepth 100000 in
theorem c_X5_noteEquations {l : Launch} {G : cx_G} {L : List Nat} {ad : Nat → Nat} {g : Nat → va_E} (hD : cx_D L ad) {N V M ec en al pl nc : Nat} {an : Bool} {node : Nat} {P : PS} {wk : Nat → FF} {nn : Nat → Nat} {ng : Nat → Nat → FF} (hN : N ≤ 8) (hV1 : 1 ≤ V) (hV : V ≤ 4) (hM : M = N * (V + 1)) (hM2 : M ≤ 40) (hm : ∀ j : Nat, lbX N V M j → j ∈ L) (hnode : node < N) (hwk : Zb (V + 1) wk) (hnc : nc + (V + 1 - P.2.2.2.1 node) ≤ 24) (hng : ∀ i : Nat, Zb (V + 1) (ng i)) (c_o : g 0 = .inr (5, [.int (nI V), .ref (ad 1), .ref (ad 4), .int (nI ec), .int (nI en), .ref (ad 5), .ref (ad 6), .int (nI al), .int (if an = true then 1 else 0), .int (nI pl), .ref (ad 2), .ref (ad 7), .int (nI nc), .ref (ad 180), .ref (ad 3)])) (c_w : g 3 = nA G (V + 1) (vN wk)) (c_H : g 5 = rA (G.2 3) N (fun i => if i < N then some (ad (200 + 2 * i)) else none)) (c_N : g 7 = rA (G.2 4) 24 (fun i => if i < 24 then some (ad (400 + 2 * i)) else none)) (xa : XA G ad g N V M P) (xn : XN G ad g V nn ng) : MV l yX5_noteEquations wsX5_noteEquations rm_X5_noteEquations G L ad g [.ref (ad 0), .int (nI node)] (fun u => (∀ j : Nat, (j ≠ 0 ∧ j ≠ 3 ∧ ¬ (400 ≤ j ∧ j < 448)) → u j = g j) ∧ u 0 = .inr (5, [.int (nI V), .ref (ad 1), .ref (ad 4), .int (nI ec), .int (nI en), .ref (ad 5), .ref (ad 6), .int (nI al), .int (if an = true then 1 else 0), .int (nI pl), .ref (ad 2), .ref (ad 7), .int (nI (nc + (V + 1 - P.2.2.2.1 node))), .ref (ad 180), .ref (ad 3)]) ∧ (∃ wk2 : Nat → FF, Zb (V + 1) wk2 ∧ u 3 = nA G (V + 1) (vN wk2)) ∧ XN G ad u V (eqnN node nc nn (V + 1 - P.2.2.2.1 node)) (eqnG (eqF (V + 1) (P.2.2.2.2.1 node) (P.2.2.2.1 node)) nc ng (V + 1 - P.2.2.2.1 node))) := by
  refine cx_ofV (cc := cX5_noteEquations) (maxL := 7) (by decide +kernel) rfl (Nat.le_of_ble_eq_true rfl) ?_
  intro p e s m args below meth c Q hx hb hts hown hml hP hK hS hz hret ls hl
  have hown : s.vm.findClass RX5 = some m.cls := hown
  have hl : lv_has ls 7 [(0, .ref (ad 0)), (1, .int (nI node))] := hl
  have fr : ∀ j : Nat, (j ≠ 0 ∧ j ≠ 3 ∧ ¬ (400 ≤ j ∧ j < 448)) → g j = g j := fun _ _ => rfl
  obtain ⟨mbn, t, kp, rs, c_h, c_m, hct, sp, hcn, hrr, hpt⟩ := xa.hull hnode
  have c_s := sp.1
  refine lv_aload_n hx hb dX5_noteEquations_0 rfl (lv_at hl 0 rfl) ?_
  refine ax_get (k := 0) (v := .ref (ad 5)) hx hb hts in_X5_noteEquations_X5 hown hK hP (hm _ (by unfold lbX; omega)) c_o rfl 5 (by decide) (hts _ wd_X5_noteEquations_0) (fun _ h9 => h9) rfl dX5_noteEquations_1 ?_
  refine lv_iload_n hx hb dX5_noteEquations_4 rfl (lv_at hl 1 rfl) ?_
  refine ax_aald (k := 5) (i := node) (b := ad (200 + 2 * node)) hx hb hK hP (hm _ (by unfold lbX; omega)) 3 rfl rfl c_H (by omega) (by omega) (if_pos (by omega)) dX5_noteEquations_5 ?_
  refine lv_astore_n (lv' := [(2, .ref (ad (200 + 2 * node))), (0, .ref (ad 0)), (1, .int (nI node))]) hx hb dX5_noteEquations_6 rfl hl (by decide) rfl (fun ls hl => ?_)
  refine lv_aload_n hx hb dX5_noteEquations_7 rfl (lv_at hl 0 rfl) ?_
  refine cx_Vi (As := []) (rest := []) ⟨hx, hb, hml, hown, hts⟩ (c_X1_equationCount hD (n := V + 1) (h := 200 + 2 * node) (mb := 201 + 2 * node) (pc := P.2.2.2.1 node) (mf := mbn) (hm _ (by unfold lbX; omega)) (hm _ (by unfold lbX; omega)) hct c_h c_m) (cwV 0 hts gX5_noteEquations_X1_equationCount rfl rfl rfl (by decide +kernel) ⟨Nat.le_of_ble_eq_true rfl, Nat.le_of_ble_eq_true rfl⟩) hK hP hS hz (hm _ (by unfold lbX; omega)) c_h rfl ⟨Nat.zero_le _, Nat.zero_le _⟩ rfl hl.1 rfl (Nat.le_of_ble_eq_true rfl) dX5_noteEquations_8 (fun r1 g1 H locs hp1 hP hS => ?_)
  obtain ⟨er1, ehp1g⟩ := hp1
  rw [ehp1g] at hP
  rw [er1]
  refine lv_istore_n (lv' := [(3, .int (nI (V + 1 - P.2.2.2.1 node))), (2, .ref (ad (200 + 2 * node))), (0, .ref (ad 0)), (1, .int (nI node))]) hx hb dX5_noteEquations_11 rfl hl (by decide) rfl (fun ls hl => ?_)
  refine lv_iconst (v := nI 0) hx hb dX5_noteEquations_12 (by decide) ?_
  refine lv_istore (lv' := [(4, .int (nI 0)), (3, .int (nI (V + 1 - P.2.2.2.1 node))), (2, .ref (ad (200 + 2 * node))), (0, .ref (ad 0)), (1, .int (nI node))]) hx hb dX5_noteEquations_13 hl (by decide) rfl (fun ls hl => ?_)
  have LP15 : ∀ (fu : Nat) (i : Nat) (wk2 : Nat → FF), (i ≤ V + 1 - P.2.2.2.1 node) → (Zb (V + 1) wk2) → (V + 1 - P.2.2.2.1 node - i) < fu → ∀ (ga2 : Nat → va_E) (H : Heap) (locs : List Loc) (ls : Array Slot), (ga2 0 = .inr (5, [.int (nI V), .ref (ad 1), .ref (ad 4), .int (nI ec), .int (nI en), .ref (ad 5), .ref (ad 6), .int (nI al), .int (if an = true then 1 else 0), .int (nI pl), .ref (ad 2), .ref (ad 7), .int (nI (nc + i)), .ref (ad 180), .ref (ad 3)])) → (ga2 3 = nA G (V + 1) (vN wk2)) → (ga2 5 = rA (G.2 3) N (fun i => if i < N then some (ad (200 + 2 * i)) else none)) → (ga2 7 = rA (G.2 4) 24 (fun i => if i < 24 then some (ad (400 + 2 * i)) else none)) → (ga2 (200 + 2 * node) = .inr (1, [.ref (ad (100 + 10 * node)), .ref (ad (201 + 2 * node)), .int (nI (P.2.2.2.1 node))])) → (ga2 (201 + 2 * node) = nA G (V + 1) mbn) → (ga2 (100 + 10 * node) = .inr (4, [.ref (ad (100 + 10 * node + 1)), .ref (ad (100 + 10 * node + 2)), .ref (ad (100 + 10 * node + 3))])) → (XN G ad ga2 V (eqnN node nc nn i) (eqnG (eqF (V + 1) (P.2.2.2.2.1 node) (P.2.2.2.1 node)) nc ng i)) → (SpanAt G ad ga2 (100 + 10 * node) (V + 1) t kp rs) → (∀ j : Nat, (j ≠ 0 ∧ j ≠ 3 ∧ ¬ (400 ≤ j ∧ j < 448)) → ga2 j = g j) → va_P G.1 vwCl (wl L ad ga2) H → va_S (cx_A L ad s.heap.size) s.heap H locs → lv_has ls 7 [(4, .int (nI i)), (3, .int (nI (V + 1 - P.2.2.2.1 node))), (2, .ref (ad (200 + 2 * node))), (0, .ref (ad 0)), (1, .int (nI node))] → W p l e rm_X5_noteEquations s m args below meth c H locs 0 0 Q (F0 m 15 ls []) := by
    intro fu
    induction fu with
    | zero => intro i wk2 hin zw2 hfu; exact absurd hfu (Nat.not_lt_zero _)
    | succ fu ih15 =>
      intro i wk2 hin zw2 hfu15 ga2 H locs ls c_o c_w c_H c_N c_h c_m c_s xn sp fr hP hS hl
      refine lv_iload hx hb dX5_noteEquations_15 (lv_at hl 0 rfl) ?_
      refine lv_iload_n hx hb dX5_noteEquations_17 rfl (lv_at hl 1 rfl) ?_
      refine ax_icge (a := i) (b := V + 1 - P.2.2.2.1 node) (tgt := 101) hx hb dX5_noteEquations_18 (by decide) (by omega) (by omega) (fun h18 => ?_) (fun h18 => ?_)
      · skip
        exact hret ga2 _ _ _ _ (by have ei : i = (V + 1 - P.2.2.2.1 node) := (by omega); subst ei; exact ⟨fr, c_o, ⟨wk2, zw2, c_w⟩, xn⟩) hP hS dX5_noteEquations_101
      · skip
        refine lv_aload_n hx hb dX5_noteEquations_21 rfl (lv_at hl 2 rfl) ?_
        refine ax_get (k := 200 + 2 * node) (v := .ref (ad (100 + 10 * node))) hx hb hts in_X5_noteEquations_X1 hown hK hP (hm _ (by unfold lbX; omega)) c_h rfl 0 (by decide) (hts _ wd_X5_noteEquations_2) (fun _ h9 => h9) rfl dX5_noteEquations_22 ?_
        refine lv_iload hx hb dX5_noteEquations_25 (lv_at hl 0 rfl) ?_
        refine cx_Vi (As := [.int (nI i)]) (rest := []) ⟨hx, hb, hml, hown, hts⟩ (c_X4_freePlace hD (b := 100 + 10 * node) (n := V + 1) (t := t) (kp := kp) (rs := rs) (i := i) (by omega) (fun j hj => hm _ (by unfold lbX; omega)) (by omega) (by omega) sp) (cwV 1 hts gX5_noteEquations_X4_freePlace rfl rfl rfl (by decide +kernel) ⟨Nat.le_of_ble_eq_true rfl, Nat.le_of_ble_eq_true rfl⟩) hK hP hS hz (hm _ (by unfold lbX; omega)) c_s rfl ⟨Nat.zero_le _, Nat.zero_le _⟩ rfl hl.1 rfl (Nat.le_of_ble_eq_true rfl) dX5_noteEquations_27 (fun r3 g3 H locs hp3 hP hS => ?_)
        obtain ⟨er3, ehp3g⟩ := hp3
        rw [ehp3g] at hP
        rw [er3]
        have hfi : i < V + 1 - cntT t (V + 1) := by rw [← hcn]; exact h18
        have hfp := (fpl_w (Nat.succ_pos V) hfi).1
        refine lv_istore (lv' := [(5, .int (nI (fpl t (V + 1 - 1) 1 i))), (4, .int (nI i)), (3, .int (nI (V + 1 - P.2.2.2.1 node))), (2, .ref (ad (200 + 2 * node))), (0, .ref (ad 0)), (1, .int (nI node))]) hx hb dX5_noteEquations_30 hl (by decide) rfl (fun ls hl => ?_)
        refine lv_iconst (v := nI 0) hx hb dX5_noteEquations_32 (by decide) ?_
        refine lv_istore (lv' := [(6, .int (nI 0)), (5, .int (nI (fpl t (V + 1 - 1) 1 i))), (4, .int (nI i)), (3, .int (nI (V + 1 - P.2.2.2.1 node))), (2, .ref (ad (200 + 2 * node))), (0, .ref (ad 0)), (1, .int (nI node))]) hx hb dX5_noteEquations_33 hl (by decide) rfl (fun ls hl => ?_)
        have LP35 : ∀ (fu : Nat) (k : Nat) (wk3 : Nat → FF), (k ≤ V + 1) → (∀ j : Nat, wk3 j = if j < k then van t kp (fpl t (V + 1 - 1) 1 i) j else wk2 j) → (V + 1 - k) < fu → ∀ (ga4 : Nat → va_E) (H : Heap) (locs : List Loc) (ls : Array Slot), (ga4 0 = .inr (5, [.int (nI V), .ref (ad 1), .ref (ad 4), .int (nI ec), .int (nI en), .ref (ad 5), .ref (ad 6), .int (nI al), .int (if an = true then 1 else 0), .int (nI pl), .ref (ad 2), .ref (ad 7), .int (nI (nc + i)), .ref (ad 180), .ref (ad 3)])) → (ga4 3 = nA G (V + 1) (vN wk3)) → (ga4 5 = rA (G.2 3) N (fun i => if i < N then some (ad (200 + 2 * i)) else none)) → (ga4 7 = rA (G.2 4) 24 (fun i => if i < 24 then some (ad (400 + 2 * i)) else none)) → (ga4 (200 + 2 * node) = .inr (1, [.ref (ad (100 + 10 * node)), .ref (ad (201 + 2 * node)), .int (nI (P.2.2.2.1 node))])) → (ga4 (201 + 2 * node) = nA G (V + 1) mbn) → (ga4 (100 + 10 * node) = .inr (4, [.ref (ad (100 + 10 * node + 1)), .ref (ad (100 + 10 * node + 2)), .ref (ad (100 + 10 * node + 3))])) → (XN G ad ga4 V (eqnN node nc nn i) (eqnG (eqF (V + 1) (P.2.2.2.2.1 node) (P.2.2.2.1 node)) nc ng i)) → (SpanAt G ad ga4 (100 + 10 * node) (V + 1) t kp rs) → (∀ j : Nat, (j ≠ 0 ∧ j ≠ 3 ∧ ¬ (400 ≤ j ∧ j < 448)) → ga4 j = g j) → va_P G.1 vwCl (wl L ad ga4) H → va_S (cx_A L ad s.heap.size) s.heap H locs → lv_has ls 7 [(6, .int (nI k)), (5, .int (nI (fpl t (V + 1 - 1) 1 i))), (4, .int (nI i)), (3, .int (nI (V + 1 - P.2.2.2.1 node))), (2, .ref (ad (200 + 2 * node))), (0, .ref (ad 0)), (1, .int (nI node))] → W p l e rm_X5_noteEquations s m args below meth c H locs 0 0 Q (F0 m 35 ls []) := by
          intro fu
          induction fu with
          | zero => intro k wk3 hkn hw3 hfu; exact absurd hfu (Nat.not_lt_zero _)
          | succ fu ih35 =>
            intro k wk3 hkn hw3 hfu35 ga4 H locs ls c_o c_w c_H c_N c_h c_m c_s xn sp fr hP hS hl
            refine lv_iload hx hb dX5_noteEquations_35 (lv_at hl 0 rfl) ?_
            refine lv_aload_n hx hb dX5_noteEquations_37 rfl (lv_at hl 5 rfl) ?_
            refine ax_get (k := 0) (v := .int (nI V)) hx hb hts in_X5_noteEquations_X5 hown hK hP (hm _ (by unfold lbX; omega)) c_o rfl 0 (by decide) (hts _ wd_X5_noteEquations_4) (fun _ h9 => h9) rfl dX5_noteEquations_38 ?_
            refine ax_icgt (a := k) (b := V) (tgt := 68) hx hb dX5_noteEquations_41 (by decide) (by omega) (by omega) (fun h41 => ?_) (fun h41 => ?_)
            · skip
              refine lv_aload_n hx hb dX5_noteEquations_68 rfl (lv_at hl 5 rfl) ?_
              refine ax_get (k := 0) (v := .ref (ad 7)) hx hb hts in_X5_noteEquations_X5 hown hK hP (hm _ (by unfold lbX; omega)) c_o rfl 11 (by decide) (hts _ wd_X5_noteEquations_5) (fun _ h9 => h9) rfl dX5_noteEquations_69 ?_
              refine lv_aload_n hx hb dX5_noteEquations_72 rfl (lv_at hl 5 rfl) ?_
              refine ax_get (k := 0) (v := .int (nI (nc + i))) hx hb hts in_X5_noteEquations_X5 hown hK hP (hm _ (by unfold lbX; omega)) c_o rfl 12 (by decide) (hts _ wd_X5_noteEquations_6) (fun _ h9 => h9) rfl dX5_noteEquations_73 ?_
              refine ax_aald (k := 7) (i := nc + i) (b := ad (400 + 2 * (nc + i))) hx hb hK hP (hm _ (by unfold lbX; omega)) 4 rfl rfl c_N (by omega) (by omega) (if_pos (by omega)) dX5_noteEquations_76 ?_
              have ew : wk3 = (eqF (V + 1) (P.2.2.2.2.1 node) (P.2.2.2.1 node)) i := fill_eqv hw3 (show k = V + 1 by omega) zw2 (Nat.succ_pos V) hrr hfi
              subst ew
              have c_n := xn.1 (nc + i) (by omega)
              have c_nf := xn.2 (nc + i) (by omega)
              refine lv_iload_n hx hb dX5_noteEquations_77 rfl (lv_at hl 6 rfl) ?_
              refine lv_aload_n hx hb dX5_noteEquations_78 rfl (lv_at hl 5 rfl) ?_
              refine ax_get (k := 0) (v := .ref (ad 3)) hx hb hts in_X5_noteEquations_X5 hown hK hP (hm _ (by unfold lbX; omega)) c_o rfl 14 (by decide) (hts _ wd_X5_noteEquations_7) (fun _ h9 => h9) rfl dX5_noteEquations_79 ?_
              refine cx_Vv (As := [.int (nI node), .ref (ad 3)]) (rest := []) ⟨hx, hb, hml, hown, hts⟩ (c_X2_set hD (k := 400 + 2 * (nc + i)) (kf := 401 + 2 * (nc + i)) (b := 3) (n := V + 1) (v := (eqF (V + 1) (P.2.2.2.2.1 node) (P.2.2.2.1 node)) i) (w := eqnG (eqF (V + 1) (P.2.2.2.2.1 node) (P.2.2.2.1 node)) nc ng i (nc + i)) (by omega) (by omega) (by omega) (hm _ (by unfold lbX; omega)) (hm _ (by unfold lbX; omega)) (hm _ (by unfold lbX; omega)) (by omega) c_n c_nf c_w) (cwV 2 hts gX5_noteEquations_X2_set rfl rfl rfl (by decide +kernel) ⟨Nat.le_of_ble_eq_true rfl, Nat.le_of_ble_eq_true rfl⟩) hK hP hS hz (hm _ (by unfold lbX; omega)) c_n rfl ⟨Nat.zero_le _, Nat.zero_le _⟩ rfl hl.1 rfl (Nat.le_of_ble_eq_true rfl) dX5_noteEquations_82 (fun g5 H locs hp5 hP hS => ?_)
              obtain ⟨hp5a, hp5b, hp5c⟩ := hp5
              have c_o : g5 0 = .inr (5, [.int (nI V), .ref (ad 1), .ref (ad 4), .int (nI ec), .int (nI en), .ref (ad 5), .ref (ad 6), .int (nI al), .int (if an = true then 1 else 0), .int (nI pl), .ref (ad 2), .ref (ad 7), .int (nI (nc + i)), .ref (ad 180), .ref (ad 3)]) := (hp5a 0 (by omega)).trans c_o
              have c_w : g5 3 = nA G (V + 1) (vN ((eqF (V + 1) (P.2.2.2.2.1 node) (P.2.2.2.1 node)) i)) := (hp5a 3 (by omega)).trans c_w
              have c_H : g5 5 = rA (G.2 3) N (fun i => if i < N then some (ad (200 + 2 * i)) else none) := (hp5a 5 (by omega)).trans c_H
              have c_N : g5 7 = rA (G.2 4) 24 (fun i => if i < 24 then some (ad (400 + 2 * i)) else none) := (hp5a 7 (by omega)).trans c_N
              have c_h : g5 (200 + 2 * node) = .inr (1, [.ref (ad (100 + 10 * node)), .ref (ad (201 + 2 * node)), .int (nI (P.2.2.2.1 node))]) := (hp5a (200 + 2 * node) (by omega)).trans c_h
              have c_m : g5 (201 + 2 * node) = nA G (V + 1) mbn := (hp5a (201 + 2 * node) (by omega)).trans c_m
              have c_s : g5 (100 + 10 * node) = .inr (4, [.ref (ad (100 + 10 * node + 1)), .ref (ad (100 + 10 * node + 2)), .ref (ad (100 + 10 * node + 3))]) := (hp5a (100 + 10 * node) (by omega)).trans c_s
              have sp : SpanAt G ad g5 (100 + 10 * node) (V + 1) t kp rs := sp.kept (fun j h1 h2 => hp5a j (by first | omega | (unfold lbA; omega)))
              have fr : ∀ j : Nat, (j ≠ 0 ∧ j ≠ 3 ∧ ¬ (400 ≤ j ∧ j < 448)) → g5 j = g j := fun j hj => (hp5a j (by omega)).trans (fr j hj)
              rw [cpv_z (eqF_z _ _ _ _) (eqnG_z (eqF_z _ _ _) hng i (nc + i))] at hp5c
              have xn : XN G ad g5 V (eqnN node nc nn (i + 1)) (eqnG (eqF (V + 1) (P.2.2.2.2.1 node) (P.2.2.2.1 node)) nc ng (i + 1)) := xn.set hp5a hp5b hp5c
              refine lv_aload_n hx hb dX5_noteEquations_85 rfl (lv_at hl 5 rfl) ?_
              refine lv_dup hx hb dX5_noteEquations_86 rfl ?_
              refine ax_get (k := 0) (v := .int (nI (nc + i))) hx hb hts in_X5_noteEquations_X5 hown hK hP (hm _ (by unfold lbX; omega)) c_o rfl 12 (by decide) (hts _ wd_X5_noteEquations_6) (fun _ h9 => h9) rfl dX5_noteEquations_87 ?_
              refine lv_iconst (v := nI 1) hx hb dX5_noteEquations_90 (by decide) ?_
              refine ax_add (a := nc + i) (b := 1) hx hb dX5_noteEquations_91 ?_
              refine ax_put (k := 0) (v := .int (nI (nc + i + 1))) (fs' := [.int (nI V), .ref (ad 1), .ref (ad 4), .int (nI ec), .int (nI en), .ref (ad 5), .ref (ad 6), .int (nI al), .int (if an = true then 1 else 0), .int (nI pl), .ref (ad 2), .ref (ad 7), .int (nI (nc + i + 1)), .ref (ad 180), .ref (ad 3)]) hx hb hts in_X5_noteEquations_X5 tyX5 tyX5_ok nmX5 hown hK hP hD hS (hm _ (by unfold lbX; omega)) c_o rfl 12 (by decide) (hts _ wd_X5_noteEquations_6) (fun _ h9 => h9) rfl (ty := .int) (by decide +kernel) rfl rfl (Nat.le_of_ble_eq_true rfl) rfl dX5_noteEquations_92 (fun H locs g6 eg6 hP hS => ?_)
              have c_w : g6 3 = nA G (V + 1) (vN ((eqF (V + 1) (P.2.2.2.2.1 node) (P.2.2.2.1 node)) i)) := (cx_ne eg6 3 (by omega)).trans c_w
              have c_H : g6 5 = rA (G.2 3) N (fun i => if i < N then some (ad (200 + 2 * i)) else none) := (cx_ne eg6 5 (by omega)).trans c_H
              have c_N : g6 7 = rA (G.2 4) 24 (fun i => if i < 24 then some (ad (400 + 2 * i)) else none) := (cx_ne eg6 7 (by omega)).trans c_N
              have c_h : g6 (200 + 2 * node) = .inr (1, [.ref (ad (100 + 10 * node)), .ref (ad (201 + 2 * node)), .int (nI (P.2.2.2.1 node))]) := (cx_ne eg6 (200 + 2 * node) (by omega)).trans c_h
              have c_m : g6 (201 + 2 * node) = nA G (V + 1) mbn := (cx_ne eg6 (201 + 2 * node) (by omega)).trans c_m
              have c_s : g6 (100 + 10 * node) = .inr (4, [.ref (ad (100 + 10 * node + 1)), .ref (ad (100 + 10 * node + 2)), .ref (ad (100 + 10 * node + 3))]) := (cx_ne eg6 (100 + 10 * node) (by omega)).trans c_s
              have xn : XN G ad g6 V (eqnN node nc nn (i + 1)) (eqnG (eqF (V + 1) (P.2.2.2.2.1 node) (P.2.2.2.1 node)) nc ng (i + 1)) := xn.kept (fun j h1 h2 => cx_ne eg6 j (by first | omega | (unfold lbA; omega)))
              have sp : SpanAt G ad g6 (100 + 10 * node) (V + 1) t kp rs := sp.kept (fun j h1 h2 => cx_ne eg6 j (by first | omega | (unfold lbA; omega)))
              have c_o : g6 0 = .inr (5, [.int (nI V), .ref (ad 1), .ref (ad 4), .int (nI ec), .int (nI en), .ref (ad 5), .ref (ad 6), .int (nI al), .int (if an = true then 1 else 0), .int (nI pl), .ref (ad 2), .ref (ad 7), .int (nI (nc + i + 1)), .ref (ad 180), .ref (ad 3)]) := cx_eq eg6
              have fr : ∀ j : Nat, (j ≠ 0 ∧ j ≠ 3 ∧ ¬ (400 ≤ j ∧ j < 448)) → g6 j = g j := fun j hj => (cx_ne eg6 j (by omega)).trans (fr j hj)
              refine lv_iinc (v := nI (i + 1)) (lv' := [(4, .int (nI (i + 1))), (6, .int (nI k)), (5, .int (nI (fpl t (V + 1 - 1) 1 i))), (3, .int (nI (V + 1 - P.2.2.2.1 node))), (2, .ref (ad (200 + 2 * node))), (0, .ref (ad 0)), (1, .int (nI node))]) hx hb dX5_noteEquations_95 hl (k := 2) rfl (nI_1 _) (by decide) rfl (fun ls hl => ?_)
              refine lv_goto (tgt := 15) hx hb dX5_noteEquations_98 (by decide) ?_
              exact ih15 (i + 1) ((eqF (V + 1) (P.2.2.2.2.1 node) (P.2.2.2.1 node)) i) h18 (eqF_z _ _ _ _) (by omega) g6 _ _ _ c_o c_w c_H c_N c_h c_m c_s xn sp fr hP hS (lv_sub hl [0, 3, 4, 5, 6] rfl)
            · skip
              refine lv_aload_n hx hb dX5_noteEquations_44 rfl (lv_at hl 5 rfl) ?_
              refine ax_get (k := 0) (v := .ref (ad 3)) hx hb hts in_X5_noteEquations_X5 hown hK hP (hm _ (by unfold lbX; omega)) c_o rfl 14 (by decide) (hts _ wd_X5_noteEquations_7) (fun _ h9 => h9) rfl dX5_noteEquations_45 ?_
              refine lv_iload hx hb dX5_noteEquations_48 (lv_at hl 0 rfl) ?_
              refine lv_aload_n hx hb dX5_noteEquations_50 rfl (lv_at hl 4 rfl) ?_
              refine ax_get (k := 200 + 2 * node) (v := .ref (ad (100 + 10 * node))) hx hb hts in_X5_noteEquations_X1 hown hK hP (hm _ (by unfold lbX; omega)) c_h rfl 0 (by decide) (hts _ wd_X5_noteEquations_2) (fun _ h9 => h9) rfl dX5_noteEquations_51 ?_
              refine lv_iload hx hb dX5_noteEquations_54 (lv_at hl 1 rfl) ?_
              refine lv_iload hx hb dX5_noteEquations_56 (lv_at hl 0 rfl) ?_
              refine cx_Vi (As := [.int (nI (fpl t (V + 1 - 1) 1 i)), .int (nI k)]) (rest := [.int (nI k), .ref (ad 3)]) ⟨hx, hb, hml, hown, hts⟩ (c_X4_vanishing hD (b := 100 + 10 * node) (n := V + 1) (t := t) (kp := kp) (rs := rs) (fr := fpl t (V + 1 - 1) 1 i) (k := k) hfp (by omega) (fun j hj => hm _ (by unfold lbX; omega)) (by omega) (by omega) sp) (cwV 2 hts gX5_noteEquations_X4_vanishing rfl rfl rfl (by decide +kernel) ⟨Nat.le_of_ble_eq_true rfl, Nat.le_of_ble_eq_true rfl⟩) hK hP hS hz (hm _ (by unfold lbX; omega)) c_s rfl ⟨Nat.zero_le _, Nat.zero_le _⟩ rfl hl.1 rfl (Nat.le_of_ble_eq_true rfl) dX5_noteEquations_58 (fun r7 g7 H locs hp7 hP hS => ?_)
              obtain ⟨er7, ehp7g⟩ := hp7
              rw [ehp7g] at hP
              rw [er7]
              refine ax_iast (k := 3) (i := k) (f' := (fun j => nI ((nu (vN wk3) k ((van t kp (fpl t (V + 1 - 1) 1 i) k).val)) j))) hx hb hK hP hD hS (hm _ (by unfold lbX; omega)) c_w (by omega) (by omega) (up_n _ _ _) dX5_noteEquations_61 (fun H locs g8 eg8 hP hS => ?_)
              have c_o : g8 0 = .inr (5, [.int (nI V), .ref (ad 1), .ref (ad 4), .int (nI ec), .int (nI en), .ref (ad 5), .ref (ad 6), .int (nI al), .int (if an = true then 1 else 0), .int (nI pl), .ref (ad 2), .ref (ad 7), .int (nI (nc + i)), .ref (ad 180), .ref (ad 3)]) := (cx_ne eg8 0 (by omega)).trans c_o
              have c_H : g8 5 = rA (G.2 3) N (fun i => if i < N then some (ad (200 + 2 * i)) else none) := (cx_ne eg8 5 (by omega)).trans c_H
              have c_N : g8 7 = rA (G.2 4) 24 (fun i => if i < 24 then some (ad (400 + 2 * i)) else none) := (cx_ne eg8 7 (by omega)).trans c_N
              have c_h : g8 (200 + 2 * node) = .inr (1, [.ref (ad (100 + 10 * node)), .ref (ad (201 + 2 * node)), .int (nI (P.2.2.2.1 node))]) := (cx_ne eg8 (200 + 2 * node) (by omega)).trans c_h
              have c_m : g8 (201 + 2 * node) = nA G (V + 1) mbn := (cx_ne eg8 (201 + 2 * node) (by omega)).trans c_m
              have c_s : g8 (100 + 10 * node) = .inr (4, [.ref (ad (100 + 10 * node + 1)), .ref (ad (100 + 10 * node + 2)), .ref (ad (100 + 10 * node + 3))]) := (cx_ne eg8 (100 + 10 * node) (by omega)).trans c_s
              have xn : XN G ad g8 V (eqnN node nc nn i) (eqnG (eqF (V + 1) (P.2.2.2.2.1 node) (P.2.2.2.1 node)) nc ng i) := xn.kept (fun j h1 h2 => cx_ne eg8 j (by first | omega | (unfold lbA; omega)))
              have sp : SpanAt G ad g8 (100 + 10 * node) (V + 1) t kp rs := sp.kept (fun j h1 h2 => cx_ne eg8 j (by first | omega | (unfold lbA; omega)))
              have c_w : g8 3 = nA G (V + 1) (nu (vN wk3) k ((van t kp (fpl t (V + 1 - 1) 1 i) k).val)) := cx_eq eg8
              have fr : ∀ j : Nat, (j ≠ 0 ∧ j ≠ 3 ∧ ¬ (400 ≤ j ∧ j < 448)) → g8 j = g j := fun j hj => (cx_ne eg8 j (by omega)).trans (fr j hj)
              have c_w : g8 3 = nA G (V + 1) (vN (nu wk3 k (van t kp (fpl t (V + 1 - 1) 1 i) k))) := by rw [← vN_nu]; exact c_w
              refine lv_iinc (v := nI (k + 1)) (lv' := [(6, .int (nI (k + 1))), (5, .int (nI (fpl t (V + 1 - 1) 1 i))), (4, .int (nI i)), (3, .int (nI (V + 1 - P.2.2.2.1 node))), (2, .ref (ad (200 + 2 * node))), (0, .ref (ad 0)), (1, .int (nI node))]) hx hb dX5_noteEquations_62 hl (k := 0) rfl (nI_1 _) (by decide) rfl (fun ls hl => ?_)
              refine lv_goto (tgt := 35) hx hb dX5_noteEquations_65 (by decide) ?_
              exact ih35 (k + 1) (nu wk3 k (van t kp (fpl t (V + 1 - 1) 1 i) k)) (by omega) (fill_step hw3) (by omega) g8 _ _ _ c_o c_w c_H c_N c_h c_m c_s xn sp fr hP hS (lv_sub hl [0, 1, 2, 3, 4, 5, 6] rfl)
        exact LP35 ((V + 1 - 0) + 1) 0 wk2 (Nat.zero_le _) (fun j => (if_neg (Nat.not_lt_zero j)).symm) (Nat.lt_succ_self _) ga2 _ _ _ c_o c_w c_H c_N c_h c_m c_s xn sp fr hP hS (lv_sub hl [0, 1, 2, 3, 4, 5, 6] rfl)
  exact LP15 ((V + 1 - P.2.2.2.1 node - 0) + 1) 0 wk (Nat.zero_le _) hwk (Nat.lt_succ_self _) g _ _ _ c_o c_w c_H c_N c_h c_m c_s xn sp fr hP hS (lv_sub hl [0, 1, 2, 3, 4] rfl)

set_option maxRecDepth 20000 in
theorem wd_X5_spanNotesBefore_0 : Cond.fieldLink RX5 37 "AffineHulls" "noteSpan" "LAffineHulls$Span;" ∈ wsX5_spanNotesBefore := by decide +kernel
set_option maxRecDepth 20000 in
theorem in_X5_spanNotesBefore_X5 : ∀ w ∈ u_ws RX5 TX5 15, w ∈ wsX5_spanNotesBefore := by decide +kernel
set_option maxRecDepth 20000 in
theorem wd_X5_spanNotesBefore_2 : Cond.fieldLink RX5 184 "AffineHulls" "noteCount" "I" ∈ wsX5_spanNotesBefore := by decide +kernel
set_option maxRecDepth 20000 in
theorem wd_X5_spanNotesBefore_3 : Cond.fieldLink RX5 232 "AffineHulls$Edge" "kind" "I" ∈ wsX5_spanNotesBefore := by decide +kernel
set_option maxRecDepth 20000 in
theorem in_X5_spanNotesBefore_X0 : ∀ w ∈ u_ws RX0 TX0 5, w ∈ wsX5_spanNotesBefore := by decide +kernel
set_option maxRecDepth 20000 in
theorem wd_X5_spanNotesBefore_5 : Cond.fieldLink RX5 264 "AffineHulls$Edge" "form" "[I" ∈ wsX5_spanNotesBefore := by decide +kernel
set_option maxRecDepth 20000 in
theorem wd_X5_spanNotesBefore_6 : Cond.fieldLink RX5 50 "AffineHulls" "notes" "[LAffineHulls$Note;" ∈ wsX5_spanNotesBefore := by decide +kernel
set_option maxRecDepth 20000 in
theorem wd_X5_spanNotesBefore_7 : Cond.fieldLink RX5 200 "AffineHulls$Note" "node" "I" ∈ wsX5_spanNotesBefore := by decide +kernel
set_option maxRecDepth 20000 in
theorem in_X5_spanNotesBefore_X2 : ∀ w ∈ u_ws RX2 TX2 2, w ∈ wsX5_spanNotesBefore := by decide +kernel
set_option maxRecDepth 20000 in
theorem wd_X5_spanNotesBefore_9 : Cond.fieldLink RX5 168 "AffineHulls$Edge" "from" "I" ∈ wsX5_spanNotesBefore := by decide +kernel
set_option maxRecDepth 20000 in
theorem wd_X5_spanNotesBefore_10 : Cond.fieldLink RX5 261 "AffineHulls$Note" "form" "[I" ∈ wsX5_spanNotesBefore := by decide +kernel
abbrev rm_X5_spanNotesBefore : Room := { frames := 4, cells := 0, slots := 0, locals := 127 }
set_option maxHeartbeats 4000000 in
set_option maxRecDepth 100000 in
theorem c_X5_spanNotesBefore {l : Launch} {G : cx_G} {L : List Nat} {ad : Nat → Nat} {g : Nat → va_E} (hD : cx_D L ad) {N V M ec en al pl nc : Nat} {an : Bool} {ei : Nat} {ef et ek ev : Nat → Nat} {ez : Nat → Int32} {eg : Nat → Nat → FF} {nn : Nat → Nat} {ng : Nat → Nat → FF} {t : Nat → Bool} {kp : Nat → Nat → FF} {rs : Nat → FF} (hN : N ≤ 8) (hV1 : 1 ≤ V) (hV : V ≤ 4) (hM : M = N * (V + 1)) (hM2 : M ≤ 40) (hm : ∀ j : Nat, lbX N V M j → j ∈ L) (he : ei < 20) (hnc : nc ≤ 24) (hee : ef ei < 1000 ∧ ek ei < 1000) (hnn : ∀ i : Nat, i < nc → nn i < 1000) (c_o : g 0 = .inr (5, [.int (nI V), .ref (ad 1), .ref (ad 4), .int (nI ec), .int (nI en), .ref (ad 5), .ref (ad 6), .int (nI al), .int (if an = true then 1 else 0), .int (nI pl), .ref (ad 2), .ref (ad 7), .int (nI nc), .ref (ad 180), .ref (ad 3)])) (c_N : g 7 = rA (G.2 4) 24 (fun i => if i < 24 then some (ad (400 + 2 * i)) else none)) (xe : XE G ad g V ef et ek ez eg) (xn : XN G ad g V nn ng) (sp : SpanAt G ad g 180 (V + 1) t kp rs) : MV l yX5_spanNotesBefore wsX5_spanNotesBefore rm_X5_spanNotesBefore G L ad g [.ref (ad 0), .ref (ad (300 + 2 * ei))] (fun u => (∀ j : Nat, (j < 180 ∨ 185 + V ≤ j) → u j = g j) ∧ ∃ (t2 : Nat → Bool) (kp2 : Nat → Nat → FF) (rs2 : Nat → FF), SpanAt G ad u 180 (V + 1) t2 kp2 rs2 ∧ RRf (V + 1) t2 kp2 (sbF (V + 1) nc nn ng (ef ei) (ek ei) (eg ei))) := by
  refine cx_ofV (cc := cX5_spanNotesBefore) (maxL := 3) (by decide +kernel) rfl (Nat.le_of_ble_eq_true rfl) ?_
  intro p e s m args below meth c Q hx hb hts hown hml hP hK hS hz hret ls hl
  have hown : s.vm.findClass RX5 = some m.cls := hown
  have hl : lv_has ls 3 [(0, .ref (ad 0)), (1, .ref (ad (300 + 2 * ei)))] := hl
  have fr : ∀ j : Nat, (j < 180 ∨ 185 + V ≤ j) → g j = g j := fun _ _ => rfl
  have c_ed := xe.1 ei (by omega)
  have c_ef := xe.2 ei (by omega)
  have c_s := sp.1
  refine lv_aload_n hx hb dX5_spanNotesBefore_0 rfl (lv_at hl 0 rfl) ?_
  refine ax_get (k := 0) (v := .ref (ad 180)) hx hb hts in_X5_spanNotesBefore_X5 hown hK hP (hm _ (by unfold lbX; omega)) c_o rfl 13 (by decide) (hts _ wd_X5_spanNotesBefore_0) (fun _ h9 => h9) rfl dX5_spanNotesBefore_1 ?_
  refine cx_Vv (As := []) (rest := []) ⟨hx, hb, hml, hown, hts⟩ (c_X4_clear hD (b := 180) (n := V + 1) (t := t) (kp := kp) (rs := rs) (fun j hj => hm _ (by unfold lbX; omega)) (by omega) (by omega) sp) (cwV 0 hts gX5_spanNotesBefore_X4_clear rfl rfl rfl (by decide +kernel) ⟨Nat.le_of_ble_eq_true rfl, Nat.le_of_ble_eq_true rfl⟩) hK hP hS hz (hm _ (by unfold lbX; omega)) c_s rfl ⟨Nat.zero_le _, Nat.zero_le _⟩ rfl hl.1 rfl (Nat.le_of_ble_eq_true rfl) dX5_spanNotesBefore_4 (fun g1 H locs hp1 hP hS => ?_)
  obtain ⟨hp1a, t0, ht0, hp1s⟩ := hp1
  have c_o : g1 0 = .inr (5, [.int (nI V), .ref (ad 1), .ref (ad 4), .int (nI ec), .int (nI en), .ref (ad 5), .ref (ad 6), .int (nI al), .int (if an = true then 1 else 0), .int (nI pl), .ref (ad 2), .ref (ad 7), .int (nI nc), .ref (ad 180), .ref (ad 3)]) := (hp1a 0 (by omega)).trans c_o
  have c_N : g1 7 = rA (G.2 4) 24 (fun i => if i < 24 then some (ad (400 + 2 * i)) else none) := (hp1a 7 (by omega)).trans c_N
  have c_ed : g1 (300 + 2 * ei) = .inr (0, [.int (nI (ef ei)), .int (nI (et ei)), .int (nI (ek ei)), .int (ez ei), .ref (ad (301 + 2 * ei))]) := (hp1a (300 + 2 * ei) (by omega)).trans c_ed
  have c_ef : g1 (301 + 2 * ei) = nA G (V + 1) (vN (eg ei)) := (hp1a (301 + 2 * ei) (by omega)).trans c_ef
  have xn : XN G ad g1 V nn ng := xn.kept (fun j h1 h2 => hp1a j (by first | omega | (unfold lbA; omega)))
  have fr : ∀ j : Nat, (j < 180 ∨ 185 + V ≤ j) → g1 j = g j := fun j hj => (hp1a j (by omega)).trans (fr j hj)
  have sp := hp1s
  have c_s := sp.1
  refine lv_iconst (v := nI 0) hx hb dX5_spanNotesBefore_7 (by decide) ?_
  refine lv_istore_n (lv' := [(2, .int (nI 0)), (0, .ref (ad 0)), (1, .ref (ad (300 + 2 * ei)))]) hx hb dX5_spanNotesBefore_8 rfl hl (by decide) rfl (fun ls hl => ?_)
  have LP9 : ∀ (fu : Nat) (k : Nat) (t1 : Nat → Bool) (kp1 : Nat → Nat → FF) (rs1 : Nat → FF), (k ≤ nc) → (RRf (V + 1) t1 kp1 (nsF (V + 1) nn ng (ef ei) k)) → (nc - k) < fu → ∀ (ga2 : Nat → va_E) (H : Heap) (locs : List Loc) (ls : Array Slot), (ga2 0 = .inr (5, [.int (nI V), .ref (ad 1), .ref (ad 4), .int (nI ec), .int (nI en), .ref (ad 5), .ref (ad 6), .int (nI al), .int (if an = true then 1 else 0), .int (nI pl), .ref (ad 2), .ref (ad 7), .int (nI nc), .ref (ad 180), .ref (ad 3)])) → (ga2 7 = rA (G.2 4) 24 (fun i => if i < 24 then some (ad (400 + 2 * i)) else none)) → (ga2 (300 + 2 * ei) = .inr (0, [.int (nI (ef ei)), .int (nI (et ei)), .int (nI (ek ei)), .int (ez ei), .ref (ad (301 + 2 * ei))])) → (ga2 (301 + 2 * ei) = nA G (V + 1) (vN (eg ei))) → (ga2 180 = .inr (4, [.ref (ad (180 + 1)), .ref (ad (180 + 2)), .ref (ad (180 + 3))])) → (XN G ad ga2 V nn ng) → (SpanAt G ad ga2 180 (V + 1) t1 kp1 rs1) → (∀ j : Nat, (j < 180 ∨ 185 + V ≤ j) → ga2 j = g j) → va_P G.1 vwCl (wl L ad ga2) H → va_S (cx_A L ad s.heap.size) s.heap H locs → lv_has ls 3 [(2, .int (nI k)), (0, .ref (ad 0)), (1, .ref (ad (300 + 2 * ei)))] → W p l e rm_X5_spanNotesBefore s m args below meth c H locs 0 0 Q (F0 m 9 ls []) := by
    intro fu
    induction fu with
    | zero => intro k t1 kp1 rs1 hkn hrr hfu; exact absurd hfu (Nat.not_lt_zero _)
    | succ fu ih9 =>
      intro k t1 kp1 rs1 hkn hrr hfu9 ga2 H locs ls c_o c_N c_ed c_ef c_s xn sp fr hP hS hl
      refine lv_iload_n hx hb dX5_spanNotesBefore_9 rfl (lv_at hl 0 rfl) ?_
      refine lv_aload_n hx hb dX5_spanNotesBefore_10 rfl (lv_at hl 1 rfl) ?_
      refine ax_get (k := 0) (v := .int (nI nc)) hx hb hts in_X5_spanNotesBefore_X5 hown hK hP (hm _ (by unfold lbX; omega)) c_o rfl 12 (by decide) (hts _ wd_X5_spanNotesBefore_2) (fun _ h9 => h9) rfl dX5_spanNotesBefore_11 ?_
      refine ax_icge (a := k) (b := nc) (tgt := 56) hx hb dX5_spanNotesBefore_14 (by decide) (by omega) (by omega) (fun h14 => ?_) (fun h14 => ?_)
      · skip
        rw [show k = nc by omega] at hrr
        refine lv_aload_n hx hb dX5_spanNotesBefore_56 rfl (lv_at hl 2 rfl) ?_
        refine ax_get (k := 300 + 2 * ei) (v := .int (nI (ek ei))) hx hb hts in_X5_spanNotesBefore_X0 hown hK hP (hm _ (by unfold lbX; omega)) c_ed rfl 2 (by decide) (hts _ wd_X5_spanNotesBefore_3) (fun _ h9 => h9) rfl dX5_spanNotesBefore_57 ?_
        refine lv_iconst (v := nI 3) hx hb dX5_spanNotesBefore_60 (by decide) ?_
        refine ax_icne (a := ek ei) (b := 3) (tgt := 76) hx hb dX5_spanNotesBefore_61 (by decide) (by omega) (by omega) (fun h61 => ?_) (fun h61 => ?_)
        · skip
          exact hret ga2 _ _ _ _ ⟨fr, _, _, _, sp, by unfold sbF; rw [if_neg h61]; exact hrr⟩ hP hS dX5_spanNotesBefore_76
        · skip
          refine lv_aload_n hx hb dX5_spanNotesBefore_64 rfl (lv_at hl 1 rfl) ?_
          refine ax_get (k := 0) (v := .ref (ad 180)) hx hb hts in_X5_spanNotesBefore_X5 hown hK hP (hm _ (by unfold lbX; omega)) c_o rfl 13 (by decide) (hts _ wd_X5_spanNotesBefore_0) (fun _ h9 => h9) rfl dX5_spanNotesBefore_65 ?_
          refine lv_aload_n hx hb dX5_spanNotesBefore_68 rfl (lv_at hl 2 rfl) ?_
          refine ax_get (k := 300 + 2 * ei) (v := .ref (ad (301 + 2 * ei))) hx hb hts in_X5_spanNotesBefore_X0 hown hK hP (hm _ (by unfold lbX; omega)) c_ed rfl 4 (by decide) (hts _ wd_X5_spanNotesBefore_5) (fun _ h9 => h9) rfl dX5_spanNotesBefore_69 ?_
          have hrr9 := hrr
          refine cx_Vi (As := [.ref (ad (301 + 2 * ei))]) (rest := []) ⟨hx, hb, hml, hown, hts⟩ (c_X4_add hD (b := 180) (n := V + 1) (t := t1) (kp := kp1) (rs := rs1) (a := 301 + 2 * ei) (v := eg ei) (hm _ (by unfold lbX; omega)) (by omega) c_ef (fun j hj => hm _ (by unfold lbX; omega)) (by omega) (by omega) sp (red_nt (nsF.lin _) hrr _)) (cwV 1 hts gX5_spanNotesBefore_X4_add rfl rfl rfl (by decide +kernel) ⟨Nat.le_of_ble_eq_true rfl, Nat.le_of_ble_eq_true rfl⟩) hK hP hS hz (hm _ (by unfold lbX; omega)) c_s rfl ⟨Nat.zero_le _, Nat.zero_le _⟩ rfl hl.1 rfl (Nat.le_of_ble_eq_true rfl) dX5_spanNotesBefore_72 (fun r3 g3 H locs hp3 hP hS => ?_)
          obtain ⟨rb, t2, kp2, e_r, hp3a, hp3s, hadd⟩ := hp3
          rw [e_r]
          have c_o : g3 0 = .inr (5, [.int (nI V), .ref (ad 1), .ref (ad 4), .int (nI ec), .int (nI en), .ref (ad 5), .ref (ad 6), .int (nI al), .int (if an = true then 1 else 0), .int (nI pl), .ref (ad 2), .ref (ad 7), .int (nI nc), .ref (ad 180), .ref (ad 3)]) := (hp3a 0 (by omega)).trans c_o
          have c_N : g3 7 = rA (G.2 4) 24 (fun i => if i < 24 then some (ad (400 + 2 * i)) else none) := (hp3a 7 (by omega)).trans c_N
          have c_ed : g3 (300 + 2 * ei) = .inr (0, [.int (nI (ef ei)), .int (nI (et ei)), .int (nI (ek ei)), .int (ez ei), .ref (ad (301 + 2 * ei))]) := (hp3a (300 + 2 * ei) (by omega)).trans c_ed
          have c_ef : g3 (301 + 2 * ei) = nA G (V + 1) (vN (eg ei)) := (hp3a (301 + 2 * ei) (by omega)).trans c_ef
          have xn : XN G ad g3 V nn ng := xn.kept (fun j h1 h2 => hp3a j (by first | omega | (unfold lbA; omega)))
          have fr : ∀ j : Nat, (j < 180 ∨ 185 + V ≤ j) → g3 j = g j := fun j hj => (hp3a j (by omega)).trans (fr j hj)
          have sp := hp3s
          have c_s := sp.1
          have hr2 : RRf (V + 1) t2 kp2 (Sad (nsF (V + 1) nn ng (ef ei) nc) (eg ei)) := hadd.rrf (nsF.lin _) hrr cpv_in
          refine lv_pop hx hb dX5_spanNotesBefore_75 rfl ?_
          exact hret g3 _ _ _ _ ⟨fr, _, _, _, sp, by unfold sbF; rw [if_pos h61]; exact hr2⟩ hP hS dX5_spanNotesBefore_76
      · skip
        refine lv_aload_n hx hb dX5_spanNotesBefore_17 rfl (lv_at hl 1 rfl) ?_
        refine ax_get (k := 0) (v := .ref (ad 7)) hx hb hts in_X5_spanNotesBefore_X5 hown hK hP (hm _ (by unfold lbX; omega)) c_o rfl 11 (by decide) (hts _ wd_X5_spanNotesBefore_6) (fun _ h9 => h9) rfl dX5_spanNotesBefore_18 ?_
        refine lv_iload_n hx hb dX5_spanNotesBefore_21 rfl (lv_at hl 0 rfl) ?_
        refine ax_aald (k := 7) (i := k) (b := ad (400 + 2 * k)) hx hb hK hP (hm _ (by unfold lbX; omega)) 4 rfl rfl c_N (by omega) (by omega) (if_pos (by omega)) dX5_spanNotesBefore_22 ?_
        have c_n := xn.1 k (by omega)
        have c_nf := xn.2 k (by omega)
        refine ax_get (k := 400 + 2 * k) (v := .int (nI (nn k))) hx hb hts in_X5_spanNotesBefore_X2 hown hK hP (hm _ (by unfold lbX; omega)) c_n rfl 0 (by decide) (hts _ wd_X5_spanNotesBefore_7) (fun _ h9 => h9) rfl dX5_spanNotesBefore_23 ?_
        refine lv_aload_n hx hb dX5_spanNotesBefore_26 rfl (lv_at hl 2 rfl) ?_
        refine ax_get (k := 300 + 2 * ei) (v := .int (nI (ef ei))) hx hb hts in_X5_spanNotesBefore_X0 hown hK hP (hm _ (by unfold lbX; omega)) c_ed rfl 0 (by decide) (hts _ wd_X5_spanNotesBefore_9) (fun _ h9 => h9) rfl dX5_spanNotesBefore_27 ?_
        have b9 := hnn k h14
        refine ax_icne (a := nn k) (b := ef ei) (tgt := 50) hx hb dX5_spanNotesBefore_30 (by decide) (by omega) (by omega) (fun h30 => ?_) (fun h30 => ?_)
        · skip
          refine lv_iinc (v := nI (k + 1)) (lv' := [(2, .int (nI (k + 1))), (0, .ref (ad 0)), (1, .ref (ad (300 + 2 * ei)))]) hx hb dX5_spanNotesBefore_50 hl (k := 0) rfl (nI_1 _) (by decide) rfl (fun ls hl => ?_)
          refine lv_goto (tgt := 9) hx hb dX5_spanNotesBefore_53 (by decide) ?_
          exact ih9 (k + 1) t1 kp1 rs1 h14 (by rw [ns_f h30]; exact hrr) (by omega) ga2 _ _ _ c_o c_N c_ed c_ef c_s xn sp fr hP hS (lv_sub hl [0, 1, 2] rfl)
        · skip
          refine lv_aload_n hx hb dX5_spanNotesBefore_33 rfl (lv_at hl 1 rfl) ?_
          refine ax_get (k := 0) (v := .ref (ad 180)) hx hb hts in_X5_spanNotesBefore_X5 hown hK hP (hm _ (by unfold lbX; omega)) c_o rfl 13 (by decide) (hts _ wd_X5_spanNotesBefore_0) (fun _ h9 => h9) rfl dX5_spanNotesBefore_34 ?_
          refine lv_aload_n hx hb dX5_spanNotesBefore_37 rfl (lv_at hl 1 rfl) ?_
          refine ax_get (k := 0) (v := .ref (ad 7)) hx hb hts in_X5_spanNotesBefore_X5 hown hK hP (hm _ (by unfold lbX; omega)) c_o rfl 11 (by decide) (hts _ wd_X5_spanNotesBefore_6) (fun _ h9 => h9) rfl dX5_spanNotesBefore_38 ?_
          refine lv_iload_n hx hb dX5_spanNotesBefore_41 rfl (lv_at hl 0 rfl) ?_
          refine ax_aald (k := 7) (i := k) (b := ad (400 + 2 * k)) hx hb hK hP (hm _ (by unfold lbX; omega)) 4 rfl rfl c_N (by omega) (by omega) (if_pos (by omega)) dX5_spanNotesBefore_42 ?_
          refine ax_get (k := 400 + 2 * k) (v := .ref (ad (401 + 2 * k))) hx hb hts in_X5_spanNotesBefore_X2 hown hK hP (hm _ (by unfold lbX; omega)) c_n rfl 1 (by decide) (hts _ wd_X5_spanNotesBefore_10) (fun _ h9 => h9) rfl dX5_spanNotesBefore_43 ?_
          refine cx_Vi (As := [.ref (ad (401 + 2 * k))]) (rest := []) ⟨hx, hb, hml, hown, hts⟩ (c_X4_add hD (b := 180) (n := V + 1) (t := t1) (kp := kp1) (rs := rs1) (a := 401 + 2 * k) (v := ng k) (hm _ (by unfold lbX; omega)) (by omega) c_nf (fun j hj => hm _ (by unfold lbX; omega)) (by omega) (by omega) sp (red_nt (nsF.lin _) hrr _)) (cwV 1 hts gX5_spanNotesBefore_X4_add rfl rfl rfl (by decide +kernel) ⟨Nat.le_of_ble_eq_true rfl, Nat.le_of_ble_eq_true rfl⟩) hK hP hS hz (hm _ (by unfold lbX; omega)) c_s rfl ⟨Nat.zero_le _, Nat.zero_le _⟩ rfl hl.1 rfl (Nat.le_of_ble_eq_true rfl) dX5_spanNotesBefore_46 (fun r4 g4 H locs hp4 hP hS => ?_)
          obtain ⟨rb, t2, kp2, e_r, hp4a, hp4s, hadd⟩ := hp4
          rw [e_r]
          have c_o : g4 0 = .inr (5, [.int (nI V), .ref (ad 1), .ref (ad 4), .int (nI ec), .int (nI en), .ref (ad 5), .ref (ad 6), .int (nI al), .int (if an = true then 1 else 0), .int (nI pl), .ref (ad 2), .ref (ad 7), .int (nI nc), .ref (ad 180), .ref (ad 3)]) := (hp4a 0 (by omega)).trans c_o
          have c_N : g4 7 = rA (G.2 4) 24 (fun i => if i < 24 then some (ad (400 + 2 * i)) else none) := (hp4a 7 (by omega)).trans c_N
          have c_ed : g4 (300 + 2 * ei) = .inr (0, [.int (nI (ef ei)), .int (nI (et ei)), .int (nI (ek ei)), .int (ez ei), .ref (ad (301 + 2 * ei))]) := (hp4a (300 + 2 * ei) (by omega)).trans c_ed
          have c_ef : g4 (301 + 2 * ei) = nA G (V + 1) (vN (eg ei)) := (hp4a (301 + 2 * ei) (by omega)).trans c_ef
          have c_n : g4 (400 + 2 * k) = .inr (2, [.int (nI (nn k)), .ref (ad (401 + 2 * k))]) := (hp4a (400 + 2 * k) (by omega)).trans c_n
          have c_nf : g4 (401 + 2 * k) = nA G (V + 1) (vN (ng k)) := (hp4a (401 + 2 * k) (by omega)).trans c_nf
          have xn : XN G ad g4 V nn ng := xn.kept (fun j h1 h2 => hp4a j (by first | omega | (unfold lbA; omega)))
          have fr : ∀ j : Nat, (j < 180 ∨ 185 + V ≤ j) → g4 j = g j := fun j hj => (hp4a j (by omega)).trans (fr j hj)
          have sp := hp4s
          have c_s := sp.1
          have hr2 : RRf (V + 1) t2 kp2 (Sad (nsF (V + 1) nn ng (ef ei) k) (ng k)) := hadd.rrf (nsF.lin _) hrr cpv_in
          refine lv_pop hx hb dX5_spanNotesBefore_49 rfl ?_
          refine lv_iinc (v := nI (k + 1)) (lv' := [(2, .int (nI (k + 1))), (0, .ref (ad 0)), (1, .ref (ad (300 + 2 * ei)))]) hx hb dX5_spanNotesBefore_50 hl (k := 0) rfl (nI_1 _) (by decide) rfl (fun ls hl => ?_)
          refine lv_goto (tgt := 9) hx hb dX5_spanNotesBefore_53 (by decide) ?_
          exact ih9 (k + 1) t2 kp2 (sp_red (V + 1) t1 kp1 (V + 1) (cpv (V + 1) (ng k) rs1)) h14 (by rw [ns_t h30]; exact hr2) (by omega) g4 _ _ _ c_o c_N c_ed c_ef c_s xn sp fr hP hS (lv_sub hl [0, 1, 2] rfl)
  exact LP9 ((nc - 0) + 1) 0 t0 kp rs (Nat.zero_le _) (RRf.S00 ht0) (Nat.lt_succ_self _) g1 _ _ _ c_o c_N c_ed c_ef c_s xn sp fr hP hS (lv_sub hl [0, 1, 2] rfl)

set_option maxRecDepth 20000 in
theorem wd_X5_followsBefore_0 : Cond.fieldLink RX5 261 "AffineHulls$Note" "form" "[I" ∈ wsX5_followsBefore := by decide +kernel
set_option maxRecDepth 20000 in
theorem in_X5_followsBefore_X2 : ∀ w ∈ u_ws RX2 TX2 2, w ∈ wsX5_followsBefore := by decide +kernel
set_option maxRecDepth 20000 in
theorem wd_X5_followsBefore_2 : Cond.fieldLink RX5 26 "AffineHulls" "work" "[I" ∈ wsX5_followsBefore := by decide +kernel
set_option maxRecDepth 20000 in
theorem in_X5_followsBefore_X5 : ∀ w ∈ u_ws RX5 TX5 15, w ∈ wsX5_followsBefore := by decide +kernel
set_option maxRecDepth 20000 in
theorem wd_X5_followsBefore_4 : Cond.fieldLink RX5 37 "AffineHulls" "noteSpan" "LAffineHulls$Span;" ∈ wsX5_followsBefore := by decide +kernel
abbrev rm_X5_followsBefore : Room := { frames := 4, cells := 0, slots := 0, locals := 124 }
set_option maxHeartbeats 4000000 in
set_option maxRecDepth 100000 in
theorem c_X5_followsBefore {l : Launch} {G : cx_G} {L : List Nat} {ad : Nat → Nat} {g : Nat → va_E} (hD : cx_D L ad) {N V M ec en al pl nc : Nat} {an : Bool} {ei i x : Nat} {ef et ek ev : Nat → Nat} {ez : Nat → Int32} {eg : Nat → Nat → FF} {nn : Nat → Nat} {ng : Nat → Nat → FF} {wk : Nat → FF} {t : Nat → Bool} {kp : Nat → Nat → FF} {rs : Nat → FF} {S : (Nat → FF) → Prop} (hN : N ≤ 8) (hV1 : 1 ≤ V) (hV : V ≤ 4) (hM : M = N * (V + 1)) (hM2 : M ≤ 40) (hm : ∀ j : Nat, lbX N V M j → j ∈ L) (he : ei < 20) (hi24 : i < 24) (hx1 : x ≤ 1) (hkd : ek ei < 1000) (hf4 : ek ei = 1 ∨ ek ei = 2 → ez ei = nI (ev ei) ∧ 1 ≤ ev ei ∧ ev ei < V + 1) (hwk : Zb (V + 1) wk) (hng : Zb (V + 1) (ng i)) (hSl : Lin (V + 1) S) (hrr : RRf (V + 1) t kp S) (c_o : g 0 = .inr (5, [.int (nI V), .ref (ad 1), .ref (ad 4), .int (nI ec), .int (nI en), .ref (ad 5), .ref (ad 6), .int (nI al), .int (if an = true then 1 else 0), .int (nI pl), .ref (ad 2), .ref (ad 7), .int (nI nc), .ref (ad 180), .ref (ad 3)])) (c_w : g 3 = nA G (V + 1) (vN wk)) (xe : XE G ad g V ef et ek ez eg) (xn : XN G ad g V nn ng) (sp : SpanAt G ad g 180 (V + 1) t kp rs) : MI l yX5_followsBefore wsX5_followsBefore rm_X5_followsBefore G L ad g [.ref (ad 0), .ref (ad (300 + 2 * ei)), .ref (ad (400 + 2 * i)), .int (nI x)] (fun r u => (∃ q : Bool, r = (if q = true then 1 else 0) ∧ (q = true ↔ S (backF (V + 1) (ek ei) (ev ei) (eg ei) (ff x) (ng i)))) ∧ (∀ j : Nat, (j ≠ 3 ∧ j ≠ 183) → u j = g j) ∧ (∃ wk2 : Nat → FF, Zb (V + 1) wk2 ∧ u 3 = nA G (V + 1) (vN wk2)) ∧ ∃ rs2 : Nat → FF, SpanAt G ad u 180 (V + 1) t kp rs2) := by
  refine cx_ofI (cc := cX5_followsBefore) (maxL := 4) (by decide +kernel) rfl (Nat.le_of_ble_eq_true rfl) ?_
  intro p e s m args below meth c Q hx hb hts hown hml hP hK hS hz hret ls hl
  have hown : s.vm.findClass RX5 = some m.cls := hown
  have hl : lv_has ls 4 [(0, .ref (ad 0)), (1, .ref (ad (300 + 2 * ei))), (2, .ref (ad (400 + 2 * i))), (3, .int (nI x))] := hl
  have fr : ∀ j : Nat, (j ≠ 3 ∧ j ≠ 183) → g j = g j := fun _ _ => rfl
  have c_ed := xe.1 ei (by omega)
  have c_ef := xe.2 ei (by omega)
  have c_n := xn.1 i (by omega)
  have c_nf := xn.2 i (by omega)
  have c_s := sp.1
  refine lv_aload_n hx hb dX5_followsBefore_0 rfl (lv_at hl 2 rfl) ?_
  refine ax_get (k := 400 + 2 * i) (v := .ref (ad (401 + 2 * i))) hx hb hts in_X5_followsBefore_X2 hown hK hP (hm _ (by unfold lbX; omega)) c_n rfl 1 (by decide) (hts _ wd_X5_followsBefore_0) (fun _ h9 => h9) rfl dX5_followsBefore_1 ?_
  refine lv_aload_n hx hb dX5_followsBefore_4 rfl (lv_at hl 0 rfl) ?_
  refine ax_get (k := 0) (v := .ref (ad 3)) hx hb hts in_X5_followsBefore_X5 hown hK hP (hm _ (by unfold lbX; omega)) c_o rfl 14 (by decide) (hts _ wd_X5_followsBefore_2) (fun _ h9 => h9) rfl dX5_followsBefore_5 ?_
  refine cx_Sv (As := [.ref (ad (401 + 2 * i)), .ref (ad 3)]) (rest := []) ⟨hx, hb, hml, hown, hts⟩ (c_X5_copy hD (a := 401 + 2 * i) (b := 3) (n := V + 1) (v := ng i) (w := wk) (by omega) (hm _ (by unfold lbX; omega)) (hm _ (by unfold lbX; omega)) (by omega) c_nf c_w) (va_cwS 2 hts gX5_followsBefore_X5_copy rfl rfl rfl (by decide +kernel) ⟨Nat.le_of_ble_eq_true rfl, Nat.le_of_ble_eq_true rfl⟩) hK hP hS hz ⟨Nat.zero_le _, Nat.zero_le _⟩ rfl hl.1 rfl (Nat.le_of_ble_eq_true rfl) dX5_followsBefore_8 (fun g1 H locs hp1 hP hS => ?_)
  obtain ⟨hp1a, hp1b⟩ := hp1
  have c_o : g1 0 = .inr (5, [.int (nI V), .ref (ad 1), .ref (ad 4), .int (nI ec), .int (nI en), .ref (ad 5), .ref (ad 6), .int (nI al), .int (if an = true then 1 else 0), .int (nI pl), .ref (ad 2), .ref (ad 7), .int (nI nc), .ref (ad 180), .ref (ad 3)]) := (hp1a 0 (by omega)).trans c_o
  have c_ed : g1 (300 + 2 * ei) = .inr (0, [.int (nI (ef ei)), .int (nI (et ei)), .int (nI (ek ei)), .int (ez ei), .ref (ad (301 + 2 * ei))]) := (hp1a (300 + 2 * ei) (by omega)).trans c_ed
  have c_ef : g1 (301 + 2 * ei) = nA G (V + 1) (vN (eg ei)) := (hp1a (301 + 2 * ei) (by omega)).trans c_ef
  have c_s : g1 180 = .inr (4, [.ref (ad (180 + 1)), .ref (ad (180 + 2)), .ref (ad (180 + 3))]) := (hp1a 180 (by omega)).trans c_s
  have c_n : g1 (400 + 2 * i) = .inr (2, [.int (nI (nn i)), .ref (ad (401 + 2 * i))]) := (hp1a (400 + 2 * i) (by omega)).trans c_n
  have c_nf : g1 (401 + 2 * i) = nA G (V + 1) (vN (ng i)) := (hp1a (401 + 2 * i) (by omega)).trans c_nf
  have sp : SpanAt G ad g1 180 (V + 1) t kp rs := sp.kept (fun j h1 h2 => hp1a j (by first | omega | (unfold lbA; omega)))
  have fr : ∀ j : Nat, (j ≠ 3 ∧ j ≠ 183) → g1 j = g j := fun j hj => (hp1a j (by omega)).trans (fr j hj)
  have c_w := hp1b
  rw [cpv_z hng hwk] at c_w
  refine lv_aload_n hx hb dX5_followsBefore_11 rfl (lv_at hl 1 rfl) ?_
  refine lv_aload_n hx hb dX5_followsBefore_12 rfl (lv_at hl 0 rfl) ?_
  refine ax_get (k := 0) (v := .ref (ad 3)) hx hb hts in_X5_followsBefore_X5 hown hK hP (hm _ (by unfold lbX; omega)) c_o rfl 14 (by decide) (hts _ wd_X5_followsBefore_2) (fun _ h9 => h9) rfl dX5_followsBefore_13 ?_
  refine lv_iload_n hx hb dX5_followsBefore_16 rfl (lv_at hl 3 rfl) ?_
  refine cx_Vv (As := [.ref (ad 3), .int (nI x)]) (rest := []) ⟨hx, hb, hml, hown, hts⟩ (c_X0_stepBack hD (k := 300 + 2 * ei) (kf := 301 + 2 * ei) (b := 3) (n := V + 1) (kd := ek ei) (vr := ev ei) (xn := x) (f := eg ei) (w := ng i) (by omega) (by omega) (hm _ (by unfold lbX; omega)) (hm _ (by unfold lbX; omega)) (hm _ (by unfold lbX; omega)) (by omega) (by omega) (by omega) hx1 (fun h => ⟨(hf4 h).1, (hf4 h).2.2⟩) c_ed c_ef c_w) (cwV 2 hts gX5_followsBefore_X0_stepBack rfl rfl rfl (by decide +kernel) ⟨Nat.le_of_ble_eq_true rfl, Nat.le_of_ble_eq_true rfl⟩) hK hP hS hz (hm _ (by unfold lbX; omega)) c_ed rfl ⟨Nat.zero_le _, Nat.zero_le _⟩ rfl hl.1 rfl (Nat.le_of_ble_eq_true rfl) dX5_followsBefore_17 (fun g2 H locs hp2 hP hS => ?_)
  obtain ⟨hp2a, hp2b⟩ := hp2
  have c_o : g2 0 = .inr (5, [.int (nI V), .ref (ad 1), .ref (ad 4), .int (nI ec), .int (nI en), .ref (ad 5), .ref (ad 6), .int (nI al), .int (if an = true then 1 else 0), .int (nI pl), .ref (ad 2), .ref (ad 7), .int (nI nc), .ref (ad 180), .ref (ad 3)]) := (hp2a 0 (by omega)).trans c_o
  have c_ed : g2 (300 + 2 * ei) = .inr (0, [.int (nI (ef ei)), .int (nI (et ei)), .int (nI (ek ei)), .int (ez ei), .ref (ad (301 + 2 * ei))]) := (hp2a (300 + 2 * ei) (by omega)).trans c_ed
  have c_ef : g2 (301 + 2 * ei) = nA G (V + 1) (vN (eg ei)) := (hp2a (301 + 2 * ei) (by omega)).trans c_ef
  have c_s : g2 180 = .inr (4, [.ref (ad (180 + 1)), .ref (ad (180 + 2)), .ref (ad (180 + 3))]) := (hp2a 180 (by omega)).trans c_s
  have c_n : g2 (400 + 2 * i) = .inr (2, [.int (nI (nn i)), .ref (ad (401 + 2 * i))]) := (hp2a (400 + 2 * i) (by omega)).trans c_n
  have c_nf : g2 (401 + 2 * i) = nA G (V + 1) (vN (ng i)) := (hp2a (401 + 2 * i) (by omega)).trans c_nf
  have sp : SpanAt G ad g2 180 (V + 1) t kp rs := sp.kept (fun j h1 h2 => hp2a j (by first | omega | (unfold lbA; omega)))
  have fr : ∀ j : Nat, (j ≠ 3 ∧ j ≠ 183) → g2 j = g j := fun j hj => (hp2a j (by omega)).trans (fr j hj)
  have c_w := hp2b
  refine lv_aload_n hx hb dX5_followsBefore_20 rfl (lv_at hl 0 rfl) ?_
  refine ax_get (k := 0) (v := .ref (ad 180)) hx hb hts in_X5_followsBefore_X5 hown hK hP (hm _ (by unfold lbX; omega)) c_o rfl 13 (by decide) (hts _ wd_X5_followsBefore_4) (fun _ h9 => h9) rfl dX5_followsBefore_21 ?_
  refine lv_aload_n hx hb dX5_followsBefore_24 rfl (lv_at hl 0 rfl) ?_
  refine ax_get (k := 0) (v := .ref (ad 3)) hx hb hts in_X5_followsBefore_X5 hown hK hP (hm _ (by unfold lbX; omega)) c_o rfl 14 (by decide) (hts _ wd_X5_followsBefore_2) (fun _ h9 => h9) rfl dX5_followsBefore_25 ?_
  refine cx_Vi (As := [.ref (ad 3)]) (rest := []) ⟨hx, hb, hml, hown, hts⟩ (c_X4_contains hD (b := 180) (n := V + 1) (t := t) (kp := kp) (rs := rs) (a := 3) (v := backF (V + 1) (ek ei) (ev ei) (eg ei) (ff x) (ng i)) (hm _ (by unfold lbX; omega)) (by omega) c_w (fun j hj => hm _ (by unfold lbX; omega)) (by omega) (by omega) sp) (cwV 1 hts gX5_followsBefore_X4_contains rfl rfl rfl (by decide +kernel) ⟨Nat.le_of_ble_eq_true rfl, Nat.le_of_ble_eq_true rfl⟩) hK hP hS hz (hm _ (by unfold lbX; omega)) c_s rfl ⟨Nat.zero_le _, Nat.zero_le _⟩ rfl hl.1 rfl (Nat.le_of_ble_eq_true rfl) dX5_followsBefore_28 (fun r3 g3 H locs hp3 hP hS => ?_)
  obtain ⟨e_r, hp3a, hp3s⟩ := hp3
  rw [e_r]
  have c_o : g3 0 = .inr (5, [.int (nI V), .ref (ad 1), .ref (ad 4), .int (nI ec), .int (nI en), .ref (ad 5), .ref (ad 6), .int (nI al), .int (if an = true then 1 else 0), .int (nI pl), .ref (ad 2), .ref (ad 7), .int (nI nc), .ref (ad 180), .ref (ad 3)]) := (hp3a 0 (by omega)).trans c_o
  have c_w : g3 3 = nA G (V + 1) (vN (backF (V + 1) (ek ei) (ev ei) (eg ei) (ff x) (ng i))) := (hp3a 3 (by omega)).trans c_w
  have c_ed : g3 (300 + 2 * ei) = .inr (0, [.int (nI (ef ei)), .int (nI (et ei)), .int (nI (ek ei)), .int (ez ei), .ref (ad (301 + 2 * ei))]) := (hp3a (300 + 2 * ei) (by omega)).trans c_ed
  have c_ef : g3 (301 + 2 * ei) = nA G (V + 1) (vN (eg ei)) := (hp3a (301 + 2 * ei) (by omega)).trans c_ef
  have c_n : g3 (400 + 2 * i) = .inr (2, [.int (nI (nn i)), .ref (ad (401 + 2 * i))]) := (hp3a (400 + 2 * i) (by omega)).trans c_n
  have c_nf : g3 (401 + 2 * i) = nA G (V + 1) (vN (ng i)) := (hp3a (401 + 2 * i) (by omega)).trans c_nf
  have fr : ∀ j : Nat, (j ≠ 3 ∧ j ≠ 183) → g3 j = g j := fun j hj => (hp3a j (by omega)).trans (fr j hj)
  have sp := hp3s
  exact hret (if (allZ (V + 1) (sp_red (V + 1) t kp (V + 1) (cpv (V + 1) (backF (V + 1) (ek ei) (ev ei) (eg ei) (ff x) (ng i)) rs))) = true then 1 else 0) g3 _ _ _ _ (nar_z _) ⟨⟨_, rfl, az_iff hSl hrr⟩, fr, ⟨_, backF_z hng (Nat.succ_pos V) (fun h => (hf4 h).2.2), c_w⟩, _, sp⟩ hP hS dX5_followsBefore_31

set_option maxRecDepth 20000 in
theorem wd_X5_keepsNotes_0 : Cond.fieldLink RX5 184 "AffineHulls" "noteCount" "I" ∈ wsX5_keepsNotes := by decide +kernel
set_option maxRecDepth 20000 in
theorem in_X5_keepsNotes_X5 : ∀ w ∈ u_ws RX5 TX5 15, w ∈ wsX5_keepsNotes := by decide +kernel
set_option maxRecDepth 20000 in
theorem wd_X5_keepsNotes_2 : Cond.fieldLink RX5 50 "AffineHulls" "notes" "[LAffineHulls$Note;" ∈ wsX5_keepsNotes := by decide +kernel
set_option maxRecDepth 20000 in
theorem wd_X5_keepsNotes_3 : Cond.fieldLink RX5 200 "AffineHulls$Note" "node" "I" ∈ wsX5_keepsNotes := by decide +kernel
set_option maxRecDepth 20000 in
theorem in_X5_keepsNotes_X2 : ∀ w ∈ u_ws RX2 TX2 2, w ∈ wsX5_keepsNotes := by decide +kernel
set_option maxRecDepth 20000 in
theorem wd_X5_keepsNotes_5 : Cond.fieldLink RX5 181 "AffineHulls$Edge" "to" "I" ∈ wsX5_keepsNotes := by decide +kernel
set_option maxRecDepth 20000 in
theorem in_X5_keepsNotes_X0 : ∀ w ∈ u_ws RX0 TX0 5, w ∈ wsX5_keepsNotes := by decide +kernel
set_option maxRecDepth 20000 in
theorem wd_X5_keepsNotes_7 : Cond.fieldLink RX5 232 "AffineHulls$Edge" "kind" "I" ∈ wsX5_keepsNotes := by decide +kernel
abbrev rm_X5_keepsNotes : Room := { frames := 5, cells := 0, slots := 0, locals := 149 }
set_option maxHeartbeats 4000000 in
set_option maxRecDepth 100000 in
theorem c_X5_keepsNotes {l : Launch} {G : cx_G} {L : List Nat} {ad : Nat → Nat} {g : Nat → va_E} (hD : cx_D L ad) {N V M ec en al pl nc : Nat} {an : Bool} {ei : Nat} {ef et ek ev : Nat → Nat} {ez : Nat → Int32} {eg : Nat → Nat → FF} {nn : Nat → Nat} {ng : Nat → Nat → FF} {wk : Nat → FF} {t : Nat → Bool} {kp : Nat → Nat → FF} {rs : Nat → FF} (hN : N ≤ 8) (hV1 : 1 ≤ V) (hV : V ≤ 4) (hM : M = N * (V + 1)) (hM2 : M ≤ 40) (hm : ∀ j : Nat, lbX N V M j → j ∈ L) (hnc : nc ≤ 24) (hnn : ∀ i : Nat, i < nc → nn i < N) (hng : ∀ i : Nat, Zb (V + 1) (ng i)) (he : ei < 20) (hf1 : ef ei < N) (hf2 : et ei < N) (hf3 : ek ei ≤ 4) (hf4 : ek ei = 1 ∨ ek ei = 2 → ez ei = nI (ev ei) ∧ 1 ≤ ev ei ∧ ev ei < V + 1) (hwk : Zb (V + 1) wk) (c_o : g 0 = .inr (5, [.int (nI V), .ref (ad 1), .ref (ad 4), .int (nI ec), .int (nI en), .ref (ad 5), .ref (ad 6), .int (nI al), .int (if an = true then 1 else 0), .int (nI pl), .ref (ad 2), .ref (ad 7), .int (nI nc), .ref (ad 180), .ref (ad 3)])) (c_w : g 3 = nA G (V + 1) (vN wk)) (c_N : g 7 = rA (G.2 4) 24 (fun i => if i < 24 then some (ad (400 + 2 * i)) else none)) (xe : XE G ad g V ef et ek ez eg) (xn : XN G ad g V nn ng) (sp : SpanAt G ad g 180 (V + 1) t kp rs) : MI l yX5_keepsNotes wsX5_keepsNotes rm_X5_keepsNotes G L ad g [.ref (ad 0), .ref (ad (300 + 2 * ei))] (fun r u => tr r (keepP (V + 1) nc nn ng (ef ei) (et ei) (ek ei) (ev ei) (eg ei) nc) ∧ (∀ j : Nat, (j ≠ 3 ∧ (j < 180 ∨ 185 + V ≤ j)) → u j = g j) ∧ (∃ wk2 : Nat → FF, Zb (V + 1) wk2 ∧ u 3 = nA G (V + 1) (vN wk2)) ∧ ∃ (t2 : Nat → Bool) (kp2 : Nat → Nat → FF) (rs2 : Nat → FF), SpanAt G ad u 180 (V + 1) t2 kp2 rs2) := by
  refine cx_ofI (cc := cX5_keepsNotes) (maxL := 4) (by decide +kernel) rfl (Nat.le_of_ble_eq_true rfl) ?_
  intro p e s m args below meth c Q hx hb hts hown hml hP hK hS hz hret ls hl
  have hown : s.vm.findClass RX5 = some m.cls := hown
  have hl : lv_has ls 4 [(0, .ref (ad 0)), (1, .ref (ad (300 + 2 * ei)))] := hl
  have fr : ∀ j : Nat, (j ≠ 3 ∧ (j < 180 ∨ 185 + V ≤ j)) → g j = g j := fun _ _ => rfl
  have c_ed := xe.1 ei (by omega)
  have c_ef := xe.2 ei (by omega)
  refine lv_aload_n hx hb dX5_keepsNotes_0 rfl (lv_at hl 0 rfl) ?_
  refine lv_aload_n hx hb dX5_keepsNotes_1 rfl (lv_at hl 1 rfl) ?_
  refine cx_Vv (As := [.ref (ad (300 + 2 * ei))]) (rest := []) ⟨hx, hb, hml, hown, hts⟩ (c_X5_spanNotesBefore hD (ei := ei) (ev := ev) (t := t) (kp := kp) (rs := rs) hN hV1 hV hM hM2 hm he hnc ⟨by omega, by omega⟩ (fun i hi => by have := hnn i hi; omega) c_o c_N xe xn sp) (cwV 1 hts gX5_keepsNotes_X5_spanNotesBefore rfl rfl rfl (by decide +kernel) ⟨Nat.le_of_ble_eq_true rfl, Nat.le_of_ble_eq_true rfl⟩) hK hP hS hz (hm _ (by unfold lbX; omega)) c_o rfl ⟨Nat.zero_le _, Nat.zero_le _⟩ rfl hl.1 rfl (Nat.le_of_ble_eq_true rfl) dX5_keepsNotes_2 (fun g1 H locs hp1 hP hS => ?_)
  obtain ⟨hp1a, t5, kp5, rs5, hp1s, hrr⟩ := hp1
  have c_o : g1 0 = .inr (5, [.int (nI V), .ref (ad 1), .ref (ad 4), .int (nI ec), .int (nI en), .ref (ad 5), .ref (ad 6), .int (nI al), .int (if an = true then 1 else 0), .int (nI pl), .ref (ad 2), .ref (ad 7), .int (nI nc), .ref (ad 180), .ref (ad 3)]) := (hp1a 0 (by omega)).trans c_o
  have c_w : g1 3 = nA G (V + 1) (vN wk) := (hp1a 3 (by omega)).trans c_w
  have c_N : g1 7 = rA (G.2 4) 24 (fun i => if i < 24 then some (ad (400 + 2 * i)) else none) := (hp1a 7 (by omega)).trans c_N
  have c_ed : g1 (300 + 2 * ei) = .inr (0, [.int (nI (ef ei)), .int (nI (et ei)), .int (nI (ek ei)), .int (ez ei), .ref (ad (301 + 2 * ei))]) := (hp1a (300 + 2 * ei) (by omega)).trans c_ed
  have c_ef : g1 (301 + 2 * ei) = nA G (V + 1) (vN (eg ei)) := (hp1a (301 + 2 * ei) (by omega)).trans c_ef
  have xe : XE G ad g1 V ef et ek ez eg := xe.kept (fun j h1 h2 => hp1a j (by first | omega | (unfold lbA; omega)))
  have xn : XN G ad g1 V nn ng := xn.kept (fun j h1 h2 => hp1a j (by first | omega | (unfold lbA; omega)))
  have fr : ∀ j : Nat, (j ≠ 3 ∧ (j < 180 ∨ 185 + V ≤ j)) → g1 j = g j := fun j hj => (hp1a j (by omega)).trans (fr j hj)
  have sp := hp1s
  refine lv_iconst (v := nI 0) hx hb dX5_keepsNotes_5 (by decide) ?_
  refine lv_istore_n (lv' := [(2, .int (nI 0)), (0, .ref (ad 0)), (1, .ref (ad (300 + 2 * ei)))]) hx hb dX5_keepsNotes_6 rfl hl (by decide) rfl (fun ls hl => ?_)
  have LP7 : ∀ (fu : Nat) (k : Nat) (wk2 : Nat → FF) (rs2 : Nat → FF), (k ≤ nc) → (Zb (V + 1) wk2) → (keepP (V + 1) nc nn ng (ef ei) (et ei) (ek ei) (ev ei) (eg ei) k) → (nc - k) < fu → ∀ (ga2 : Nat → va_E) (H : Heap) (locs : List Loc) (ls : Array Slot), (ga2 0 = .inr (5, [.int (nI V), .ref (ad 1), .ref (ad 4), .int (nI ec), .int (nI en), .ref (ad 5), .ref (ad 6), .int (nI al), .int (if an = true then 1 else 0), .int (nI pl), .ref (ad 2), .ref (ad 7), .int (nI nc), .ref (ad 180), .ref (ad 3)])) → (ga2 3 = nA G (V + 1) (vN wk2)) → (ga2 7 = rA (G.2 4) 24 (fun i => if i < 24 then some (ad (400 + 2 * i)) else none)) → (ga2 (300 + 2 * ei) = .inr (0, [.int (nI (ef ei)), .int (nI (et ei)), .int (nI (ek ei)), .int (ez ei), .ref (ad (301 + 2 * ei))])) → (ga2 (301 + 2 * ei) = nA G (V + 1) (vN (eg ei))) → (XE G ad ga2 V ef et ek ez eg) → (XN G ad ga2 V nn ng) → (SpanAt G ad ga2 180 (V + 1) t5 kp5 rs2) → (∀ j : Nat, (j ≠ 3 ∧ (j < 180 ∨ 185 + V ≤ j)) → ga2 j = g j) → va_P G.1 vwCl (wl L ad ga2) H → va_S (cx_A L ad s.heap.size) s.heap H locs → lv_has ls 4 [(2, .int (nI k)), (0, .ref (ad 0)), (1, .ref (ad (300 + 2 * ei)))] → W p l e rm_X5_keepsNotes s m args below meth c H locs 0 0 Q (F0 m 7 ls []) := by
    intro fu
    induction fu with
    | zero => intro k wk2 rs2 hkn zw2 hkp hfu; exact absurd hfu (Nat.not_lt_zero _)
    | succ fu ih7 =>
      intro k wk2 rs2 hkn zw2 hkp hfu7 ga2 H locs ls c_o c_w c_N c_ed c_ef xe xn sp fr hP hS hl
      refine lv_iload_n hx hb dX5_keepsNotes_7 rfl (lv_at hl 0 rfl) ?_
      refine lv_aload_n hx hb dX5_keepsNotes_8 rfl (lv_at hl 1 rfl) ?_
      refine ax_get (k := 0) (v := .int (nI nc)) hx hb hts in_X5_keepsNotes_X5 hown hK hP (hm _ (by unfold lbX; omega)) c_o rfl 12 (by decide) (hts _ wd_X5_keepsNotes_0) (fun _ h9 => h9) rfl dX5_keepsNotes_9 ?_
      refine ax_icge (a := k) (b := nc) (tgt := 74) hx hb dX5_keepsNotes_12 (by decide) (by omega) (by omega) (fun h12 => ?_) (fun h12 => ?_)
      · skip
        refine lv_iconst (v := nI 1) hx hb dX5_keepsNotes_74 (by decide) ?_
        exact hret (nI 1) ga2 _ _ _ _ (by decide) ⟨Or.inl ⟨rfl, fun i hi ht => hkp i (by omega) ht⟩, fr, ⟨_, zw2, c_w⟩, _, _, _, sp⟩ hP hS dX5_keepsNotes_75
      · skip
        refine lv_aload_n hx hb dX5_keepsNotes_15 rfl (lv_at hl 1 rfl) ?_
        refine ax_get (k := 0) (v := .ref (ad 7)) hx hb hts in_X5_keepsNotes_X5 hown hK hP (hm _ (by unfold lbX; omega)) c_o rfl 11 (by decide) (hts _ wd_X5_keepsNotes_2) (fun _ h9 => h9) rfl dX5_keepsNotes_16 ?_
        refine lv_iload_n hx hb dX5_keepsNotes_19 rfl (lv_at hl 0 rfl) ?_
        refine ax_aald (k := 7) (i := k) (b := ad (400 + 2 * k)) hx hb hK hP (hm _ (by unfold lbX; omega)) 4 rfl rfl c_N (by omega) (by omega) (if_pos (by omega)) dX5_keepsNotes_20 ?_
        refine lv_astore_n (lv' := [(3, .ref (ad (400 + 2 * k))), (2, .int (nI k)), (0, .ref (ad 0)), (1, .ref (ad (300 + 2 * ei)))]) hx hb dX5_keepsNotes_21 rfl hl (by decide) rfl (fun ls hl => ?_)
        have c_n := xn.1 k (by omega)
        have b9 := hnn k h12
        refine lv_aload_n hx hb dX5_keepsNotes_22 rfl (lv_at hl 0 rfl) ?_
        refine ax_get (k := 400 + 2 * k) (v := .int (nI (nn k))) hx hb hts in_X5_keepsNotes_X2 hown hK hP (hm _ (by unfold lbX; omega)) c_n rfl 0 (by decide) (hts _ wd_X5_keepsNotes_3) (fun _ h9 => h9) rfl dX5_keepsNotes_23 ?_
        refine lv_aload_n hx hb dX5_keepsNotes_26 rfl (lv_at hl 3 rfl) ?_
        refine ax_get (k := 300 + 2 * ei) (v := .int (nI (et ei))) hx hb hts in_X5_keepsNotes_X0 hown hK hP (hm _ (by unfold lbX; omega)) c_ed rfl 1 (by decide) (hts _ wd_X5_keepsNotes_5) (fun _ h9 => h9) rfl dX5_keepsNotes_27 ?_
        refine ax_iceq (a := nn k) (b := et ei) (tgt := 36) hx hb dX5_keepsNotes_30 (by decide) (by omega) (by omega) (fun h30 => ?_) (fun h30 => ?_)
        · skip
          refine lv_aload_n hx hb dX5_keepsNotes_36 rfl (lv_at hl 2 rfl) ?_
          refine lv_aload_n hx hb dX5_keepsNotes_37 rfl (lv_at hl 3 rfl) ?_
          refine lv_aload_n hx hb dX5_keepsNotes_38 rfl (lv_at hl 0 rfl) ?_
          refine lv_iconst (v := nI 0) hx hb dX5_keepsNotes_39 (by decide) ?_
          refine cx_Vi (As := [.ref (ad (300 + 2 * ei)), .ref (ad (400 + 2 * k)), .int (nI 0)]) (rest := []) ⟨hx, hb, hml, hown, hts⟩ (c_X5_followsBefore hD (ei := ei) (i := k) (x := 0) (wk := wk2) (t := t5) (kp := kp5) (rs := rs2) hN hV1 hV hM hM2 hm he (by omega) (by omega) (by omega) hf4 zw2 (hng k) sbF.lin hrr c_o c_w xe xn sp) (cwV 3 hts gX5_keepsNotes_X5_followsBefore rfl rfl rfl (by decide +kernel) ⟨Nat.le_of_ble_eq_true rfl, Nat.le_of_ble_eq_true rfl⟩) hK hP hS hz (hm _ (by unfold lbX; omega)) c_o rfl ⟨Nat.zero_le _, Nat.zero_le _⟩ rfl hl.1 rfl (Nat.le_of_ble_eq_true rfl) dX5_keepsNotes_40 (fun r3 g3 H locs hp3 hP hS => ?_)
          obtain ⟨⟨q0, e_r, hq0⟩, hp3a, ⟨wk6, zw6, hp3w⟩, rs6, hp3s⟩ := hp3
          rw [e_r]
          have c_o : g3 0 = .inr (5, [.int (nI V), .ref (ad 1), .ref (ad 4), .int (nI ec), .int (nI en), .ref (ad 5), .ref (ad 6), .int (nI al), .int (if an = true then 1 else 0), .int (nI pl), .ref (ad 2), .ref (ad 7), .int (nI nc), .ref (ad 180), .ref (ad 3)]) := (hp3a 0 (by omega)).trans c_o
          have c_N : g3 7 = rA (G.2 4) 24 (fun i => if i < 24 then some (ad (400 + 2 * i)) else none) := (hp3a 7 (by omega)).trans c_N
          have c_ed : g3 (300 + 2 * ei) = .inr (0, [.int (nI (ef ei)), .int (nI (et ei)), .int (nI (ek ei)), .int (ez ei), .ref (ad (301 + 2 * ei))]) := (hp3a (300 + 2 * ei) (by omega)).trans c_ed
          have c_ef : g3 (301 + 2 * ei) = nA G (V + 1) (vN (eg ei)) := (hp3a (301 + 2 * ei) (by omega)).trans c_ef
          have c_n : g3 (400 + 2 * k) = .inr (2, [.int (nI (nn k)), .ref (ad (401 + 2 * k))]) := (hp3a (400 + 2 * k) (by omega)).trans c_n
          have xe : XE G ad g3 V ef et ek ez eg := xe.kept (fun j h1 h2 => hp3a j (by first | omega | (unfold lbA; omega)))
          have xn : XN G ad g3 V nn ng := xn.kept (fun j h1 h2 => hp3a j (by first | omega | (unfold lbA; omega)))
          have fr : ∀ j : Nat, (j ≠ 3 ∧ (j < 180 ∨ 185 + V ≤ j)) → g3 j = g j := fun j hj => (hp3a j (by omega)).trans (fr j hj)
          have c_w := hp3w
          have sp := hp3s
          refine ax_zne (b := q0) (tgt := 48) hx hb dX5_keepsNotes_43 (by decide) (fun h43 => ?_) (fun h43 => ?_)
          · skip
            refine lv_aload_n hx hb dX5_keepsNotes_48 rfl (lv_at hl 3 rfl) ?_
            refine ax_get (k := 300 + 2 * ei) (v := .int (nI (ek ei))) hx hb hts in_X5_keepsNotes_X0 hown hK hP (hm _ (by unfold lbX; omega)) c_ed rfl 2 (by decide) (hts _ wd_X5_keepsNotes_7) (fun _ h9 => h9) rfl dX5_keepsNotes_49 ?_
            refine lv_iconst (v := nI 2) hx hb dX5_keepsNotes_52 (by decide) ?_
            refine ax_icne (a := ek ei) (b := 2) (tgt := 68) hx hb dX5_keepsNotes_53 (by decide) (by omega) (by omega) (fun h53 => ?_) (fun h53 => ?_)
            · skip
              refine lv_iinc (v := nI (k + 1)) (lv' := [(2, .int (nI (k + 1))), (3, .ref (ad (400 + 2 * k))), (0, .ref (ad 0)), (1, .ref (ad (300 + 2 * ei)))]) hx hb dX5_keepsNotes_68 hl (k := 1) rfl (nI_1 _) (by decide) rfl (fun ls hl => ?_)
              refine lv_goto (tgt := 7) hx hb dX5_keepsNotes_71 (by decide) ?_
              exact ih7 (k + 1) wk6 rs6 h12 zw6 (kp_1 hkp (hq0.mp h43) (fun z => absurd z h53)) (by omega) g3 _ _ _ c_o c_w c_N c_ed c_ef xe xn sp fr hP hS (lv_sub hl [0, 2, 3] rfl)
            · skip
              refine lv_aload_n hx hb dX5_keepsNotes_56 rfl (lv_at hl 2 rfl) ?_
              refine lv_aload_n hx hb dX5_keepsNotes_57 rfl (lv_at hl 3 rfl) ?_
              refine lv_aload_n hx hb dX5_keepsNotes_58 rfl (lv_at hl 0 rfl) ?_
              refine lv_iconst (v := nI 1) hx hb dX5_keepsNotes_59 (by decide) ?_
              refine cx_Vi (As := [.ref (ad (300 + 2 * ei)), .ref (ad (400 + 2 * k)), .int (nI 1)]) (rest := []) ⟨hx, hb, hml, hown, hts⟩ (c_X5_followsBefore hD (ei := ei) (i := k) (x := 1) (wk := wk6) (t := t5) (kp := kp5) (rs := rs6) hN hV1 hV hM hM2 hm he (by omega) (by omega) (by omega) hf4 zw6 (hng k) sbF.lin hrr c_o c_w xe xn sp) (cwV 3 hts gX5_keepsNotes_X5_followsBefore rfl rfl rfl (by decide +kernel) ⟨Nat.le_of_ble_eq_true rfl, Nat.le_of_ble_eq_true rfl⟩) hK hP hS hz (hm _ (by unfold lbX; omega)) c_o rfl ⟨Nat.zero_le _, Nat.zero_le _⟩ rfl hl.1 rfl (Nat.le_of_ble_eq_true rfl) dX5_keepsNotes_60 (fun r4 g4 H locs hp4 hP hS => ?_)
              obtain ⟨⟨q1, e_r, hq1⟩, hp4a, ⟨wk7, zw7, hp4w⟩, rs7, hp4s⟩ := hp4
              rw [e_r]
              have c_o : g4 0 = .inr (5, [.int (nI V), .ref (ad 1), .ref (ad 4), .int (nI ec), .int (nI en), .ref (ad 5), .ref (ad 6), .int (nI al), .int (if an = true then 1 else 0), .int (nI pl), .ref (ad 2), .ref (ad 7), .int (nI nc), .ref (ad 180), .ref (ad 3)]) := (hp4a 0 (by omega)).trans c_o
              have c_N : g4 7 = rA (G.2 4) 24 (fun i => if i < 24 then some (ad (400 + 2 * i)) else none) := (hp4a 7 (by omega)).trans c_N
              have c_ed : g4 (300 + 2 * ei) = .inr (0, [.int (nI (ef ei)), .int (nI (et ei)), .int (nI (ek ei)), .int (ez ei), .ref (ad (301 + 2 * ei))]) := (hp4a (300 + 2 * ei) (by omega)).trans c_ed
              have c_ef : g4 (301 + 2 * ei) = nA G (V + 1) (vN (eg ei)) := (hp4a (301 + 2 * ei) (by omega)).trans c_ef
              have c_n : g4 (400 + 2 * k) = .inr (2, [.int (nI (nn k)), .ref (ad (401 + 2 * k))]) := (hp4a (400 + 2 * k) (by omega)).trans c_n
              have xe : XE G ad g4 V ef et ek ez eg := xe.kept (fun j h1 h2 => hp4a j (by first | omega | (unfold lbA; omega)))
              have xn : XN G ad g4 V nn ng := xn.kept (fun j h1 h2 => hp4a j (by first | omega | (unfold lbA; omega)))
              have fr : ∀ j : Nat, (j ≠ 3 ∧ (j < 180 ∨ 185 + V ≤ j)) → g4 j = g j := fun j hj => (hp4a j (by omega)).trans (fr j hj)
              have c_w := hp4w
              have sp := hp4s
              refine ax_zne (b := q1) (tgt := 68) hx hb dX5_keepsNotes_63 (by decide) (fun h63 => ?_) (fun h63 => ?_)
              · skip
                refine lv_iinc (v := nI (k + 1)) (lv' := [(2, .int (nI (k + 1))), (3, .ref (ad (400 + 2 * k))), (0, .ref (ad 0)), (1, .ref (ad (300 + 2 * ei)))]) hx hb dX5_keepsNotes_68 hl (k := 1) rfl (nI_1 _) (by decide) rfl (fun ls hl => ?_)
                refine lv_goto (tgt := 7) hx hb dX5_keepsNotes_71 (by decide) ?_
                exact ih7 (k + 1) wk7 rs7 h12 zw7 (kp_1 hkp (hq0.mp h43) (fun _ => hq1.mp h63)) (by omega) g4 _ _ _ c_o c_w c_N c_ed c_ef xe xn sp fr hP hS (lv_sub hl [0, 2, 3] rfl)
              · skip
                refine lv_iconst (v := nI 0) hx hb dX5_keepsNotes_66 (by decide) ?_
                exact hret (nI 0) g4 _ _ _ _ (by decide) ⟨Or.inr ⟨rfl, fun z => by have q := hq1.mpr ((z k h12 h30).2 h53); rw [h63] at q; cases q⟩, fr, ⟨_, zw7, c_w⟩, _, _, _, sp⟩ hP hS dX5_keepsNotes_67
          · skip
            refine lv_iconst (v := nI 0) hx hb dX5_keepsNotes_46 (by decide) ?_
            exact hret (nI 0) g3 _ _ _ _ (by decide) ⟨Or.inr ⟨rfl, fun z => by have q := hq0.mpr (z k h12 h30).1; rw [h43] at q; cases q⟩, fr, ⟨_, zw6, c_w⟩, _, _, _, sp⟩ hP hS dX5_keepsNotes_47
        · skip
          refine lv_goto (tgt := 68) hx hb dX5_keepsNotes_33 (by decide) ?_
          refine lv_iinc (v := nI (k + 1)) (lv' := [(2, .int (nI (k + 1))), (3, .ref (ad (400 + 2 * k))), (0, .ref (ad 0)), (1, .ref (ad (300 + 2 * ei)))]) hx hb dX5_keepsNotes_68 hl (k := 1) rfl (nI_1 _) (by decide) rfl (fun ls hl => ?_)
          refine lv_goto (tgt := 7) hx hb dX5_keepsNotes_71 (by decide) ?_
          exact ih7 (k + 1) wk2 rs2 h12 zw2 (kp_no hkp h30) (by omega) ga2 _ _ _ c_o c_w c_N c_ed c_ef xe xn sp fr hP hS (lv_sub hl [0, 2, 3] rfl)
  exact LP7 ((nc - 0) + 1) 0 wk rs5 (Nat.zero_le _) hwk (fun i hi => absurd hi (Nat.not_lt_zero i)) (Nat.lt_succ_self _) g1 _ _ _ c_o c_w c_N c_ed c_ef xe xn sp fr hP hS (lv_sub hl [0, 1, 2] rfl)

theorem tr_t {r : Int32} {p : Prop} (h : tr r p) (h0 : ¬ r = 0) : p := by
  rcases h with ⟨-, h⟩ | ⟨h, -⟩
  · exact h
  · exact absurd h h0
theorem tr_f {r : Int32} {p : Prop} (h : tr r p) (h0 : r = 0) : ¬ p := by
  rcases h with ⟨h, -⟩ | ⟨-, h⟩
  · rw [h] at h0
    exact absurd h0 (by decide)
  · exact h

set_option maxRecDepth 20000 in
theorem wd_X5_sound_0 : Cond.fieldLink RX5 184 "AffineHulls" "noteCount" "I" ∈ wsX5_sound := by decide +kernel
set_option maxRecDepth 20000 in
theorem in_X5_sound_X5 : ∀ w ∈ u_ws RX5 TX5 15, w ∈ wsX5_sound := by decide +kernel
set_option maxRecDepth 20000 in
theorem wd_X5_sound_2 : Cond.fieldLink RX5 89 "AffineHulls" "edgeCount" "I" ∈ wsX5_sound := by decide +kernel
set_option maxRecDepth 20000 in
theorem wd_X5_sound_3 : Cond.fieldLink RX5 43 "AffineHulls" "edges" "[LAffineHulls$Edge;" ∈ wsX5_sound := by decide +kernel
set_option maxRecDepth 20000 in
theorem wd_X5_sound_4 : Cond.fieldLink RX5 50 "AffineHulls" "notes" "[LAffineHulls$Note;" ∈ wsX5_sound := by decide +kernel
set_option maxRecDepth 20000 in
theorem wd_X5_sound_5 : Cond.fieldLink RX5 200 "AffineHulls$Note" "node" "I" ∈ wsX5_sound := by decide +kernel
set_option maxRecDepth 20000 in
theorem in_X5_sound_X2 : ∀ w ∈ u_ws RX2 TX2 2, w ∈ wsX5_sound := by decide +kernel
set_option maxRecDepth 20000 in
theorem wd_X5_sound_7 : Cond.fieldLink RX5 108 "AffineHulls" "entryNode" "I" ∈ wsX5_sound := by decide +kernel
abbrev rm_X5_sound : Room := { frames := 6, cells := 0, slots := 0, locals := 172 }
set_option maxHeartbeats 4000000 in
set_option maxRecDepth 100000 in
theorem c_X5_sound {l : Launch} {G : cx_G} {L : List Nat} {ad : Nat → Nat} {g : Nat → va_E} (hD : cx_D L ad) {N V M ec en al pl nc : Nat} {an : Bool} {ef et ek ev : Nat → Nat} {ez : Nat → Int32} {eg : Nat → Nat → FF} {nn : Nat → Nat} {ng : Nat → Nat → FF} {wk : Nat → FF} (hN : N ≤ 8) (hV1 : 1 ≤ V) (hV : V ≤ 4) (hM : M = N * (V + 1)) (hM2 : M ≤ 40) (hm : ∀ j : Nat, lbX N V M j → j ∈ L) (hnc : nc ≤ 24) (hnn : ∀ i : Nat, i < nc → nn i < N) (hng : ∀ i : Nat, Zb (V + 1) (ng i)) (hen : en < N) (hev : EV N V ec ef et ek ez ev eg) (hwk : Zb (V + 1) wk) (c_o : g 0 = .inr (5, [.int (nI V), .ref (ad 1), .ref (ad 4), .int (nI ec), .int (nI en), .ref (ad 5), .ref (ad 6), .int (nI al), .int (if an = true then 1 else 0), .int (nI pl), .ref (ad 2), .ref (ad 7), .int (nI nc), .ref (ad 180), .ref (ad 3)])) (c_w : g 3 = nA G (V + 1) (vN wk)) (c_E : g 4 = rA (G.2 2) 20 (fun i => if i < 20 then some (ad (300 + 2 * i)) else none)) (c_N : g 7 = rA (G.2 4) 24 (fun i => if i < 24 then some (ad (400 + 2 * i)) else none)) (xe : XE G ad g V ef et ek ez eg) (xn : XN G ad g V nn ng) (sx : ∃ (t2 : Nat → Bool) (kp2 : Nat → Nat → FF) (rs2 : Nat → FF), SpanAt G ad g 180 (V + 1) t2 kp2 rs2) : MI l yX5_sound wsX5_sound rm_X5_sound G L ad g [.ref (ad 0)] (fun r u => tr r (soundP (V + 1) nc en ec nn ng ef et ek ev eg) ∧ (∀ j : Nat, (j ≠ 3 ∧ (j < 180 ∨ 185 + V ≤ j)) → u j = g j) ∧ (∃ wk2 : Nat → FF, Zb (V + 1) wk2 ∧ u 3 = nA G (V + 1) (vN wk2)) ∧ ∃ (t2 : Nat → Bool) (kp2 : Nat → Nat → FF) (rs2 : Nat → FF), SpanAt G ad u 180 (V + 1) t2 kp2 rs2) := by
  refine cx_ofI (cc := cX5_sound) (maxL := 2) (by decide +kernel) rfl (Nat.le_of_ble_eq_true rfl) ?_
  intro p e s m args below meth c Q hx hb hts hown hml hP hK hS hz hret ls hl
  have hown : s.vm.findClass RX5 = some m.cls := hown
  have hl : lv_has ls 2 [(0, .ref (ad 0))] := hl
  have fr : ∀ j : Nat, (j ≠ 3 ∧ (j < 180 ∨ 185 + V ≤ j)) → g j = g j := fun _ _ => rfl
  have hec := hev.1
  refine lv_iconst (v := nI 0) hx hb dX5_sound_0 (by decide) ?_
  refine lv_istore_n (lv' := [(1, .int (nI 0)), (0, .ref (ad 0))]) hx hb dX5_sound_1 rfl hl (by decide) rfl (fun ls hl => ?_)
  have LP2 : ∀ (fu : Nat) (k : Nat), (k ≤ nc) → (∀ i : Nat, i < k → nn i ≠ en) → (nc - k) < fu → ∀ (ls : Array Slot), lv_has ls 2 [(1, .int (nI k)), (0, .ref (ad 0))] → W p l e rm_X5_sound s m args below meth c s.heap [] 0 0 Q (F0 m 2 ls []) := by
    intro fu
    induction fu with
    | zero => intro k hkn hne hfu; exact absurd hfu (Nat.not_lt_zero _)
    | succ fu ih2 =>
      intro k hkn hne hfu2 ls hl
      refine lv_iload_n hx hb dX5_sound_2 rfl (lv_at hl 0 rfl) ?_
      refine lv_aload_n hx hb dX5_sound_3 rfl (lv_at hl 1 rfl) ?_
      refine ax_get (k := 0) (v := .int (nI nc)) hx hb hts in_X5_sound_X5 hown hK hP (hm _ (by unfold lbX; omega)) c_o rfl 12 (by decide) (hts _ wd_X5_sound_0) (fun _ h9 => h9) rfl dX5_sound_4 ?_
      refine ax_icge (a := k) (b := nc) (tgt := 34) hx hb dX5_sound_7 (by decide) (by omega) (by omega) (fun h7 => ?_) (fun h7 => ?_)
      · skip
        refine lv_iconst (v := nI 0) hx hb dX5_sound_34 (by decide) ?_
        refine lv_istore_n (lv' := [(1, .int (nI 0)), (0, .ref (ad 0))]) hx hb dX5_sound_35 rfl hl (by decide) rfl (fun ls hl => ?_)
        have LP36 : ∀ (fu : Nat) (e1 : Nat) (wk2 : Nat → FF), (e1 ≤ ec) → (Zb (V + 1) wk2) → (∀ q : Nat, q < e1 → keepP (V + 1) nc nn ng (ef q) (et q) (ek q) (ev q) (eg q) nc) → (ec - e1) < fu → ∀ (ga2 : Nat → va_E) (H : Heap) (locs : List Loc) (ls : Array Slot), (ga2 0 = .inr (5, [.int (nI V), .ref (ad 1), .ref (ad 4), .int (nI ec), .int (nI en), .ref (ad 5), .ref (ad 6), .int (nI al), .int (if an = true then 1 else 0), .int (nI pl), .ref (ad 2), .ref (ad 7), .int (nI nc), .ref (ad 180), .ref (ad 3)])) → (ga2 3 = nA G (V + 1) (vN wk2)) → (ga2 4 = rA (G.2 2) 20 (fun i => if i < 20 then some (ad (300 + 2 * i)) else none)) → (ga2 7 = rA (G.2 4) 24 (fun i => if i < 24 then some (ad (400 + 2 * i)) else none)) → (XE G ad ga2 V ef et ek ez eg) → (XN G ad ga2 V nn ng) → (∃ (t2 : Nat → Bool) (kp2 : Nat → Nat → FF) (rs2 : Nat → FF), SpanAt G ad ga2 180 (V + 1) t2 kp2 rs2) → (∀ j : Nat, (j ≠ 3 ∧ (j < 180 ∨ 185 + V ≤ j)) → ga2 j = g j) → va_P G.1 vwCl (wl L ad ga2) H → va_S (cx_A L ad s.heap.size) s.heap H locs → lv_has ls 2 [(1, .int (nI e1)), (0, .ref (ad 0))] → W p l e rm_X5_sound s m args below meth c H locs 0 0 Q (F0 m 36 ls []) := by
          intro fu
          induction fu with
          | zero => intro e1 wk2 he1 zw2 hks hfu; exact absurd hfu (Nat.not_lt_zero _)
          | succ fu ih36 =>
            intro e1 wk2 he1 zw2 hks hfu36 ga2 H locs ls c_o c_w c_E c_N xe xn sx fr hP hS hl
            refine lv_iload_n hx hb dX5_sound_36 rfl (lv_at hl 0 rfl) ?_
            refine lv_aload_n hx hb dX5_sound_37 rfl (lv_at hl 1 rfl) ?_
            refine ax_get (k := 0) (v := .int (nI ec)) hx hb hts in_X5_sound_X5 hown hK hP (hm _ (by unfold lbX; omega)) c_o rfl 3 (by decide) (hts _ wd_X5_sound_2) (fun _ h9 => h9) rfl dX5_sound_38 ?_
            refine ax_icge (a := e1) (b := ec) (tgt := 65) hx hb dX5_sound_41 (by decide) (by omega) (by omega) (fun h41 => ?_) (fun h41 => ?_)
            · skip
              refine lv_iconst (v := nI 1) hx hb dX5_sound_65 (by decide) ?_
              exact hret (nI 1) ga2 _ _ _ _ (by decide) ⟨Or.inl ⟨rfl, fun i hi => hne i (by omega), fun q hq => hks q (by omega)⟩, fr, ⟨_, zw2, c_w⟩, sx⟩ hP hS dX5_sound_66
            · skip
              refine lv_aload_n hx hb dX5_sound_44 rfl (lv_at hl 1 rfl) ?_
              refine lv_aload_n hx hb dX5_sound_45 rfl (lv_at hl 1 rfl) ?_
              refine ax_get (k := 0) (v := .ref (ad 4)) hx hb hts in_X5_sound_X5 hown hK hP (hm _ (by unfold lbX; omega)) c_o rfl 2 (by decide) (hts _ wd_X5_sound_3) (fun _ h9 => h9) rfl dX5_sound_46 ?_
              refine lv_iload_n hx hb dX5_sound_49 rfl (lv_at hl 0 rfl) ?_
              refine ax_aald (k := 4) (i := e1) (b := ad (300 + 2 * e1)) hx hb hK hP (hm _ (by unfold lbX; omega)) 2 rfl rfl c_E (by omega) (by omega) (if_pos (by omega)) dX5_sound_50 ?_
              obtain ⟨t9, kp9, rs9, sp9⟩ := sx
              have c_ed := xe.1 e1 (by omega)
              obtain ⟨hf1, hf2, hf3, hf4⟩ := hev.2.1 e1 h41
              refine cx_Vi (As := [.ref (ad (300 + 2 * e1))]) (rest := []) ⟨hx, hb, hml, hown, hts⟩ (c_X5_keepsNotes hD (ei := e1) (wk := wk2) (t := t9) (kp := kp9) (rs := rs9) hN hV1 hV hM hM2 hm hnc hnn hng (by omega) hf1 hf2 hf3 hf4 zw2 c_o c_w c_N xe xn sp9) (cwV 1 hts gX5_sound_X5_keepsNotes rfl rfl rfl (by decide +kernel) ⟨Nat.le_of_ble_eq_true rfl, Nat.le_of_ble_eq_true rfl⟩) hK hP hS hz (hm _ (by unfold lbX; omega)) c_o rfl ⟨Nat.zero_le _, Nat.zero_le _⟩ rfl hl.1 rfl (Nat.le_of_ble_eq_true rfl) dX5_sound_51 (fun r3 g3 H locs hp3 hP hS => ?_)
              obtain ⟨htr, hp3a, ⟨wk3, zw3, hp3w⟩, hp3s⟩ := hp3
              have c_o : g3 0 = .inr (5, [.int (nI V), .ref (ad 1), .ref (ad 4), .int (nI ec), .int (nI en), .ref (ad 5), .ref (ad 6), .int (nI al), .int (if an = true then 1 else 0), .int (nI pl), .ref (ad 2), .ref (ad 7), .int (nI nc), .ref (ad 180), .ref (ad 3)]) := (hp3a 0 (by omega)).trans c_o
              have c_E : g3 4 = rA (G.2 2) 20 (fun i => if i < 20 then some (ad (300 + 2 * i)) else none) := (hp3a 4 (by omega)).trans c_E
              have c_N : g3 7 = rA (G.2 4) 24 (fun i => if i < 24 then some (ad (400 + 2 * i)) else none) := (hp3a 7 (by omega)).trans c_N
              have xe : XE G ad g3 V ef et ek ez eg := xe.kept (fun j h1 h2 => hp3a j (by first | omega | (unfold lbA; omega)))
              have xn : XN G ad g3 V nn ng := xn.kept (fun j h1 h2 => hp3a j (by first | omega | (unfold lbA; omega)))
              have fr : ∀ j : Nat, (j ≠ 3 ∧ (j < 180 ∨ 185 + V ≤ j)) → g3 j = g j := fun j hj => (hp3a j (by omega)).trans (fr j hj)
              have c_w := hp3w
              have sx := hp3s
              refine lv_if_ne (x := r3) (tgt := 59) hx hb dX5_sound_54 (by decide) (fun h54 => ?_) (fun h54 => ?_)
              · skip
                refine lv_iinc (v := nI (e1 + 1)) (lv' := [(1, .int (nI (e1 + 1))), (0, .ref (ad 0))]) hx hb dX5_sound_59 hl (k := 0) rfl (nI_1 _) (by decide) rfl (fun ls hl => ?_)
                refine lv_goto (tgt := 36) hx hb dX5_sound_62 (by decide) ?_
                exact ih36 (e1 + 1) wk3 h41 zw3 (fun q hq => by by_cases z : q = e1; rw [z]; exact tr_t htr h54; exact hks q (by omega)) (by omega) g3 _ _ _ c_o c_w c_E c_N xe xn sx fr hP hS (lv_sub hl [0, 1] rfl)
              · skip
                refine lv_iconst (v := nI 0) hx hb dX5_sound_57 (by decide) ?_
                exact hret (nI 0) g3 _ _ _ _ (by decide) ⟨Or.inr ⟨rfl, fun z => tr_f htr h54 (z.2 e1 h41)⟩, fr, ⟨_, zw3, c_w⟩, sx⟩ hP hS dX5_sound_58
        exact LP36 ((ec - 0) + 1) 0 wk (Nat.zero_le _) hwk (fun i hi => absurd hi (Nat.not_lt_zero i)) (Nat.lt_succ_self _) g _ _ _ c_o c_w c_E c_N xe xn sx fr hP hS (lv_sub hl [0, 1] rfl)
      · skip
        refine lv_aload_n hx hb dX5_sound_10 rfl (lv_at hl 1 rfl) ?_
        refine ax_get (k := 0) (v := .ref (ad 7)) hx hb hts in_X5_sound_X5 hown hK hP (hm _ (by unfold lbX; omega)) c_o rfl 11 (by decide) (hts _ wd_X5_sound_4) (fun _ h9 => h9) rfl dX5_sound_11 ?_
        refine lv_iload_n hx hb dX5_sound_14 rfl (lv_at hl 0 rfl) ?_
        refine ax_aald (k := 7) (i := k) (b := ad (400 + 2 * k)) hx hb hK hP (hm _ (by unfold lbX; omega)) 4 rfl rfl c_N (by omega) (by omega) (if_pos (by omega)) dX5_sound_15 ?_
        have c_n := xn.1 k (by omega)
        have b9 := hnn k h7
        refine ax_get (k := 400 + 2 * k) (v := .int (nI (nn k))) hx hb hts in_X5_sound_X2 hown hK hP (hm _ (by unfold lbX; omega)) c_n rfl 0 (by decide) (hts _ wd_X5_sound_5) (fun _ h9 => h9) rfl dX5_sound_16 ?_
        refine lv_aload_n hx hb dX5_sound_19 rfl (lv_at hl 1 rfl) ?_
        refine ax_get (k := 0) (v := .int (nI en)) hx hb hts in_X5_sound_X5 hown hK hP (hm _ (by unfold lbX; omega)) c_o rfl 4 (by decide) (hts _ wd_X5_sound_7) (fun _ h9 => h9) rfl dX5_sound_20 ?_
        refine ax_icne (a := nn k) (b := en) (tgt := 28) hx hb dX5_sound_23 (by decide) (by omega) (by omega) (fun h23 => ?_) (fun h23 => ?_)
        · skip
          refine lv_iinc (v := nI (k + 1)) (lv' := [(1, .int (nI (k + 1))), (0, .ref (ad 0))]) hx hb dX5_sound_28 hl (k := 0) rfl (nI_1 _) (by decide) rfl (fun ls hl => ?_)
          refine lv_goto (tgt := 2) hx hb dX5_sound_31 (by decide) ?_
          exact ih2 (k + 1) h7 (fun i hi => by by_cases q : i = k; rw [q]; exact h23; exact hne i (by omega)) (by omega) _ (lv_sub hl [0, 1] rfl)
        · skip
          refine lv_iconst (v := nI 0) hx hb dX5_sound_26 (by decide) ?_
          exact hret (nI 0) g _ _ _ _ (by decide) ⟨Or.inr ⟨rfl, fun z => z.1 k h7 h23⟩, fr, ⟨_, hwk, c_w⟩, sx⟩ hP hS dX5_sound_27
  exact LP2 ((nc - 0) + 1) 0 (Nat.zero_le _) (fun i hi => absurd hi (Nat.not_lt_zero i)) (Nat.lt_succ_self _) _ (lv_sub hl [0, 1] rfl)

set_option maxRecDepth 20000 in
theorem wd_X5_forget_0 : Cond.fieldLink RX5 184 "AffineHulls" "noteCount" "I" ∈ wsX5_forget := by decide +kernel
set_option maxRecDepth 20000 in
theorem in_X5_forget_X5 : ∀ w ∈ u_ws RX5 TX5 15, w ∈ wsX5_forget := by decide +kernel
abbrev rm_X5_forget : Room := { frames := 0, cells := 0, slots := 0, locals := 0 }
set_option maxHeartbeats 4000000 in
set_option maxRecDepth 100000 in
theorem c_X5_forget {l : Launch} {G : cx_G} {L : List Nat} {ad : Nat → Nat} {g : Nat → va_E} (hD : cx_D L ad) {N V M ec en al pl nc : Nat} {an : Bool} (hN : N ≤ 8) (hV1 : 1 ≤ V) (hV : V ≤ 4) (hM : M = N * (V + 1)) (hM2 : M ≤ 40) (hm : ∀ j : Nat, lbX N V M j → j ∈ L) (c_o : g 0 = .inr (5, [.int (nI V), .ref (ad 1), .ref (ad 4), .int (nI ec), .int (nI en), .ref (ad 5), .ref (ad 6), .int (nI al), .int (if an = true then 1 else 0), .int (nI pl), .ref (ad 2), .ref (ad 7), .int (nI nc), .ref (ad 180), .ref (ad 3)])) : MI l yX5_forget wsX5_forget rm_X5_forget G L ad g [.ref (ad 0)] (fun r u => r = nI nc ∧ (∀ j : Nat, j ≠ 0 → u j = g j) ∧ u 0 = .inr (5, [.int (nI V), .ref (ad 1), .ref (ad 4), .int (nI ec), .int (nI en), .ref (ad 5), .ref (ad 6), .int (nI al), .int (if an = true then 1 else 0), .int (nI pl), .ref (ad 2), .ref (ad 7), .int (nI 0), .ref (ad 180), .ref (ad 3)])) := by
  refine cx_ofI (cc := cX5_forget) (maxL := 2) (by decide +kernel) rfl (Nat.le_of_ble_eq_true rfl) ?_
  intro p e s m args below meth c Q hx hb hts hown hml hP hK hS hz hret ls hl
  have hown : s.vm.findClass RX5 = some m.cls := hown
  have hl : lv_has ls 2 [(0, .ref (ad 0))] := hl
  have fr : ∀ j : Nat, j ≠ 0 → g j = g j := fun _ _ => rfl
  refine lv_aload_n hx hb dX5_forget_0 rfl (lv_at hl 0 rfl) ?_
  refine ax_get (k := 0) (v := .int (nI nc)) hx hb hts in_X5_forget_X5 hown hK hP (hm _ (by unfold lbX; omega)) c_o rfl 12 (by decide) (hts _ wd_X5_forget_0) (fun _ h9 => h9) rfl dX5_forget_1 ?_
  refine lv_istore_n (lv' := [(1, .int (nI nc)), (0, .ref (ad 0))]) hx hb dX5_forget_4 rfl hl (by decide) rfl (fun ls hl => ?_)
  refine lv_aload_n hx hb dX5_forget_5 rfl (lv_at hl 1 rfl) ?_
  refine lv_iconst (v := nI 0) hx hb dX5_forget_6 (by decide) ?_
  refine ax_put (k := 0) (v := .int (nI 0)) (fs' := [.int (nI V), .ref (ad 1), .ref (ad 4), .int (nI ec), .int (nI en), .ref (ad 5), .ref (ad 6), .int (nI al), .int (if an = true then 1 else 0), .int (nI pl), .ref (ad 2), .ref (ad 7), .int (nI 0), .ref (ad 180), .ref (ad 3)]) hx hb hts in_X5_forget_X5 tyX5 tyX5_ok nmX5 hown hK hP hD hS (hm _ (by unfold lbX; omega)) c_o rfl 12 (by decide) (hts _ wd_X5_forget_0) (fun _ h9 => h9) rfl (ty := .int) (by decide +kernel) rfl rfl (Nat.le_of_ble_eq_true rfl) rfl dX5_forget_7 (fun H locs g1 eg1 hP hS => ?_)
  have c_o : g1 0 = .inr (5, [.int (nI V), .ref (ad 1), .ref (ad 4), .int (nI ec), .int (nI en), .ref (ad 5), .ref (ad 6), .int (nI al), .int (if an = true then 1 else 0), .int (nI pl), .ref (ad 2), .ref (ad 7), .int (nI 0), .ref (ad 180), .ref (ad 3)]) := cx_eq eg1
  have fr : ∀ j : Nat, j ≠ 0 → g1 j = g j := fun j hj => (cx_ne eg1 j (by omega)).trans (fr j hj)
  refine lv_iload_n hx hb dX5_forget_10 rfl (lv_at hl 0 rfl) ?_
  exact hret (nI nc) g1 _ _ _ _ rfl ⟨rfl, fr, c_o⟩ hP hS dX5_forget_11
