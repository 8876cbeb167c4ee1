set_option maxRecDepth 20000 in
theorem wd_X5_clearDraft_0 : Cond.fieldLink RX5 22 "AffineHulls" "draft" "[I" ∈ wsX5_clearDraft := by decide +kernel
set_option maxRecDepth 20000 in
theorem in_X5_clearDraft_X5 : ∀ w ∈ u_ws RX5 TX5 15, w ∈ wsX5_clearDraft := by decide +kernel
abbrev rm_X5_clearDraft : Room := { frames := 1, cells := 0, slots := 0, locals := 23 }
set_option maxHeartbeats 4000000 in
set_option maxRecDepth 100000 in
theorem c_X5_clearDraft {l : Launch} {G : cx_G} {L : List Nat} {ad : Nat → Nat} {g : Nat → va_E} (hD : cx_D L ad) {N V M ec en al pl nc : Nat} {an : Bool} {d : Nat → FF} (hN : N ≤ 8) (hV1 : 1 ≤ V) (hV : V ≤ 4) (hM : M = N * (V + 1)) (hM2 : M ≤ 40) (hm : ∀ j : Nat, lbX N V M j → j ∈ L) (c_o : g 0 = .inr (5, [.int (nI V), .ref (ad 1), .ref (ad 4), .int (nI ec), .int (nI en), .ref (ad 5), .ref (ad 6), .int (nI al), .int (if an = true then 1 else 0), .int (nI pl), .ref (ad 2), .ref (ad 7), .int (nI nc), .ref (ad 180), .ref (ad 3)])) (c_d : g 1 = nA G (V + 1) (vN d)) : MV l yX5_clearDraft wsX5_clearDraft rm_X5_clearDraft G L ad g [.ref (ad 0)] (fun u => (∀ j : Nat, j ≠ 1 → u j = g j) ∧ u 1 = nA G (V + 1) (vN (fl0 (V + 1) d))) := by
  refine cx_ofV (cc := cX5_clearDraft) (maxL := 1) (by decide +kernel) rfl (Nat.le_of_ble_eq_true rfl) ?_
  intro p e s m args below meth c Q hx hb hts hown hml hP hK hS hz hret ls hl
  have hown : s.vm.findClass RX5 = some m.cls := hown
  have hl : lv_has ls 1 [(0, .ref (ad 0))] := hl
  have fr : ∀ j : Nat, j ≠ 1 → g j = g j := fun _ _ => rfl
  refine lv_aload_n hx hb dX5_clearDraft_0 rfl (lv_at hl 0 rfl) ?_
  refine ax_get (k := 0) (v := .ref (ad 1)) hx hb hts in_X5_clearDraft_X5 hown hK hP (hm _ (by unfold lbX; omega)) c_o rfl 1 (by decide) (hts _ wd_X5_clearDraft_0) (fun _ h9 => h9) rfl dX5_clearDraft_1 ?_
  refine lv_iconst (v := nI 0) hx hb dX5_clearDraft_4 (by decide) ?_
  refine cx_Sv (As := [.ref (ad 1), .int (nI 0)]) (rest := []) ⟨hx, hb, hml, hown, hts⟩ (c_J7_fill_53178 hD (a := 1) (n := V + 1) (v := d) (hm _ (by unfold lbX; omega)) (by omega) c_d) (va_cwS 2 hts gX5_clearDraft_J7_fill_53178 rfl rfl rfl (by decide +kernel) ⟨Nat.le_of_ble_eq_true rfl, Nat.le_of_ble_eq_true rfl⟩) hK hP hS hz ⟨Nat.zero_le _, Nat.zero_le _⟩ rfl hl.1 rfl (Nat.le_of_ble_eq_true rfl) dX5_clearDraft_5 (fun g1 H locs hp1 hP hS => ?_)
  obtain ⟨hp1a, hp1b⟩ := hp1
  have c_o : g1 0 = .inr (5, [.int (nI V), .ref (ad 1), .ref (ad 4), .int (nI ec), .int (nI en), .ref (ad 5), .ref (ad 6), .int (nI al), .int (if an = true then 1 else 0), .int (nI pl), .ref (ad 2), .ref (ad 7), .int (nI nc), .ref (ad 180), .ref (ad 3)]) := (hp1a 0 (by omega)).trans c_o
  have fr : ∀ j : Nat, j ≠ 1 → g1 j = g j := fun j hj => (hp1a j (by omega)).trans (fr j hj)
  have c_d := hp1b
  exact hret g1 _ _ _ _ ⟨fr, c_d⟩ hP hS dX5_clearDraft_8

set_option maxRecDepth 20000 in
theorem wd_X5_addPoint_0 : Cond.fieldLink RX5 57 "AffineHulls" "hulls" "[LAffineHulls$Hull;" ∈ wsX5_addPoint := by decide +kernel
set_option maxRecDepth 20000 in
theorem in_X5_addPoint_X5 : ∀ w ∈ u_ws RX5 TX5 15, w ∈ wsX5_addPoint := by decide +kernel
set_option maxRecDepth 20000 in
theorem wd_X5_addPoint_2 : Cond.fieldLink RX5 120 "AffineHulls" "arrivalCount" "I" ∈ wsX5_addPoint := by decide +kernel
set_option maxRecDepth 20000 in
theorem wd_X5_addPoint_3 : Cond.fieldLink RX5 64 "AffineHulls" "arrivals" "[LAffineHulls$Point;" ∈ wsX5_addPoint := by decide +kernel
set_option maxRecDepth 20000 in
theorem wd_X5_addPoint_4 : Cond.fieldLink RX5 153 "AffineHulls$Hull" "span" "LAffineHulls$Span;" ∈ wsX5_addPoint := by decide +kernel
set_option maxRecDepth 20000 in
theorem in_X5_addPoint_X1 : ∀ w ∈ u_ws RX1 TX1 3, w ∈ wsX5_addPoint := by decide +kernel
set_option maxRecDepth 20000 in
theorem wd_X5_addPoint_6 : Cond.fieldLink RX5 130 "AffineHulls$Hull" "pointCount" "I" ∈ wsX5_addPoint := by decide +kernel
set_option maxRecDepth 20000 in
theorem wd_X5_addPoint_7 : Cond.fieldLink RX5 138 "AffineHulls$Hull" "members" "[I" ∈ wsX5_addPoint := by decide +kernel
abbrev rm_X5_addPoint : Room := { frames := 4, cells := 0, slots := 0, locals := 127 }
set_option maxHeartbeats 4000000 in
set_option maxRecDepth 100000 in
theorem c_X5_addPoint {l : Launch} {G : cx_G} {L : List Nat} {ad : Nat → Nat} {g : Nat → va_E} (hD : cx_D L ad) {N V M ec en pl nc : Nat} {an : Bool} {node : Nat} {P : PS} {v : Nat → FF} {fz : Int32} (hN : N ≤ 8) (hV1 : 1 ≤ V) (hV : V ≤ 4) (hM : M = N * (V + 1)) (hM2 : M ≤ 40) (hm : ∀ j : Nat, lbX N V M j → j ∈ L) (hnode : node < N) (hv : Zb (V + 1) v) (c_o : g 0 = .inr (5, [.int (nI V), .ref (ad 1), .ref (ad 4), .int (nI ec), .int (nI en), .ref (ad 5), .ref (ad 6), .int (nI P.1), .int (if an = true then 1 else 0), .int (nI pl), .ref (ad 2), .ref (ad 7), .int (nI nc), .ref (ad 180), .ref (ad 3)])) (c_w : g 3 = nA G (V + 1) (vN v)) (c_H : g 5 = rA (G.2 3) N (fun i => if i < N then some (ad (200 + 2 * i)) else none)) (c_A : g 6 = rA (G.2 5) M (fun i => if i < M then some (ad (500 + 2 * i)) else none)) (hxa : XA G ad g N V M P) : MV l yX5_addPoint wsX5_addPoint rm_X5_addPoint G L ad g [.ref (ad 0), .int (nI node), .ref (ad 3), .int fz] (fun u => (∀ j : Nat, j ≠ 0 → ¬ lbA j → u j = g j) ∧ u 0 = .inr (5, [.int (nI V), .ref (ad 1), .ref (ad 4), .int (nI ec), .int (nI en), .ref (ad 5), .ref (ad 6), .int (nI ((meetF (V + 1) P node v fz).1)), .int (if an = true then 1 else 0), .int (nI pl), .ref (ad 2), .ref (ad 7), .int (nI nc), .ref (ad 180), .ref (ad 3)]) ∧ XA G ad u N V M (meetF (V + 1) P node v fz)) := by
  refine cx_ofV (cc := cX5_addPoint) (maxL := 5) (by decide +kernel) rfl (Nat.le_of_ble_eq_true rfl) ?_
  intro p e s m args below meth c Q hx hb hts hown hml hP hK hS hz hret ls hl
  have hown : s.vm.findClass RX5 = some m.cls := hown
  have hl : lv_has ls 5 [(0, .ref (ad 0)), (1, .int (nI node)), (2, .ref (ad 3)), (3, .int fz)] := hl
  have fr : ∀ j : Nat, (j ≠ 0 ∧ (j < 100 + 10 * node ∨ 100 + 10 * node + 4 + (V + 1) ≤ j) ∧ j ≠ 200 + 2 * node ∧ j ≠ 201 + 2 * node ∧ j ≠ 500 + 2 * P.1 ∧ j ≠ 501 + 2 * P.1) → g j = g j := fun _ _ => rfl
  have hxa9 := hxa
  obtain ⟨nd, ix, og, rw, ct, mb, T, K, R, hxn, hxp, hxs⟩ := hxa9
  have hal5 := hxp.2.2.2.2
  have hct5 := (hxp.2.1 node hnode).1
  have hct6 := (hxp.2.1 node hnode).2.1
  have sp0 := hxn.2.2.1 node hnode
  have c_s := sp0.1
  have c_h := hxn.1 node hnode
  have c_m := hxn.2.1 node hnode
  refine lv_aload_n hx hb dX5_addPoint_0 rfl (lv_at hl 0 rfl) ?_
  refine ax_get (k := 0) (v := .ref (ad 5)) hx hb hts in_X5_addPoint_X5 hown hK hP (hm _ (by unfold lbX; omega)) c_o rfl 5 (by decide) (hts _ wd_X5_addPoint_0) (fun _ h9 => h9) rfl dX5_addPoint_1 ?_
  refine lv_iload_n hx hb dX5_addPoint_4 rfl (lv_at hl 1 rfl) ?_
  refine ax_aald (k := 5) (i := node) (b := ad (200 + 2 * node)) hx hb hK hP (hm _ (by unfold lbX; omega)) 3 rfl rfl c_H (by omega) (by omega) (if_pos (by omega)) dX5_addPoint_5 ?_
  refine lv_astore (lv' := [(4, .ref (ad (200 + 2 * node))), (0, .ref (ad 0)), (1, .int (nI node)), (2, .ref (ad 3)), (3, .int fz)]) hx hb dX5_addPoint_6 hl (by decide) rfl (fun ls hl => ?_)
  refine lv_aload_n hx hb dX5_addPoint_8 rfl (lv_at hl 1 rfl) ?_
  refine ax_get (k := 0) (v := .int (nI P.1)) hx hb hts in_X5_addPoint_X5 hown hK hP (hm _ (by unfold lbX; omega)) c_o rfl 7 (by decide) (hts _ wd_X5_addPoint_2) (fun _ h9 => h9) rfl dX5_addPoint_9 ?_
  refine lv_aload_n hx hb dX5_addPoint_12 rfl (lv_at hl 1 rfl) ?_
  refine ax_get (k := 0) (v := .ref (ad 6)) hx hb hts in_X5_addPoint_X5 hown hK hP (hm _ (by unfold lbX; omega)) c_o rfl 6 (by decide) (hts _ wd_X5_addPoint_3) (fun _ h9 => h9) rfl dX5_addPoint_13 ?_
  refine ax_alen (k := 6) (n := M) hx hb hK hP (hm _ (by unfold lbX; omega)) 5 rfl c_A rfl dX5_addPoint_16 ?_
  refine ax_icge (a := P.1) (b := M) (tgt := 88) hx hb dX5_addPoint_17 (by decide) (by omega) (by omega) (fun h17 => ?_) (fun h17 => ?_)
  · skip
    exact hret g _ _ _ _ (by rw [meetF_t (hxp.full hxs hM h17 hnode v)]; exact ⟨fun j _ _ => rfl, c_o, hxa⟩) hP hS dX5_addPoint_88
  · skip
    refine lv_aload hx hb dX5_addPoint_20 (lv_at hl 0 rfl) ?_
    refine ax_get (k := 200 + 2 * node) (v := .ref (ad (100 + 10 * node))) hx hb hts in_X5_addPoint_X1 hown hK hP (hm _ (by unfold lbX; omega)) c_h rfl 0 (by decide) (hts _ wd_X5_addPoint_4) (fun _ h9 => h9) rfl dX5_addPoint_22 ?_
    refine lv_aload_n hx hb dX5_addPoint_25 rfl (lv_at hl 3 rfl) ?_
    refine cx_Vi (As := [.ref (ad 3)]) (rest := []) ⟨hx, hb, hml, hown, hts⟩ (c_X4_add hD (b := 100 + 10 * node) (n := V + 1) (t := T node) (kp := K node) (rs := R node) (a := 3) (v := v) (hm _ (by unfold lbX; omega)) (by omega) c_w (fun j hj => hm _ (by unfold lbX; omega)) (by omega) (by omega) sp0 (red_nt (InSp.lin _ _ _) (hxs node hnode).2 _)) (cwV 1 hts gX5_addPoint_X4_add rfl rfl rfl (by decide +kernel) ⟨Nat.le_of_ble_eq_true rfl, Nat.le_of_ble_eq_true rfl⟩) hK hP hS hz (hm _ (by unfold lbX; omega)) c_s rfl ⟨Nat.zero_le _, Nat.zero_le _⟩ rfl hl.1 rfl (Nat.le_of_ble_eq_true rfl) dX5_addPoint_26 (fun r1 g1 H locs hp1 hP hS => ?_)
    obtain ⟨rb, t2, kp2, e_r, hpa, sp2, hadd⟩ := hp1
    rw [e_r]
    have c_o : g1 0 = .inr (5, [.int (nI V), .ref (ad 1), .ref (ad 4), .int (nI ec), .int (nI en), .ref (ad 5), .ref (ad 6), .int (nI P.1), .int (if an = true then 1 else 0), .int (nI pl), .ref (ad 2), .ref (ad 7), .int (nI nc), .ref (ad 180), .ref (ad 3)]) := (hpa 0 (by omega)).trans c_o
    have c_w : g1 3 = nA G (V + 1) (vN v) := (hpa 3 (by omega)).trans c_w
    have c_H : g1 5 = rA (G.2 3) N (fun i => if i < N then some (ad (200 + 2 * i)) else none) := (hpa 5 (by omega)).trans c_H
    have c_A : g1 6 = rA (G.2 5) M (fun i => if i < M then some (ad (500 + 2 * i)) else none) := (hpa 6 (by omega)).trans c_A
    have c_h : g1 (200 + 2 * node) = .inr (1, [.ref (ad (100 + 10 * node)), .ref (ad (201 + 2 * node)), .int (nI (ct node))]) := (hpa (200 + 2 * node) (by omega)).trans c_h
    have c_m : g1 (201 + 2 * node) = nA G (V + 1) (mb node) := (hpa (201 + 2 * node) (by omega)).trans c_m
    have fr : ∀ j : Nat, (j ≠ 0 ∧ (j < 100 + 10 * node ∨ 100 + 10 * node + 4 + (V + 1) ≤ j) ∧ j ≠ 200 + 2 * node ∧ j ≠ 201 + 2 * node ∧ j ≠ 500 + 2 * P.1 ∧ j ≠ 501 + 2 * P.1) → g1 j = g j := fun j hj => (hpa j (by omega)).trans (fr j hj)
    have c_s := sp2.1
    have sp := sp2
    refine ax_zeq (b := rb) (tgt := 88) hx hb dX5_addPoint_29 (by decide) (fun h29 => ?_) (fun h29 => ?_)
    · skip
      exact hret g1 _ _ _ _ (by obtain ⟨q1, q2⟩ := addp_f hxn hxp hxs hN hV hnode (v := v) cpv_in hpa sp hadd h29 fz; rw [q1]; exact ⟨fun j h1 h2 => hpa j (by unfold lbA at h2; omega), c_o, q2⟩) hP hS dX5_addPoint_88
    · skip
      have hctl := addp_ct hxp hxs hnode hadd h29
      refine lv_aload_n hx hb dX5_addPoint_32 rfl (lv_at hl 1 rfl) ?_
      refine ax_get (k := 0) (v := .ref (ad 6)) hx hb hts in_X5_addPoint_X5 hown hK hP (hm _ (by unfold lbX; omega)) c_o rfl 6 (by decide) (hts _ wd_X5_addPoint_3) (fun _ h9 => h9) rfl dX5_addPoint_33 ?_
      refine lv_aload_n hx hb dX5_addPoint_36 rfl (lv_at hl 1 rfl) ?_
      refine ax_get (k := 0) (v := .int (nI P.1)) hx hb hts in_X5_addPoint_X5 hown hK hP (hm _ (by unfold lbX; omega)) c_o rfl 7 (by decide) (hts _ wd_X5_addPoint_2) (fun _ h9 => h9) rfl dX5_addPoint_37 ?_
      refine ax_aald (k := 6) (i := P.1) (b := ad (500 + 2 * P.1)) hx hb hK hP (hm _ (by unfold lbX; omega)) 5 rfl rfl c_A (by omega) (by omega) (if_pos (by omega)) dX5_addPoint_40 ?_
      have c_p := (hpa (500 + 2 * P.1) (by omega)).trans (hxn.2.2.2.1 P.1 h17)
      have c_pr := (hpa (501 + 2 * P.1) (by omega)).trans (hxn.2.2.2.2 P.1 h17)
      refine lv_iload_n hx hb dX5_addPoint_41 rfl (lv_at hl 2 rfl) ?_
      refine lv_aload hx hb dX5_addPoint_42 (lv_at hl 0 rfl) ?_
      refine ax_get (k := 200 + 2 * node) (v := .int (nI (ct node))) hx hb hts in_X5_addPoint_X1 hown hK hP (hm _ (by unfold lbX; omega)) c_h rfl 2 (by decide) (hts _ wd_X5_addPoint_6) (fun _ h9 => h9) rfl dX5_addPoint_44 ?_
      refine lv_iload_n hx hb dX5_addPoint_47 rfl (lv_at hl 4 rfl) ?_
      refine lv_aload_n hx hb dX5_addPoint_48 rfl (lv_at hl 3 rfl) ?_
      refine cx_Vv (As := [.int (nI node), .int (nI (ct node)), .int fz, .ref (ad 3)]) (rest := []) ⟨hx, hb, hml, hown, hts⟩ (c_X3_set hD (k := 500 + 2 * P.1) (kf := 501 + 2 * P.1) (b := 3) (n := V + 1) (v := v) (w := rw P.1) (by omega) (by omega) (by omega) (hm _ (by unfold lbX; omega)) (hm _ (by unfold lbX; omega)) (hm _ (by unfold lbX; omega)) (by omega) c_p c_pr c_w) (cwV 4 hts gX5_addPoint_X3_set rfl rfl rfl (by decide +kernel) ⟨Nat.le_of_ble_eq_true rfl, Nat.le_of_ble_eq_true rfl⟩) hK hP hS hz (hm _ (by unfold lbX; omega)) c_p rfl ⟨Nat.zero_le _, Nat.zero_le _⟩ rfl hl.1 rfl (Nat.le_of_ble_eq_true rfl) dX5_addPoint_49 (fun g2 H locs hp2 hP hS => ?_)
      obtain ⟨hp2a, hp2b, hp2c⟩ := hp2
      have hp2a : ∀ j : Nat, (j ≠ 500 + 2 * P.1 ∧ j ≠ 501 + 2 * P.1) → g2 j = g1 j := hp2a
      have c_o : g2 0 = .inr (5, [.int (nI V), .ref (ad 1), .ref (ad 4), .int (nI ec), .int (nI en), .ref (ad 5), .ref (ad 6), .int (nI P.1), .int (if an = true then 1 else 0), .int (nI pl), .ref (ad 2), .ref (ad 7), .int (nI nc), .ref (ad 180), .ref (ad 3)]) := (hp2a 0 (by omega)).trans c_o
      have c_w : g2 3 = nA G (V + 1) (vN v) := (hp2a 3 (by omega)).trans c_w
      have c_H : g2 5 = rA (G.2 3) N (fun i => if i < N then some (ad (200 + 2 * i)) else none) := (hp2a 5 (by omega)).trans c_H
      have c_A : g2 6 = rA (G.2 5) M (fun i => if i < M then some (ad (500 + 2 * i)) else none) := (hp2a 6 (by omega)).trans c_A
      have c_s : g2 (100 + 10 * node) = .inr (4, [.ref (ad (100 + 10 * node + 1)), .ref (ad (100 + 10 * node + 2)), .ref (ad (100 + 10 * node + 3))]) := (hp2a (100 + 10 * node) (by omega)).trans c_s
      have c_h : g2 (200 + 2 * node) = .inr (1, [.ref (ad (100 + 10 * node)), .ref (ad (201 + 2 * node)), .int (nI (ct node))]) := (hp2a (200 + 2 * node) (by omega)).trans c_h
      have c_m : g2 (201 + 2 * node) = nA G (V + 1) (mb node) := (hp2a (201 + 2 * node) (by omega)).trans c_m
      have sp : SpanAt G ad g2 (100 + 10 * node) (V + 1) t2 kp2 (sp_red (V + 1) (T node) (K node) (V + 1) (cpv (V + 1) v (R node))) := sp.kept (fun j h1 h2 => hp2a j (by omega))
      have fr : ∀ j : Nat, (j ≠ 0 ∧ (j < 100 + 10 * node ∨ 100 + 10 * node + 4 + (V + 1) ≤ j) ∧ j ≠ 200 + 2 * node ∧ j ≠ 201 + 2 * node ∧ j ≠ 500 + 2 * P.1 ∧ j ≠ 501 + 2 * P.1) → g2 j = g j := fun j hj => (hp2a j (by omega)).trans (fr j hj)
      have c_p := hp2b
      have c_pr := hp2c
      rw [cpv_z hv (hxp.2.2.2.1 P.1)] at c_pr
      refine lv_aload hx hb dX5_addPoint_52 (lv_at hl 0 rfl) ?_
      refine ax_get (k := 200 + 2 * node) (v := .ref (ad (201 + 2 * node))) hx hb hts in_X5_addPoint_X1 hown hK hP (hm _ (by unfold lbX; omega)) c_h rfl 1 (by decide) (hts _ wd_X5_addPoint_7) (fun _ h9 => h9) rfl dX5_addPoint_54 ?_
      refine lv_aload hx hb dX5_addPoint_57 (lv_at hl 0 rfl) ?_
      refine ax_get (k := 200 + 2 * node) (v := .int (nI (ct node))) hx hb hts in_X5_addPoint_X1 hown hK hP (hm _ (by unfold lbX; omega)) c_h rfl 2 (by decide) (hts _ wd_X5_addPoint_6) (fun _ h9 => h9) rfl dX5_addPoint_59 ?_
      refine lv_aload_n hx hb dX5_addPoint_62 rfl (lv_at hl 1 rfl) ?_
      refine ax_get (k := 0) (v := .int (nI P.1)) hx hb hts in_X5_addPoint_X5 hown hK hP (hm _ (by unfold lbX; omega)) c_o rfl 7 (by decide) (hts _ wd_X5_addPoint_2) (fun _ h9 => h9) rfl dX5_addPoint_63 ?_
      refine ax_iast (k := 201 + 2 * node) (i := ct node) (f' := (fun j => nI ((nu (mb node) (ct node) P.1) j))) hx hb hK hP hD hS (hm _ (by unfold lbX; omega)) c_m (by omega) (by omega) (up_n _ _ _) dX5_addPoint_66 (fun H locs g3 eg3 hP hS => ?_)
      have c_o : g3 0 = .inr (5, [.int (nI V), .ref (ad 1), .ref (ad 4), .int (nI ec), .int (nI en), .ref (ad 5), .ref (ad 6), .int (nI P.1), .int (if an = true then 1 else 0), .int (nI pl), .ref (ad 2), .ref (ad 7), .int (nI nc), .ref (ad 180), .ref (ad 3)]) := (cx_ne eg3 0 (by omega)).trans c_o
      have c_w : g3 3 = nA G (V + 1) (vN v) := (cx_ne eg3 3 (by omega)).trans c_w
      have c_H : g3 5 = rA (G.2 3) N (fun i => if i < N then some (ad (200 + 2 * i)) else none) := (cx_ne eg3 5 (by omega)).trans c_H
      have c_A : g3 6 = rA (G.2 5) M (fun i => if i < M then some (ad (500 + 2 * i)) else none) := (cx_ne eg3 6 (by omega)).trans c_A
      have c_s : g3 (100 + 10 * node) = .inr (4, [.ref (ad (100 + 10 * node + 1)), .ref (ad (100 + 10 * node + 2)), .ref (ad (100 + 10 * node + 3))]) := (cx_ne eg3 (100 + 10 * node) (by omega)).trans c_s
      have c_h : g3 (200 + 2 * node) = .inr (1, [.ref (ad (100 + 10 * node)), .ref (ad (201 + 2 * node)), .int (nI (ct node))]) := (cx_ne eg3 (200 + 2 * node) (by omega)).trans c_h
      have c_p : g3 (500 + 2 * P.1) = .inr (3, [.int (nI node), .int (nI (ct node)), .int fz, .ref (ad (501 + 2 * P.1))]) := (cx_ne eg3 (500 + 2 * P.1) (by omega)).trans c_p
      have c_pr : g3 (501 + 2 * P.1) = nA G (V + 1) (vN v) := (cx_ne eg3 (501 + 2 * P.1) (by omega)).trans c_pr
      have sp : SpanAt G ad g3 (100 + 10 * node) (V + 1) t2 kp2 (sp_red (V + 1) (T node) (K node) (V + 1) (cpv (V + 1) v (R node))) := sp.kept (fun j h1 h2 => cx_ne eg3 j (by omega))
      have c_m : g3 (201 + 2 * node) = nA G (V + 1) (nu (mb node) (ct node) P.1) := cx_eq eg3
      have fr : ∀ j : Nat, (j ≠ 0 ∧ (j < 100 + 10 * node ∨ 100 + 10 * node + 4 + (V + 1) ≤ j) ∧ j ≠ 200 + 2 * node ∧ j ≠ 201 + 2 * node ∧ j ≠ 500 + 2 * P.1 ∧ j ≠ 501 + 2 * P.1) → g3 j = g j := fun j hj => (cx_ne eg3 j (by omega)).trans (fr j hj)
      refine lv_aload hx hb dX5_addPoint_67 (lv_at hl 0 rfl) ?_
      refine lv_dup hx hb dX5_addPoint_69 rfl ?_
      refine ax_get (k := 200 + 2 * node) (v := .int (nI (ct node))) hx hb hts in_X5_addPoint_X1 hown hK hP (hm _ (by unfold lbX; omega)) c_h rfl 2 (by decide) (hts _ wd_X5_addPoint_6) (fun _ h9 => h9) rfl dX5_addPoint_70 ?_
      refine lv_iconst (v := nI 1) hx hb dX5_addPoint_73 (by decide) ?_
      refine ax_add (a := ct node) (b := 1) hx hb dX5_addPoint_74 ?_
      refine ax_put (k := 200 + 2 * node) (v := .int (nI (ct node + 1))) (fs' := [.ref (ad (100 + 10 * node)), .ref (ad (201 + 2 * node)), .int (nI (ct node + 1))]) hx hb hts in_X5_addPoint_X1 tyX1 tyX1_ok nmX1 hown hK hP hD hS (hm _ (by unfold lbX; omega)) c_h rfl 2 (by decide) (hts _ wd_X5_addPoint_6) (fun _ h9 => h9) rfl (ty := .int) (by decide +kernel) rfl rfl (Nat.le_of_ble_eq_true rfl) rfl dX5_addPoint_75 (fun H locs g4 eg4 hP hS => ?_)
      have c_o : g4 0 = .inr (5, [.int (nI V), .ref (ad 1), .ref (ad 4), .int (nI ec), .int (nI en), .ref (ad 5), .ref (ad 6), .int (nI P.1), .int (if an = true then 1 else 0), .int (nI pl), .ref (ad 2), .ref (ad 7), .int (nI nc), .ref (ad 180), .ref (ad 3)]) := (cx_ne eg4 0 (by omega)).trans c_o
      have c_w : g4 3 = nA G (V + 1) (vN v) := (cx_ne eg4 3 (by omega)).trans c_w
      have c_H : g4 5 = rA (G.2 3) N (fun i => if i < N then some (ad (200 + 2 * i)) else none) := (cx_ne eg4 5 (by omega)).trans c_H
      have c_A : g4 6 = rA (G.2 5) M (fun i => if i < M then some (ad (500 + 2 * i)) else none) := (cx_ne eg4 6 (by omega)).trans c_A
      have c_s : g4 (100 + 10 * node) = .inr (4, [.ref (ad (100 + 10 * node + 1)), .ref (ad (100 + 10 * node + 2)), .ref (ad (100 + 10 * node + 3))]) := (cx_ne eg4 (100 + 10 * node) (by omega)).trans c_s
      have c_m : g4 (201 + 2 * node) = nA G (V + 1) (nu (mb node) (ct node) P.1) := (cx_ne eg4 (201 + 2 * node) (by omega)).trans c_m
      have c_p : g4 (500 + 2 * P.1) = .inr (3, [.int (nI node), .int (nI (ct node)), .int fz, .ref (ad (501 + 2 * P.1))]) := (cx_ne eg4 (500 + 2 * P.1) (by omega)).trans c_p
      have c_pr : g4 (501 + 2 * P.1) = nA G (V + 1) (vN v) := (cx_ne eg4 (501 + 2 * P.1) (by omega)).trans c_pr
      have sp : SpanAt G ad g4 (100 + 10 * node) (V + 1) t2 kp2 (sp_red (V + 1) (T node) (K node) (V + 1) (cpv (V + 1) v (R node))) := sp.kept (fun j h1 h2 => cx_ne eg4 j (by omega))
      have c_h : g4 (200 + 2 * node) = .inr (1, [.ref (ad (100 + 10 * node)), .ref (ad (201 + 2 * node)), .int (nI (ct node + 1))]) := cx_eq eg4
      have fr : ∀ j : Nat, (j ≠ 0 ∧ (j < 100 + 10 * node ∨ 100 + 10 * node + 4 + (V + 1) ≤ j) ∧ j ≠ 200 + 2 * node ∧ j ≠ 201 + 2 * node ∧ j ≠ 500 + 2 * P.1 ∧ j ≠ 501 + 2 * P.1) → g4 j = g j := fun j hj => (cx_ne eg4 j (by omega)).trans (fr j hj)
      refine lv_aload_n hx hb dX5_addPoint_78 rfl (lv_at hl 1 rfl) ?_
      refine lv_dup hx hb dX5_addPoint_79 rfl ?_
      refine ax_get (k := 0) (v := .int (nI P.1)) hx hb hts in_X5_addPoint_X5 hown hK hP (hm _ (by unfold lbX; omega)) c_o rfl 7 (by decide) (hts _ wd_X5_addPoint_2) (fun _ h9 => h9) rfl dX5_addPoint_80 ?_
      refine lv_iconst (v := nI 1) hx hb dX5_addPoint_83 (by decide) ?_
      refine ax_add (a := P.1) (b := 1) hx hb dX5_addPoint_84 ?_
      refine ax_put (k := 0) (v := .int (nI (P.1 + 1))) (fs' := [.int (nI V), .ref (ad 1), .ref (ad 4), .int (nI ec), .int (nI en), .ref (ad 5), .ref (ad 6), .int (nI (P.1 + 1)), .int (if an = true then 1 else 0), .int (nI pl), .ref (ad 2), .ref (ad 7), .int (nI nc), .ref (ad 180), .ref (ad 3)]) hx hb hts in_X5_addPoint_X5 tyX5 tyX5_ok nmX5 hown hK hP hD hS (hm _ (by unfold lbX; omega)) c_o rfl 7 (by decide) (hts _ wd_X5_addPoint_2) (fun _ h9 => h9) rfl (ty := .int) (by decide +kernel) rfl rfl (Nat.le_of_ble_eq_true rfl) rfl dX5_addPoint_85 (fun H locs g5 eg5 hP hS => ?_)
      have c_w : g5 3 = nA G (V + 1) (vN v) := (cx_ne eg5 3 (by omega)).trans c_w
      have c_H : g5 5 = rA (G.2 3) N (fun i => if i < N then some (ad (200 + 2 * i)) else none) := (cx_ne eg5 5 (by omega)).trans c_H
      have c_A : g5 6 = rA (G.2 5) M (fun i => if i < M then some (ad (500 + 2 * i)) else none) := (cx_ne eg5 6 (by omega)).trans c_A
      have c_s : g5 (100 + 10 * node) = .inr (4, [.ref (ad (100 + 10 * node + 1)), .ref (ad (100 + 10 * node + 2)), .ref (ad (100 + 10 * node + 3))]) := (cx_ne eg5 (100 + 10 * node) (by omega)).trans c_s
      have c_h : g5 (200 + 2 * node) = .inr (1, [.ref (ad (100 + 10 * node)), .ref (ad (201 + 2 * node)), .int (nI (ct node + 1))]) := (cx_ne eg5 (200 + 2 * node) (by omega)).trans c_h
      have c_m : g5 (201 + 2 * node) = nA G (V + 1) (nu (mb node) (ct node) P.1) := (cx_ne eg5 (201 + 2 * node) (by omega)).trans c_m
      have c_p : g5 (500 + 2 * P.1) = .inr (3, [.int (nI node), .int (nI (ct node)), .int fz, .ref (ad (501 + 2 * P.1))]) := (cx_ne eg5 (500 + 2 * P.1) (by omega)).trans c_p
      have c_pr : g5 (501 + 2 * P.1) = nA G (V + 1) (vN v) := (cx_ne eg5 (501 + 2 * P.1) (by omega)).trans c_pr
      have sp : SpanAt G ad g5 (100 + 10 * node) (V + 1) t2 kp2 (sp_red (V + 1) (T node) (K node) (V + 1) (cpv (V + 1) v (R node))) := sp.kept (fun j h1 h2 => cx_ne eg5 j (by omega))
      have c_o : g5 0 = .inr (5, [.int (nI V), .ref (ad 1), .ref (ad 4), .int (nI ec), .int (nI en), .ref (ad 5), .ref (ad 6), .int (nI (P.1 + 1)), .int (if an = true then 1 else 0), .int (nI pl), .ref (ad 2), .ref (ad 7), .int (nI nc), .ref (ad 180), .ref (ad 3)]) := cx_eq eg5
      have fr : ∀ j : Nat, (j ≠ 0 ∧ (j < 100 + 10 * node ∨ 100 + 10 * node + 4 + (V + 1) ≤ j) ∧ j ≠ 200 + 2 * node ∧ j ≠ 201 + 2 * node ∧ j ≠ 500 + 2 * P.1 ∧ j ≠ 501 + 2 * P.1) → g5 j = g j := fun j hj => (cx_ne eg5 j (by omega)).trans (fr j hj)
      exact hret g5 _ _ _ _ (by obtain ⟨q1, q2⟩ := addp_t hxn hxp hxs hN hV hnode h17 hv cpv_in fr sp hadd h29 c_h c_m c_p c_pr; rw [q1]; exact ⟨fun j h1 h2 => fr j (by unfold lbA at h2; omega), c_o, q2⟩) hP hS dX5_addPoint_88
