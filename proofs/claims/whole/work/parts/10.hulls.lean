set_option maxRecDepth 20000 in
theorem wd_X5_clearDraft_0 : Cond.fieldLink RX5 22 "AffineHulls" "draft" "[I" ∈ wsX5_clearDraft := by decide +kernel
set_option maxRecDepth 20000 in
theorem in_X5_clearDraft_X5 : ∀ w ∈ u_ws RX5 TX5 15, w ∈ wsX5_clearDraft := by decide +kernel
abbrev rm_X5_clearDraft : Room := { frames := 1, cells := 0, slots := 0, locals := 23 }
set_option maxHeartbeats 4000000 in
set_option maxRecDepth 100000 in
theorem c_X5_clearDraft {l : Launch} {G : cx_G} {L : List Nat} {ad : Nat → Nat} {g : Nat → va_E} (hD : cx_D L ad) {N V M ec en al pl nc : Nat} {an : Bool} {d : Nat → FF} (hN : N ≤ 8) (hV1 : 1 ≤ V) (hV : V ≤ 4) (hM : M = N * (V + 1)) (hM2 : M ≤ 40) (hm : ∀ j : Nat, lbX N V M j → j ∈ L) (c_o : g 0 = .inr (5, [.int (nI V), .ref (ad 1), .ref (ad 4), .int (nI ec), .int (nI en), .ref (ad 5), .ref (ad 6), .int (nI al), .int (if an = true then 1 else 0), .int (nI pl), .ref (ad 2), .ref (ad 7), .int (nI nc), .ref (ad 180), .ref (ad 3)])) (c_d : g 1 = nA G (V + 1) (vN d)) : MV l yX5_clearDraft wsX5_clearDraft rm_X5_clearDraft G L ad g [.ref (ad 0)] (fun u => (∀ j : Nat, j ≠ 1 → u j = g j) ∧ u 1 = nA G (V + 1) (vN (fl0 (V + 1) d))) := by
  refine cx_ofV (cc := cX5_clearDraft) (maxL := 1) (by decide +kernel) rfl (Nat.le_of_ble_eq_true rfl) ?_
  intro p e s m args below meth c Q hx hb hts hown hml hP hK hS hz hret ls hl
  have hown : s.vm.findClass RX5 = some m.cls := hown
  have hl : lv_has ls 1 [(0, .ref (ad 0))] := hl
  have fr : ∀ j : Nat, j ≠ 1 → g j = g j := fun _ _ => rfl
  refine lv_aload_n hx hb dX5_clearDraft_0 rfl (lv_at hl 0 rfl) ?_
  refine ax_get (k := 0) (v := .ref (ad 1)) hx hb hts in_X5_clearDraft_X5 hown hK hP (hm _ (by unfold lbX; omega)) c_o rfl 1 (by decide) (hts _ wd_X5_clearDraft_0) (fun _ h9 => h9) rfl dX5_clearDraft_1 ?_
  refine lv_iconst (v := nI 0) hx hb dX5_clearDraft_4 (by decide) ?_
  refine cx_Sv (As := [.ref (ad 1), .int (nI 0)]) (rest := []) ⟨hx, hb, hml, hown, hts⟩ (c_J7_fill_53178 hD (a := 1) (n := V + 1) (v := d) (hm _ (by unfold lbX; omega)) (by omega) c_d) (va_cwS 2 hts gX5_clearDraft_J7_fill_53178 rfl rfl rfl (by decide +kernel) ⟨Nat.le_of_ble_eq_true rfl, Nat.le_of_ble_eq_true rfl⟩) hK hP hS hz ⟨Nat.zero_le _, Nat.zero_le _⟩ rfl hl.1 rfl (Nat.le_of_ble_eq_true rfl) dX5_clearDraft_5 (fun g1 H locs hp1 hP hS => ?_)
  obtain ⟨hp1a, hp1b⟩ := hp1
  have c_o : g1 0 = .inr (5, [.int (nI V), .ref (ad 1), .ref (ad 4), .int (nI ec), .int (nI en), .ref (ad 5), .ref (ad 6), .int (nI al), .int (if an = true then 1 else 0), .int (nI pl), .ref (ad 2), .ref (ad 7), .int (nI nc), .ref (ad 180), .ref (ad 3)]) := (hp1a 0 (by omega)).trans c_o
  have fr : ∀ j : Nat, j ≠ 1 → g1 j = g j := fun j hj => (hp1a j (by omega)).trans (fr j hj)
  have c_d := hp1b
  exact hret g1 _ _ _ _ ⟨fr, c_d⟩ hP hS dX5_clearDraft_8

set_option maxRecDepth 20000 in
theorem wd_X5_addPoint_0 : Cond.fieldLink RX5 57 "AffineHulls" "hulls" "[LAffineHulls$Hull;" ∈ wsX5_addPoint := by decide +kernel
set_option maxRecDepth 20000 in
theorem in_X5_addPoint_X5 : ∀ w ∈ u_ws RX5 TX5 15, w ∈ wsX5_addPoint := by decide +kernel
set_option maxRecDepth 20000 in
theorem wd_X5_addPoint_2 : Cond.fieldLink RX5 120 "AffineHulls" "arrivalCount" "I" ∈ wsX5_addPoint := by decide +kernel
set_option maxRecDepth 20000 in
theorem wd_X5_addPoint_3 : Cond.fieldLink RX5 64 "AffineHulls" "arrivals" "[LAffineHulls$Point;" ∈ wsX5_addPoint := by decide +kernel
set_option maxRecDepth 20000 in
theorem wd_X5_addPoint_4 : Cond.fieldLink RX5 153 "AffineHulls$Hull" "span" "LAffineHulls$Span;" ∈ wsX5_addPoint := by decide +kernel
set_option maxRecDepth 20000 in
theorem in_X5_addPoint_X1 : ∀ w ∈ u_ws RX1 TX1 3, w ∈ wsX5_addPoint := by decide +kernel
set_option maxRecDepth 20000 in
theorem wd_X5_addPoint_6 : Cond.fieldLink RX5 130 "AffineHulls$Hull" "pointCount" "I" ∈ wsX5_addPoint := by decide +kernel
set_option maxRecDepth 20000 in
theorem wd_X5_addPoint_7 : Cond.fieldLink RX5 138 "AffineHulls$Hull" "members" "[I" ∈ wsX5_addPoint := by decide +kernel
abbrev rm_X5_addPoint : Room := { frames := 4, cells := 0, slots := 0, locals := 127 }
set_option maxHeartbeats 4000000 in
set_option maxRecDepth 100000 in
theorem c_X5_addPoint {l : Launch} {G : cx_G} {L : List Nat} {ad : Nat → Nat} {g : Nat → va_E} (hD : cx_D L ad) {N V M ec en pl nc : Nat} {an : Bool} {node : Nat} {P : PS} {v : Nat → FF} {fz : Int32} (hN : N ≤ 8) (hV1 : 1 ≤ V) (hV : V ≤ 4) (hM : M = N * (V + 1)) (hM2 : M ≤ 40) (hm : ∀ j : Nat, lbX N V M j → j ∈ L) (hnode : node < N) (hv : Zb (V + 1) v) (c_o : g 0 = .inr (5, [.int (nI V), .ref (ad 1), .ref (ad 4), .int (nI ec), .int (nI en), .ref (ad 5), .ref (ad 6), .int (nI P.1), .int (if an = true then 1 else 0), .int (nI pl), .ref (ad 2), .ref (ad 7), .int (nI nc), .ref (ad 180), .ref (ad 3)])) (c_w : g 3 = nA G (V + 1) (vN v)) (c_H : g 5 = rA (G.2 3) N (fun i => if i < N then some (ad (200 + 2 * i)) else none)) (c_A : g 6 = rA (G.2 5) M (fun i => if i < M then some (ad (500 + 2 * i)) else none)) (hxa : XA G ad g N V M P) : MV l yX5_addPoint wsX5_addPoint rm_X5_addPoint G L ad g [.ref (ad 0), .int (nI node), .ref (ad 3), .int fz] (fun u => (∀ j : Nat, j ≠ 0 → ¬ lbA j → u j = g j) ∧ u 0 = .inr (5, [.int (nI V), .ref (ad 1), .ref (ad 4), .int (nI ec), .int (nI en), .ref (ad 5), .ref (ad 6), .int (nI ((meetF (V + 1) P node v fz).1)), .int (if an = true then 1 else 0), .int (nI pl), .ref (ad 2), .ref (ad 7), .int (nI nc), .ref (ad 180), .ref (ad 3)]) ∧ XA G ad u N V M (meetF (V + 1) P node v fz)) := by
  refine cx_ofV (cc := cX5_addPoint) (maxL := 5) (by decide +kernel) rfl (Nat.le_of_ble_eq_true rfl) ?_
  intro p e s m args below meth c Q hx hb hts hown hml hP hK hS hz hret ls hl
  have hown : s.vm.findClass RX5 = some m.cls := hown
  have hl : lv_has ls 5 [(0, .ref (ad 0)), (1, .int (nI node)), (2, .ref (ad 3)), (3, .int fz)] := hl
  have fr : ∀ j : Nat, (j ≠ 0 ∧ (j < 100 + 10 * node ∨ 100 + 10 * node + 4 + (V + 1) ≤ j) ∧ j ≠ 200 + 2 * node ∧ j ≠ 201 + 2 * node ∧ j ≠ 500 + 2 * P.1 ∧ j ≠ 501 + 2 * P.1) → g j = g j := fun _ _ => rfl
  have hxa9 := hxa
  obtain ⟨nd, ix, og, rw, ct, mb, T, K, R, hxn, hxp, hxs⟩ := hxa9
  have hal5 := hxp.2.2.2.2
  have hct5 := (hxp.2.1 node hnode).1
  have hct6 := (hxp.2.1 node hnode).2.1
  have sp0 := hxn.2.2.1 node hnode
  have c_s := sp0.1
  have c_h := hxn.1 node hnode
  have c_m := hxn.2.1 node hnode
  refine lv_aload_n hx hb dX5_addPoint_0 rfl (lv_at hl 0 rfl) ?_
  refine ax_get (k := 0) (v := .ref (ad 5)) hx hb hts in_X5_addPoint_X5 hown hK hP (hm _ (by unfold lbX; omega)) c_o rfl 5 (by decide) (hts _ wd_X5_addPoint_0) (fun _ h9 => h9) rfl dX5_addPoint_1 ?_
  refine lv_iload_n hx hb dX5_addPoint_4 rfl (lv_at hl 1 rfl) ?_
  refine ax_aald (k := 5) (i := node) (b := ad (200 + 2 * node)) hx hb hK hP (hm _ (by unfold lbX; omega)) 3 rfl rfl c_H (by omega) (by omega) (if_pos (by omega)) dX5_addPoint_5 ?_
  refine lv_astore (lv' := [(4, .ref (ad (200 + 2 * node))), (0, .ref (ad 0)), (1, .int (nI node)), (2, .ref (ad 3)), (3, .int fz)]) hx hb dX5_addPoint_6 hl (by decide) rfl (fun ls hl => ?_)
  refine lv_aload_n hx hb dX5_addPoint_8 rfl (lv_at hl 1 rfl) ?_
  refine ax_get (k := 0) (v := .int (nI P.1)) hx hb hts in_X5_addPoint_X5 hown hK hP (hm _ (by unfold lbX; omega)) c_o rfl 7 (by decide) (hts _ wd_X5_addPoint_2) (fun _ h9 => h9) rfl dX5_addPoint_9 ?_
  refine lv_aload_n hx hb dX5_addPoint_12 rfl (lv_at hl 1 rfl) ?_
  refine ax_get (k := 0) (v := .ref (ad 6)) hx hb hts in_X5_addPoint_X5 hown hK hP (hm _ (by unfold lbX; omega)) c_o rfl 6 (by decide) (hts _ wd_X5_addPoint_3) (fun _ h9 => h9) rfl dX5_addPoint_13 ?_
  refine ax_alen (k := 6) (n := M) hx hb hK hP (hm _ (by unfold lbX; omega)) 5 rfl c_A rfl dX5_addPoint_16 ?_
  refine ax_icge (a := P.1) (b := M) (tgt := 88) hx hb dX5_addPoint_17 (by decide) (by omega) (by omega) (fun h17 => ?_) (fun h17 => ?_)
  · skip
    exact hret g _ _ _ _ (by rw [meetF_t (hxp.full hxs hM h17 hnode v)]; exact ⟨fun j _ _ => rfl, c_o, hxa⟩) hP hS dX5_addPoint_88
  · skip
    refine lv_aload hx hb dX5_addPoint_20 (lv_at hl 0 rfl) ?_
    refine ax_get (k := 200 + 2 * node) (v := .ref (ad (100 + 10 * node))) hx hb hts in_X5_addPoint_X1 hown hK hP (hm _ (by unfold lbX; omega)) c_h rfl 0 (by decide) (hts _ wd_X5_addPoint_4) (fun _ h9 => h9) rfl dX5_addPoint_22 ?_
    refine lv_aload_n hx hb dX5_addPoint_25 rfl (lv_at hl 3 rfl) ?_
    refine cx_Vi (As := [.ref (ad 3)]) (rest := []) ⟨hx, hb, hml, hown, hts⟩ (c_X4_add hD (b := 100 + 10 * node) (n := V + 1) (t := T node) (kp := K node) (rs := R node) (a := 3) (v := v) (hm _ (by unfold lbX; omega)) (by omega) c_w (fun j hj => hm _ (by unfold lbX; omega)) (by omega) (by omega) sp0 (red_nt (InSp.lin _ _ _) (hxs node hnode).2 _)) (cwV 1 hts gX5_addPoint_X4_add rfl rfl rfl (by decide +kernel) ⟨Nat.le_of_ble_eq_true rfl, Nat.le_of_ble_eq_true rfl⟩) hK hP hS hz (hm _ (by unfold lbX; omega)) c_s rfl ⟨Nat.zero_le _, Nat.zero_le _⟩ rfl hl.1 rfl (Nat.le_of_ble_eq_true rfl) dX5_addPoint_26 (fun r1 g1 H locs hp1 hP hS => ?_)
    obtain ⟨rb, t2, kp2, e_r, hpa, sp2, hadd⟩ := hp1
    rw [e_r]
    have c_o : g1 0 = .inr (5, [.int (nI V), .ref (ad 1), .ref (ad 4), .int (nI ec), .int (nI en), .ref (ad 5), .ref (ad 6), .int (nI P.1), .int (if an = true then 1 else 0), .int (nI pl), .ref (ad 2), .ref (ad 7), .int (nI nc), .ref (ad 180), .ref (ad 3)]) := (hpa 0 (by omega)).trans c_o
    have c_w : g1 3 = nA G (V + 1) (vN v) := (hpa 3 (by omega)).trans c_w
    have c_H : g1 5 = rA (G.2 3) N (fun i => if i < N then some (ad (200 + 2 * i)) else none) := (hpa 5 (by omega)).trans c_H
    have c_A : g1 6 = rA (G.2 5) M (fun i => if i < M then some (ad (500 + 2 * i)) else none) := (hpa 6 (by omega)).trans c_A
    have c_h : g1 (200 + 2 * node) = .inr (1, [.ref (ad (100 + 10 * node)), .ref (ad (201 + 2 * node)), .int (nI (ct node))]) := (hpa (200 + 2 * node) (by omega)).trans c_h
    have c_m : g1 (201 + 2 * node) = nA G (V + 1) (mb node) := (hpa (201 + 2 * node) (by omega)).trans c_m
    have fr : ∀ j : Nat, (j ≠ 0 ∧ (j < 100 + 10 * node ∨ 100 + 10 * node + 4 + (V + 1) ≤ j) ∧ j ≠ 200 + 2 * node ∧ j ≠ 201 + 2 * node ∧ j ≠ 500 + 2 * P.1 ∧ j ≠ 501 + 2 * P.1) → g1 j = g j := fun j hj => (hpa j (by omega)).trans (fr j hj)
    have c_s := sp2.1
    have sp := sp2
    refine ax_zeq (b := rb) (tgt := 88) hx hb dX5_addPoint_29 (by decide) (fun h29 => ?_) (fun h29 => ?_)
    · skip
      exact hret g1 _ _ _ _ (by obtain ⟨q1, q2⟩ := addp_f hxn hxp hxs hN hV hnode (v := v) cpv_in hpa sp hadd h29 fz; rw [q1]; exact ⟨fun j h1 h2 => hpa j (by unfold lbA at h2; omega), c_o, q2⟩) hP hS dX5_addPoint_88
    · skip
      have hctl := addp_ct hxp hxs hnode hadd h29
      refine lv_aload_n hx hb dX5_addPoint_32 rfl (lv_at hl 1 rfl) ?_
      refine ax_get (k := 0) (v := .ref (ad 6)) hx hb hts in_X5_addPoint_X5 hown hK hP (hm _ (by unfold lbX; omega)) c_o rfl 6 (by decide) (hts _ wd_X5_addPoint_3) (fun _ h9 => h9) rfl dX5_addPoint_33 ?_
      refine lv_aload_n hx hb dX5_addPoint_36 rfl (lv_at hl 1 rfl) ?_
      refine ax_get (k := 0) (v := .int (nI P.1)) hx hb hts in_X5_addPoint_X5 hown hK hP (hm _ (by unfold lbX; omega)) c_o rfl 7 (by decide) (hts _ wd_X5_addPoint_2) (fun _ h9 => h9) rfl dX5_addPoint_37 ?_
      refine ax_aald (k := 6) (i := P.1) (b := ad (500 + 2 * P.1)) hx hb hK hP (hm _ (by unfold lbX; omega)) 5 rfl rfl c_A (by omega) (by omega) (if_pos (by omega)) dX5_addPoint_40 ?_
      have c_p := (hpa (500 + 2 * P.1) (by omega)).trans (hxn.2.2.2.1 P.1 h17)
      have c_pr := (hpa (501 + 2 * P.1) (by omega)).trans (hxn.2.2.2.2 P.1 h17)
      refine lv_iload_n hx hb dX5_addPoint_41 rfl (lv_at hl 2 rfl) ?_
      refine lv_aload hx hb dX5_addPoint_42 (lv_at hl 0 rfl) ?_
      refine ax_get (k := 200 + 2 * node) (v := .int (nI (ct node))) hx hb hts in_X5_addPoint_X1 hown hK hP (hm _ (by unfold lbX; omega)) c_h rfl 2 (by decide) (hts _ wd_X5_addPoint_6) (fun _ h9 => h9) rfl dX5_addPoint_44 ?_
      refine lv_iload_n hx hb dX5_addPoint_47 rfl (lv_at hl 4 rfl) ?_
      refine lv_aload_n hx hb dX5_addPoint_48 rfl (lv_at hl 3 rfl) ?_
      refine cx_Vv (As := [.int (nI node), .int (nI (ct node)), .int fz, .ref (ad 3)]) (rest := []) ⟨hx, hb, hml, hown, hts⟩ (c_X3_set hD (k := 500 + 2 * P.1) (kf := 501 + 2 * P.1) (b := 3) (n := V + 1) (v := v) (w := rw P.1) (by omega) (by omega) (by omega) (hm _ (by unfold lbX; omega)) (hm _ (by unfold lbX; omega)) (hm _ (by unfold lbX; omega)) (by omega) c_p c_pr c_w) (cwV 4 hts gX5_addPoint_X3_set rfl rfl rfl (by decide +kernel) ⟨Nat.le_of_ble_eq_true rfl, Nat.le_of_ble_eq_true rfl⟩) hK hP hS hz (hm _ (by unfold lbX; omega)) c_p rfl ⟨Nat.zero_le _, Nat.zero_le _⟩ rfl hl.1 rfl (Nat.le_of_ble_eq_true rfl) dX5_addPoint_49 (fun g2 H locs hp2 hP hS => ?_)
      obtain ⟨hp2a, hp2b, hp2c⟩ := hp2
      have hp2a : ∀ j : Nat, (j ≠ 500 + 2 * P.1 ∧ j ≠ 501 + 2 * P.1) → g2 j = g1 j := hp2a
      have c_o : g2 0 = .inr (5, [.int (nI V), .ref (ad 1), .ref (ad 4), .int (nI ec), .int (nI en), .ref (ad 5), .ref (ad 6), .int (nI P.1), .int (if an = true then 1 else 0), .int (nI pl), .ref (ad 2), .ref (ad 7), .int (nI nc), .ref (ad 180), .ref (ad 3)]) := (hp2a 0 (by omega)).trans c_o
      have c_w : g2 3 = nA G (V + 1) (vN v) := (hp2a 3 (by omega)).trans c_w
      have c_H : g2 5 = rA (G.2 3) N (fun i => if i < N then some (ad (200 + 2 * i)) else none) := (hp2a 5 (by omega)).trans c_H
      have c_A : g2 6 = rA (G.2 5) M (fun i => if i < M then some (ad (500 + 2 * i)) else none) := (hp2a 6 (by omega)).trans c_A
      have c_s : g2 (100 + 10 * node) = .inr (4, [.ref (ad (100 + 10 * node + 1)), .ref (ad (100 + 10 * node + 2)), .ref (ad (100 + 10 * node + 3))]) := (hp2a (100 + 10 * node) (by omega)).trans c_s
      have c_h : g2 (200 + 2 * node) = .inr (1, [.ref (ad (100 + 10 * node)), .ref (ad (201 + 2 * node)), .int (nI (ct node))]) := (hp2a (200 + 2 * node) (by omega)).trans c_h
      have c_m : g2 (201 + 2 * node) = nA G (V + 1) (mb node) := (hp2a (201 + 2 * node) (by omega)).trans c_m
      have sp : SpanAt G ad g2 (100 + 10 * node) (V + 1) t2 kp2 (sp_red (V + 1) (T node) (K node) (V + 1) (cpv (V + 1) v (R node))) := sp.kept (fun j h1 h2 => hp2a j (by omega))
      have fr : ∀ j : Nat, (j ≠ 0 ∧ (j < 100 + 10 * node ∨ 100 + 10 * node + 4 + (V + 1) ≤ j) ∧ j ≠ 200 + 2 * node ∧ j ≠ 201 + 2 * node ∧ j ≠ 500 + 2 * P.1 ∧ j ≠ 501 + 2 * P.1) → g2 j = g j := fun j hj => (hp2a j (by omega)).trans (fr j hj)
      have c_p := hp2b
      have c_pr := hp2c
      rw [cpv_z hv (hxp.2.2.2.1 P.1)] at c_pr
      refine lv_aload hx hb dX5_addPoint_52 (lv_at hl 0 rfl) ?_
      refine ax_get (k := 200 + 2 * node) (v := .ref (ad (201 + 2 * node))) hx hb hts in_X5_addPoint_X1 hown hK hP (hm _ (by unfold lbX; omega)) c_h rfl 1 (by decide) (hts _ wd_X5_addPoint_7) (fun _ h9 => h9) rfl dX5_addPoint_54 ?_
      refine lv_aload hx hb dX5_addPoint_57 (lv_at hl 0 rfl) ?_
      refine ax_get (k := 200 + 2 * node) (v := .int (nI (ct node))) hx hb hts in_X5_addPoint_X1 hown hK hP (hm _ (by unfold lbX; omega)) c_h rfl 2 (by decide) (hts _ wd_X5_addPoint_6) (fun _ h9 => h9) rfl dX5_addPoint_59 ?_
      refine lv_aload_n hx hb dX5_addPoint_62 rfl (lv_at hl 1 rfl) ?_
      refine ax_get (k := 0) (v := .int (nI P.1)) hx hb hts in_X5_addPoint_X5 hown hK hP (hm _ (by unfold lbX; omega)) c_o rfl 7 (by decide) (hts _ wd_X5_addPoint_2) (fun _ h9 => h9) rfl dX5_addPoint_63 ?_
      refine ax_iast (k := 201 + 2 * node) (i := ct node) (f' := (fun j => nI ((nu (mb node) (ct node) P.1) j))) hx hb hK hP hD hS (hm _ (by unfold lbX; omega)) c_m (by omega) (by omega) (up_n _ _ _) dX5_addPoint_66 (fun H locs g3 eg3 hP hS => ?_)
      have c_o : g3 0 = .inr (5, [.int (nI V), .ref (ad 1), .ref (ad 4), .int (nI ec), .int (nI en), .ref (ad 5), .ref (ad 6), .int (nI P.1), .int (if an = true then 1 else 0), .int (nI pl), .ref (ad 2), .ref (ad 7), .int (nI nc), .ref (ad 180), .ref (ad 3)]) := (cx_ne eg3 0 (by omega)).trans c_o
      have c_w : g3 3 = nA G (V + 1) (vN v) := (cx_ne eg3 3 (by omega)).trans c_w
      have c_H : g3 5 = rA (G.2 3) N (fun i => if i < N then some (ad (200 + 2 * i)) else none) := (cx_ne eg3 5 (by omega)).trans c_H
      have c_A : g3 6 = rA (G.2 5) M (fun i => if i < M then some (ad (500 + 2 * i)) else none) := (cx_ne eg3 6 (by omega)).trans c_A
      have c_s : g3 (100 + 10 * node) = .inr (4, [.ref (ad (100 + 10 * node + 1)), .ref (ad (100 + 10 * node + 2)), .ref (ad (100 + 10 * node + 3))]) := (cx_ne eg3 (100 + 10 * node) (by omega)).trans c_s
      have c_h : g3 (200 + 2 * node) = .inr (1, [.ref (ad (100 + 10 * node)), .ref (ad (201 + 2 * node)), .int (nI (ct node))]) := (cx_ne eg3 (200 + 2 * node) (by omega)).trans c_h
      have c_p : g3 (500 + 2 * P.1) = .inr (3, [.int (nI node), .int (nI (ct node)), .int fz, .ref (ad (501 + 2 * P.1))]) := (cx_ne eg3 (500 + 2 * P.1) (by omega)).trans c_p
      have c_pr : g3 (501 + 2 * P.1) = nA G (V + 1) (vN v) := (cx_ne eg3 (501 + 2 * P.1) (by omega)).trans c_pr
      have sp : SpanAt G ad g3 (100 + 10 * node) (V + 1) t2 kp2 (sp_red (V + 1) (T node) (K node) (V + 1) (cpv (V + 1) v (R node))) := sp.kept (fun j h1 h2 => cx_ne eg3 j (by omega))
      have c_m : g3 (201 + 2 * node) = nA G (V + 1) (nu (mb node) (ct node) P.1) := cx_eq eg3
      have fr : ∀ j : Nat, (j ≠ 0 ∧ (j < 100 + 10 * node ∨ 100 + 10 * node + 4 + (V + 1) ≤ j) ∧ j ≠ 200 + 2 * node ∧ j ≠ 201 + 2 * node ∧ j ≠ 500 + 2 * P.1 ∧ j ≠ 501 + 2 * P.1) → g3 j = g j := fun j hj => (cx_ne eg3 j (by omega)).trans (fr j hj)
      refine lv_aload hx hb dX5_addPoint_67 (lv_at hl 0 rfl) ?_
      refine lv_dup hx hb dX5_addPoint_69 rfl ?_
      refine ax_get (k := 200 + 2 * node) (v := .int (nI (ct node))) hx hb hts in_X5_addPoint_X1 hown hK hP (hm _ (by unfold lbX; omega)) c_h rfl 2 (by decide) (hts _ wd_X5_addPoint_6) (fun _ h9 => h9) rfl dX5_addPoint_70 ?_
      refine lv_iconst (v := nI 1) hx hb dX5_addPoint_73 (by decide) ?_
      refine ax_add (a := ct node) (b := 1) hx hb dX5_addPoint_74 ?_
      refine ax_put (k := 200 + 2 * node) (v := .int (nI (ct node + 1))) (fs' := [.ref (ad (100 + 10 * node)), .ref (ad (201 + 2 * node)), .int (nI (ct node + 1))]) hx hb hts in_X5_addPoint_X1 tyX1 tyX1_ok nmX1 hown hK hP hD hS (hm _ (by unfold lbX; omega)) c_h rfl 2 (by decide) (hts _ wd_X5_addPoint_6) (fun _ h9 => h9) rfl (ty := .int) (by decide +kernel) rfl rfl (Nat.le_of_ble_eq_true rfl) rfl dX5_addPoint_75 (fun H locs g4 eg4 hP hS => ?_)
      have c_o : g4 0 = .inr (5, [.int (nI V), .ref (ad 1), .ref (ad 4), .int (nI ec), .int (nI en), .ref (ad 5), .ref (ad 6), .int (nI P.1), .int (if an = true then 1 else 0), .int (nI pl), .ref (ad 2), .ref (ad 7), .int (nI nc), .ref (ad 180), .ref (ad 3)]) := (cx_ne eg4 0 (by omega)).trans c_o
      have c_w : g4 3 = nA G (V + 1) (vN v) := (cx_ne eg4 3 (by omega)).trans c_w
      have c_H : g4 5 = rA (G.2 3) N (fun i => if i < N then some (ad (200 + 2 * i)) else none) := (cx_ne eg4 5 (by omega)).trans c_H
      have c_A : g4 6 = rA (G.2 5) M (fun i => if i < M then some (ad (500 + 2 * i)) else none) := (cx_ne eg4 6 (by omega)).trans c_A
      have c_s : g4 (100 + 10 * node) = .inr (4, [.ref (ad (100 + 10 * node + 1)), .ref (ad (100 + 10 * node + 2)), .ref (ad (100 + 10 * node + 3))]) := (cx_ne eg4 (100 + 10 * node) (by omega)).trans c_s
      have c_m : g4 (201 + 2 * node) = nA G (V + 1) (nu (mb node) (ct node) P.1) := (cx_ne eg4 (201 + 2 * node) (by omega)).trans c_m
      have c_p : g4 (500 + 2 * P.1) = .inr (3, [.int (nI node), .int (nI (ct node)), .int fz, .ref (ad (501 + 2 * P.1))]) := (cx_ne eg4 (500 + 2 * P.1) (by omega)).trans c_p
      have c_pr : g4 (501 + 2 * P.1) = nA G (V + 1) (vN v) := (cx_ne eg4 (501 + 2 * P.1) (by omega)).trans c_pr
      have sp : SpanAt G ad g4 (100 + 10 * node) (V + 1) t2 kp2 (sp_red (V + 1) (T node) (K node) (V + 1) (cpv (V + 1) v (R node))) := sp.kept (fun j h1 h2 => cx_ne eg4 j (by omega))
      have c_h : g4 (200 + 2 * node) = .inr (1, [.ref (ad (100 + 10 * node)), .ref (ad (201 + 2 * node)), .int (nI (ct node + 1))]) := cx_eq eg4
      have fr : ∀ j : Nat, (j ≠ 0 ∧ (j < 100 + 10 * node ∨ 100 + 10 * node + 4 + (V + 1) ≤ j) ∧ j ≠ 200 + 2 * node ∧ j ≠ 201 + 2 * node ∧ j ≠ 500 + 2 * P.1 ∧ j ≠ 501 + 2 * P.1) → g4 j = g j := fun j hj => (cx_ne eg4 j (by omega)).trans (fr j hj)
      refine lv_aload_n hx hb dX5_addPoint_78 rfl (lv_at hl 1 rfl) ?_
      refine lv_dup hx hb dX5_addPoint_79 rfl ?_
      refine ax_get (k := 0) (v := .int (nI P.1)) hx hb hts in_X5_addPoint_X5 hown hK hP (hm _ (by unfold lbX; omega)) c_o rfl 7 (by decide) (hts _ wd_X5_addPoint_2) (fun _ h9 => h9) rfl dX5_addPoint_80 ?_
      refine lv_iconst (v := nI 1) hx hb dX5_addPoint_83 (by decide) ?_
      refine ax_add (a := P.1) (b := 1) hx hb dX5_addPoint_84 ?_
      refine ax_put (k := 0) (v := .int (nI (P.1 + 1))) (fs' := [.int (nI V), .ref (ad 1), .ref (ad 4), .int (nI ec), .int (nI en), .ref (ad 5), .ref (ad 6), .int (nI (P.1 + 1)), .int (if an = true then 1 else 0), .int (nI pl), .ref (ad 2), .ref (ad 7), .int (nI nc), .ref (ad 180), .ref (ad 3)]) hx hb hts in_X5_addPoint_X5 tyX5 tyX5_ok nmX5 hown hK hP hD hS (hm _ (by unfold lbX; omega)) c_o rfl 7 (by decide) (hts _ wd_X5_addPoint_2) (fun _ h9 => h9) rfl (ty := .int) (by decide +kernel) rfl rfl (Nat.le_of_ble_eq_true rfl) rfl dX5_addPoint_85 (fun H locs g5 eg5 hP hS => ?_)
      have c_w : g5 3 = nA G (V + 1) (vN v) := (cx_ne eg5 3 (by omega)).trans c_w
      have c_H : g5 5 = rA (G.2 3) N (fun i => if i < N then some (ad (200 + 2 * i)) else none) := (cx_ne eg5 5 (by omega)).trans c_H
      have c_A : g5 6 = rA (G.2 5) M (fun i => if i < M then some (ad (500 + 2 * i)) else none) := (cx_ne eg5 6 (by omega)).trans c_A
      have c_s : g5 (100 + 10 * node) = .inr (4, [.ref (ad (100 + 10 * node + 1)), .ref (ad (100 + 10 * node + 2)), .ref (ad (100 + 10 * node + 3))]) := (cx_ne eg5 (100 + 10 * node) (by omega)).trans c_s
      have c_h : g5 (200 + 2 * node) = .inr (1, [.ref (ad (100 + 10 * node)), .ref (ad (201 + 2 * node)), .int (nI (ct node + 1))]) := (cx_ne eg5 (200 + 2 * node) (by omega)).trans c_h
      have c_m : g5 (201 + 2 * node) = nA G (V + 1) (nu (mb node) (ct node) P.1) := (cx_ne eg5 (201 + 2 * node) (by omega)).trans c_m
      have c_p : g5 (500 + 2 * P.1) = .inr (3, [.int (nI node), .int (nI (ct node)), .int fz, .ref (ad (501 + 2 * P.1))]) := (cx_ne eg5 (500 + 2 * P.1) (by omega)).trans c_p
      have c_pr : g5 (501 + 2 * P.1) = nA G (V + 1) (vN v) := (cx_ne eg5 (501 + 2 * P.1) (by omega)).trans c_pr
      have sp : SpanAt G ad g5 (100 + 10 * node) (V + 1) t2 kp2 (sp_red (V + 1) (T node) (K node) (V + 1) (cpv (V + 1) v (R node))) := sp.kept (fun j h1 h2 => cx_ne eg5 j (by omega))
      have c_o : g5 0 = .inr (5, [.int (nI V), .ref (ad 1), .ref (ad 4), .int (nI ec), .int (nI en), .ref (ad 5), .ref (ad 6), .int (nI (P.1 + 1)), .int (if an = true then 1 else 0), .int (nI pl), .ref (ad 2), .ref (ad 7), .int (nI nc), .ref (ad 180), .ref (ad 3)]) := cx_eq eg5
      have fr : ∀ j : Nat, (j ≠ 0 ∧ (j < 100 + 10 * node ∨ 100 + 10 * node + 4 + (V + 1) ≤ j) ∧ j ≠ 200 + 2 * node ∧ j ≠ 201 + 2 * node ∧ j ≠ 500 + 2 * P.1 ∧ j ≠ 501 + 2 * P.1) → g5 j = g j := fun j hj => (cx_ne eg5 j (by omega)).trans (fr j hj)
      exact hret g5 _ _ _ _ (by obtain ⟨q1, q2⟩ := addp_t hxn hxp hxs hN hV hnode h17 hv cpv_in fr sp hadd h29 c_h c_m c_p c_pr; rw [q1]; exact ⟨fun j h1 h2 => fr j (by unfold lbA at h2; omega), c_o, q2⟩) hP hS dX5_addPoint_88

set_option maxRecDepth 20000 in
theorem wd_X5_addFirstPoints_0 : Cond.fieldLink RX5 18 "AffineHulls" "variables" "I" ∈ wsX5_addFirstPoints := by decide +kernel
set_option maxRecDepth 20000 in
theorem in_X5_addFirstPoints_X5 : ∀ w ∈ u_ws RX5 TX5 15, w ∈ wsX5_addFirstPoints := by decide +kernel
set_option maxRecDepth 20000 in
theorem wd_X5_addFirstPoints_2 : Cond.fieldLink RX5 26 "AffineHulls" "work" "[I" ∈ wsX5_addFirstPoints := by decide +kernel
set_option maxRecDepth 20000 in
theorem wd_X5_addFirstPoints_3 : Cond.fieldLink RX5 108 "AffineHulls" "entryNode" "I" ∈ wsX5_addFirstPoints := by decide +kernel
abbrev rm_X5_addFirstPoints : Room := { frames := 5, cells := 0, slots := 0, locals := 151 }
set_option maxHeartbeats 4000000 in
set_option maxRecDepth 100000 in
theorem c_X5_addFirstPoints {l : Launch} {G : cx_G} {L : List Nat} {ad : Nat → Nat} {g : Nat → va_E} (hD : cx_D L ad) {N V M ec en pl nc : Nat} {an : Bool} {wk : Nat → FF} (hN : N ≤ 8) (hV1 : 1 ≤ V) (hV : V ≤ 4) (hM : M = N * (V + 1)) (hM2 : M ≤ 40) (hm : ∀ j : Nat, lbX N V M j → j ∈ L) (hen : en < N) (hwk : Zb (V + 1) wk) (c_o : g 0 = .inr (5, [.int (nI V), .ref (ad 1), .ref (ad 4), .int (nI ec), .int (nI en), .ref (ad 5), .ref (ad 6), .int (nI 0), .int (if an = true then 1 else 0), .int (nI pl), .ref (ad 2), .ref (ad 7), .int (nI nc), .ref (ad 180), .ref (ad 3)])) (c_w : g 3 = nA G (V + 1) (vN wk)) (c_H : g 5 = rA (G.2 3) N (fun i => if i < N then some (ad (200 + 2 * i)) else none)) (c_A : g 6 = rA (G.2 5) M (fun i => if i < M then some (ad (500 + 2 * i)) else none)) (xa : XA G ad g N V M PS0) : MV l yX5_addFirstPoints wsX5_addFirstPoints rm_X5_addFirstPoints G L ad g [.ref (ad 0)] (fun u => (∀ j : Nat, (j ≠ 0 ∧ j ≠ 3 ∧ ¬ lbA j) → u j = g j) ∧ u 0 = .inr (5, [.int (nI V), .ref (ad 1), .ref (ad 4), .int (nI ec), .int (nI en), .ref (ad 5), .ref (ad 6), .int (nI ((firstF (V + 1) en (V + 1)).1)), .int (if an = true then 1 else 0), .int (nI pl), .ref (ad 2), .ref (ad 7), .int (nI nc), .ref (ad 180), .ref (ad 3)]) ∧ (∃ wk2 : Nat → FF, Zb (V + 1) wk2 ∧ u 3 = nA G (V + 1) (vN wk2)) ∧ XA G ad u N V M (firstF (V + 1) en (V + 1))) := by
  refine cx_ofV (cc := cX5_addFirstPoints) (maxL := 2) (by decide +kernel) rfl (Nat.le_of_ble_eq_true rfl) ?_
  intro p e s m args below meth c Q hx hb hts hown hml hP hK hS hz hret ls hl
  have hown : s.vm.findClass RX5 = some m.cls := hown
  have hl : lv_has ls 2 [(0, .ref (ad 0))] := hl
  have fr : ∀ j : Nat, (j ≠ 0 ∧ j ≠ 3 ∧ ¬ lbA j) → g j = g j := fun _ _ => rfl
  refine lv_iconst (v := nI 0) hx hb dX5_addFirstPoints_0 (by decide) ?_
  refine lv_istore_n (lv' := [(1, .int (nI 0)), (0, .ref (ad 0))]) hx hb dX5_addFirstPoints_1 rfl hl (by decide) rfl (fun ls hl => ?_)
  have LP2 : ∀ (fu : Nat) (k : Nat) (wk2 : Nat → FF), (k ≤ V + 1) → (Zb (V + 1) wk2) → (V + 1 - k) < fu → ∀ (ga1 : Nat → va_E) (H : Heap) (locs : List Loc) (ls : Array Slot), (ga1 0 = .inr (5, [.int (nI V), .ref (ad 1), .ref (ad 4), .int (nI ec), .int (nI en), .ref (ad 5), .ref (ad 6), .int (nI ((firstF (V + 1) en k).1)), .int (if an = true then 1 else 0), .int (nI pl), .ref (ad 2), .ref (ad 7), .int (nI nc), .ref (ad 180), .ref (ad 3)])) → (ga1 3 = nA G (V + 1) (vN wk2)) → (ga1 5 = rA (G.2 3) N (fun i => if i < N then some (ad (200 + 2 * i)) else none)) → (ga1 6 = rA (G.2 5) M (fun i => if i < M then some (ad (500 + 2 * i)) else none)) → (XA G ad ga1 N V M (firstF (V + 1) en k)) → (∀ j : Nat, (j ≠ 0 ∧ j ≠ 3 ∧ ¬ lbA j) → ga1 j = g j) → va_P G.1 vwCl (wl L ad ga1) H → va_S (cx_A L ad s.heap.size) s.heap H locs → lv_has ls 2 [(1, .int (nI k)), (0, .ref (ad 0))] → W p l e rm_X5_addFirstPoints s m args below meth c H locs 0 0 Q (F0 m 2 ls []) := by
    intro fu
    induction fu with
    | zero => intro k wk2 hkn zw hfu; exact absurd hfu (Nat.not_lt_zero _)
    | succ fu ih2 =>
      intro k wk2 hkn zw hfu2 ga1 H locs ls c_o c_w c_H c_A xa fr hP hS hl
      refine lv_iload_n hx hb dX5_addFirstPoints_2 rfl (lv_at hl 0 rfl) ?_
      refine lv_aload_n hx hb dX5_addFirstPoints_3 rfl (lv_at hl 1 rfl) ?_
      refine ax_get (k := 0) (v := .int (nI V)) hx hb hts in_X5_addFirstPoints_X5 hown hK hP (hm _ (by unfold lbX; omega)) c_o rfl 0 (by decide) (hts _ wd_X5_addFirstPoints_0) (fun _ h9 => h9) rfl dX5_addFirstPoints_4 ?_
      refine ax_icgt (a := k) (b := V) (tgt := 51) hx hb dX5_addFirstPoints_7 (by decide) (by omega) (by omega) (fun h7 => ?_) (fun h7 => ?_)
      · skip
        exact hret ga1 _ _ _ _ (by have ek : k = V + 1 := (by omega); subst ek; exact ⟨fr, c_o, ⟨wk2, zw, c_w⟩, xa⟩) hP hS dX5_addFirstPoints_51
      · skip
        refine lv_aload_n hx hb dX5_addFirstPoints_10 rfl (lv_at hl 1 rfl) ?_
        refine ax_get (k := 0) (v := .ref (ad 3)) hx hb hts in_X5_addFirstPoints_X5 hown hK hP (hm _ (by unfold lbX; omega)) c_o rfl 14 (by decide) (hts _ wd_X5_addFirstPoints_2) (fun _ h9 => h9) rfl dX5_addFirstPoints_11 ?_
        refine lv_iconst (v := nI 0) hx hb dX5_addFirstPoints_14 (by decide) ?_
        refine cx_Sv (As := [.ref (ad 3), .int (nI 0)]) (rest := []) ⟨hx, hb, hml, hown, hts⟩ (c_J7_fill_53178 hD (a := 3) (n := V + 1) (v := wk2) (hm _ (by unfold lbX; omega)) (by omega) c_w) (va_cwS 2 hts gX5_addFirstPoints_J7_fill_53178 rfl rfl rfl (by decide +kernel) ⟨Nat.le_of_ble_eq_true rfl, Nat.le_of_ble_eq_true rfl⟩) hK hP hS hz ⟨Nat.zero_le _, Nat.zero_le _⟩ rfl hl.1 rfl (Nat.le_of_ble_eq_true rfl) dX5_addFirstPoints_15 (fun g2 H locs hp2 hP hS => ?_)
        obtain ⟨hp2a, hp2b⟩ := hp2
        have c_o : g2 0 = .inr (5, [.int (nI V), .ref (ad 1), .ref (ad 4), .int (nI ec), .int (nI en), .ref (ad 5), .ref (ad 6), .int (nI ((firstF (V + 1) en k).1)), .int (if an = true then 1 else 0), .int (nI pl), .ref (ad 2), .ref (ad 7), .int (nI nc), .ref (ad 180), .ref (ad 3)]) := (hp2a 0 (by omega)).trans c_o
        have c_H : g2 5 = rA (G.2 3) N (fun i => if i < N then some (ad (200 + 2 * i)) else none) := (hp2a 5 (by omega)).trans c_H
        have c_A : g2 6 = rA (G.2 5) M (fun i => if i < M then some (ad (500 + 2 * i)) else none) := (hp2a 6 (by omega)).trans c_A
        have xa : XA G ad g2 N V M (firstF (V + 1) en k) := xa.kept hN hV (fun j hj => hp2a j (by unfold lbA at hj; omega))
        have fr : ∀ j : Nat, (j ≠ 0 ∧ j ≠ 3 ∧ ¬ lbA j) → g2 j = g j := fun j hj => (hp2a j (by omega)).trans (fr j hj)
        have c_w := hp2b
        rw [fl0_z zw] at c_w
        refine lv_aload_n hx hb dX5_addFirstPoints_18 rfl (lv_at hl 1 rfl) ?_
        refine ax_get (k := 0) (v := .ref (ad 3)) hx hb hts in_X5_addFirstPoints_X5 hown hK hP (hm _ (by unfold lbX; omega)) c_o rfl 14 (by decide) (hts _ wd_X5_addFirstPoints_2) (fun _ h9 => h9) rfl dX5_addFirstPoints_19 ?_
        refine lv_iload_n hx hb dX5_addFirstPoints_22 rfl (lv_at hl 0 rfl) ?_
        refine lv_iconst (v := nI 1) hx hb dX5_addFirstPoints_23 (by decide) ?_
        refine ax_iast (k := 3) (i := k) (f' := (fun j => nI ((nu (vN (fun _ => 0)) k 1) j))) hx hb hK hP hD hS (hm _ (by unfold lbX; omega)) c_w (by omega) (by omega) (up_n _ _ _) dX5_addFirstPoints_24 (fun H locs g3 eg3 hP hS => ?_)
        have c_o : g3 0 = .inr (5, [.int (nI V), .ref (ad 1), .ref (ad 4), .int (nI ec), .int (nI en), .ref (ad 5), .ref (ad 6), .int (nI ((firstF (V + 1) en k).1)), .int (if an = true then 1 else 0), .int (nI pl), .ref (ad 2), .ref (ad 7), .int (nI nc), .ref (ad 180), .ref (ad 3)]) := (cx_ne eg3 0 (by omega)).trans c_o
        have c_H : g3 5 = rA (G.2 3) N (fun i => if i < N then some (ad (200 + 2 * i)) else none) := (cx_ne eg3 5 (by omega)).trans c_H
        have c_A : g3 6 = rA (G.2 5) M (fun i => if i < M then some (ad (500 + 2 * i)) else none) := (cx_ne eg3 6 (by omega)).trans c_A
        have xa : XA G ad g3 N V M (firstF (V + 1) en k) := xa.kept hN hV (fun j hj => cx_ne eg3 j (by unfold lbA at hj; omega))
        have c_w : g3 3 = nA G (V + 1) (nu (vN (fun _ => 0)) k 1) := cx_eq eg3
        have fr : ∀ j : Nat, (j ≠ 0 ∧ j ≠ 3 ∧ ¬ lbA j) → g3 j = g j := fun j hj => (cx_ne eg3 j (by omega)).trans (fr j hj)
        have c_w : g3 3 = nA G (V + 1) (vN (nu (fun _ => 0) k 1)) := by rw [← vN_nu]; exact c_w
        refine lv_aload_n hx hb dX5_addFirstPoints_25 rfl (lv_at hl 1 rfl) ?_
        refine ax_get (k := 0) (v := .ref (ad 3)) hx hb hts in_X5_addFirstPoints_X5 hown hK hP (hm _ (by unfold lbX; omega)) c_o rfl 14 (by decide) (hts _ wd_X5_addFirstPoints_2) (fun _ h9 => h9) rfl dX5_addFirstPoints_26 ?_
        refine lv_iconst (v := nI 0) hx hb dX5_addFirstPoints_29 (by decide) ?_
        refine lv_iconst (v := nI 1) hx hb dX5_addFirstPoints_30 (by decide) ?_
        refine ax_iast (k := 3) (i := 0) (f' := (fun j => nI ((nu (vN (nu (fun _ => 0) k 1)) 0 1) j))) hx hb hK hP hD hS (hm _ (by unfold lbX; omega)) c_w (by omega) (by omega) (up_n _ _ _) dX5_addFirstPoints_31 (fun H locs g4 eg4 hP hS => ?_)
        have c_o : g4 0 = .inr (5, [.int (nI V), .ref (ad 1), .ref (ad 4), .int (nI ec), .int (nI en), .ref (ad 5), .ref (ad 6), .int (nI ((firstF (V + 1) en k).1)), .int (if an = true then 1 else 0), .int (nI pl), .ref (ad 2), .ref (ad 7), .int (nI nc), .ref (ad 180), .ref (ad 3)]) := (cx_ne eg4 0 (by omega)).trans c_o
        have c_H : g4 5 = rA (G.2 3) N (fun i => if i < N then some (ad (200 + 2 * i)) else none) := (cx_ne eg4 5 (by omega)).trans c_H
        have c_A : g4 6 = rA (G.2 5) M (fun i => if i < M then some (ad (500 + 2 * i)) else none) := (cx_ne eg4 6 (by omega)).trans c_A
        have xa : XA G ad g4 N V M (firstF (V + 1) en k) := xa.kept hN hV (fun j hj => cx_ne eg4 j (by unfold lbA at hj; omega))
        have c_w : g4 3 = nA G (V + 1) (nu (vN (nu (fun _ => 0) k 1)) 0 1) := cx_eq eg4
        have fr : ∀ j : Nat, (j ≠ 0 ∧ j ≠ 3 ∧ ¬ lbA j) → g4 j = g j := fun j hj => (cx_ne eg4 j (by omega)).trans (fr j hj)
        have c_w : g4 3 = nA G (V + 1) (vN (fpt k)) := by unfold fpt; rw [← vN_nu]; exact c_w
        refine lv_aload_n hx hb dX5_addFirstPoints_32 rfl (lv_at hl 1 rfl) ?_
        refine lv_aload_n hx hb dX5_addFirstPoints_33 rfl (lv_at hl 1 rfl) ?_
        refine ax_get (k := 0) (v := .int (nI en)) hx hb hts in_X5_addFirstPoints_X5 hown hK hP (hm _ (by unfold lbX; omega)) c_o rfl 4 (by decide) (hts _ wd_X5_addFirstPoints_3) (fun _ h9 => h9) rfl dX5_addFirstPoints_34 ?_
        refine lv_aload_n hx hb dX5_addFirstPoints_37 rfl (lv_at hl 1 rfl) ?_
        refine ax_get (k := 0) (v := .ref (ad 3)) hx hb hts in_X5_addFirstPoints_X5 hown hK hP (hm _ (by unfold lbX; omega)) c_o rfl 14 (by decide) (hts _ wd_X5_addFirstPoints_2) (fun _ h9 => h9) rfl dX5_addFirstPoints_38 ?_
        refine lv_iconst (v := (-1)) hx hb dX5_addFirstPoints_41 (by decide) ?_
        refine cx_Vv (As := [.int (nI en), .ref (ad 3), .int (-1)]) (rest := []) ⟨hx, hb, hml, hown, hts⟩ (c_X5_addPoint hD (node := en) (P := firstF (V + 1) en k) (v := fpt k) (fz := -1) hN hV1 hV hM hM2 hm hen (fpt_z h7) c_o c_w c_H c_A xa) (cwV 3 hts gX5_addFirstPoints_X5_addPoint rfl rfl rfl (by decide +kernel) ⟨Nat.le_of_ble_eq_true rfl, Nat.le_of_ble_eq_true rfl⟩) hK hP hS hz (hm _ (by unfold lbX; omega)) c_o rfl ⟨Nat.zero_le _, Nat.zero_le _⟩ rfl hl.1 rfl (Nat.le_of_ble_eq_true rfl) dX5_addFirstPoints_42 (fun g5 H locs hp5 hP hS => ?_)
        obtain ⟨hp5a, hp5o, hp5x⟩ := hp5
        have hp5b : ∀ j : Nat, (j ≠ 0 ∧ ¬ lbA j) → g5 j = g4 j := fun j h => hp5a j h.1 h.2
        have c_w : g5 3 = nA G (V + 1) (vN (fpt k)) := (hp5b 3 (by unfold lbA; omega)).trans c_w
        have c_H : g5 5 = rA (G.2 3) N (fun i => if i < N then some (ad (200 + 2 * i)) else none) := (hp5b 5 (by unfold lbA; omega)).trans c_H
        have c_A : g5 6 = rA (G.2 5) M (fun i => if i < M then some (ad (500 + 2 * i)) else none) := (hp5b 6 (by unfold lbA; omega)).trans c_A
        have fr : ∀ j : Nat, (j ≠ 0 ∧ j ≠ 3 ∧ ¬ lbA j) → g5 j = g j := fun j hj => (hp5b j (by exact ⟨hj.1, hj.2.2⟩)).trans (fr j hj)
        have c_o := hp5o
        have xa := hp5x
        refine lv_iinc (v := nI (k + 1)) (lv' := [(1, .int (nI (k + 1))), (0, .ref (ad 0))]) hx hb dX5_addFirstPoints_45 hl (k := 0) rfl (nI_1 _) (by decide) rfl (fun ls hl => ?_)
        refine lv_goto (tgt := 2) hx hb dX5_addFirstPoints_48 (by decide) ?_
        exact ih2 (k + 1) (fpt k) (by omega) (fpt_z h7) (by omega) g5 _ _ _ c_o c_w c_H c_A xa fr hP hS (lv_sub hl [0, 1] rfl)
  exact LP2 ((V + 1 - 0) + 1) 0 wk (Nat.zero_le _) hwk (Nat.lt_succ_self _) g _ _ _ c_o c_w c_H c_A xa fr hP hS (lv_sub hl [0, 1] rfl)

set_option maxRecDepth 20000 in
theorem wd_X5_follow_0 : Cond.fieldLink RX5 144 "AffineHulls$Point" "row" "[I" ∈ wsX5_follow := by decide +kernel
set_option maxRecDepth 20000 in
theorem in_X5_follow_X3 : ∀ w ∈ u_ws RX3 TX3 4, w ∈ wsX5_follow := by decide +kernel
set_option maxRecDepth 20000 in
theorem wd_X5_follow_2 : Cond.fieldLink RX5 26 "AffineHulls" "work" "[I" ∈ wsX5_follow := by decide +kernel
set_option maxRecDepth 20000 in
theorem in_X5_follow_X5 : ∀ w ∈ u_ws RX5 TX5 15, w ∈ wsX5_follow := by decide +kernel
set_option maxRecDepth 20000 in
theorem wd_X5_follow_4 : Cond.fieldLink RX5 43 "AffineHulls" "edges" "[LAffineHulls$Edge;" ∈ wsX5_follow := by decide +kernel
set_option maxRecDepth 20000 in
theorem wd_X5_follow_5 : Cond.fieldLink RX5 227 "AffineHulls$Point" "node" "I" ∈ wsX5_follow := by decide +kernel
set_option maxRecDepth 20000 in
theorem wd_X5_follow_6 : Cond.fieldLink RX5 239 "AffineHulls$Point" "index" "I" ∈ wsX5_follow := by decide +kernel
set_option maxRecDepth 20000 in
theorem wd_X5_follow_7 : Cond.fieldLink RX5 181 "AffineHulls$Edge" "to" "I" ∈ wsX5_follow := by decide +kernel
set_option maxRecDepth 20000 in
theorem in_X5_follow_X0 : ∀ w ∈ u_ws RX0 TX0 5, w ∈ wsX5_follow := by decide +kernel
abbrev rm_X5_follow : Room := { frames := 5, cells := 0, slots := 0, locals := 151 }
set_option maxHeartbeats 4000000 in
set_option maxRecDepth 100000 in
theorem c_X5_follow {l : Launch} {G : cx_G} {L : List Nat} {ad : Nat → Nat} {g : Nat → va_E} (hD : cx_D L ad) {N V M ec en pl nc : Nat} {an : Bool} {k ei x : Nat} {P : PS} {wk : Nat → FF} {ef et ek ev : Nat → Nat} {ez : Nat → Int32} {eg : Nat → Nat → FF} (hN : N ≤ 8) (hV1 : 1 ≤ V) (hV : V ≤ 4) (hM : M = N * (V + 1)) (hM2 : M ≤ 40) (hm : ∀ j : Nat, lbX N V M j → j ∈ L) (hk : k < P.1) (he : ei < ec) (hx1 : x ≤ 1) (hwk : Zb (V + 1) wk) (hev : EV N V ec ef et ek ez ev eg) (c_o : g 0 = .inr (5, [.int (nI V), .ref (ad 1), .ref (ad 4), .int (nI ec), .int (nI en), .ref (ad 5), .ref (ad 6), .int (nI P.1), .int (if an = true then 1 else 0), .int (nI pl), .ref (ad 2), .ref (ad 7), .int (nI nc), .ref (ad 180), .ref (ad 3)])) (c_w : g 3 = nA G (V + 1) (vN wk)) (c_E : g 4 = rA (G.2 2) 20 (fun i => if i < 20 then some (ad (300 + 2 * i)) else none)) (c_H : g 5 = rA (G.2 3) N (fun i => if i < N then some (ad (200 + 2 * i)) else none)) (c_A : g 6 = rA (G.2 5) M (fun i => if i < M then some (ad (500 + 2 * i)) else none)) (xa : XA G ad g N V M P) (xe : XE G ad g V ef et ek ez eg) : MV l yX5_follow wsX5_follow rm_X5_follow G L ad g [.ref (ad 0), .int (nI ei), .ref (ad (500 + 2 * k)), .int (nI x)] (fun u => (∀ j : Nat, (j ≠ 0 ∧ j ≠ 3 ∧ ¬ lbA j) → u j = g j) ∧ u 0 = .inr (5, [.int (nI V), .ref (ad 1), .ref (ad 4), .int (nI ec), .int (nI en), .ref (ad 5), .ref (ad 6), .int (nI ((follF (V + 1) et ek ev eg k ei x P).1)), .int (if an = true then 1 else 0), .int (nI pl), .ref (ad 2), .ref (ad 7), .int (nI nc), .ref (ad 180), .ref (ad 3)]) ∧ (∃ wk2 : Nat → FF, Zb (V + 1) wk2 ∧ u 3 = nA G (V + 1) (vN wk2)) ∧ XA G ad u N V M (follF (V + 1) et ek ev eg k ei x P)) := by
  refine cx_ofV (cc := cX5_follow) (maxL := 5) (by decide +kernel) rfl (Nat.le_of_ble_eq_true rfl) ?_
  intro p e s m args below meth c Q hx hb hts hown hml hP hK hS hz hret ls hl
  have hown : s.vm.findClass RX5 = some m.cls := hown
  have hl : lv_has ls 5 [(0, .ref (ad 0)), (1, .int (nI ei)), (2, .ref (ad (500 + 2 * k))), (3, .int (nI x))] := hl
  have fr : ∀ j : Nat, (j ≠ 0 ∧ j ≠ 3 ∧ ¬ lbA j) → g j = g j := fun _ _ => rfl
  obtain ⟨hkM, hnd, hix, hv0, ⟨ok, c_p⟩, c_pr⟩ := xa.pt hk
  have hec := hev.1
  obtain ⟨hf1, hf2, hf3, hf4⟩ := hev.2.1 ei he
  have c_ed := xe.1 ei (by omega)
  have c_ef := xe.2 ei (by omega)
  refine lv_aload_n hx hb dX5_follow_0 rfl (lv_at hl 2 rfl) ?_
  refine ax_get (k := 500 + 2 * k) (v := .ref (ad (501 + 2 * k))) hx hb hts in_X5_follow_X3 hown hK hP (hm _ (by unfold lbX; omega)) c_p rfl 3 (by decide) (hts _ wd_X5_follow_0) (fun _ h9 => h9) rfl dX5_follow_1 ?_
  refine lv_aload_n hx hb dX5_follow_4 rfl (lv_at hl 0 rfl) ?_
  refine ax_get (k := 0) (v := .ref (ad 3)) hx hb hts in_X5_follow_X5 hown hK hP (hm _ (by unfold lbX; omega)) c_o rfl 14 (by decide) (hts _ wd_X5_follow_2) (fun _ h9 => h9) rfl dX5_follow_5 ?_
  refine cx_Sv (As := [.ref (ad (501 + 2 * k)), .ref (ad 3)]) (rest := []) ⟨hx, hb, hml, hown, hts⟩ (c_X5_copy hD (a := 501 + 2 * k) (b := 3) (n := V + 1) (v := P.2.2.2.2.1 (P.2.1 k) (P.2.2.1 k)) (w := wk) (by omega) (hm _ (by unfold lbX; omega)) (hm _ (by unfold lbX; omega)) (by omega) c_pr c_w) (va_cwS 2 hts gX5_follow_X5_copy rfl rfl rfl (by decide +kernel) ⟨Nat.le_of_ble_eq_true rfl, Nat.le_of_ble_eq_true rfl⟩) hK hP hS hz ⟨Nat.zero_le _, Nat.zero_le _⟩ rfl hl.1 rfl (Nat.le_of_ble_eq_true rfl) dX5_follow_8 (fun g1 H locs hp1 hP hS => ?_)
  obtain ⟨hp1a, hp1b⟩ := hp1
  have c_o : g1 0 = .inr (5, [.int (nI V), .ref (ad 1), .ref (ad 4), .int (nI ec), .int (nI en), .ref (ad 5), .ref (ad 6), .int (nI P.1), .int (if an = true then 1 else 0), .int (nI pl), .ref (ad 2), .ref (ad 7), .int (nI nc), .ref (ad 180), .ref (ad 3)]) := (hp1a 0 (by omega)).trans c_o
  have c_E : g1 4 = rA (G.2 2) 20 (fun i => if i < 20 then some (ad (300 + 2 * i)) else none) := (hp1a 4 (by omega)).trans c_E
  have c_H : g1 5 = rA (G.2 3) N (fun i => if i < N then some (ad (200 + 2 * i)) else none) := (hp1a 5 (by omega)).trans c_H
  have c_A : g1 6 = rA (G.2 5) M (fun i => if i < M then some (ad (500 + 2 * i)) else none) := (hp1a 6 (by omega)).trans c_A
  have c_p : g1 (500 + 2 * k) = .inr (3, [.int (nI (P.2.1 k)), .int (nI (P.2.2.1 k)), .int ok, .ref (ad (501 + 2 * k))]) := (hp1a (500 + 2 * k) (by omega)).trans c_p
  have c_pr : g1 (501 + 2 * k) = nA G (V + 1) (vN (P.2.2.2.2.1 (P.2.1 k) (P.2.2.1 k))) := (hp1a (501 + 2 * k) (by omega)).trans c_pr
  have c_ed : g1 (300 + 2 * ei) = .inr (0, [.int (nI (ef ei)), .int (nI (et ei)), .int (nI (ek ei)), .int (ez ei), .ref (ad (301 + 2 * ei))]) := (hp1a (300 + 2 * ei) (by omega)).trans c_ed
  have c_ef : g1 (301 + 2 * ei) = nA G (V + 1) (vN (eg ei)) := (hp1a (301 + 2 * ei) (by omega)).trans c_ef
  have xa : XA G ad g1 N V M P := xa.kept hN hV (fun j hj => hp1a j (by unfold lbA at hj; omega))
  have xe : XE G ad g1 V ef et ek ez eg := xe.kept (fun j h1 h2 => hp1a j (by first | omega | (unfold lbA; omega)))
  have fr : ∀ j : Nat, (j ≠ 0 ∧ j ≠ 3 ∧ ¬ lbA j) → g1 j = g j := fun j hj => (hp1a j (by omega)).trans (fr j hj)
  have c_w := hp1b
  rw [cpv_z hv0 hwk] at c_w
  refine lv_aload_n hx hb dX5_follow_11 rfl (lv_at hl 0 rfl) ?_
  refine ax_get (k := 0) (v := .ref (ad 4)) hx hb hts in_X5_follow_X5 hown hK hP (hm _ (by unfold lbX; omega)) c_o rfl 2 (by decide) (hts _ wd_X5_follow_4) (fun _ h9 => h9) rfl dX5_follow_12 ?_
  refine lv_iload_n hx hb dX5_follow_15 rfl (lv_at hl 1 rfl) ?_
  refine ax_aald (k := 4) (i := ei) (b := ad (300 + 2 * ei)) hx hb hK hP (hm _ (by unfold lbX; omega)) 2 rfl rfl c_E (by omega) (by omega) (if_pos (by omega)) dX5_follow_16 ?_
  refine lv_aload_n hx hb dX5_follow_17 rfl (lv_at hl 0 rfl) ?_
  refine ax_get (k := 0) (v := .ref (ad 3)) hx hb hts in_X5_follow_X5 hown hK hP (hm _ (by unfold lbX; omega)) c_o rfl 14 (by decide) (hts _ wd_X5_follow_2) (fun _ h9 => h9) rfl dX5_follow_18 ?_
  refine lv_iload_n hx hb dX5_follow_21 rfl (lv_at hl 3 rfl) ?_
  rw [show nI x = nI (ff x).val from congrArg nI (Nat.mod_eq_of_lt (show x < 65521 by omega)).symm]
  refine cx_Vv (As := [.ref (ad 3), .int (nI ((ff x).val))]) (rest := []) ⟨hx, hb, hml, hown, hts⟩ (c_X0_step hD (k := 300 + 2 * ei) (kf := 301 + 2 * ei) (b := 3) (n := V + 1) (kd := ek ei) (vr := ev ei) (f := eg ei) (w := P.2.2.2.2.1 (P.2.1 k) (P.2.2.1 k)) (xf := ff x) (by omega) (by omega) (hm _ (by unfold lbX; omega)) (hm _ (by unfold lbX; omega)) (hm _ (by unfold lbX; omega)) (by omega) (by omega) (fun h => ⟨(hf4 h).1, (hf4 h).2.2⟩) c_ed c_ef c_w) (cwV 2 hts gX5_follow_X0_step rfl rfl rfl (by decide +kernel) ⟨Nat.le_of_ble_eq_true rfl, Nat.le_of_ble_eq_true rfl⟩) hK hP hS hz (hm _ (by unfold lbX; omega)) c_ed rfl ⟨Nat.zero_le _, Nat.zero_le _⟩ rfl hl.1 rfl (Nat.le_of_ble_eq_true rfl) dX5_follow_22 (fun g2 H locs hp2 hP hS => ?_)
  obtain ⟨hp2a, hp2b⟩ := hp2
  have c_o : g2 0 = .inr (5, [.int (nI V), .ref (ad 1), .ref (ad 4), .int (nI ec), .int (nI en), .ref (ad 5), .ref (ad 6), .int (nI P.1), .int (if an = true then 1 else 0), .int (nI pl), .ref (ad 2), .ref (ad 7), .int (nI nc), .ref (ad 180), .ref (ad 3)]) := (hp2a 0 (by omega)).trans c_o
  have c_E : g2 4 = rA (G.2 2) 20 (fun i => if i < 20 then some (ad (300 + 2 * i)) else none) := (hp2a 4 (by omega)).trans c_E
  have c_H : g2 5 = rA (G.2 3) N (fun i => if i < N then some (ad (200 + 2 * i)) else none) := (hp2a 5 (by omega)).trans c_H
  have c_A : g2 6 = rA (G.2 5) M (fun i => if i < M then some (ad (500 + 2 * i)) else none) := (hp2a 6 (by omega)).trans c_A
  have c_p : g2 (500 + 2 * k) = .inr (3, [.int (nI (P.2.1 k)), .int (nI (P.2.2.1 k)), .int ok, .ref (ad (501 + 2 * k))]) := (hp2a (500 + 2 * k) (by omega)).trans c_p
  have c_pr : g2 (501 + 2 * k) = nA G (V + 1) (vN (P.2.2.2.2.1 (P.2.1 k) (P.2.2.1 k))) := (hp2a (501 + 2 * k) (by omega)).trans c_pr
  have c_ed : g2 (300 + 2 * ei) = .inr (0, [.int (nI (ef ei)), .int (nI (et ei)), .int (nI (ek ei)), .int (ez ei), .ref (ad (301 + 2 * ei))]) := (hp2a (300 + 2 * ei) (by omega)).trans c_ed
  have c_ef : g2 (301 + 2 * ei) = nA G (V + 1) (vN (eg ei)) := (hp2a (301 + 2 * ei) (by omega)).trans c_ef
  have xa : XA G ad g2 N V M P := xa.kept hN hV (fun j hj => hp2a j (by unfold lbA at hj; omega))
  have xe : XE G ad g2 V ef et ek ez eg := xe.kept (fun j h1 h2 => hp2a j (by first | omega | (unfold lbA; omega)))
  have fr : ∀ j : Nat, (j ≠ 0 ∧ j ≠ 3 ∧ ¬ lbA j) → g2 j = g j := fun j hj => (hp2a j (by omega)).trans (fr j hj)
  have c_w := hp2b
  refine lv_sipush (v := nI 10000) hx hb dX5_follow_25 (by decide) ?_
  refine lv_iload_n hx hb dX5_follow_28 rfl (lv_at hl 1 rfl) ?_
  refine ax_mul (a := 10000) (b := ei) hx hb dX5_follow_29 ?_
  refine lv_sipush (v := nI 1000) hx hb dX5_follow_30 (by decide) ?_
  refine lv_aload_n hx hb dX5_follow_33 rfl (lv_at hl 2 rfl) ?_
  refine ax_get (k := 500 + 2 * k) (v := .int (nI (P.2.1 k))) hx hb hts in_X5_follow_X3 hown hK hP (hm _ (by unfold lbX; omega)) c_p rfl 0 (by decide) (hts _ wd_X5_follow_5) (fun _ h9 => h9) rfl dX5_follow_34 ?_
  refine ax_mul (a := 1000) (b := P.2.1 k) hx hb dX5_follow_37 ?_
  refine ax_add (a := 10000 * ei) (b := 1000 * (P.2.1 k)) hx hb dX5_follow_38 ?_
  refine lv_bipush (v := nI 10) hx hb dX5_follow_39 (by decide) ?_
  refine lv_aload_n hx hb dX5_follow_41 rfl (lv_at hl 2 rfl) ?_
  refine ax_get (k := 500 + 2 * k) (v := .int (nI (P.2.2.1 k))) hx hb hts in_X5_follow_X3 hown hK hP (hm _ (by unfold lbX; omega)) c_p rfl 1 (by decide) (hts _ wd_X5_follow_6) (fun _ h9 => h9) rfl dX5_follow_42 ?_
  refine ax_mul (a := 10) (b := P.2.2.1 k) hx hb dX5_follow_45 ?_
  refine ax_add (a := 10000 * ei + (1000 * (P.2.1 k))) (b := 10 * (P.2.2.1 k)) hx hb dX5_follow_46 ?_
  refine lv_iload_n hx hb dX5_follow_47 rfl (lv_at hl 3 rfl) ?_
  refine ax_add (a := 10000 * ei + (1000 * (P.2.1 k)) + (10 * (P.2.2.1 k))) (b := x) hx hb dX5_follow_48 ?_
  refine lv_istore (lv' := [(4, .int (nI (10000 * ei + (1000 * (P.2.1 k)) + (10 * (P.2.2.1 k)) + x))), (0, .ref (ad 0)), (1, .int (nI ei)), (2, .ref (ad (500 + 2 * k))), (3, .int (nI x))]) hx hb dX5_follow_49 hl (by decide) rfl (fun ls hl => ?_)
  refine lv_aload_n hx hb dX5_follow_51 rfl (lv_at hl 1 rfl) ?_
  refine lv_aload_n hx hb dX5_follow_52 rfl (lv_at hl 1 rfl) ?_
  refine ax_get (k := 0) (v := .ref (ad 4)) hx hb hts in_X5_follow_X5 hown hK hP (hm _ (by unfold lbX; omega)) c_o rfl 2 (by decide) (hts _ wd_X5_follow_4) (fun _ h9 => h9) rfl dX5_follow_53 ?_
  refine lv_iload_n hx hb dX5_follow_56 rfl (lv_at hl 2 rfl) ?_
  refine ax_aald (k := 4) (i := ei) (b := ad (300 + 2 * ei)) hx hb hK hP (hm _ (by unfold lbX; omega)) 2 rfl rfl c_E (by omega) (by omega) (if_pos (by omega)) dX5_follow_57 ?_
  refine ax_get (k := 300 + 2 * ei) (v := .int (nI (et ei))) hx hb hts in_X5_follow_X0 hown hK hP (hm _ (by unfold lbX; omega)) c_ed rfl 1 (by decide) (hts _ wd_X5_follow_7) (fun _ h9 => h9) rfl dX5_follow_58 ?_
  refine lv_aload_n hx hb dX5_follow_61 rfl (lv_at hl 1 rfl) ?_
  refine ax_get (k := 0) (v := .ref (ad 3)) hx hb hts in_X5_follow_X5 hown hK hP (hm _ (by unfold lbX; omega)) c_o rfl 14 (by decide) (hts _ wd_X5_follow_2) (fun _ h9 => h9) rfl dX5_follow_62 ?_
  refine lv_iload hx hb dX5_follow_65 (lv_at hl 0 rfl) ?_
  refine cx_Vv (As := [.int (nI (et ei)), .ref (ad 3), .int (nI (10000 * ei + (1000 * (P.2.1 k)) + (10 * (P.2.2.1 k)) + x))]) (rest := []) ⟨hx, hb, hml, hown, hts⟩ (c_X5_addPoint hD (node := et ei) (P := P) (v := stepF (V + 1) (ek ei) (ev ei) (eg ei) (ff x) (P.2.2.2.2.1 (P.2.1 k) (P.2.2.1 k))) (fz := nI (10000 * ei + (1000 * (P.2.1 k)) + (10 * (P.2.2.1 k)) + x)) hN hV1 hV hM hM2 hm hf2 (stepF_z hv0 (fun h => (hf4 h).2.2)) c_o c_w c_H c_A xa) (cwV 3 hts gX5_follow_X5_addPoint rfl rfl rfl (by decide +kernel) ⟨Nat.le_of_ble_eq_true rfl, Nat.le_of_ble_eq_true rfl⟩) hK hP hS hz (hm _ (by unfold lbX; omega)) c_o rfl ⟨Nat.zero_le _, Nat.zero_le _⟩ rfl hl.1 rfl (Nat.le_of_ble_eq_true rfl) dX5_follow_67 (fun g3 H locs hp3 hP hS => ?_)
  obtain ⟨hp3a, hp3o, hp3x⟩ := hp3
  have hp3b : ∀ j : Nat, (j ≠ 0 ∧ ¬ lbA j) → g3 j = g2 j := fun j h => hp3a j h.1 h.2
  have c_w : g3 3 = nA G (V + 1) (vN (stepF (V + 1) (ek ei) (ev ei) (eg ei) (ff x) (P.2.2.2.2.1 (P.2.1 k) (P.2.2.1 k)))) := (hp3b 3 (by unfold lbA; omega)).trans c_w
  have c_E : g3 4 = rA (G.2 2) 20 (fun i => if i < 20 then some (ad (300 + 2 * i)) else none) := (hp3b 4 (by unfold lbA; omega)).trans c_E
  have c_H : g3 5 = rA (G.2 3) N (fun i => if i < N then some (ad (200 + 2 * i)) else none) := (hp3b 5 (by unfold lbA; omega)).trans c_H
  have c_A : g3 6 = rA (G.2 5) M (fun i => if i < M then some (ad (500 + 2 * i)) else none) := (hp3b 6 (by unfold lbA; omega)).trans c_A
  have c_ed : g3 (300 + 2 * ei) = .inr (0, [.int (nI (ef ei)), .int (nI (et ei)), .int (nI (ek ei)), .int (ez ei), .ref (ad (301 + 2 * ei))]) := (hp3b (300 + 2 * ei) (by unfold lbA; omega)).trans c_ed
  have c_ef : g3 (301 + 2 * ei) = nA G (V + 1) (vN (eg ei)) := (hp3b (301 + 2 * ei) (by unfold lbA; omega)).trans c_ef
  have xe : XE G ad g3 V ef et ek ez eg := xe.kept (fun j h1 h2 => hp3b j (by first | omega | (unfold lbA; omega)))
  have fr : ∀ j : Nat, (j ≠ 0 ∧ j ≠ 3 ∧ ¬ lbA j) → g3 j = g j := fun j hj => (hp3b j (by exact ⟨hj.1, hj.2.2⟩)).trans (fr j hj)
  have c_o := hp3o
  have xa := hp3x
  exact hret g3 _ _ _ _ ⟨fr, c_o, ⟨_, stepF_z hv0 (fun h => (hf4 h).2.2), c_w⟩, xa⟩ hP hS dX5_follow_70

set_option maxRecDepth 20000 in
theorem wd_X5_workOff_0 : Cond.fieldLink RX5 89 "AffineHulls" "edgeCount" "I" ∈ wsX5_workOff := by decide +kernel
set_option maxRecDepth 20000 in
theorem in_X5_workOff_X5 : ∀ w ∈ u_ws RX5 TX5 15, w ∈ wsX5_workOff := by decide +kernel
set_option maxRecDepth 20000 in
theorem wd_X5_workOff_2 : Cond.fieldLink RX5 43 "AffineHulls" "edges" "[LAffineHulls$Edge;" ∈ wsX5_workOff := by decide +kernel
set_option maxRecDepth 20000 in
theorem wd_X5_workOff_3 : Cond.fieldLink RX5 168 "AffineHulls$Edge" "from" "I" ∈ wsX5_workOff := by decide +kernel
set_option maxRecDepth 20000 in
theorem in_X5_workOff_X0 : ∀ w ∈ u_ws RX0 TX0 5, w ∈ wsX5_workOff := by decide +kernel
set_option maxRecDepth 20000 in
theorem wd_X5_workOff_5 : Cond.fieldLink RX5 227 "AffineHulls$Point" "node" "I" ∈ wsX5_workOff := by decide +kernel
set_option maxRecDepth 20000 in
theorem in_X5_workOff_X3 : ∀ w ∈ u_ws RX3 TX3 4, w ∈ wsX5_workOff := by decide +kernel
set_option maxRecDepth 20000 in
theorem wd_X5_workOff_7 : Cond.fieldLink RX5 232 "AffineHulls$Edge" "kind" "I" ∈ wsX5_workOff := by decide +kernel
abbrev rm_X5_workOff : Room := { frames := 6, cells := 0, slots := 0, locals := 175 }
set_option maxHeartbeats 4000000 in
set_option maxRecDepth 100000 in
theorem c_X5_workOff {l : Launch} {G : cx_G} {L : List Nat} {ad : Nat → Nat} {g : Nat → va_E} (hD : cx_D L ad) {N V M ec en pl nc : Nat} {an : Bool} {k : Nat} {P : PS} {wk : Nat → FF} {ef et ek ev : Nat → Nat} {ez : Nat → Int32} {eg : Nat → Nat → FF} (hN : N ≤ 8) (hV1 : 1 ≤ V) (hV : V ≤ 4) (hM : M = N * (V + 1)) (hM2 : M ≤ 40) (hm : ∀ j : Nat, lbX N V M j → j ∈ L) (hk : k < P.1) (hwk : Zb (V + 1) wk) (hev : EV N V ec ef et ek ez ev eg) (c_o : g 0 = .inr (5, [.int (nI V), .ref (ad 1), .ref (ad 4), .int (nI ec), .int (nI en), .ref (ad 5), .ref (ad 6), .int (nI P.1), .int (if an = true then 1 else 0), .int (nI pl), .ref (ad 2), .ref (ad 7), .int (nI nc), .ref (ad 180), .ref (ad 3)])) (c_w : g 3 = nA G (V + 1) (vN wk)) (c_E : g 4 = rA (G.2 2) 20 (fun i => if i < 20 then some (ad (300 + 2 * i)) else none)) (c_H : g 5 = rA (G.2 3) N (fun i => if i < N then some (ad (200 + 2 * i)) else none)) (c_A : g 6 = rA (G.2 5) M (fun i => if i < M then some (ad (500 + 2 * i)) else none)) (xa : XA G ad g N V M P) (xe : XE G ad g V ef et ek ez eg) : MV l yX5_workOff wsX5_workOff rm_X5_workOff G L ad g [.ref (ad 0), .ref (ad (500 + 2 * k))] (fun u => (∀ j : Nat, (j ≠ 0 ∧ j ≠ 3 ∧ ¬ lbA j) → u j = g j) ∧ u 0 = .inr (5, [.int (nI V), .ref (ad 1), .ref (ad 4), .int (nI ec), .int (nI en), .ref (ad 5), .ref (ad 6), .int (nI ((workF (V + 1) ef et ek ev eg k ec P).1)), .int (if an = true then 1 else 0), .int (nI pl), .ref (ad 2), .ref (ad 7), .int (nI nc), .ref (ad 180), .ref (ad 3)]) ∧ (∃ wk2 : Nat → FF, Zb (V + 1) wk2 ∧ u 3 = nA G (V + 1) (vN wk2)) ∧ XA G ad u N V M (workF (V + 1) ef et ek ev eg k ec P)) := by
  refine cx_ofV (cc := cX5_workOff) (maxL := 3) (by decide +kernel) rfl (Nat.le_of_ble_eq_true rfl) ?_
  intro p e s m args below meth c Q hx hb hts hown hml hP hK hS hz hret ls hl
  have hown : s.vm.findClass RX5 = some m.cls := hown
  have hl : lv_has ls 3 [(0, .ref (ad 0)), (1, .ref (ad (500 + 2 * k)))] := hl
  have fr : ∀ j : Nat, (j ≠ 0 ∧ j ≠ 3 ∧ ¬ lbA j) → g j = g j := fun _ _ => rfl
  have hec := hev.1
  refine lv_iconst (v := nI 0) hx hb dX5_workOff_0 (by decide) ?_
  refine lv_istore_n (lv' := [(2, .int (nI 0)), (0, .ref (ad 0)), (1, .ref (ad (500 + 2 * k)))]) hx hb dX5_workOff_1 rfl hl (by decide) rfl (fun ls hl => ?_)
  have LP2 : ∀ (fu : Nat) (ei : Nat) (wk2 : Nat → FF), (ei ≤ ec) → (Zb (V + 1) wk2) → (ec - ei) < fu → ∀ (ga1 : Nat → va_E) (H : Heap) (locs : List Loc) (ls : Array Slot), (ga1 0 = .inr (5, [.int (nI V), .ref (ad 1), .ref (ad 4), .int (nI ec), .int (nI en), .ref (ad 5), .ref (ad 6), .int (nI ((workF (V + 1) ef et ek ev eg k ei P).1)), .int (if an = true then 1 else 0), .int (nI pl), .ref (ad 2), .ref (ad 7), .int (nI nc), .ref (ad 180), .ref (ad 3)])) → (ga1 3 = nA G (V + 1) (vN wk2)) → (ga1 4 = rA (G.2 2) 20 (fun i => if i < 20 then some (ad (300 + 2 * i)) else none)) → (ga1 5 = rA (G.2 3) N (fun i => if i < N then some (ad (200 + 2 * i)) else none)) → (ga1 6 = rA (G.2 5) M (fun i => if i < M then some (ad (500 + 2 * i)) else none)) → (XA G ad ga1 N V M (workF (V + 1) ef et ek ev eg k ei P)) → (XE G ad ga1 V ef et ek ez eg) → (∀ j : Nat, (j ≠ 0 ∧ j ≠ 3 ∧ ¬ lbA j) → ga1 j = g j) → va_P G.1 vwCl (wl L ad ga1) H → va_S (cx_A L ad s.heap.size) s.heap H locs → lv_has ls 3 [(2, .int (nI ei)), (0, .ref (ad 0)), (1, .ref (ad (500 + 2 * k)))] → W p l e rm_X5_workOff s m args below meth c H locs 0 0 Q (F0 m 2 ls []) := by
    intro fu
    induction fu with
    | zero => intro ei wk2 hen zw hfu; exact absurd hfu (Nat.not_lt_zero _)
    | succ fu ih2 =>
      intro ei wk2 hen zw hfu2 ga1 H locs ls c_o c_w c_E c_H c_A xa xe fr hP hS hl
      refine lv_iload_n hx hb dX5_workOff_2 rfl (lv_at hl 0 rfl) ?_
      refine lv_aload_n hx hb dX5_workOff_3 rfl (lv_at hl 1 rfl) ?_
      refine ax_get (k := 0) (v := .int (nI ec)) hx hb hts in_X5_workOff_X5 hown hK hP (hm _ (by unfold lbX; omega)) c_o rfl 3 (by decide) (hts _ wd_X5_workOff_0) (fun _ h9 => h9) rfl dX5_workOff_4 ?_
      refine ax_icge (a := ei) (b := ec) (tgt := 59) hx hb dX5_workOff_7 (by decide) (by omega) (by omega) (fun h7 => ?_) (fun h7 => ?_)
      · skip
        exact hret ga1 _ _ _ _ (by have ee : ei = ec := (by omega); subst ee; exact ⟨fr, c_o, ⟨wk2, zw, c_w⟩, xa⟩) hP hS dX5_workOff_59
      · skip
        have hkQ : k < (workF (V + 1) ef et ek ev eg k ei P).1 := Nat.lt_of_lt_of_le hk (workF_le ei)
        obtain ⟨hkM, hnd, hix, hv0, ⟨ok, c_p⟩, c_pr⟩ := xa.pt hkQ
        have c_ed := xe.1 ei (by omega)
        obtain ⟨hf1, hf2, hf3, hf4⟩ := hev.2.1 ei h7
        refine lv_aload_n hx hb dX5_workOff_10 rfl (lv_at hl 1 rfl) ?_
        refine ax_get (k := 0) (v := .ref (ad 4)) hx hb hts in_X5_workOff_X5 hown hK hP (hm _ (by unfold lbX; omega)) c_o rfl 2 (by decide) (hts _ wd_X5_workOff_2) (fun _ h9 => h9) rfl dX5_workOff_11 ?_
        refine lv_iload_n hx hb dX5_workOff_14 rfl (lv_at hl 0 rfl) ?_
        refine ax_aald (k := 4) (i := ei) (b := ad (300 + 2 * ei)) hx hb hK hP (hm _ (by unfold lbX; omega)) 2 rfl rfl c_E (by omega) (by omega) (if_pos (by omega)) dX5_workOff_15 ?_
        refine ax_get (k := 300 + 2 * ei) (v := .int (nI (ef ei))) hx hb hts in_X5_workOff_X0 hown hK hP (hm _ (by unfold lbX; omega)) c_ed rfl 0 (by decide) (hts _ wd_X5_workOff_3) (fun _ h9 => h9) rfl dX5_workOff_16 ?_
        refine lv_aload_n hx hb dX5_workOff_19 rfl (lv_at hl 2 rfl) ?_
        refine ax_get (k := 500 + 2 * k) (v := .int (nI ((workF (V + 1) ef et ek ev eg k ei P).2.1 k))) hx hb hts in_X5_workOff_X3 hown hK hP (hm _ (by unfold lbX; omega)) c_p rfl 0 (by decide) (hts _ wd_X5_workOff_5) (fun _ h9 => h9) rfl dX5_workOff_20 ?_
        refine ax_icne (a := ef ei) (b := (workF (V + 1) ef et ek ev eg k ei P).2.1 k) (tgt := 53) hx hb dX5_workOff_23 (by decide) (by omega) (by omega) (fun h23 => ?_) (fun h23 => ?_)
        · skip
          have e_w := wk_no (w := V + 1) h23
          rw [← e_w] at c_o xa
          refine lv_iinc (v := nI (ei + 1)) (lv' := [(2, .int (nI (ei + 1))), (0, .ref (ad 0)), (1, .ref (ad (500 + 2 * k)))]) hx hb dX5_workOff_53 hl (k := 0) rfl (nI_1 _) (by decide) rfl (fun ls hl => ?_)
          refine lv_goto (tgt := 2) hx hb dX5_workOff_56 (by decide) ?_
          exact ih2 (ei + 1) wk2 h7 zw (by omega) ga1 _ _ _ c_o c_w c_E c_H c_A xa xe fr hP hS (lv_sub hl [0, 1, 2] rfl)
        · skip
          refine lv_aload_n hx hb dX5_workOff_26 rfl (lv_at hl 1 rfl) ?_
          refine lv_iload_n hx hb dX5_workOff_27 rfl (lv_at hl 0 rfl) ?_
          refine lv_aload_n hx hb dX5_workOff_28 rfl (lv_at hl 2 rfl) ?_
          refine lv_iconst (v := nI 0) hx hb dX5_workOff_29 (by decide) ?_
          refine cx_Vv (As := [.int (nI ei), .ref (ad (500 + 2 * k)), .int (nI 0)]) (rest := []) ⟨hx, hb, hml, hown, hts⟩ (c_X5_follow hD (k := k) (ei := ei) (x := 0) (P := workF (V + 1) ef et ek ev eg k ei P) (wk := wk2) hN hV1 hV hM hM2 hm hkQ h7 (by omega) zw hev c_o c_w c_E c_H c_A xa xe) (cwV 3 hts gX5_workOff_X5_follow rfl rfl rfl (by decide +kernel) ⟨Nat.le_of_ble_eq_true rfl, Nat.le_of_ble_eq_true rfl⟩) hK hP hS hz (hm _ (by unfold lbX; omega)) c_o rfl ⟨Nat.zero_le _, Nat.zero_le _⟩ rfl hl.1 rfl (Nat.le_of_ble_eq_true rfl) dX5_workOff_30 (fun g2 H locs hp2 hP hS => ?_)
          obtain ⟨hp2b, hp2o, ⟨wk3, zw3, hp2w⟩, hp2x⟩ := hp2
          have c_E : g2 4 = rA (G.2 2) 20 (fun i => if i < 20 then some (ad (300 + 2 * i)) else none) := (hp2b 4 (by unfold lbA; omega)).trans c_E
          have c_H : g2 5 = rA (G.2 3) N (fun i => if i < N then some (ad (200 + 2 * i)) else none) := (hp2b 5 (by unfold lbA; omega)).trans c_H
          have c_A : g2 6 = rA (G.2 5) M (fun i => if i < M then some (ad (500 + 2 * i)) else none) := (hp2b 6 (by unfold lbA; omega)).trans c_A
          have c_ed : g2 (300 + 2 * ei) = .inr (0, [.int (nI (ef ei)), .int (nI (et ei)), .int (nI (ek ei)), .int (ez ei), .ref (ad (301 + 2 * ei))]) := (hp2b (300 + 2 * ei) (by unfold lbA; omega)).trans c_ed
          have xe : XE G ad g2 V ef et ek ez eg := xe.kept (fun j h1 h2 => hp2b j (by first | omega | (unfold lbA; omega)))
          have fr : ∀ j : Nat, (j ≠ 0 ∧ j ≠ 3 ∧ ¬ lbA j) → g2 j = g j := fun j hj => (hp2b j (by exact hj)).trans (fr j hj)
          have c_o := hp2o
          have c_w := hp2w
          have xa := hp2x
          refine lv_aload_n hx hb dX5_workOff_33 rfl (lv_at hl 1 rfl) ?_
          refine ax_get (k := 0) (v := .ref (ad 4)) hx hb hts in_X5_workOff_X5 hown hK hP (hm _ (by unfold lbX; omega)) c_o rfl 2 (by decide) (hts _ wd_X5_workOff_2) (fun _ h9 => h9) rfl dX5_workOff_34 ?_
          refine lv_iload_n hx hb dX5_workOff_37 rfl (lv_at hl 0 rfl) ?_
          refine ax_aald (k := 4) (i := ei) (b := ad (300 + 2 * ei)) hx hb hK hP (hm _ (by unfold lbX; omega)) 2 rfl rfl c_E (by omega) (by omega) (if_pos (by omega)) dX5_workOff_38 ?_
          refine ax_get (k := 300 + 2 * ei) (v := .int (nI (ek ei))) hx hb hts in_X5_workOff_X0 hown hK hP (hm _ (by unfold lbX; omega)) c_ed rfl 2 (by decide) (hts _ wd_X5_workOff_7) (fun _ h9 => h9) rfl dX5_workOff_39 ?_
          refine lv_iconst (v := nI 2) hx hb dX5_workOff_42 (by decide) ?_
          refine ax_icne (a := ek ei) (b := 2) (tgt := 53) hx hb dX5_workOff_43 (by decide) (by omega) (by omega) (fun h43 => ?_) (fun h43 => ?_)
          · skip
            have e_w := wk_1 (w := V + 1) h23 h43
            rw [← e_w] at c_o xa
            refine lv_iinc (v := nI (ei + 1)) (lv' := [(2, .int (nI (ei + 1))), (0, .ref (ad 0)), (1, .ref (ad (500 + 2 * k)))]) hx hb dX5_workOff_53 hl (k := 0) rfl (nI_1 _) (by decide) rfl (fun ls hl => ?_)
            refine lv_goto (tgt := 2) hx hb dX5_workOff_56 (by decide) ?_
            exact ih2 (ei + 1) wk3 h7 zw3 (by omega) g2 _ _ _ c_o c_w c_E c_H c_A xa xe fr hP hS (lv_sub hl [0, 1, 2] rfl)
          · skip
            refine lv_aload_n hx hb dX5_workOff_46 rfl (lv_at hl 1 rfl) ?_
            refine lv_iload_n hx hb dX5_workOff_47 rfl (lv_at hl 0 rfl) ?_
            refine lv_aload_n hx hb dX5_workOff_48 rfl (lv_at hl 2 rfl) ?_
            refine lv_iconst (v := nI 1) hx hb dX5_workOff_49 (by decide) ?_
            refine cx_Vv (As := [.int (nI ei), .ref (ad (500 + 2 * k)), .int (nI 1)]) (rest := []) ⟨hx, hb, hml, hown, hts⟩ (c_X5_follow hD (k := k) (ei := ei) (x := 1) (P := follF (V + 1) et ek ev eg k ei 0 (workF (V + 1) ef et ek ev eg k ei P)) (wk := wk3) hN hV1 hV hM hM2 hm (Nat.lt_of_lt_of_le hkQ meetF_le) h7 (by omega) zw3 hev c_o c_w c_E c_H c_A xa xe) (cwV 3 hts gX5_workOff_X5_follow rfl rfl rfl (by decide +kernel) ⟨Nat.le_of_ble_eq_true rfl, Nat.le_of_ble_eq_true rfl⟩) hK hP hS hz (hm _ (by unfold lbX; omega)) c_o rfl ⟨Nat.zero_le _, Nat.zero_le _⟩ rfl hl.1 rfl (Nat.le_of_ble_eq_true rfl) dX5_workOff_50 (fun g3 H locs hp3 hP hS => ?_)
            obtain ⟨hp3b, hp3o, ⟨wk4, zw4, hp3w⟩, hp3x⟩ := hp3
            have c_E : g3 4 = rA (G.2 2) 20 (fun i => if i < 20 then some (ad (300 + 2 * i)) else none) := (hp3b 4 (by unfold lbA; omega)).trans c_E
            have c_H : g3 5 = rA (G.2 3) N (fun i => if i < N then some (ad (200 + 2 * i)) else none) := (hp3b 5 (by unfold lbA; omega)).trans c_H
            have c_A : g3 6 = rA (G.2 5) M (fun i => if i < M then some (ad (500 + 2 * i)) else none) := (hp3b 6 (by unfold lbA; omega)).trans c_A
            have c_ed : g3 (300 + 2 * ei) = .inr (0, [.int (nI (ef ei)), .int (nI (et ei)), .int (nI (ek ei)), .int (ez ei), .ref (ad (301 + 2 * ei))]) := (hp3b (300 + 2 * ei) (by unfold lbA; omega)).trans c_ed
            have xe : XE G ad g3 V ef et ek ez eg := xe.kept (fun j h1 h2 => hp3b j (by first | omega | (unfold lbA; omega)))
            have fr : ∀ j : Nat, (j ≠ 0 ∧ j ≠ 3 ∧ ¬ lbA j) → g3 j = g j := fun j hj => (hp3b j (by exact hj)).trans (fr j hj)
            have c_o := hp3o
            have c_w := hp3w
            have xa := hp3x
            have e_w := wk_2 (w := V + 1) h23 h43
            rw [← e_w] at c_o xa
            refine lv_iinc (v := nI (ei + 1)) (lv' := [(2, .int (nI (ei + 1))), (0, .ref (ad 0)), (1, .ref (ad (500 + 2 * k)))]) hx hb dX5_workOff_53 hl (k := 0) rfl (nI_1 _) (by decide) rfl (fun ls hl => ?_)
            refine lv_goto (tgt := 2) hx hb dX5_workOff_56 (by decide) ?_
            exact ih2 (ei + 1) wk4 h7 zw4 (by omega) g3 _ _ _ c_o c_w c_E c_H c_A xa xe fr hP hS (lv_sub hl [0, 1, 2] rfl)
  exact LP2 ((ec - 0) + 1) 0 wk (Nat.zero_le _) hwk (Nat.lt_succ_self _) g _ _ _ c_o c_w c_E c_H c_A xa xe fr hP hS (lv_sub hl [0, 1, 2] rfl)

set_option maxRecDepth 20000 in
theorem wd_X5_forgetPoints_0 : Cond.fieldLink RX5 120 "AffineHulls" "arrivalCount" "I" ∈ wsX5_forgetPoints := by decide +kernel
set_option maxRecDepth 20000 in
theorem in_X5_forgetPoints_X5 : ∀ w ∈ u_ws RX5 TX5 15, w ∈ wsX5_forgetPoints := by decide +kernel
set_option maxRecDepth 20000 in
theorem wd_X5_forgetPoints_2 : Cond.fieldLink RX5 57 "AffineHulls" "hulls" "[LAffineHulls$Hull;" ∈ wsX5_forgetPoints := by decide +kernel
abbrev rm_X5_forgetPoints : Room := { frames := 2, cells := 0, slots := 0, locals := 41 }
set_option maxHeartbeats 4000000 in
set_option maxRecDepth 100000 in
theorem c_X5_forgetPoints {l : Launch} {G : cx_G} {L : List Nat} {ad : Nat → Nat} {g : Nat → va_E} (hD : cx_D L ad) {N V M ec en al pl nc : Nat} {an : Bool} (hN : N ≤ 8) (hV1 : 1 ≤ V) (hV : V ≤ 4) (hM : M = N * (V + 1)) (hM2 : M ≤ 40) (hm : ∀ j : Nat, lbX N V M j → j ∈ L) (c_o : g 0 = .inr (5, [.int (nI V), .ref (ad 1), .ref (ad 4), .int (nI ec), .int (nI en), .ref (ad 5), .ref (ad 6), .int (nI al), .int (if an = true then 1 else 0), .int (nI pl), .ref (ad 2), .ref (ad 7), .int (nI nc), .ref (ad 180), .ref (ad 3)])) (c_H : g 5 = rA (G.2 3) N (fun i => if i < N then some (ad (200 + 2 * i)) else none)) (xf : XF G ad g N V M 0) : MV l yX5_forgetPoints wsX5_forgetPoints rm_X5_forgetPoints G L ad g [.ref (ad 0)] (fun u => (∀ j : Nat, (j ≠ 0 ∧ ¬ lbA j) → u j = g j) ∧ u 0 = .inr (5, [.int (nI V), .ref (ad 1), .ref (ad 4), .int (nI ec), .int (nI en), .ref (ad 5), .ref (ad 6), .int (nI 0), .int (if an = true then 1 else 0), .int (nI pl), .ref (ad 2), .ref (ad 7), .int (nI nc), .ref (ad 180), .ref (ad 3)]) ∧ XA G ad u N V M PS0) := by
  refine cx_ofV (cc := cX5_forgetPoints) (maxL := 2) (by decide +kernel) rfl (Nat.le_of_ble_eq_true rfl) ?_
  intro p e s m args below meth c Q hx hb hts hown hml hP hK hS hz hret ls hl
  have hown : s.vm.findClass RX5 = some m.cls := hown
  have hl : lv_has ls 2 [(0, .ref (ad 0))] := hl
  have fr : ∀ j : Nat, (j ≠ 0 ∧ ¬ lbA j) → g j = g j := fun _ _ => rfl
  refine lv_aload_n hx hb dX5_forgetPoints_0 rfl (lv_at hl 0 rfl) ?_
  refine lv_iconst (v := nI 0) hx hb dX5_forgetPoints_1 (by decide) ?_
  refine ax_put (k := 0) (v := .int (nI 0)) (fs' := [.int (nI V), .ref (ad 1), .ref (ad 4), .int (nI ec), .int (nI en), .ref (ad 5), .ref (ad 6), .int (nI 0), .int (if an = true then 1 else 0), .int (nI pl), .ref (ad 2), .ref (ad 7), .int (nI nc), .ref (ad 180), .ref (ad 3)]) hx hb hts in_X5_forgetPoints_X5 tyX5 tyX5_ok nmX5 hown hK hP hD hS (hm _ (by unfold lbX; omega)) c_o rfl 7 (by decide) (hts _ wd_X5_forgetPoints_0) (fun _ h9 => h9) rfl (ty := .int) (by decide +kernel) rfl rfl (Nat.le_of_ble_eq_true rfl) rfl dX5_forgetPoints_2 (fun H locs g1 eg1 hP hS => ?_)
  have c_H : g1 5 = rA (G.2 3) N (fun i => if i < N then some (ad (200 + 2 * i)) else none) := (cx_ne eg1 5 (by omega)).trans c_H
  have xf : XF G ad g1 N V M 0 := xf.kept hN hV (fun j hj => cx_ne eg1 j (by unfold lbA at hj; omega))
  have c_o : g1 0 = .inr (5, [.int (nI V), .ref (ad 1), .ref (ad 4), .int (nI ec), .int (nI en), .ref (ad 5), .ref (ad 6), .int (nI 0), .int (if an = true then 1 else 0), .int (nI pl), .ref (ad 2), .ref (ad 7), .int (nI nc), .ref (ad 180), .ref (ad 3)]) := cx_eq eg1
  have fr : ∀ j : Nat, (j ≠ 0 ∧ ¬ lbA j) → g1 j = g j := fun j hj => (cx_ne eg1 j (by omega)).trans (fr j hj)
  refine lv_iconst (v := nI 0) hx hb dX5_forgetPoints_5 (by decide) ?_
  refine lv_istore_n (lv' := [(1, .int (nI 0)), (0, .ref (ad 0))]) hx hb dX5_forgetPoints_6 rfl hl (by decide) rfl (fun ls hl => ?_)
  have LP7 : ∀ (fu : Nat) (k : Nat), (k ≤ N) → (N - k) < fu → ∀ (ga2 : Nat → va_E) (H : Heap) (locs : List Loc) (ls : Array Slot), (ga2 0 = .inr (5, [.int (nI V), .ref (ad 1), .ref (ad 4), .int (nI ec), .int (nI en), .ref (ad 5), .ref (ad 6), .int (nI 0), .int (if an = true then 1 else 0), .int (nI pl), .ref (ad 2), .ref (ad 7), .int (nI nc), .ref (ad 180), .ref (ad 3)])) → (ga2 5 = rA (G.2 3) N (fun i => if i < N then some (ad (200 + 2 * i)) else none)) → (XF G ad ga2 N V M k) → (∀ j : Nat, (j ≠ 0 ∧ ¬ lbA j) → ga2 j = g j) → va_P G.1 vwCl (wl L ad ga2) H → va_S (cx_A L ad s.heap.size) s.heap H locs → lv_has ls 2 [(1, .int (nI k)), (0, .ref (ad 0))] → W p l e rm_X5_forgetPoints s m args below meth c H locs 0 0 Q (F0 m 7 ls []) := by
    intro fu
    induction fu with
    | zero => intro k hkn hfu; exact absurd hfu (Nat.not_lt_zero _)
    | succ fu ih7 =>
      intro k hkn hfu7 ga2 H locs ls c_o c_H xf fr hP hS hl
      refine lv_iload_n hx hb dX5_forgetPoints_7 rfl (lv_at hl 0 rfl) ?_
      refine lv_aload_n hx hb dX5_forgetPoints_8 rfl (lv_at hl 1 rfl) ?_
      refine ax_get (k := 0) (v := .ref (ad 5)) hx hb hts in_X5_forgetPoints_X5 hown hK hP (hm _ (by unfold lbX; omega)) c_o rfl 5 (by decide) (hts _ wd_X5_forgetPoints_2) (fun _ h9 => h9) rfl dX5_forgetPoints_9 ?_
      refine ax_alen (k := 5) (n := N) hx hb hK hP (hm _ (by unfold lbX; omega)) 3 rfl c_H rfl dX5_forgetPoints_12 ?_
      refine ax_icge (a := k) (b := N) (tgt := 31) hx hb dX5_forgetPoints_13 (by decide) (by omega) (by omega) (fun h13 => ?_) (fun h13 => ?_)
      · skip
        exact hret ga2 _ _ _ _ (by have ek : k = N := (by omega); subst ek; exact ⟨fr, c_o, xf.done⟩) hP hS dX5_forgetPoints_31
      · skip
        refine lv_aload_n hx hb dX5_forgetPoints_16 rfl (lv_at hl 1 rfl) ?_
        refine ax_get (k := 0) (v := .ref (ad 5)) hx hb hts in_X5_forgetPoints_X5 hown hK hP (hm _ (by unfold lbX; omega)) c_o rfl 5 (by decide) (hts _ wd_X5_forgetPoints_2) (fun _ h9 => h9) rfl dX5_forgetPoints_17 ?_
        refine lv_iload_n hx hb dX5_forgetPoints_20 rfl (lv_at hl 0 rfl) ?_
        refine ax_aald (k := 5) (i := k) (b := ad (200 + 2 * k)) hx hb hK hP (hm _ (by unfold lbX; omega)) 3 rfl rfl c_H (by omega) (by omega) (if_pos (by omega)) dX5_forgetPoints_21 ?_
        obtain ⟨nd, ix, og, rw, ct, mb, T, K, R, hxn, hzr, hcl⟩ := xf
        have c_h := hxn.1 k h13
        refine cx_Vv (As := []) (rest := []) ⟨hx, hb, hml, hown, hts⟩ (c_X1_clear hD (b := 100 + 10 * k) (n := V + 1) (t := T k) (kp := K k) (rs := R k) (h := 200 + 2 * k) (mb := 201 + 2 * k) (pc := ct k) (hm _ (by unfold lbX; omega)) (by omega) c_h (fun j hj => hm _ (by unfold lbX; omega)) (by omega) (by omega) (hxn.2.2.1 k h13)) (cwV 0 hts gX5_forgetPoints_X1_clear rfl rfl rfl (by decide +kernel) ⟨Nat.le_of_ble_eq_true rfl, Nat.le_of_ble_eq_true rfl⟩) hK hP hS hz (hm _ (by unfold lbX; omega)) c_h rfl ⟨Nat.zero_le _, Nat.zero_le _⟩ rfl hl.1 rfl (Nat.le_of_ble_eq_true rfl) dX5_forgetPoints_22 (fun g3 H locs hp3 hP hS => ?_)
        obtain ⟨hp3a, hp3b, t2, ht2, sp2⟩ := hp3
        have c_o : g3 0 = .inr (5, [.int (nI V), .ref (ad 1), .ref (ad 4), .int (nI ec), .int (nI en), .ref (ad 5), .ref (ad 6), .int (nI 0), .int (if an = true then 1 else 0), .int (nI pl), .ref (ad 2), .ref (ad 7), .int (nI nc), .ref (ad 180), .ref (ad 3)]) := (hp3a 0 (by omega)).trans c_o
        have c_H : g3 5 = rA (G.2 3) N (fun i => if i < N then some (ad (200 + 2 * i)) else none) := (hp3a 5 (by omega)).trans c_H
        have fr : ∀ j : Nat, (j ≠ 0 ∧ ¬ lbA j) → g3 j = g j := fun j hj => (hp3a j (by unfold lbA at hj; omega)).trans (fr j hj)
        have xf : XF G ad g3 N V M (k + 1) := XF.step hxn hzr hcl hN hV h13 hp3a hp3b ht2 sp2
        refine lv_iinc (v := nI (k + 1)) (lv' := [(1, .int (nI (k + 1))), (0, .ref (ad 0))]) hx hb dX5_forgetPoints_25 hl (k := 0) rfl (nI_1 _) (by decide) rfl (fun ls hl => ?_)
        refine lv_goto (tgt := 7) hx hb dX5_forgetPoints_28 (by decide) ?_
        exact ih7 (k + 1) h13 (by omega) g3 _ _ _ c_o c_H xf fr hP hS (lv_sub hl [0, 1] rfl)
  exact LP7 ((N - 0) + 1) 0 (Nat.zero_le _) (Nat.lt_succ_self _) g1 _ _ _ c_o c_H xf fr hP hS (lv_sub hl [0, 1] rfl)

set_option maxRecDepth 20000 in
theorem wd_X5_analyse_0 : Cond.fieldLink RX5 64 "AffineHulls" "arrivals" "[LAffineHulls$Point;" ∈ wsX5_analyse := by decide +kernel
set_option maxRecDepth 20000 in
theorem in_X5_analyse_X5 : ∀ w ∈ u_ws RX5 TX5 15, w ∈ wsX5_analyse := by decide +kernel
set_option maxRecDepth 20000 in
theorem wd_X5_analyse_2 : Cond.fieldLink RX5 104 "AffineHulls" "analysed" "Z" ∈ wsX5_analyse := by decide +kernel
set_option maxRecDepth 20000 in
theorem wd_X5_analyse_3 : Cond.fieldLink RX5 120 "AffineHulls" "arrivalCount" "I" ∈ wsX5_analyse := by decide +kernel
abbrev rm_X5_analyse : Room := { frames := 7, cells := 0, slots := 0, locals := 197 }
set_option maxHeartbeats 4000000 in
set_option maxRecDepth 100000 in
theorem c_X5_analyse {l : Launch} {G : cx_G} {L : List Nat} {ad : Nat → Nat} {g : Nat → va_E} (hD : cx_D L ad) {N V M ec en al pl nc : Nat} {an : Bool} {wk : Nat → FF} {ef et ek ev : Nat → Nat} {ez : Nat → Int32} {eg : Nat → Nat → FF} (hN : N ≤ 8) (hV1 : 1 ≤ V) (hV : V ≤ 4) (hM : M = N * (V + 1)) (hM2 : M ≤ 40) (hm : ∀ j : Nat, lbX N V M j → j ∈ L) (hen : en < N) (hwk : Zb (V + 1) wk) (hev : EV N V ec ef et ek ez ev eg) (c_o : g 0 = .inr (5, [.int (nI V), .ref (ad 1), .ref (ad 4), .int (nI ec), .int (nI en), .ref (ad 5), .ref (ad 6), .int (nI al), .int (if an = true then 1 else 0), .int (nI pl), .ref (ad 2), .ref (ad 7), .int (nI nc), .ref (ad 180), .ref (ad 3)])) (c_w : g 3 = nA G (V + 1) (vN wk)) (c_E : g 4 = rA (G.2 2) 20 (fun i => if i < 20 then some (ad (300 + 2 * i)) else none)) (c_H : g 5 = rA (G.2 3) N (fun i => if i < N then some (ad (200 + 2 * i)) else none)) (c_A : g 6 = rA (G.2 5) M (fun i => if i < M then some (ad (500 + 2 * i)) else none)) (xf : XF G ad g N V M 0) (xe : XE G ad g V ef et ek ez eg) : MI l yX5_analyse wsX5_analyse rm_X5_analyse G L ad g [.ref (ad 0)] (fun r u => r = nI (anaF (V + 1) M en ec ef et ek ev eg).1 ∧ (∀ j : Nat, (j ≠ 0 ∧ j ≠ 3 ∧ ¬ lbA j) → u j = g j) ∧ u 0 = .inr (5, [.int (nI V), .ref (ad 1), .ref (ad 4), .int (nI ec), .int (nI en), .ref (ad 5), .ref (ad 6), .int (nI ((anaF (V + 1) M en ec ef et ek ev eg).1)), .int (if true = true then 1 else 0), .int (nI pl), .ref (ad 2), .ref (ad 7), .int (nI nc), .ref (ad 180), .ref (ad 3)]) ∧ (∃ wk2 : Nat → FF, Zb (V + 1) wk2 ∧ u 3 = nA G (V + 1) (vN wk2)) ∧ XA G ad u N V M (anaF (V + 1) M en ec ef et ek ev eg)) := by
  refine cx_ofI (cc := cX5_analyse) (maxL := 2) (by decide +kernel) rfl (Nat.le_of_ble_eq_true rfl) ?_
  intro p e s m args below meth c Q hx hb hts hown hml hP hK hS hz hret ls hl
  have hown : s.vm.findClass RX5 = some m.cls := hown
  have hl : lv_has ls 2 [(0, .ref (ad 0))] := hl
  have fr : ∀ j : Nat, (j ≠ 0 ∧ j ≠ 3 ∧ ¬ lbA j) → g j = g j := fun _ _ => rfl
  refine lv_aload_n hx hb dX5_analyse_0 rfl (lv_at hl 0 rfl) ?_
  refine cx_Vv (As := []) (rest := []) ⟨hx, hb, hml, hown, hts⟩ (c_X5_forgetPoints hD hN hV1 hV hM hM2 hm c_o c_H xf) (cwV 0 hts gX5_analyse_X5_forgetPoints rfl rfl rfl (by decide +kernel) ⟨Nat.le_of_ble_eq_true rfl, Nat.le_of_ble_eq_true rfl⟩) hK hP hS hz (hm _ (by unfold lbX; omega)) c_o rfl ⟨Nat.zero_le _, Nat.zero_le _⟩ rfl hl.1 rfl (Nat.le_of_ble_eq_true rfl) dX5_analyse_1 (fun g1 H locs hp1 hP hS => ?_)
  obtain ⟨hp1a, hp1o, hp1x⟩ := hp1
  have c_w : g1 3 = nA G (V + 1) (vN wk) := (hp1a 3 (by unfold lbA; omega)).trans c_w
  have c_E : g1 4 = rA (G.2 2) 20 (fun i => if i < 20 then some (ad (300 + 2 * i)) else none) := (hp1a 4 (by unfold lbA; omega)).trans c_E
  have c_H : g1 5 = rA (G.2 3) N (fun i => if i < N then some (ad (200 + 2 * i)) else none) := (hp1a 5 (by unfold lbA; omega)).trans c_H
  have c_A : g1 6 = rA (G.2 5) M (fun i => if i < M then some (ad (500 + 2 * i)) else none) := (hp1a 6 (by unfold lbA; omega)).trans c_A
  have xe : XE G ad g1 V ef et ek ez eg := xe.kept (fun j h1 h2 => hp1a j (by first | omega | (unfold lbA; omega)))
  have fr : ∀ j : Nat, (j ≠ 0 ∧ j ≠ 3 ∧ ¬ lbA j) → g1 j = g j := fun j hj => (hp1a j (by exact ⟨hj.1, hj.2.2⟩)).trans (fr j hj)
  have c_o := hp1o
  have xa := hp1x
  refine lv_aload_n hx hb dX5_analyse_4 rfl (lv_at hl 0 rfl) ?_
  refine cx_Vv (As := []) (rest := []) ⟨hx, hb, hml, hown, hts⟩ (c_X5_addFirstPoints hD (wk := wk) hN hV1 hV hM hM2 hm hen hwk c_o c_w c_H c_A xa) (cwV 0 hts gX5_analyse_X5_addFirstPoints rfl rfl rfl (by decide +kernel) ⟨Nat.le_of_ble_eq_true rfl, Nat.le_of_ble_eq_true rfl⟩) hK hP hS hz (hm _ (by unfold lbX; omega)) c_o rfl ⟨Nat.zero_le _, Nat.zero_le _⟩ rfl hl.1 rfl (Nat.le_of_ble_eq_true rfl) dX5_analyse_5 (fun g2 H locs hp2 hP hS => ?_)
  obtain ⟨hp2b, hp2o, ⟨wk1, hz1, hp2w⟩, hp2x⟩ := hp2
  have c_E : g2 4 = rA (G.2 2) 20 (fun i => if i < 20 then some (ad (300 + 2 * i)) else none) := (hp2b 4 (by unfold lbA; omega)).trans c_E
  have c_H : g2 5 = rA (G.2 3) N (fun i => if i < N then some (ad (200 + 2 * i)) else none) := (hp2b 5 (by unfold lbA; omega)).trans c_H
  have c_A : g2 6 = rA (G.2 5) M (fun i => if i < M then some (ad (500 + 2 * i)) else none) := (hp2b 6 (by unfold lbA; omega)).trans c_A
  have xe : XE G ad g2 V ef et ek ez eg := xe.kept (fun j h1 h2 => hp2b j (by first | omega | (unfold lbA; omega)))
  have fr : ∀ j : Nat, (j ≠ 0 ∧ j ≠ 3 ∧ ¬ lbA j) → g2 j = g j := fun j hj => (hp2b j (by exact hj)).trans (fr j hj)
  have c_o := hp2o
  have c_w := hp2w
  have xa := hp2x
  refine lv_iconst (v := nI 0) hx hb dX5_analyse_8 (by decide) ?_
  refine lv_istore_n (lv' := [(1, .int (nI 0)), (0, .ref (ad 0))]) hx hb dX5_analyse_9 rfl hl (by decide) rfl (fun ls hl => ?_)
  have LP10 : ∀ (fu : Nat) (i : Nat) (Q2 : PS) (wk2 : Nat → FF), (i ≤ M) → (runF (V + 1) ec ef et ek ev eg (M - i) i Q2 = anaF (V + 1) M en ec ef et ek ev eg) → (Zb (V + 1) wk2) → (M - i) < fu → ∀ (ga3 : Nat → va_E) (H : Heap) (locs : List Loc) (ls : Array Slot), (ga3 0 = .inr (5, [.int (nI V), .ref (ad 1), .ref (ad 4), .int (nI ec), .int (nI en), .ref (ad 5), .ref (ad 6), .int (nI Q2.1), .int (if an = true then 1 else 0), .int (nI pl), .ref (ad 2), .ref (ad 7), .int (nI nc), .ref (ad 180), .ref (ad 3)])) → (ga3 3 = nA G (V + 1) (vN wk2)) → (ga3 4 = rA (G.2 2) 20 (fun i => if i < 20 then some (ad (300 + 2 * i)) else none)) → (ga3 5 = rA (G.2 3) N (fun i => if i < N then some (ad (200 + 2 * i)) else none)) → (ga3 6 = rA (G.2 5) M (fun i => if i < M then some (ad (500 + 2 * i)) else none)) → (XE G ad ga3 V ef et ek ez eg) → (XA G ad ga3 N V M Q2) → (∀ j : Nat, (j ≠ 0 ∧ j ≠ 3 ∧ ¬ lbA j) → ga3 j = g j) → va_P G.1 vwCl (wl L ad ga3) H → va_S (cx_A L ad s.heap.size) s.heap H locs → lv_has ls 2 [(1, .int (nI i)), (0, .ref (ad 0))] → W p l e rm_X5_analyse s m args below meth c H locs 0 0 Q (F0 m 10 ls []) := by
    intro fu
    induction fu with
    | zero => intro i Q2 wk2 hin hQ zw hfu; exact absurd hfu (Nat.not_lt_zero _)
    | succ fu ih10 =>
      intro i Q2 wk2 hin hQ zw hfu10 ga3 H locs ls c_o c_w c_E c_H c_A xe xa fr hP hS hl
      refine lv_iload_n hx hb dX5_analyse_10 rfl (lv_at hl 0 rfl) ?_
      refine lv_aload_n hx hb dX5_analyse_11 rfl (lv_at hl 1 rfl) ?_
      refine ax_get (k := 0) (v := .ref (ad 6)) hx hb hts in_X5_analyse_X5 hown hK hP (hm _ (by unfold lbX; omega)) c_o rfl 6 (by decide) (hts _ wd_X5_analyse_0) (fun _ h9 => h9) rfl dX5_analyse_12 ?_
      refine ax_alen (k := 6) (n := M) hx hb hK hP (hm _ (by unfold lbX; omega)) 5 rfl c_A rfl dX5_analyse_15 ?_
      refine ax_icge (a := i) (b := M) (tgt := 43) hx hb dX5_analyse_16 (by decide) (by omega) (by omega) (fun h16 => ?_) (fun h16 => ?_)
      · skip
        have hQM2 := xa.le
        refine lv_aload_n hx hb dX5_analyse_43 rfl (lv_at hl 1 rfl) ?_
        refine lv_iconst (v := nI 1) hx hb dX5_analyse_44 (by decide) ?_
        refine ax_put (k := 0) (v := .int (nI 1)) (fs' := [.int (nI V), .ref (ad 1), .ref (ad 4), .int (nI ec), .int (nI en), .ref (ad 5), .ref (ad 6), .int (nI Q2.1), .int (nI 1), .int (nI pl), .ref (ad 2), .ref (ad 7), .int (nI nc), .ref (ad 180), .ref (ad 3)]) hx hb hts in_X5_analyse_X5 tyX5 tyX5_ok nmX5 hown hK hP hD hS (hm _ (by unfold lbX; omega)) c_o rfl 8 (by decide) (hts _ wd_X5_analyse_2) (fun _ h9 => h9) rfl (ty := .boolean) (by decide +kernel) (by decide) (by decide) (Nat.le_of_ble_eq_true rfl) rfl dX5_analyse_45 (fun H locs g4 eg4 hP hS => ?_)
        have c_w : g4 3 = nA G (V + 1) (vN wk2) := (cx_ne eg4 3 (by omega)).trans c_w
        have c_E : g4 4 = rA (G.2 2) 20 (fun i => if i < 20 then some (ad (300 + 2 * i)) else none) := (cx_ne eg4 4 (by omega)).trans c_E
        have c_H : g4 5 = rA (G.2 3) N (fun i => if i < N then some (ad (200 + 2 * i)) else none) := (cx_ne eg4 5 (by omega)).trans c_H
        have c_A : g4 6 = rA (G.2 5) M (fun i => if i < M then some (ad (500 + 2 * i)) else none) := (cx_ne eg4 6 (by omega)).trans c_A
        have xe : XE G ad g4 V ef et ek ez eg := xe.kept (fun j h1 h2 => cx_ne eg4 j (by first | omega | (unfold lbA; omega)))
        have xa : XA G ad g4 N V M Q2 := xa.kept hN hV (fun j hj => cx_ne eg4 j (by unfold lbA at hj; omega))
        have c_o : g4 0 = .inr (5, [.int (nI V), .ref (ad 1), .ref (ad 4), .int (nI ec), .int (nI en), .ref (ad 5), .ref (ad 6), .int (nI Q2.1), .int (nI 1), .int (nI pl), .ref (ad 2), .ref (ad 7), .int (nI nc), .ref (ad 180), .ref (ad 3)]) := cx_eq eg4
        have fr : ∀ j : Nat, (j ≠ 0 ∧ j ≠ 3 ∧ ¬ lbA j) → g4 j = g j := fun j hj => (cx_ne eg4 j (by omega)).trans (fr j hj)
        refine lv_aload_n hx hb dX5_analyse_48 rfl (lv_at hl 1 rfl) ?_
        refine ax_get (k := 0) (v := .int (nI Q2.1)) hx hb hts in_X5_analyse_X5 hown hK hP (hm _ (by unfold lbX; omega)) c_o rfl 7 (by decide) (hts _ wd_X5_analyse_3) (fun _ h9 => h9) rfl dX5_analyse_49 ?_
        exact hret (nI Q2.1) g4 _ _ _ _ rfl (by have eQ := (run_end (Or.inl (by omega))).symm.trans hQ; subst eQ; exact ⟨rfl, fr, c_o, ⟨wk2, zw, c_w⟩, xa⟩) hP hS dX5_analyse_52
      · skip
        have hQM := xa.le
        refine lv_iload_n hx hb dX5_analyse_19 rfl (lv_at hl 0 rfl) ?_
        refine lv_aload_n hx hb dX5_analyse_20 rfl (lv_at hl 1 rfl) ?_
        refine ax_get (k := 0) (v := .int (nI Q2.1)) hx hb hts in_X5_analyse_X5 hown hK hP (hm _ (by unfold lbX; omega)) c_o rfl 7 (by decide) (hts _ wd_X5_analyse_3) (fun _ h9 => h9) rfl dX5_analyse_21 ?_
        refine ax_icge (a := i) (b := Q2.1) (tgt := 43) hx hb dX5_analyse_24 (by decide) (by omega) (by omega) (fun h24 => ?_) (fun h24 => ?_)
        · skip
          have hQM2 := xa.le
          refine lv_aload_n hx hb dX5_analyse_43 rfl (lv_at hl 1 rfl) ?_
          refine lv_iconst (v := nI 1) hx hb dX5_analyse_44 (by decide) ?_
          refine ax_put (k := 0) (v := .int (nI 1)) (fs' := [.int (nI V), .ref (ad 1), .ref (ad 4), .int (nI ec), .int (nI en), .ref (ad 5), .ref (ad 6), .int (nI Q2.1), .int (nI 1), .int (nI pl), .ref (ad 2), .ref (ad 7), .int (nI nc), .ref (ad 180), .ref (ad 3)]) hx hb hts in_X5_analyse_X5 tyX5 tyX5_ok nmX5 hown hK hP hD hS (hm _ (by unfold lbX; omega)) c_o rfl 8 (by decide) (hts _ wd_X5_analyse_2) (fun _ h9 => h9) rfl (ty := .boolean) (by decide +kernel) (by decide) (by decide) (Nat.le_of_ble_eq_true rfl) rfl dX5_analyse_45 (fun H locs g5 eg5 hP hS => ?_)
          have c_w : g5 3 = nA G (V + 1) (vN wk2) := (cx_ne eg5 3 (by omega)).trans c_w
          have c_E : g5 4 = rA (G.2 2) 20 (fun i => if i < 20 then some (ad (300 + 2 * i)) else none) := (cx_ne eg5 4 (by omega)).trans c_E
          have c_H : g5 5 = rA (G.2 3) N (fun i => if i < N then some (ad (200 + 2 * i)) else none) := (cx_ne eg5 5 (by omega)).trans c_H
          have c_A : g5 6 = rA (G.2 5) M (fun i => if i < M then some (ad (500 + 2 * i)) else none) := (cx_ne eg5 6 (by omega)).trans c_A
          have xe : XE G ad g5 V ef et ek ez eg := xe.kept (fun j h1 h2 => cx_ne eg5 j (by first | omega | (unfold lbA; omega)))
          have xa : XA G ad g5 N V M Q2 := xa.kept hN hV (fun j hj => cx_ne eg5 j (by unfold lbA at hj; omega))
          have c_o : g5 0 = .inr (5, [.int (nI V), .ref (ad 1), .ref (ad 4), .int (nI ec), .int (nI en), .ref (ad 5), .ref (ad 6), .int (nI Q2.1), .int (nI 1), .int (nI pl), .ref (ad 2), .ref (ad 7), .int (nI nc), .ref (ad 180), .ref (ad 3)]) := cx_eq eg5
          have fr : ∀ j : Nat, (j ≠ 0 ∧ j ≠ 3 ∧ ¬ lbA j) → g5 j = g j := fun j hj => (cx_ne eg5 j (by omega)).trans (fr j hj)
          refine lv_aload_n hx hb dX5_analyse_48 rfl (lv_at hl 1 rfl) ?_
          refine ax_get (k := 0) (v := .int (nI Q2.1)) hx hb hts in_X5_analyse_X5 hown hK hP (hm _ (by unfold lbX; omega)) c_o rfl 7 (by decide) (hts _ wd_X5_analyse_3) (fun _ h9 => h9) rfl dX5_analyse_49 ?_
          exact hret (nI Q2.1) g5 _ _ _ _ rfl (by have eQ := (run_end (Or.inr h24)).symm.trans hQ; subst eQ; exact ⟨rfl, fr, c_o, ⟨wk2, zw, c_w⟩, xa⟩) hP hS dX5_analyse_52
        · skip
          refine lv_aload_n hx hb dX5_analyse_27 rfl (lv_at hl 1 rfl) ?_
          refine lv_aload_n hx hb dX5_analyse_28 rfl (lv_at hl 1 rfl) ?_
          refine ax_get (k := 0) (v := .ref (ad 6)) hx hb hts in_X5_analyse_X5 hown hK hP (hm _ (by unfold lbX; omega)) c_o rfl 6 (by decide) (hts _ wd_X5_analyse_0) (fun _ h9 => h9) rfl dX5_analyse_29 ?_
          refine lv_iload_n hx hb dX5_analyse_32 rfl (lv_at hl 0 rfl) ?_
          refine ax_aald (k := 6) (i := i) (b := ad (500 + 2 * i)) hx hb hK hP (hm _ (by unfold lbX; omega)) 5 rfl rfl c_A (by omega) (by omega) (if_pos (by omega)) dX5_analyse_33 ?_
          obtain ⟨hkM, hnd, hix, hv0, ⟨ok, c_p⟩, c_pr⟩ := xa.pt h24
          refine cx_Vv (As := [.ref (ad (500 + 2 * i))]) (rest := []) ⟨hx, hb, hml, hown, hts⟩ (c_X5_workOff hD (k := i) (P := Q2) (wk := wk2) hN hV1 hV hM hM2 hm h24 zw hev c_o c_w c_E c_H c_A xa xe) (cwV 1 hts gX5_analyse_X5_workOff rfl rfl rfl (by decide +kernel) ⟨Nat.le_of_ble_eq_true rfl, Nat.le_of_ble_eq_true rfl⟩) hK hP hS hz (hm _ (by unfold lbX; omega)) c_o rfl ⟨Nat.zero_le _, Nat.zero_le _⟩ rfl hl.1 rfl (Nat.le_of_ble_eq_true rfl) dX5_analyse_34 (fun g6 H locs hp6 hP hS => ?_)
          obtain ⟨hp6b, hp6o, ⟨wk3, hz3, hp6w⟩, hp6x⟩ := hp6
          have c_E : g6 4 = rA (G.2 2) 20 (fun i => if i < 20 then some (ad (300 + 2 * i)) else none) := (hp6b 4 (by unfold lbA; omega)).trans c_E
          have c_H : g6 5 = rA (G.2 3) N (fun i => if i < N then some (ad (200 + 2 * i)) else none) := (hp6b 5 (by unfold lbA; omega)).trans c_H
          have c_A : g6 6 = rA (G.2 5) M (fun i => if i < M then some (ad (500 + 2 * i)) else none) := (hp6b 6 (by unfold lbA; omega)).trans c_A
          have xe : XE G ad g6 V ef et ek ez eg := xe.kept (fun j h1 h2 => hp6b j (by first | omega | (unfold lbA; omega)))
          have fr : ∀ j : Nat, (j ≠ 0 ∧ j ≠ 3 ∧ ¬ lbA j) → g6 j = g j := fun j hj => (hp6b j (by exact hj)).trans (fr j hj)
          have c_o := hp6o
          have c_w := hp6w
          have xa := hp6x
          refine lv_iinc (v := nI (i + 1)) (lv' := [(1, .int (nI (i + 1))), (0, .ref (ad 0))]) hx hb dX5_analyse_37 hl (k := 0) rfl (nI_1 _) (by decide) rfl (fun ls hl => ?_)
          refine lv_goto (tgt := 10) hx hb dX5_analyse_40 (by decide) ?_
          exact ih10 (i + 1) (workF (V + 1) ef et ek ev eg i ec Q2) wk3 h16 ((run_go h16 h24).symm.trans hQ) hz3 (by omega) g6 _ _ _ c_o c_w c_E c_H c_A xe xa fr hP hS (lv_sub hl [0, 1] rfl)
  exact LP10 ((M - 0) + 1) 0 (firstF (V + 1) en (V + 1)) wk1 (Nat.zero_le _) rfl hz1 (Nat.lt_succ_self _) g2 _ _ _ c_o c_w c_E c_H c_A xe xa fr hP hS (lv_sub hl [0, 1] rfl)
