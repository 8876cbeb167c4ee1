/-! THE LAW: the cases -/
set_option maxHeartbeats 4000000 in
set_option maxRecDepth 100000 in
theorem k_holds {p : Program} {l : Launch} {e : Env} {s : State} {m : MethodId} {below : List Frame} {meth : Method} {c : Code} {H : Heap} {locs : List Loc} {cells slots : Nat} {Q : State → Prop} {ls : Array Slot} {G : cx_G} {L : List Nat} {ad : Nat → Nat} {g : Nat → va_E} {b Ln N V M q th : Nat} {xs : Nat → Int32} {T : TA} {o : Nat → Int64} (K : LK p l s m c G L ad b Ln xs N V M) (hJ : JJ G ad g N V M th T o) (hP : va_P G.1 vwCl (wl L ad g) H) (hS : va_S (cx_A L ad s.heap.size) s.heap H locs) (hl : lv_has ls 7 (lwl b ad q)) (hq5 : q + 4 < Ln) (hc : cells + 4 ≤ 634768 ∧ slots + 24 ≤ 7191766) (hz : LZ p l e s m below meth c Q G L ad b N V M q cells slots) : W p l e room_1 s m #[Value.ref b] below meth c H locs cells slots Q (F0 m 597 ls []) := by
  have hN1 := K.N1
  have hN8 := K.N8
  have hV1 := K.V1
  have hV4 := K.V4
  have h00 : 0 ∈ L := K.hm 0 (Or.inl (by decide))
  obtain ⟨wk, hw1, hw2⟩ := hJ.x5.qw
  refine lv_aload_n K.hx K.hb dL_law_597 rfl (lv_at hl 2 rfl) ?_
  refine lw_arg (a := 0) (k := 1) K hS hl rfl rfl (by omega) (by decide) dL_law_598 dL_law_599 dL_law_601 dL_law_602 dL_law_603 ?_
  refine lv_aload_n K.hx K.hb dL_law_604 rfl (lv_at hl 4 rfl) ?_
  refine cx_WSi (As := [.ref (ad 0), .int (xs (q + 1)), .ref (ad 1100)]) (rest := []) (mc := 4) (ms := 24) ⟨K.hx, K.hb, K.hml, K.hown, K.hts⟩ (c_L_holds K.hD (c_X5_holds K.st9 K.hD K.N8 K.V1 K.V4 K.hM K.M40 K.hm hJ.x5.qo hJ.x5.qd hJ.x5.qH hJ.x5.qA hJ.jp.zd hJ.x5.xa) (fun E h => h.imp (fun h => h.1) (fun h => h.1)) h00 hJ.x5.qo K.h11 hJ.cj (by rintro r u ⟨-, -, -, -, -, fr, -⟩; exact fr 1100 (by omega))) (vx_cwSW 3 K.hts gL_law_L_holds rfl rfl rfl (by decide +kernel) ⟨Nat.le_of_ble_eq_true rfl, Nat.le_of_ble_eq_true rfl⟩) K.hK K.hX hP hS (Nat.le_refl _) hc rfl hl.1 rfl (Nat.le_of_ble_eq_true rfl) dL_law_605 (fun k g1 H locs hp hP hS => ?_)
  refine lv_istore (lv' := (5, .int k) :: lwl b ad q) K.hx K.hb dL_law_608 hl (by decide) rfl (fun ls hl => ?_)
  have hf1 : ∀ j : Nat, 1000 ≤ j → j < 1100 → g1 j = g j := by
    intro j hj1 hj2
    rcases hp with ⟨-, r0, u0, z0, ⟨-, -, -, -, -, fr, -⟩, -, -, hu⟩ | ⟨-, -, hu⟩ | ⟨-, -, hu⟩
    · exact (hu j (by omega)).trans (fr j (by omega))
    · rw [hu]
    · rw [hu]
  have h6 : J6 G ad g1 N V th T := hJ.x6.kept hf1
  obtain ⟨sz, co⟩ := h6.qo
  obtain ⟨fm, hF1, hF2⟩ := h6.qF
  obtain ⟨mn, pq, cm, nd, nx, tb, pz, hQ1, hQ2, hQ3, hQ4, hQ5, hQ6, hQ7, hqp, hpv⟩ := h6.xq
  obtain ⟨rz, eq, hW1, hW2, hW3⟩ := h6.qW
  obtain ⟨nf, hNF1, hNF2⟩ := h6.qNF
  obtain ⟨rr, hR1, hR2⟩ := h6.qR
  refine lv_aload_n K.hx K.hb dL_law_610 rfl (lv_at hl 4 rfl) ?_
  refine lw_arg (a := 1) (k := 1) K hS hl rfl rfl (by omega) (by decide) dL_law_611 dL_law_612 dL_law_614 dL_law_615 dL_law_616 ?_
  refine cx_Vi (As := [.int (xs (q + 1))]) (rest := []) ⟨K.hx, K.hb, K.hml, K.hown, K.hts⟩ (c_X6_holds K.hD K.N1 K.N8 K.V1 K.V4 K.hq co h6.qd hQ1 hQ2 hJ.jp.zd hqp hpv) (cwV 1 K.hts gL_law_X6_holds rfl rfl rfl (by decide +kernel) ⟨Nat.le_of_ble_eq_true rfl, Nat.le_of_ble_eq_true rfl⟩) K.hK hP hS (Nat.le_refl _) (K.hq _ (by decide)) co rfl hc rfl hl.1 rfl (Nat.le_of_ble_eq_true rfl) dL_law_617 (fun r6 g2 H locs hp2 hP hS => ?_)
  refine lv_istore (lv' := (6, .int r6) :: (5, .int k) :: lwl b ad q) K.hx K.hb dL_law_620 hl (by decide) rfl (fun ls hl => ?_)
  have hE : JEb G ad g2 N V M k r6 := by
    obtain ⟨fr6, rc, hask, co2, cd2, hval⟩ := hp2
    rcases hp with ⟨hk, r0, u0, z0, ⟨k1, h1, e1, ha, er5, fr, c5d⟩, hz0, hcj, hu⟩ | ⟨hk, hexA, hu⟩ | ⟨hk, hexS, hu⟩
    · rcases hask with ⟨hrc, hn2⟩ | ⟨hrc, hi2, ha2⟩ | ⟨hrc, hi2, ha2⟩
      · exact absurd ⟨k1, Nat.zero_le _, h1, e1⟩ hn2
      · rw [ha] at ha2; cases ha2
      · obtain ⟨k1b, h1b, e1b, er6⟩ := hval hrc
        have ekk : k1b = k1 := (nI_eq (by omega) (by omega)).mp (e1b.symm.trans e1)
        rw [hrc] at co2
        rw [ekk] at er6
        rw [hrc, if_pos rfl] at cd2
        exact ⟨(T.an, T.ec, T.en, T.al, T.pl, T.nc, (fun _ => 0), T.va, T.ef, T.et, T.ek, T.ev, T.ez, T.eg, T.nn, T.ng, T.P), 0, vp_updL o 0 z0, hk, ⟨J5.kept (g := u0) (T := (T.an, T.ec, T.en, T.al, T.pl, T.nc, (fun _ => 0), T.va, T.ef, T.et, T.ek, T.ev, T.ez, T.eg, T.nn, T.ng, T.P)) (⟨(fr 0 (by omega)).trans hJ.x5.qo, c5d, (fr 2 (by omega)).trans hJ.x5.qv, ⟨wk, hw1, (fr 3 (by omega)).trans hw2⟩, (fr 4 (by omega)).trans hJ.x5.qE, (fr 5 (by omega)).trans hJ.x5.qH, (fr 6 (by omega)).trans hJ.x5.qA, (fr 7 (by omega)).trans hJ.x5.qN, hJ.x5.xe.kept (fun j _ _ => fr j (by omega)), hJ.x5.xn.kept (fun j _ _ => fr j (by omega)), hJ.x5.xa.kepX K.V4 K.N8 (fun j hj hj2 => fr j (by have h9 := lbX_lt K.N8 K.V4 K.M40 hj; omega)), (by obtain ⟨t2, kp2, rs2, h9⟩ := hJ.x5.sx; exact ⟨t2, kp2, rs2, h9.kept (fun j _ _ => fr j (by omega))⟩)⟩) K.V4 K.N8 (fun j hj => (fr6 j (by have h9 := lbX_lt K.N8 K.V4 K.M40 hj; omega)).trans (hu j (by have h9 := lbX_lt K.N8 K.V4 K.M40 hj; omega))), ⟨⟨_, co2⟩, cd2, (fr6 1005 (by omega)).trans h6.qFO, (fr6 1006 (by omega)).trans h6.qTO, (fr6 1007 (by omega)).trans h6.qK, (fr6 1008 (by omega)).trans h6.qZ, ⟨fm, (fr6 1009 (by omega)).trans hF1, hF2⟩, h6.xq.kept (fun j hj => fr6 j (by unfold lbQ at hj; omega)), ⟨rz, eq, (fr6 1018 (by omega)).trans hW1, (fr6 1019 (by omega)).trans hW2, hW3⟩, (fr6 1021 (by omega)).trans h6.qv, (fr6 1023 (by omega)).trans h6.qNN, ⟨nf, (fr6 1024 (by omega)).trans hNF1, hNF2⟩, ⟨rr, hR1, (fr6 1028 (by omega)).trans hR2⟩⟩, ⟨hJ.jp.en, hJ.jp.pl, hJ.jp.nc, hJ.jp.ev, Zb.zero _, hJ.jp.zv, hJ.jp.nn, hJ.jp.zn⟩, (fr6 1100 (by omega)).trans hcj⟩, fun _ => by rw [show vp_updL o 0 z0 0 = z0 from if_pos rfl]; rw [er6, ← er5]; exact hz0⟩
    · have hne := hexA.elim (fun h => h.2) (fun h => absurd h.1 nIAIS)
      have hJq : JJ G ad g1 N V M th T o := by rw [hu]; exact hJ
      rcases hask with ⟨hrc, hn2⟩ | ⟨hrc, hi2, ha2⟩ | ⟨hrc, hi2, ha2⟩
      · rw [hrc] at co2
        rw [hrc, if_neg (by decide)] at cd2
        exact ⟨T, 1, o, hk, ⟨hJq.x5.kept K.V4 K.N8 (fun j hj => fr6 j (by have h9 := lbX_lt K.N8 K.V4 K.M40 hj; omega)), ⟨⟨_, co2⟩, cd2, (fr6 1005 (by omega)).trans h6.qFO, (fr6 1006 (by omega)).trans h6.qTO, (fr6 1007 (by omega)).trans h6.qK, (fr6 1008 (by omega)).trans h6.qZ, ⟨fm, (fr6 1009 (by omega)).trans hF1, hF2⟩, h6.xq.kept (fun j hj => fr6 j (by unfold lbQ at hj; omega)), ⟨rz, eq, (fr6 1018 (by omega)).trans hW1, (fr6 1019 (by omega)).trans hW2, hW3⟩, (fr6 1021 (by omega)).trans h6.qv, (fr6 1023 (by omega)).trans h6.qNN, ⟨nf, (fr6 1024 (by omega)).trans hNF1, hNF2⟩, ⟨rr, hR1, (fr6 1028 (by omega)).trans hR2⟩⟩, hJ.jp, (fr6 1100 (by omega)).trans hJq.cj⟩, fun h => absurd (hk.symm.trans h) (by decide)⟩
      · exact absurd hi2 hne
      · exact absurd hi2 hne
    · obtain ⟨hpre, hna⟩ := hexS.elim (fun h => absurd h.1.symm nIAIS) (fun h => h.2)
      have hJq : JJ G ad g1 N V M th T o := by rw [hu]; exact hJ
      rcases hask with ⟨hrc, hn2⟩ | ⟨hrc, hi2, ha2⟩ | ⟨hrc, hi2, ha2⟩
      · exact absurd hpre hn2
      · rw [hrc] at co2
        rw [hrc, if_neg (by decide)] at cd2
        exact ⟨T, 2, o, hk, ⟨hJq.x5.kept K.V4 K.N8 (fun j hj => fr6 j (by have h9 := lbX_lt K.N8 K.V4 K.M40 hj; omega)), ⟨⟨_, co2⟩, cd2, (fr6 1005 (by omega)).trans h6.qFO, (fr6 1006 (by omega)).trans h6.qTO, (fr6 1007 (by omega)).trans h6.qK, (fr6 1008 (by omega)).trans h6.qZ, ⟨fm, (fr6 1009 (by omega)).trans hF1, hF2⟩, h6.xq.kept (fun j hj => fr6 j (by unfold lbQ at hj; omega)), ⟨rz, eq, (fr6 1018 (by omega)).trans hW1, (fr6 1019 (by omega)).trans hW2, hW3⟩, (fr6 1021 (by omega)).trans h6.qv, (fr6 1023 (by omega)).trans h6.qNN, ⟨nf, (fr6 1024 (by omega)).trans hNF1, hNF2⟩, ⟨rr, hR1, (fr6 1028 (by omega)).trans hR2⟩⟩, hJ.jp, (fr6 1100 (by omega)).trans hJq.cj⟩, fun h => absurd (hk.symm.trans h) (by decide)⟩
      · exact absurd ha2 hna
  exact lw_endb K hE hP hS hl hz ⟨Nat.le_refl _, Nat.le_refl _⟩ hc dL_law_622 dL_law_623 dL_law_626 dL_law_628 dL_law_633 dL_law_635 dL_law_638 dL_law_639 dL_law_640 dL_law_641 dL_law_643 dL_law_646 dL_law_647 dL_law_650 dL_law_651 dL_law_652 dL_law_657 (by omega)

set_option maxHeartbeats 4000000 in
set_option maxRecDepth 100000 in
theorem k_go {p : Program} {l : Launch} {e : Env} {s : State} {m : MethodId} {below : List Frame} {meth : Method} {c : Code} {H : Heap} {locs : List Loc} {cells slots : Nat} {Q : State → Prop} {ls : Array Slot} {G : cx_G} {L : List Nat} {ad : Nat → Nat} {g : Nat → va_E} {b Ln N V M q th : Nat} {xs : Nat → Int32} {T : TA} {o : Nat → Int64} (K : LK p l s m c G L ad b Ln xs N V M) (hJ : JJ G ad g N V M th T o) (hP : va_P G.1 vwCl (wl L ad g) H) (hS : va_S (cx_A L ad s.heap.size) s.heap H locs) (hl : lv_has ls 7 (lwl b ad q)) (hq5 : q + 4 < Ln) (hc : cells + 4 ≤ 634768 ∧ slots + 24 ≤ 7191766) (hz : LZ p l e s m below meth c Q G L ad b N V M q cells slots) : W p l e room_1 s m #[Value.ref b] below meth c H locs cells slots Q (F0 m 708 ls []) := by
  have hN1 := K.N1
  have hN8 := K.N8
  have hV1 := K.V1
  have hV4 := K.V4
  have h00 : 0 ∈ L := K.hm 0 (Or.inl (by decide))
  obtain ⟨wk, hw1, hw2⟩ := hJ.x5.qw
  refine lv_aload_n K.hx K.hb dL_law_708 rfl (lv_at hl 2 rfl) ?_
  refine lw_arg (a := 0) (k := 1) K hS hl rfl rfl (by omega) (by decide) dL_law_709 dL_law_710 dL_law_712 dL_law_713 dL_law_714 ?_
  refine lw_arg (a := 0) (k := 2) K hS hl rfl rfl (by omega) (by decide) dL_law_715 dL_law_716 dL_law_718 dL_law_719 dL_law_720 ?_
  refine lv_aload_n K.hx K.hb dL_law_721 rfl (lv_at hl 4 rfl) ?_
  refine cx_WSi (As := [.ref (ad 0), .int (xs (q + 1)), .int (xs (q + 2)), .ref (ad 1100)]) (rest := []) (mc := 4) (ms := 24) ⟨K.hx, K.hb, K.hml, K.hown, K.hts⟩ (c_L_go K.hD (c_X5_go K.st9 K.hD K.N8 K.V1 K.V4 K.hM K.M40 K.hm hJ.x5.qo hJ.x5.qv hJ.x5.qE hJ.jp.pl hJ.jp.ev hJ.x5.xe) (fun E h => h.1) h00 hJ.x5.qo K.h11 hJ.cj (by rintro r u ⟨k1, h1, e1, hef, hor⟩; exact hor.elim (fun h => by rw [h.2.2]) (fun h => h.2.2.1 1100 (by omega)))) (vx_cwSW 4 K.hts gL_law_L_go rfl rfl rfl (by decide +kernel) ⟨Nat.le_of_ble_eq_true rfl, Nat.le_of_ble_eq_true rfl⟩) K.hK K.hX hP hS (Nat.le_refl _) hc rfl hl.1 rfl (Nat.le_of_ble_eq_true rfl) dL_law_722 (fun k g1 H locs hp hP hS => ?_)
  refine lv_istore (lv' := (5, .int k) :: lwl b ad q) K.hx K.hb dL_law_725 hl (by decide) rfl (fun ls hl => ?_)
  have hf1 : ∀ j : Nat, 1000 ≤ j → j < 1100 → g1 j = g j := by
    intro j hj1 hj2
    rcases hp with ⟨-, r0, u0, z0, ⟨k1, h1, e1, hef, hor⟩, -, -, hu⟩ | ⟨-, -, hu⟩
    · exact (hu j (by omega)).trans (hor.elim (fun h => by rw [h.2.2]) (fun h => h.2.2.1 j (by omega)))
    · rw [hu]
  have h6 : J6 G ad g1 N V th T := hJ.x6.kept hf1
  obtain ⟨sz, co⟩ := h6.qo
  obtain ⟨fm, hF1, hF2⟩ := h6.qF
  obtain ⟨mn, pq, cm, nd, nx, tb, pz, hQ1, hQ2, hQ3, hQ4, hQ5, hQ6, hQ7, hqp, hpv⟩ := h6.xq
  obtain ⟨rz, eq, hW1, hW2, hW3⟩ := h6.qW
  obtain ⟨nf, hNF1, hNF2⟩ := h6.qNF
  obtain ⟨rr, hR1, hR2⟩ := h6.qR
  refine lv_aload_n K.hx K.hb dL_law_727 rfl (lv_at hl 4 rfl) ?_
  refine lw_arg (a := 1) (k := 1) K hS hl rfl rfl (by omega) (by decide) dL_law_728 dL_law_729 dL_law_731 dL_law_732 dL_law_733 ?_
  refine lw_arg (a := 1) (k := 2) K hS hl rfl rfl (by omega) (by decide) dL_law_734 dL_law_735 dL_law_737 dL_law_738 dL_law_739 ?_
  refine cx_Vi (As := [.int (xs (q + 1)), .int (xs (q + 2))]) (rest := []) ⟨K.hx, K.hb, K.hml, K.hown, K.hts⟩ (c_X6_go K.hD K.N1 K.N8 K.V1 K.V4 K.hq co h6.qv h6.qK h6.qZ hF1 h6.qTO hR2 h6.qFO hJ.jp.pl hJ.jp.zv hR1 hF2 hJ.jp.ev) (cwV 2 K.hts gL_law_X6_go rfl rfl rfl (by decide +kernel) ⟨Nat.le_of_ble_eq_true rfl, Nat.le_of_ble_eq_true rfl⟩) K.hK hP hS (Nat.le_refl _) (K.hq _ (by decide)) co rfl hc rfl hl.1 rfl (Nat.le_of_ble_eq_true rfl) dL_law_740 (fun r6 g2 H locs hp2 hP hS => ?_)
  refine lv_istore (lv' := (6, .int r6) :: (5, .int k) :: lwl b ad q) K.hx K.hb dL_law_743 hl (by decide) rfl (fun ls hl => ?_)
  have hE : JEb G ad g2 N V M k r6 := by
    obtain ⟨fr6, rr2, hzr2, cR2, hp2⟩ := hp2
    have hec := hJ.jp.ev.1
    rcases hp with ⟨hk, r0, u0, z0, ⟨k1, h1, e1, hef, hor⟩, hz0, hcj, hu⟩ | ⟨hk, ⟨-, hne⟩, hu⟩
    · have hevk := hJ.jp.ev.2.1 k1 h1
      rcases hp2 with ⟨k1b, h1b, e1b, hefb, horb⟩ | ⟨hne, -⟩
      · have ekk : k1b = k1 := (nI_eq (by omega) (by omega)).mp (e1b.symm.trans e1)
        rw [ekk] at horb
        rcases hor with ⟨er5, hop, hug⟩ | ⟨er5, hop, fr, c5o, c5v⟩
        · rcases horb with ⟨er6, hopb, co2, cv2⟩ | ⟨er6, hopb, -⟩
          · exact ⟨T, 0, vp_updL o 0 z0, hk, ⟨J5.kept (g := u0) (T := T) (by rw [hug]; exact hJ.x5) K.V4 K.N8 (fun j hj => (fr6 j (by have h9 := lbX_lt K.N8 K.V4 K.M40 hj; omega)).trans (hu j (by have h9 := lbX_lt K.N8 K.V4 K.M40 hj; omega))), ⟨⟨_, co2⟩, (fr6 1003 (by omega)).trans h6.qd, (fr6 1005 (by omega)).trans h6.qFO, (fr6 1006 (by omega)).trans h6.qTO, (fr6 1007 (by omega)).trans h6.qK, (fr6 1008 (by omega)).trans h6.qZ, ⟨fm, (fr6 1009 (by omega)).trans hF1, hF2⟩, h6.xq.kept (fun j hj => fr6 j (by unfold lbQ at hj; omega)), ⟨rz, eq, (fr6 1018 (by omega)).trans hW1, (fr6 1019 (by omega)).trans hW2, hW3⟩, cv2, (fr6 1023 (by omega)).trans h6.qNN, ⟨nf, (fr6 1024 (by omega)).trans hNF1, hNF2⟩, ⟨rr2, hzr2, cR2⟩⟩, hJ.jp, (fr6 1100 (by omega)).trans hcj⟩, fun _ => by rw [show vp_updL o 0 z0 0 = z0 from if_pos rfl]; rw [er6, ← er5]; exact hz0⟩
          · rw [hop] at hopb
            exact absurd hopb (by decide)
        · rcases horb with ⟨er6, hopb, -⟩ | ⟨er6, hopb, co2, cv2⟩
          · rw [hop] at hopb
            exact absurd hopb (by decide)
          · exact ⟨(T.an, T.ec, T.en, T.al, T.et k1, T.nc, T.qd, stepF (V + 1) (T.ek k1) (T.ev k1) (T.eg k1) (fi (xs (q + 2)).toInt) T.va, T.ef, T.et, T.ek, T.ev, T.ez, T.eg, T.nn, T.ng, T.P), 0, vp_updL o 0 z0, hk, ⟨J5.kept (g := u0) (T := (T.an, T.ec, T.en, T.al, T.et k1, T.nc, T.qd, stepF (V + 1) (T.ek k1) (T.ev k1) (T.eg k1) (fi (xs (q + 2)).toInt) T.va, T.ef, T.et, T.ek, T.ev, T.ez, T.eg, T.nn, T.ng, T.P)) (⟨c5o, (fr 1 (by omega)).trans hJ.x5.qd, c5v, ⟨wk, hw1, (fr 3 (by omega)).trans hw2⟩, (fr 4 (by omega)).trans hJ.x5.qE, (fr 5 (by omega)).trans hJ.x5.qH, (fr 6 (by omega)).trans hJ.x5.qA, (fr 7 (by omega)).trans hJ.x5.qN, hJ.x5.xe.kept (fun j _ _ => fr j (by omega)), hJ.x5.xn.kept (fun j _ _ => fr j (by omega)), hJ.x5.xa.kepX K.V4 K.N8 (fun j hj hj2 => fr j (by have h9 := lbX_lt K.N8 K.V4 K.M40 hj; omega)), (by obtain ⟨t2, kp2, rs2, h9⟩ := hJ.x5.sx; exact ⟨t2, kp2, rs2, h9.kept (fun j _ _ => fr j (by omega))⟩)⟩) K.V4 K.N8 (fun j hj => (fr6 j (by have h9 := lbX_lt K.N8 K.V4 K.M40 hj; omega)).trans (hu j (by have h9 := lbX_lt K.N8 K.V4 K.M40 hj; omega))), ⟨⟨_, co2⟩, (fr6 1003 (by omega)).trans h6.qd, (fr6 1005 (by omega)).trans h6.qFO, (fr6 1006 (by omega)).trans h6.qTO, (fr6 1007 (by omega)).trans h6.qK, (fr6 1008 (by omega)).trans h6.qZ, ⟨fm, (fr6 1009 (by omega)).trans hF1, hF2⟩, h6.xq.kept (fun j hj => fr6 j (by unfold lbQ at hj; omega)), ⟨rz, eq, (fr6 1018 (by omega)).trans hW1, (fr6 1019 (by omega)).trans hW2, hW3⟩, cv2, (fr6 1023 (by omega)).trans h6.qNN, ⟨nf, (fr6 1024 (by omega)).trans hNF1, hNF2⟩, ⟨rr2, hzr2, cR2⟩⟩, ⟨hJ.jp.en, hevk.2.1, hJ.jp.nc, hJ.jp.ev, hJ.jp.zd, stepF_z hJ.jp.zv (fun h => (hevk.2.2.2 h).2.2), hJ.jp.nn, hJ.jp.zn⟩, (fr6 1100 (by omega)).trans hcj⟩, fun _ => by rw [show vp_updL o 0 z0 0 = z0 from if_pos rfl]; rw [er6, ← er5]; exact hz0⟩
      · exact absurd ⟨k1, h1, e1, hef⟩ hne
    · have hJq : JJ G ad g1 N V M th T o := by rw [hu]; exact hJ
      rcases hp2 with ⟨k1b, h1b, e1b, hefb, -⟩ | ⟨-, co2, cv2⟩
      · exact absurd ⟨k1b, h1b, e1b, hefb⟩ hne
      · exact ⟨T, 1, o, hk, ⟨hJq.x5.kept K.V4 K.N8 (fun j hj => fr6 j (by have h9 := lbX_lt K.N8 K.V4 K.M40 hj; omega)), ⟨⟨_, co2⟩, (fr6 1003 (by omega)).trans h6.qd, (fr6 1005 (by omega)).trans h6.qFO, (fr6 1006 (by omega)).trans h6.qTO, (fr6 1007 (by omega)).trans h6.qK, (fr6 1008 (by omega)).trans h6.qZ, ⟨fm, (fr6 1009 (by omega)).trans hF1, hF2⟩, h6.xq.kept (fun j hj => fr6 j (by unfold lbQ at hj; omega)), ⟨rz, eq, (fr6 1018 (by omega)).trans hW1, (fr6 1019 (by omega)).trans hW2, hW3⟩, cv2, (fr6 1023 (by omega)).trans h6.qNN, ⟨nf, (fr6 1024 (by omega)).trans hNF1, hNF2⟩, ⟨rr2, hzr2, cR2⟩⟩, hJ.jp, (fr6 1100 (by omega)).trans hJq.cj⟩, fun h => absurd (hk.symm.trans h) (by decide)⟩
  exact lw_endb K hE hP hS hl hz ⟨Nat.le_refl _, Nat.le_refl _⟩ hc dL_law_745 dL_law_746 dL_law_749 dL_law_751 dL_law_756 dL_law_758 dL_law_761 dL_law_762 dL_law_763 dL_law_764 dL_law_766 dL_law_769 dL_law_770 dL_law_773 dL_law_774 dL_law_775 dL_law_780 (by omega)
