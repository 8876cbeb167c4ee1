/-! THE LAW: the cases -/
set_option maxHeartbeats 4000000 in
set_option maxRecDepth 100000 in
theorem k_analyse {p : Program} {l : Launch} {e : Env} {s : State} {m : MethodId} {below : List Frame} {meth : Method} {c : Code} {H : Heap} {locs : List Loc} {cells slots : Nat} {Q : State → Prop} {ls : Array Slot} {G : cx_G} {L : List Nat} {ad : Nat → Nat} {g : Nat → va_E} {b Ln N V M q th : Nat} {xs : Nat → Int32} {T : TA} {o : Nat → Int64} (K : LK p l s m c G L ad b Ln xs N V M) (hJ : JJ G ad g N V M th T o) (hP : va_P G.1 vwCl (wl L ad g) H) (hS : va_S (cx_A L ad s.heap.size) s.heap H locs) (hl : lv_has ls 7 (lwl b ad q)) (hq5 : q + 4 < Ln) (hc : cells + 4 ≤ 634768 ∧ slots + 24 ≤ 7191766) (hz : LZ p l e s m below meth c Q G L ad b N V M q cells slots) : W p l e room_1 s m #[Value.ref b] below meth c H locs cells slots Q (F0 m 312 ls []) := by
  have hN1 := K.N1
  have hN8 := K.N8
  have hV1 := K.V1
  have hV4 := K.V4
  have h00 : 0 ∈ L := K.hm 0 (Or.inl (by decide))
  obtain ⟨wk, hw1, hw2⟩ := hJ.x5.qw
  refine lv_aload_n K.hx K.hb dL_law_312 rfl (lv_at hl 2 rfl) ?_
  have hD5 := K.hD.filt (fun j => decide (j < 1000))
  have hm5 : ∀ j : Nat, lbX N V M j → j ∈ L.filter (fun j => decide (j < 1000)) := fun j hj => List.mem_filter.mpr ⟨K.hm j hj, decide_eq_true (lbX_lt K.N8 K.V4 K.M40 hj)⟩
  refine cx_V5 (L5 := L.filter (fun j => decide (j < 1000))) (k := 0) (As := []) (rest := []) ⟨K.hx, K.hb, K.hml, K.hown, K.hts⟩ (c_X5_analyse hD5 K.N8 K.V1 K.V4 K.hM K.M40 hm5 hJ.jp.en hw1 hJ.jp.ev hJ.x5.qo hw2 hJ.x5.qE hJ.x5.qH hJ.x5.qA (XF.of hJ.x5.xa) hJ.x5.xe) K.hD (fun j hj => (List.mem_filter.mp hj).1) (cwV 0 K.hts gL_law_X5_analyse rfl rfl rfl (by decide +kernel) ⟨Nat.le_of_ble_eq_true rfl, Nat.le_of_ble_eq_true rfl⟩) K.hK hP hS (Nat.le_refl _) h00 hJ.x5.qo rfl (show cells ≤ 634768 ∧ slots ≤ 7191766 from ⟨by omega, by omega⟩) rfl hl.1 rfl (Nat.le_of_ble_eq_true rfl) dL_law_313 (fun r5 u5 g1 H locs hp hu5 hun hP hS => ?_)
  obtain ⟨er5, fr, c5o, ⟨wk2, hwz, c5w⟩, xa5⟩ := hp
  have hf1 : ∀ j : Nat, 1000 ≤ j → j < 1100 → g1 j = g j := fun j h9 _ => hun j (fun h => by have h8 := of_decide_eq_true (List.mem_filter.mp h).2; omega)
  have h6 : J6 G ad g1 N V th T := hJ.x6.kept hf1
  obtain ⟨sz, co⟩ := h6.qo
  obtain ⟨fm, hF1, hF2⟩ := h6.qF
  obtain ⟨mn, pq, cm, nd, nx, tb, pz, hQ1, hQ2, hQ3, hQ4, hQ5, hQ6, hQ7, hqp, hpv⟩ := h6.xq
  obtain ⟨rz, eq, hW1, hW2, hW3⟩ := h6.qW
  obtain ⟨nf, hNF1, hNF2⟩ := h6.qNF
  obtain ⟨rr, hR1, hR2⟩ := h6.qR
  refine lv_aload_n K.hx K.hb dL_law_316 rfl (lv_at hl 3 rfl) ?_
  refine cx_Vi (As := []) (rest := [.int r5]) ⟨K.hx, K.hb, K.hml, K.hown, K.hts⟩ (c_X6_analyse K.hD K.N1 K.N8 K.V1 K.V4 K.hq K.hM hJ.jp.en co h6.qK h6.qZ hF1 h6.qTO hR2 h6.qFO hW1 hW2 hR1 hF2 hJ.jp.ev h6.xq) (cwV 0 K.hts gL_law_X6_analyse rfl rfl rfl (by decide +kernel) ⟨Nat.le_of_ble_eq_true rfl, Nat.le_of_ble_eq_true rfl⟩) K.hK hP hS (Nat.le_refl _) (K.hq _ (by decide)) co rfl (show cells ≤ 634768 ∧ slots ≤ 7191766 from ⟨by omega, by omega⟩) rfl hl.1 rfl (Nat.le_of_ble_eq_true rfl) dL_law_317 (fun r6 g2 H locs hp2 hP hS => ?_)
  have hE : r5 = r6 ∧ ∃ (T2 : TA) (o2 : Nat → Int64), JJ G ad g2 N V M 0 T2 o2 := by
    obtain ⟨er6, fr6, ⟨sz2, co2⟩, ⟨rr2, hzr2, cR2⟩, xq2, rz2, eq2, cW2, cE2, hqe2⟩ := hp2
    have hg11 : g1 1100 = g 1100 := hun 1100 (fun h => by have h8 := of_decide_eq_true (List.mem_filter.mp h).2; omega)
    exact ⟨er5.trans er6.symm, (true, T.ec, T.en, (anaF (V + 1) M T.en T.ec T.ef T.et T.ek T.ev T.eg).1, T.pl, T.nc, T.qd, T.va, T.ef, T.et, T.ek, T.ev, T.ez, T.eg, T.nn, T.ng, (anaF (V + 1) M T.en T.ec T.ef T.et T.ek T.ev T.eg)), o, J5.kept (g := u5) (T := (true, T.ec, T.en, (anaF (V + 1) M T.en T.ec T.ef T.et T.ek T.ev T.eg).1, T.pl, T.nc, T.qd, T.va, T.ef, T.et, T.ek, T.ev, T.ez, T.eg, T.nn, T.ng, (anaF (V + 1) M T.en T.ec T.ef T.et T.ek T.ev T.eg))) (⟨c5o, (fr 1 (by unfold lbA; omega)).trans hJ.x5.qd, (fr 2 (by unfold lbA; omega)).trans hJ.x5.qv, ⟨wk2, hwz, c5w⟩, (fr 4 (by unfold lbA; omega)).trans hJ.x5.qE, (fr 5 (by unfold lbA; omega)).trans hJ.x5.qH, (fr 6 (by unfold lbA; omega)).trans hJ.x5.qA, (fr 7 (by unfold lbA; omega)).trans hJ.x5.qN, hJ.x5.xe.kept (fun j _ _ => fr j (by unfold lbA; omega)), hJ.x5.xn.kept (fun j _ _ => fr j (by unfold lbA; omega)), xa5, (by obtain ⟨t2, kp2, rs2, h9⟩ := hJ.x5.sx; exact ⟨t2, kp2, rs2, h9.kept (fun j _ _ => fr j (by unfold lbA; omega))⟩)⟩) K.V4 K.N8 (fun j hj => (fr6 j (by have h9 := lbX_lt K.N8 K.V4 K.M40 hj; unfold lbQ; omega)).trans (hu5 j (hm5 j hj))), ⟨⟨_, co2⟩, (fr6 1003 (by unfold lbQ; omega)).trans h6.qd, (fr6 1005 (by unfold lbQ; omega)).trans h6.qFO, (fr6 1006 (by unfold lbQ; omega)).trans h6.qTO, (fr6 1007 (by unfold lbQ; omega)).trans h6.qK, (fr6 1008 (by unfold lbQ; omega)).trans h6.qZ, ⟨fm, (fr6 1009 (by unfold lbQ; omega)).trans hF1, hF2⟩, xq2, ⟨rz2, eq2, cW2, cE2, fun _ => hqe2⟩, (fr6 1021 (by unfold lbQ; omega)).trans h6.qv, (fr6 1023 (by unfold lbQ; omega)).trans h6.qNN, ⟨nf, (fr6 1024 (by unfold lbQ; omega)).trans hNF1, hNF2⟩, ⟨rr2, hzr2, cR2⟩⟩, ⟨hJ.jp.en, hJ.jp.pl, hJ.jp.nc, hJ.jp.ev, hJ.jp.zd, hJ.jp.zv, hJ.jp.nn, hJ.jp.zn⟩, (fr6 1100 (by unfold lbQ; omega)).trans (hg11.trans hJ.cj)⟩
  obtain ⟨er, T2, o2, hJ2⟩ := hE
  refine lv_icmp_eq (x := r5) (y := r6) (tgt := 965) K.hx K.hb dL_law_320 (by omega) (fun _ => ?_) (fun h => absurd er h)
  exact hz _ T2 0 o2 _ _ _ _ _ hJ2 hP hS hl (by omega) (by omega)

set_option maxHeartbeats 4000000 in
set_option maxRecDepth 100000 in
theorem k_forget {p : Program} {l : Launch} {e : Env} {s : State} {m : MethodId} {below : List Frame} {meth : Method} {c : Code} {H : Heap} {locs : List Loc} {cells slots : Nat} {Q : State → Prop} {ls : Array Slot} {G : cx_G} {L : List Nat} {ad : Nat → Nat} {g : Nat → va_E} {b Ln N V M q th : Nat} {xs : Nat → Int32} {T : TA} {o : Nat → Int64} (K : LK p l s m c G L ad b Ln xs N V M) (hJ : JJ G ad g N V M th T o) (hP : va_P G.1 vwCl (wl L ad g) H) (hS : va_S (cx_A L ad s.heap.size) s.heap H locs) (hl : lv_has ls 7 (lwl b ad q)) (hq5 : q + 4 < Ln) (hc : cells + 4 ≤ 634768 ∧ slots + 24 ≤ 7191766) (hz : LZ p l e s m below meth c Q G L ad b N V M q cells slots) : W p l e room_1 s m #[Value.ref b] below meth c H locs cells slots Q (F0 m 939 ls []) := by
  have hN1 := K.N1
  have hN8 := K.N8
  have hV1 := K.V1
  have hV4 := K.V4
  have h00 : 0 ∈ L := K.hm 0 (Or.inl (by decide))
  obtain ⟨wk, hw1, hw2⟩ := hJ.x5.qw
  refine lv_aload_n K.hx K.hb dL_law_939 rfl (lv_at hl 2 rfl) ?_
  refine cx_Vi (As := []) (rest := []) ⟨K.hx, K.hb, K.hml, K.hown, K.hts⟩ (c_X5_forget K.hD K.N8 K.V1 K.V4 K.hM K.M40 K.hm hJ.x5.qo) (cwV 0 K.hts gL_law_X5_forget rfl rfl rfl (by decide +kernel) ⟨Nat.le_of_ble_eq_true rfl, Nat.le_of_ble_eq_true rfl⟩) K.hK hP hS (Nat.le_refl _) h00 hJ.x5.qo rfl (show cells ≤ 634768 ∧ slots ≤ 7191766 from ⟨by omega, by omega⟩) rfl hl.1 rfl (Nat.le_of_ble_eq_true rfl) dL_law_940 (fun r5 g1 H locs hp hP hS => ?_)
  obtain ⟨er5, fr, c5o⟩ := hp
  have hf1 : ∀ j : Nat, 1000 ≤ j → j < 1100 → g1 j = g j := fun j _ _ => fr j (by omega)
  have h6 : J6 G ad g1 N V th T := hJ.x6.kept hf1
  obtain ⟨sz, co⟩ := h6.qo
  obtain ⟨fm, hF1, hF2⟩ := h6.qF
  obtain ⟨mn, pq, cm, nd, nx, tb, pz, hQ1, hQ2, hQ3, hQ4, hQ5, hQ6, hQ7, hqp, hpv⟩ := h6.xq
  obtain ⟨rz, eq, hW1, hW2, hW3⟩ := h6.qW
  obtain ⟨nf, hNF1, hNF2⟩ := h6.qNF
  obtain ⟨rr, hR1, hR2⟩ := h6.qR
  refine lv_aload_n K.hx K.hb dL_law_943 rfl (lv_at hl 3 rfl) ?_
  refine cx_Vi (As := []) (rest := [.int r5]) ⟨K.hx, K.hb, K.hml, K.hown, K.hts⟩ (c_X6_forget K.hD K.N1 K.N8 K.V1 K.V4 K.hq co) (cwV 0 K.hts gL_law_X6_forget rfl rfl rfl (by decide +kernel) ⟨Nat.le_of_ble_eq_true rfl, Nat.le_of_ble_eq_true rfl⟩) K.hK hP hS (Nat.le_refl _) (K.hq _ (by decide)) co rfl (show cells ≤ 634768 ∧ slots ≤ 7191766 from ⟨by omega, by omega⟩) rfl hl.1 rfl (Nat.le_of_ble_eq_true rfl) dL_law_944 (fun r6 g2 H locs hp2 hP hS => ?_)
  have hE : r5 = r6 ∧ ∃ (T2 : TA) (o2 : Nat → Int64), JJ G ad g2 N V M 0 T2 o2 := by
    obtain ⟨fr6, er6, co2⟩ := hp2
    exact ⟨er5.trans er6.symm, (T.an, T.ec, T.en, T.al, T.pl, 0, T.qd, T.va, T.ef, T.et, T.ek, T.ev, T.ez, T.eg, T.nn, T.ng, T.P), o, J5.kept (g := g1) (T := (T.an, T.ec, T.en, T.al, T.pl, 0, T.qd, T.va, T.ef, T.et, T.ek, T.ev, T.ez, T.eg, T.nn, T.ng, T.P)) (⟨c5o, (fr 1 (by omega)).trans hJ.x5.qd, (fr 2 (by omega)).trans hJ.x5.qv, ⟨wk, hw1, (fr 3 (by omega)).trans hw2⟩, (fr 4 (by omega)).trans hJ.x5.qE, (fr 5 (by omega)).trans hJ.x5.qH, (fr 6 (by omega)).trans hJ.x5.qA, (fr 7 (by omega)).trans hJ.x5.qN, hJ.x5.xe.kept (fun j _ _ => fr j (by omega)), hJ.x5.xn.kept (fun j _ _ => fr j (by omega)), hJ.x5.xa.kepX K.V4 K.N8 (fun j hj hj2 => fr j (by have h9 := lbX_lt K.N8 K.V4 K.M40 hj; omega)), (by obtain ⟨t2, kp2, rs2, h9⟩ := hJ.x5.sx; exact ⟨t2, kp2, rs2, h9.kept (fun j _ _ => fr j (by omega))⟩)⟩) K.V4 K.N8 (fun j hj => fr6 j (by have h9 := lbX_lt K.N8 K.V4 K.M40 hj; omega)), ⟨⟨_, co2⟩, (fr6 1003 (by omega)).trans h6.qd, (fr6 1005 (by omega)).trans h6.qFO, (fr6 1006 (by omega)).trans h6.qTO, (fr6 1007 (by omega)).trans h6.qK, (fr6 1008 (by omega)).trans h6.qZ, ⟨fm, (fr6 1009 (by omega)).trans hF1, hF2⟩, h6.xq.kept (fun j hj => fr6 j (by unfold lbQ at hj; omega)), ⟨rz, eq, (fr6 1018 (by omega)).trans hW1, (fr6 1019 (by omega)).trans hW2, hW3⟩, (fr6 1021 (by omega)).trans h6.qv, (fr6 1023 (by omega)).trans h6.qNN, ⟨nf, (fr6 1024 (by omega)).trans hNF1, hNF2⟩, ⟨rr, hR1, (fr6 1028 (by omega)).trans hR2⟩⟩, ⟨hJ.jp.en, hJ.jp.pl, Nat.zero_le _, hJ.jp.ev, hJ.jp.zd, hJ.jp.zv, (fun i hi => absurd hi (Nat.not_lt_zero i)), hJ.jp.zn⟩, (fr6 1100 (by omega)).trans ((fr 1100 (by omega)).trans hJ.cj)⟩
  obtain ⟨er, T2, o2, hJ2⟩ := hE
  refine lv_icmp_eq (x := r5) (y := r6) (tgt := 965) K.hx K.hb dL_law_947 (by omega) (fun _ => ?_) (fun h => absurd er h)
  exact hz _ T2 0 o2 _ _ _ _ _ hJ2 hP hS hl (by omega) (by omega)

set_option maxHeartbeats 4000000 in
set_option maxRecDepth 100000 in
theorem k_sound {p : Program} {l : Launch} {e : Env} {s : State} {m : MethodId} {below : List Frame} {meth : Method} {c : Code} {H : Heap} {locs : List Loc} {cells slots : Nat} {Q : State → Prop} {ls : Array Slot} {G : cx_G} {L : List Nat} {ad : Nat → Nat} {g : Nat → va_E} {b Ln N V M q th : Nat} {xs : Nat → Int32} {T : TA} {o : Nat → Int64} (K : LK p l s m c G L ad b Ln xs N V M) (hJ : JJ G ad g N V M th T o) (hP : va_P G.1 vwCl (wl L ad g) H) (hS : va_S (cx_A L ad s.heap.size) s.heap H locs) (hl : lv_has ls 7 (lwl b ad q)) (hq5 : q + 4 < Ln) (hc : cells + 4 ≤ 634768 ∧ slots + 24 ≤ 7191766) (hz : LZ p l e s m below meth c Q G L ad b N V M q cells slots) : W p l e room_1 s m #[Value.ref b] below meth c H locs cells slots Q (F0 m 952 ls []) := by
  have hN1 := K.N1
  have hN8 := K.N8
  have hV1 := K.V1
  have hV4 := K.V4
  have h00 : 0 ∈ L := K.hm 0 (Or.inl (by decide))
  obtain ⟨wk, hw1, hw2⟩ := hJ.x5.qw
  refine lv_aload_n K.hx K.hb dL_law_952 rfl (lv_at hl 2 rfl) ?_
  refine cx_Vi (As := []) (rest := []) ⟨K.hx, K.hb, K.hml, K.hown, K.hts⟩ (c_X5_sound K.hD K.N8 K.V1 K.V4 K.hM K.M40 K.hm hJ.jp.nc hJ.jp.nn hJ.jp.zn hJ.jp.en hJ.jp.ev hw1 hJ.x5.qo hw2 hJ.x5.qE hJ.x5.qN hJ.x5.xe hJ.x5.xn hJ.x5.sx) (cwV 0 K.hts gL_law_X5_sound rfl rfl rfl (by decide +kernel) ⟨Nat.le_of_ble_eq_true rfl, Nat.le_of_ble_eq_true rfl⟩) K.hK hP hS (Nat.le_refl _) h00 hJ.x5.qo rfl (show cells ≤ 634768 ∧ slots ≤ 7191766 from ⟨by omega, by omega⟩) rfl hl.1 rfl (Nat.le_of_ble_eq_true rfl) dL_law_953 (fun r5 g1 H locs hp hP hS => ?_)
  obtain ⟨et5, fr, ⟨wk2, hwz, c5w⟩, hsx⟩ := hp
  have hf1 : ∀ j : Nat, 1000 ≤ j → j < 1100 → g1 j = g j := fun j _ _ => fr j (by omega)
  have h6 : J6 G ad g1 N V th T := hJ.x6.kept hf1
  obtain ⟨sz, co⟩ := h6.qo
  obtain ⟨fm, hF1, hF2⟩ := h6.qF
  obtain ⟨mn, pq, cm, nd, nx, tb, pz, hQ1, hQ2, hQ3, hQ4, hQ5, hQ6, hQ7, hqp, hpv⟩ := h6.xq
  obtain ⟨rz, eq, hW1, hW2, hW3⟩ := h6.qW
  obtain ⟨nf, hNF1, hNF2⟩ := h6.qNF
  obtain ⟨rr, hR1, hR2⟩ := h6.qR
  refine lv_aload_n K.hx K.hb dL_law_956 rfl (lv_at hl 3 rfl) ?_
  refine cx_Vi (As := []) (rest := [.int r5]) ⟨K.hx, K.hb, K.hml, K.hown, K.hts⟩ (c_X6_sound K.hD K.N1 K.N8 K.V1 K.V4 K.hq co h6.qFO h6.qK hF1 h6.qNN hNF1 h6.qZ h6.qTO hQ6 hQ7 hJ.jp.en hJ.jp.nc hJ.jp.nn hNF2 hF2 hJ.jp.ev) (cwV 0 K.hts gL_law_X6_sound rfl rfl rfl (by decide +kernel) ⟨Nat.le_of_ble_eq_true rfl, Nat.le_of_ble_eq_true rfl⟩) K.hK hP hS (Nat.le_refl _) (K.hq _ (by decide)) co rfl (show cells ≤ 634768 ∧ slots ≤ 7191766 from ⟨by omega, by omega⟩) rfl hl.1 rfl (Nat.le_of_ble_eq_true rfl) dL_law_957 (fun r6 g2 H locs hp2 hP hS => ?_)
  have hE : r5 = r6 ∧ ∃ (T2 : TA) (o2 : Nat → Int64), JJ G ad g2 N V M 0 T2 o2 := by
    obtain ⟨fr6, et6, ⟨sz2, co2⟩, tb2, pz2, cT2, cP2⟩ := hp2
    exact ⟨tr_u et5 et6, T, o, J5.kept (g := g1) (T := T) (⟨(fr 0 (by omega)).trans hJ.x5.qo, (fr 1 (by omega)).trans hJ.x5.qd, (fr 2 (by omega)).trans hJ.x5.qv, ⟨wk2, hwz, c5w⟩, (fr 4 (by omega)).trans hJ.x5.qE, (fr 5 (by omega)).trans hJ.x5.qH, (fr 6 (by omega)).trans hJ.x5.qA, (fr 7 (by omega)).trans hJ.x5.qN, hJ.x5.xe.kept (fun j _ _ => fr j (by omega)), hJ.x5.xn.kept (fun j _ _ => fr j (by omega)), hJ.x5.xa.kepX K.V4 K.N8 (fun j hj hj2 => fr j (by have h9 := lbX_lt K.N8 K.V4 K.M40 hj; omega)), hsx⟩) K.V4 K.N8 (fun j hj => fr6 j (by have h9 := lbX_lt K.N8 K.V4 K.M40 hj; omega)), ⟨⟨_, co2⟩, (fr6 1003 (by omega)).trans h6.qd, (fr6 1005 (by omega)).trans h6.qFO, (fr6 1006 (by omega)).trans h6.qTO, (fr6 1007 (by omega)).trans h6.qK, (fr6 1008 (by omega)).trans h6.qZ, ⟨fm, (fr6 1009 (by omega)).trans hF1, hF2⟩, ⟨mn, pq, cm, nd, nx, tb2, pz2, (fr6 1012 (by omega)).trans hQ1, (fr6 1013 (by omega)).trans hQ2, (fr6 1014 (by omega)).trans hQ3, (fr6 1016 (by omega)).trans hQ4, (fr6 1017 (by omega)).trans hQ5, cT2, cP2, hqp, hpv⟩, ⟨rz, eq, (fr6 1018 (by omega)).trans hW1, (fr6 1019 (by omega)).trans hW2, hW3⟩, (fr6 1021 (by omega)).trans h6.qv, (fr6 1023 (by omega)).trans h6.qNN, ⟨nf, (fr6 1024 (by omega)).trans hNF1, hNF2⟩, ⟨rr, hR1, (fr6 1028 (by omega)).trans hR2⟩⟩, hJ.jp, (fr6 1100 (by omega)).trans ((fr 1100 (by omega)).trans hJ.cj)⟩
  obtain ⟨er, T2, o2, hJ2⟩ := hE
  refine lv_icmp_eq (x := r5) (y := r6) (tgt := 965) K.hx K.hb dL_law_960 (by omega) (fun _ => ?_) (fun h => absurd er h)
  exact hz _ T2 0 o2 _ _ _ _ _ hJ2 hP hS hl (by omega) (by omega)
