/-! THE LAW: the cases -/
set_option maxHeartbeats 4000000 in
set_option maxRecDepth 100000 in
theorem k_note {p : Program} {l : Launch} {e : Env} {s : State} {m : MethodId} {below : List Frame} {meth : Method} {c : Code} {H : Heap} {locs : List Loc} {cells slots : Nat} {Q : State → Prop} {ls : Array Slot} {G : cx_G} {L : List Nat} {ad : Nat → Nat} {g : Nat → va_E} {b Ln N V M q th : Nat} {xs : Nat → Int32} {T : TA} {o : Nat → Int64} (K : LK p l s m c G L ad b Ln xs N V M) (hJ : JJ G ad g N V M th T o) (hP : va_P G.1 vwCl (wl L ad g) H) (hS : va_S (cx_A L ad s.heap.size) s.heap H locs) (hl : lv_has ls 7 (lwl b ad q)) (hq5 : q + 4 < Ln) (hc : cells + 4 ≤ 634768 ∧ slots + 24 ≤ 7191766) (hz : LZ p l e s m below meth c Q G L ad b N V M q cells slots) : W p l e room_1 s m #[Value.ref b] below meth c H locs cells slots Q (F0 m 839 ls []) := by
  have hN1 := K.N1
  have hN8 := K.N8
  have hV1 := K.V1
  have hV4 := K.V4
  have h00 : 0 ∈ L := K.hm 0 (Or.inl (by decide))
  obtain ⟨wk, hw1, hw2⟩ := hJ.x5.qw
  refine lv_aload_n K.hx K.hb dL_law_839 rfl (lv_at hl 2 rfl) ?_
  refine lw_arg (a := 0) (k := 1) K hS hl rfl rfl (by omega) (by decide) dL_law_840 dL_law_841 dL_law_843 dL_law_844 dL_law_845 ?_
  refine lv_aload_n K.hx K.hb dL_law_846 rfl (lv_at hl 4 rfl) ?_
  refine cx_WSi (As := [.ref (ad 0), .int (xs (q + 1)), .ref (ad 1100)]) (rest := []) (mc := 4) (ms := 24) ⟨K.hx, K.hb, K.hml, K.hown, K.hts⟩ (c_L_note K.hD (c_X5_note K.st9 K.hD K.N8 K.V1 K.V4 K.hM K.M40 K.hm hJ.x5.qo hJ.x5.qd hJ.x5.qH hJ.x5.qN hJ.jp.nc hJ.jp.zd hJ.jp.zn hJ.x5.xn) (fun E h => h.imp (fun h => h.1) (fun h => h.1)) h00 hJ.x5.qo K.h11 hJ.cj (by rintro r u ⟨-, -, -, -, -, fr, -⟩; exact fr 1100 (by omega))) (vx_cwSW 3 K.hts gL_law_L_note rfl rfl rfl (by decide +kernel) ⟨Nat.le_of_ble_eq_true rfl, Nat.le_of_ble_eq_true rfl⟩) K.hK K.hX hP hS (Nat.le_refl _) hc rfl hl.1 rfl (Nat.le_of_ble_eq_true rfl) dL_law_847 (fun k g1 H locs hp hP hS => ?_)
  refine lv_istore (lv' := (5, .int k) :: lwl b ad q) K.hx K.hb dL_law_850 hl (by decide) rfl (fun ls hl => ?_)
  have hf1 : ∀ j : Nat, 1000 ≤ j → j < 1100 → g1 j = g j := by
    intro j hj1 hj2
    rcases hp with ⟨-, r0, u0, z0, ⟨k1, h1, e1, hnc, er5, fr, c5o, c5d, xn5⟩, -, -, hu⟩ | ⟨-, -, hu⟩ | ⟨-, -, hu⟩
    · exact (hu j (by omega)).trans (fr j (by omega))
    · rw [hu]
    · rw [hu]
  have h6 : J6 G ad g1 N V th T := hJ.x6.kept hf1
  obtain ⟨sz, co⟩ := h6.qo
  obtain ⟨fm, hF1, hF2⟩ := h6.qF
  obtain ⟨mn, pq, cm, nd, nx, tb, pz, hQ1, hQ2, hQ3, hQ4, hQ5, hQ6, hQ7, hqp, hpv⟩ := h6.xq
  obtain ⟨rz, eq, hW1, hW2, hW3⟩ := h6.qW
  obtain ⟨nf, hNF1, hNF2⟩ := h6.qNF
  obtain ⟨rr, hR1, hR2⟩ := h6.qR
  refine lv_aload_n K.hx K.hb dL_law_852 rfl (lv_at hl 4 rfl) ?_
  refine lw_arg (a := 1) (k := 1) K hS hl rfl rfl (by omega) (by decide) dL_law_853 dL_law_854 dL_law_856 dL_law_857 dL_law_858 ?_
  refine cx_Vi (As := [.int (xs (q + 1))]) (rest := []) ⟨K.hx, K.hb, K.hml, K.hown, K.hts⟩ (c_X6_note K.hD K.N1 K.N8 K.V1 K.V4 K.hq co h6.qd h6.qNN hNF1 hJ.jp.nc hJ.jp.zd) (cwV 1 K.hts gL_law_X6_note rfl rfl rfl (by decide +kernel) ⟨Nat.le_of_ble_eq_true rfl, Nat.le_of_ble_eq_true rfl⟩) K.hK hP hS (Nat.le_refl _) (K.hq _ (by decide)) co rfl hc rfl hl.1 rfl (Nat.le_of_ble_eq_true rfl) dL_law_859 (fun r6 g2 H locs hp2 hP hS => ?_)
  refine lv_istore (lv' := (6, .int r6) :: (5, .int k) :: lwl b ad q) K.hx K.hb dL_law_862 hl (by decide) rfl (fun ls hl => ?_)
  have hE : JE1 G ad g2 N V M k r6 := by
    obtain ⟨fr6, hp2⟩ := hp2
    rcases hp with ⟨hk, r0, u0, z0, ⟨k1, h1, e1, hnc, er5, fr, c5o, c5d, xn5⟩, hz0, hcj, hu⟩ | ⟨hk, hexA, hu⟩ | ⟨hk, hexS, hu⟩
    · rcases hp2 with ⟨k1b, h1b, e1b, hncb, er6, co2, cd2, cNN, nf2, cNF, of2⟩ | ⟨hne, -⟩ | ⟨-, h24, -⟩
      · have ekk : k1b = k1 := (nI_eq (by omega) (by omega)).mp (e1b.symm.trans e1)
        rw [ekk] at cNN
        exact ⟨(T.an, T.ec, T.en, T.al, T.pl, T.nc + 1, (fun _ => 0), T.va, T.ef, T.et, T.ek, T.ev, T.ez, T.eg, nu T.nn T.nc k1, nu T.ng T.nc T.qd, T.P), 0, vp_updL o 0 z0, hk, ⟨J5.kept (g := u0) (T := (T.an, T.ec, T.en, T.al, T.pl, T.nc + 1, (fun _ => 0), T.va, T.ef, T.et, T.ek, T.ev, T.ez, T.eg, nu T.nn T.nc k1, nu T.ng T.nc T.qd, T.P)) (⟨c5o, c5d, (fr 2 (by omega)).trans hJ.x5.qv, ⟨wk, hw1, (fr 3 (by omega)).trans hw2⟩, (fr 4 (by omega)).trans hJ.x5.qE, (fr 5 (by omega)).trans hJ.x5.qH, (fr 6 (by omega)).trans hJ.x5.qA, (fr 7 (by omega)).trans hJ.x5.qN, hJ.x5.xe.kept (fun j _ _ => fr j (by omega)), xn5, hJ.x5.xa.kepX K.V4 K.N8 (fun j hj hj2 => fr j (by have h9 := lbX_lt K.N8 K.V4 K.M40 hj; omega)), (by obtain ⟨t2, kp2, rs2, h9⟩ := hJ.x5.sx; exact ⟨t2, kp2, rs2, h9.kept (fun j _ _ => fr j (by omega))⟩)⟩) K.V4 K.N8 (fun j hj => (fr6 j (by have h9 := lbX_lt K.N8 K.V4 K.M40 hj; omega)).trans (hu j (by have h9 := lbX_lt K.N8 K.V4 K.M40 hj; omega))), ⟨⟨_, co2⟩, cd2, (fr6 1005 (by omega)).trans h6.qFO, (fr6 1006 (by omega)).trans h6.qTO, (fr6 1007 (by omega)).trans h6.qK, (fr6 1008 (by omega)).trans h6.qZ, ⟨fm, (fr6 1009 (by omega)).trans hF1, hF2⟩, h6.xq.kept (fun j hj => fr6 j (by unfold lbQ at hj; omega)), ⟨rz, eq, (fr6 1018 (by omega)).trans hW1, (fr6 1019 (by omega)).trans hW2, hW3⟩, (fr6 1021 (by omega)).trans h6.qv, cNN, ⟨nf2, cNF, FR.set hNF2 of2 (fun _ _ => rfl)⟩, ⟨rr, hR1, (fr6 1028 (by omega)).trans hR2⟩⟩, ⟨hJ.jp.en, hJ.jp.pl, hnc, hJ.jp.ev, Zb.zero _, hJ.jp.zv, nu_lt hJ.jp.nn h1, nu_zb hJ.jp.zn hJ.jp.zd⟩, (fr6 1100 (by omega)).trans hcj⟩, fun _ => (if_pos rfl : vp_updL o 0 z0 0 = z0).trans (by rw [hz0, er5, er6])⟩
      · exact absurd ⟨k1, Nat.zero_le _, h1, e1⟩ hne
      · omega
    · have hne := hexA.elim (fun h => h.2) (fun h => absurd h.1 nIAIS)
      have hJq : JJ G ad g1 N V M th T o := by rw [hu]; exact hJ
      rcases hp2 with ⟨k1b, h1b, e1b, -⟩ | ⟨-, co2, cd2, cNN, cNF⟩ | ⟨hpre, -⟩
      · exact absurd ⟨k1b, Nat.zero_le _, h1b, e1b⟩ hne
      · exact ⟨T, 1, o, hk, ⟨hJq.x5.kept K.V4 K.N8 (fun j hj => fr6 j (by have h9 := lbX_lt K.N8 K.V4 K.M40 hj; omega)), ⟨⟨_, co2⟩, cd2, (fr6 1005 (by omega)).trans h6.qFO, (fr6 1006 (by omega)).trans h6.qTO, (fr6 1007 (by omega)).trans h6.qK, (fr6 1008 (by omega)).trans h6.qZ, ⟨fm, (fr6 1009 (by omega)).trans hF1, hF2⟩, h6.xq.kept (fun j hj => fr6 j (by unfold lbQ at hj; omega)), ⟨rz, eq, (fr6 1018 (by omega)).trans hW1, (fr6 1019 (by omega)).trans hW2, hW3⟩, (fr6 1021 (by omega)).trans h6.qv, cNN, ⟨nf, cNF, hNF2⟩, ⟨rr, hR1, (fr6 1028 (by omega)).trans hR2⟩⟩, hJ.jp, (fr6 1100 (by omega)).trans hJq.cj⟩, fun h => absurd (hk.symm.trans h) (by decide)⟩
      · exact absurd hpre hne
    · obtain ⟨hpre, hn24⟩ := hexS.elim (fun h => absurd h.1.symm nIAIS) (fun h => h.2)
      have hJq : JJ G ad g1 N V M th T o := by rw [hu]; exact hJ
      rcases hp2 with ⟨k1b, h1b, e1b, hncb, -⟩ | ⟨hne, -⟩ | ⟨-, h24, co2, cd2, cNN, cNF⟩
      · exact absurd hncb hn24
      · exact absurd hpre hne
      · exact ⟨T, 2, o, hk, ⟨hJq.x5.kept K.V4 K.N8 (fun j hj => fr6 j (by have h9 := lbX_lt K.N8 K.V4 K.M40 hj; omega)), ⟨⟨_, co2⟩, cd2, (fr6 1005 (by omega)).trans h6.qFO, (fr6 1006 (by omega)).trans h6.qTO, (fr6 1007 (by omega)).trans h6.qK, (fr6 1008 (by omega)).trans h6.qZ, ⟨fm, (fr6 1009 (by omega)).trans hF1, hF2⟩, h6.xq.kept (fun j hj => fr6 j (by unfold lbQ at hj; omega)), ⟨rz, eq, (fr6 1018 (by omega)).trans hW1, (fr6 1019 (by omega)).trans hW2, hW3⟩, (fr6 1021 (by omega)).trans h6.qv, cNN, ⟨nf, cNF, hNF2⟩, ⟨rr, hR1, (fr6 1028 (by omega)).trans hR2⟩⟩, hJ.jp, (fr6 1100 (by omega)).trans hJq.cj⟩, fun h => absurd (hk.symm.trans h) (by decide)⟩
  exact lw_end1 K hE hP hS hl hz ⟨Nat.le_refl _, Nat.le_refl _⟩ hc dL_law_864 dL_law_865 dL_law_868 dL_law_870 dL_law_875 dL_law_877 dL_law_880 dL_law_881 dL_law_882 dL_law_883 dL_law_885 dL_law_886 dL_law_887 dL_law_892 (by omega)

set_option maxHeartbeats 4000000 in
set_option maxRecDepth 100000 in
theorem k_noteAll {p : Program} {l : Launch} {e : Env} {s : State} {m : MethodId} {below : List Frame} {meth : Method} {c : Code} {H : Heap} {locs : List Loc} {cells slots : Nat} {Q : State → Prop} {ls : Array Slot} {G : cx_G} {L : List Nat} {ad : Nat → Nat} {g : Nat → va_E} {b Ln N V M q th : Nat} {xs : Nat → Int32} {T : TA} {o : Nat → Int64} (K : LK p l s m c G L ad b Ln xs N V M) (hJ : JJ G ad g N V M th T o) (hP : va_P G.1 vwCl (wl L ad g) H) (hS : va_S (cx_A L ad s.heap.size) s.heap H locs) (hl : lv_has ls 7 (lwl b ad q)) (hq5 : q + 4 < Ln) (hc : cells + 4 ≤ 634768 ∧ slots + 24 ≤ 7191766) (hz : LZ p l e s m below meth c Q G L ad b N V M q cells slots) : W p l e room_1 s m #[Value.ref b] below meth c H locs cells slots Q (F0 m 895 ls []) := by
  have hN1 := K.N1
  have hN8 := K.N8
  have hV1 := K.V1
  have hV4 := K.V4
  have h00 : 0 ∈ L := K.hm 0 (Or.inl (by decide))
  obtain ⟨wk, hw1, hw2⟩ := hJ.x5.qw
  refine lv_aload_n K.hx K.hb dL_law_895 rfl (lv_at hl 2 rfl) ?_
  refine lv_aload_n K.hx K.hb dL_law_896 rfl (lv_at hl 4 rfl) ?_
  refine cx_WSi (As := [.ref (ad 0), .ref (ad 1100)]) (rest := []) (mc := 4) (ms := 24) ⟨K.hx, K.hb, K.hml, K.hown, K.hts⟩ (c_L_noteAll (x9 := nI 0) K.hD (c_X5_noteAll K.st9 K.hD K.N8 K.V1 K.V4 K.hM K.M40 K.hm hJ.x5.qo hw2 hJ.x5.qH hJ.x5.qN hw1 hJ.jp.zn hJ.x5.xn hJ.x5.xa) (fun E h => h.imp (fun h => h.1) (fun h => h.1)) h00 hJ.x5.qo K.h11 hJ.cj (by rintro r u ⟨-, -, -, fr, -⟩; exact fr 1100 (by omega))) (vx_cwSW 2 K.hts gL_law_L_noteAll rfl rfl rfl (by decide +kernel) ⟨Nat.le_of_ble_eq_true rfl, Nat.le_of_ble_eq_true rfl⟩) K.hK K.hX hP hS (Nat.le_refl _) hc rfl hl.1 rfl (Nat.le_of_ble_eq_true rfl) dL_law_897 (fun k g1 H locs hp hP hS => ?_)
  refine lv_istore (lv' := (5, .int k) :: lwl b ad q) K.hx K.hb dL_law_900 hl (by decide) rfl (fun ls hl => ?_)
  have hf1 : ∀ j : Nat, 1000 ≤ j → j < 1100 → g1 j = g j := by
    intro j hj1 hj2
    rcases hp with ⟨-, r0, u0, z0, ⟨ha, hcs, er5, fr, c5o, ⟨wk2, hwz, c5w⟩, xn5⟩, -, -, hu⟩ | ⟨-, -, hu⟩ | ⟨-, -, hu⟩
    · exact (hu j (by omega)).trans (fr j (by omega))
    · rw [hu]
    · rw [hu]
  have h6 : J6 G ad g1 N V th T := hJ.x6.kept hf1
  obtain ⟨sz, co⟩ := h6.qo
  obtain ⟨fm, hF1, hF2⟩ := h6.qF
  obtain ⟨mn, pq, cm, nd, nx, tb, pz, hQ1, hQ2, hQ3, hQ4, hQ5, hQ6, hQ7, hqp, hpv⟩ := h6.xq
  obtain ⟨rz, eq, hW1, hW2, hW3⟩ := h6.qW
  obtain ⟨nf, hNF1, hNF2⟩ := h6.qNF
  obtain ⟨rr, hR1, hR2⟩ := h6.qR
  refine lv_aload_n K.hx K.hb dL_law_902 rfl (lv_at hl 4 rfl) ?_
  refine cx_Vi (As := []) (rest := []) ⟨K.hx, K.hb, K.hml, K.hown, K.hts⟩ (c_X6_noteAll K.hD K.N1 K.N8 K.V1 K.V4 K.hq co hW1 hW2 h6.qNN hNF1 hW3 hNF2) (cwV 0 K.hts gL_law_X6_noteAll rfl rfl rfl (by decide +kernel) ⟨Nat.le_of_ble_eq_true rfl, Nat.le_of_ble_eq_true rfl⟩) K.hK hP hS (Nat.le_refl _) (K.hq _ (by decide)) co rfl hc rfl hl.1 rfl (Nat.le_of_ble_eq_true rfl) dL_law_903 (fun r6 g2 H locs hp2 hP hS => ?_)
  refine lv_istore (lv' := (6, .int r6) :: (5, .int k) :: lwl b ad q) K.hx K.hb dL_law_906 hl (by decide) rfl (fun ls hl => ?_)
  have hE : JE1 G ad g2 N V M k r6 := by
    obtain ⟨fr6, hp2⟩ := hp2
    rcases hp with ⟨hk, r0, u0, z0, ⟨ha, hcs, er5, fr, c5o, ⟨wk2, hwz, c5w⟩, xn5⟩, hz0, hcj, hu⟩ | ⟨hk, hexA, hu⟩ | ⟨hk, hexS, hu⟩
    · rcases hp2 with ⟨hab, hcsb, er6, co2, cNN, nf2, cNF, hfr2⟩ | ⟨ha2, -⟩ | ⟨-, hn24, -⟩
      · exact ⟨(T.an, T.ec, T.en, T.al, T.pl, (csum (fun i => V + 1 - T.P.2.2.2.1 i) N), T.qd, T.va, T.ef, T.et, T.ek, T.ev, T.ez, T.eg, (naF (V + 1) T.P T.nn T.ng N).1, (naF (V + 1) T.P T.nn T.ng N).2, T.P), 0, vp_updL o 0 z0, hk, ⟨J5.kept (g := u0) (T := (T.an, T.ec, T.en, T.al, T.pl, (csum (fun i => V + 1 - T.P.2.2.2.1 i) N), T.qd, T.va, T.ef, T.et, T.ek, T.ev, T.ez, T.eg, (naF (V + 1) T.P T.nn T.ng N).1, (naF (V + 1) T.P T.nn T.ng N).2, T.P)) (⟨c5o, (fr 1 (by omega)).trans hJ.x5.qd, (fr 2 (by omega)).trans hJ.x5.qv, ⟨wk2, hwz, c5w⟩, (fr 4 (by omega)).trans hJ.x5.qE, (fr 5 (by omega)).trans hJ.x5.qH, (fr 6 (by omega)).trans hJ.x5.qA, (fr 7 (by omega)).trans hJ.x5.qN, hJ.x5.xe.kept (fun j _ _ => fr j (by omega)), xn5, hJ.x5.xa.kepX K.V4 K.N8 (fun j hj hj2 => fr j (by have h9 := lbX_lt K.N8 K.V4 K.M40 hj; omega)), (by obtain ⟨t2, kp2, rs2, h9⟩ := hJ.x5.sx; exact ⟨t2, kp2, rs2, h9.kept (fun j _ _ => fr j (by omega))⟩)⟩) K.V4 K.N8 (fun j hj => (fr6 j (by have h9 := lbX_lt K.N8 K.V4 K.M40 hj; omega)).trans (hu j (by have h9 := lbX_lt K.N8 K.V4 K.M40 hj; omega))), ⟨⟨_, co2⟩, (fr6 1003 (by omega)).trans h6.qd, (fr6 1005 (by omega)).trans h6.qFO, (fr6 1006 (by omega)).trans h6.qTO, (fr6 1007 (by omega)).trans h6.qK, (fr6 1008 (by omega)).trans h6.qZ, ⟨fm, (fr6 1009 (by omega)).trans hF1, hF2⟩, h6.xq.kept (fun j hj => fr6 j (by unfold lbQ at hj; omega)), ⟨rz, eq, (fr6 1018 (by omega)).trans hW1, (fr6 1019 (by omega)).trans hW2, hW3⟩, (fr6 1021 (by omega)).trans h6.qv, cNN, ⟨nf2, cNF, hfr2⟩, ⟨rr, hR1, (fr6 1028 (by omega)).trans hR2⟩⟩, ⟨hJ.jp.en, hJ.jp.pl, hcs, hJ.jp.ev, hJ.jp.zd, hJ.jp.zv, (naF_lt N (Nat.le_refl _)), (naF_z hJ.jp.zn N)⟩, (fr6 1100 (by omega)).trans hcj⟩, fun _ => (if_pos rfl : vp_updL o 0 z0 0 = z0).trans (by rw [hz0, er5, er6])⟩
      · rw [ha] at ha2; cases ha2
      · exact absurd hcs hn24
    · have hna := hexA.elim (fun h => h.2) (fun h => absurd h.1 nISUO)
      have hJq : JJ G ad g1 N V M th T o := by rw [hu]; exact hJ
      rcases hp2 with ⟨hab, -⟩ | ⟨-, co2, cNN, cNF⟩ | ⟨hab, -⟩
      · exact absurd hab hna
      · exact ⟨T, 1, o, hk, ⟨hJq.x5.kept K.V4 K.N8 (fun j hj => fr6 j (by have h9 := lbX_lt K.N8 K.V4 K.M40 hj; omega)), ⟨⟨_, co2⟩, (fr6 1003 (by omega)).trans h6.qd, (fr6 1005 (by omega)).trans h6.qFO, (fr6 1006 (by omega)).trans h6.qTO, (fr6 1007 (by omega)).trans h6.qK, (fr6 1008 (by omega)).trans h6.qZ, ⟨fm, (fr6 1009 (by omega)).trans hF1, hF2⟩, h6.xq.kept (fun j hj => fr6 j (by unfold lbQ at hj; omega)), ⟨rz, eq, (fr6 1018 (by omega)).trans hW1, (fr6 1019 (by omega)).trans hW2, hW3⟩, (fr6 1021 (by omega)).trans h6.qv, cNN, ⟨nf, cNF, hNF2⟩, ⟨rr, hR1, (fr6 1028 (by omega)).trans hR2⟩⟩, hJ.jp, (fr6 1100 (by omega)).trans hJq.cj⟩, fun h => absurd (hk.symm.trans h) (by decide)⟩
      · exact absurd hab hna
    · obtain ⟨ha, hn24⟩ := hexS.elim (fun h => absurd h.1.symm nISUO) (fun h => h.2)
      have hJq : JJ G ad g1 N V M th T o := by rw [hu]; exact hJ
      rcases hp2 with ⟨-, hcsb, -⟩ | ⟨ha2, -⟩ | ⟨-, -, co2, cNN, cNF⟩
      · exact absurd hcsb hn24
      · rw [ha] at ha2; cases ha2
      · exact ⟨T, 2, o, hk, ⟨hJq.x5.kept K.V4 K.N8 (fun j hj => fr6 j (by have h9 := lbX_lt K.N8 K.V4 K.M40 hj; omega)), ⟨⟨_, co2⟩, (fr6 1003 (by omega)).trans h6.qd, (fr6 1005 (by omega)).trans h6.qFO, (fr6 1006 (by omega)).trans h6.qTO, (fr6 1007 (by omega)).trans h6.qK, (fr6 1008 (by omega)).trans h6.qZ, ⟨fm, (fr6 1009 (by omega)).trans hF1, hF2⟩, h6.xq.kept (fun j hj => fr6 j (by unfold lbQ at hj; omega)), ⟨rz, eq, (fr6 1018 (by omega)).trans hW1, (fr6 1019 (by omega)).trans hW2, hW3⟩, (fr6 1021 (by omega)).trans h6.qv, cNN, ⟨nf, cNF, hNF2⟩, ⟨rr, hR1, (fr6 1028 (by omega)).trans hR2⟩⟩, hJ.jp, (fr6 1100 (by omega)).trans hJq.cj⟩, fun h => absurd (hk.symm.trans h) (by decide)⟩
  exact lw_end1 K hE hP hS hl hz ⟨Nat.le_refl _, Nat.le_refl _⟩ hc dL_law_908 dL_law_909 dL_law_912 dL_law_914 dL_law_919 dL_law_921 dL_law_924 dL_law_925 dL_law_926 dL_law_927 dL_law_929 dL_law_930 dL_law_931 dL_law_936 (by omega)
