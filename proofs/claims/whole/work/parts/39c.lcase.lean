/-! THE LAW: the cases -/
set_option maxHeartbeats 4000000 in
set_option maxRecDepth 100000 in
theorem k_points {p : Program} {l : Launch} {e : Env} {s : State} {m : MethodId} {below : List Frame} {meth : Method} {c : Code} {H : Heap} {locs : List Loc} {cells slots : Nat} {Q : State → Prop} {ls : Array Slot} {G : cx_G} {L : List Nat} {ad : Nat → Nat} {g : Nat → va_E} {b Ln N V M q th : Nat} {xs : Nat → Int32} {T : TA} {o : Nat → Int64} (K : LK p l s m c G L ad b Ln xs N V M) (hJ : JJ G ad g N V M th T o) (hP : va_P G.1 vwCl (wl L ad g) H) (hS : va_S (cx_A L ad s.heap.size) s.heap H locs) (hl : lv_has ls 7 (lwl b ad q)) (hq5 : q + 4 < Ln) (hc : cells + 4 ≤ 634768 ∧ slots + 24 ≤ 7191766) (hz : LZ p l e s m below meth c Q G L ad b N V M q cells slots) : W p l e room_1 s m #[Value.ref b] below meth c H locs cells slots Q (F0 m 325 ls []) := by
  have hN1 := K.N1
  have hN8 := K.N8
  have hV1 := K.V1
  have hV4 := K.V4
  have h00 : 0 ∈ L := K.hm 0 (Or.inl (by decide))
  obtain ⟨wk, hw1, hw2⟩ := hJ.x5.qw
  refine lv_aload_n K.hx K.hb dL_law_325 rfl (lv_at hl 2 rfl) ?_
  refine lw_arg (a := 0) (k := 1) K hS hl rfl rfl (by omega) (by decide) dL_law_326 dL_law_327 dL_law_329 dL_law_330 dL_law_331 ?_
  refine lv_aload_n K.hx K.hb dL_law_332 rfl (lv_at hl 4 rfl) ?_
  refine cx_WSi (As := [.ref (ad 0), .int (xs (q + 1)), .ref (ad 1100)]) (rest := []) (mc := 4) (ms := 24) ⟨K.hx, K.hb, K.hml, K.hown, K.hts⟩ (c_L_points K.hD (c_X5_points K.st9 K.hD K.N8 K.V1 K.V4 K.hM K.M40 K.hm hJ.x5.qo hJ.x5.qH hJ.x5.xa) (fun E h => h.imp (fun h => h.1) (fun h => h.1)) h00 hJ.x5.qo K.h11 hJ.cj (by rintro r u ⟨-, -, -, -, -, hug⟩; rw [hug])) (vx_cwSW 3 K.hts gL_law_L_points rfl rfl rfl (by decide +kernel) ⟨Nat.le_of_ble_eq_true rfl, Nat.le_of_ble_eq_true rfl⟩) K.hK K.hX hP hS (Nat.le_refl _) hc rfl hl.1 rfl (Nat.le_of_ble_eq_true rfl) dL_law_333 (fun k g1 H locs hp hP hS => ?_)
  refine lv_istore (lv' := (5, .int k) :: lwl b ad q) K.hx K.hb dL_law_336 hl (by decide) rfl (fun ls hl => ?_)
  have hf1 : ∀ j : Nat, 1000 ≤ j → j < 1100 → g1 j = g j := by
    intro j hj1 hj2
    rcases hp with ⟨-, r0, u0, z0, ⟨-, -, -, -, -, hug⟩, -, -, hu⟩ | ⟨-, -, hu⟩ | ⟨-, -, hu⟩
    · exact (hu j (by omega)).trans (by rw [hug])
    · rw [hu]
    · rw [hu]
  have h6 : J6 G ad g1 N V th T := hJ.x6.kept hf1
  obtain ⟨sz, co⟩ := h6.qo
  obtain ⟨fm, hF1, hF2⟩ := h6.qF
  obtain ⟨mn, pq, cm, nd, nx, tb, pz, hQ1, hQ2, hQ3, hQ4, hQ5, hQ6, hQ7, hqp, hpv⟩ := h6.xq
  obtain ⟨rz, eq, hW1, hW2, hW3⟩ := h6.qW
  obtain ⟨nf, hNF1, hNF2⟩ := h6.qNF
  obtain ⟨rr, hR1, hR2⟩ := h6.qR
  refine lv_aload_n K.hx K.hb dL_law_338 rfl (lv_at hl 4 rfl) ?_
  refine lw_arg (a := 1) (k := 1) K hS hl rfl rfl (by omega) (by decide) dL_law_339 dL_law_340 dL_law_342 dL_law_343 dL_law_344 ?_
  refine cx_Vi (As := [.int (xs (q + 1))]) (rest := []) ⟨K.hx, K.hb, K.hml, K.hown, K.hts⟩ (c_X6_points K.hD K.N1 K.N8 K.V1 K.V4 K.hq co hQ1) (cwV 1 K.hts gL_law_X6_points rfl rfl rfl (by decide +kernel) ⟨Nat.le_of_ble_eq_true rfl, Nat.le_of_ble_eq_true rfl⟩) K.hK hP hS (Nat.le_refl _) (K.hq _ (by decide)) co rfl hc rfl hl.1 rfl (Nat.le_of_ble_eq_true rfl) dL_law_345 (fun r6 g2 H locs hp2 hP hS => ?_)
  refine lv_istore (lv' := (6, .int r6) :: (5, .int k) :: lwl b ad q) K.hx K.hb dL_law_348 hl (by decide) rfl (fun ls hl => ?_)
  have hE : JE1 G ad g2 N V M k r6 := by
    obtain ⟨fr6, rc, hask, co2, hval⟩ := hp2
    rcases hp with ⟨hk, r0, u0, z0, ⟨k1, h1, e1, ha, er5, hug⟩, hz0, hcj, hu⟩ | ⟨hk, hexA, hu⟩ | ⟨hk, hexS, hu⟩
    · rcases hask with ⟨hrc, hn2⟩ | ⟨hrc, hi2, ha2⟩ | ⟨hrc, hi2, ha2⟩
      · exact absurd ⟨k1, Nat.zero_le _, h1, e1⟩ hn2
      · rw [ha] at ha2; cases ha2
      · obtain ⟨k1b, h1b, e1b, er6⟩ := hval hrc
        have ekk : k1b = k1 := (nI_eq (by omega) (by omega)).mp (e1b.symm.trans e1)
        rw [hrc] at co2
        rw [ekk] at er6
        exact ⟨T, 0, vp_updL o 0 z0, hk, ⟨J5.kept (g := u0) (T := T) (by rw [hug]; exact hJ.x5) K.V4 K.N8 (fun j hj => (fr6 j (by have h9 := lbX_lt K.N8 K.V4 K.M40 hj; omega)).trans (hu j (by have h9 := lbX_lt K.N8 K.V4 K.M40 hj; omega))), ⟨⟨_, co2⟩, (fr6 1003 (by omega)).trans h6.qd, (fr6 1005 (by omega)).trans h6.qFO, (fr6 1006 (by omega)).trans h6.qTO, (fr6 1007 (by omega)).trans h6.qK, (fr6 1008 (by omega)).trans h6.qZ, ⟨fm, (fr6 1009 (by omega)).trans hF1, hF2⟩, h6.xq.kept (fun j hj => fr6 j (by unfold lbQ at hj; omega)), ⟨rz, eq, (fr6 1018 (by omega)).trans hW1, (fr6 1019 (by omega)).trans hW2, hW3⟩, (fr6 1021 (by omega)).trans h6.qv, (fr6 1023 (by omega)).trans h6.qNN, ⟨nf, (fr6 1024 (by omega)).trans hNF1, hNF2⟩, ⟨rr, hR1, (fr6 1028 (by omega)).trans hR2⟩⟩, hJ.jp, (fr6 1100 (by omega)).trans hcj⟩, fun _ => (if_pos rfl : vp_updL o 0 z0 0 = z0).trans (by rw [hz0, er5, er6, hqp.1 k1 h1])⟩
    · have hne := hexA.elim (fun h => h.2) (fun h => absurd h.1 nIAIS)
      have hJq : JJ G ad g1 N V M th T o := by rw [hu]; exact hJ
      rcases hask with ⟨hrc, hn2⟩ | ⟨hrc, hi2, ha2⟩ | ⟨hrc, hi2, ha2⟩
      · rw [hrc] at co2
        exact ⟨T, 1, o, hk, ⟨hJq.x5.kept K.V4 K.N8 (fun j hj => fr6 j (by have h9 := lbX_lt K.N8 K.V4 K.M40 hj; omega)), ⟨⟨_, co2⟩, (fr6 1003 (by omega)).trans h6.qd, (fr6 1005 (by omega)).trans h6.qFO, (fr6 1006 (by omega)).trans h6.qTO, (fr6 1007 (by omega)).trans h6.qK, (fr6 1008 (by omega)).trans h6.qZ, ⟨fm, (fr6 1009 (by omega)).trans hF1, hF2⟩, h6.xq.kept (fun j hj => fr6 j (by unfold lbQ at hj; omega)), ⟨rz, eq, (fr6 1018 (by omega)).trans hW1, (fr6 1019 (by omega)).trans hW2, hW3⟩, (fr6 1021 (by omega)).trans h6.qv, (fr6 1023 (by omega)).trans h6.qNN, ⟨nf, (fr6 1024 (by omega)).trans hNF1, hNF2⟩, ⟨rr, hR1, (fr6 1028 (by omega)).trans hR2⟩⟩, hJ.jp, (fr6 1100 (by omega)).trans hJq.cj⟩, fun h => absurd (hk.symm.trans h) (by decide)⟩
      · exact absurd hi2 hne
      · exact absurd hi2 hne
    · obtain ⟨hpre, hna⟩ := hexS.elim (fun h => absurd h.1.symm nIAIS) (fun h => h.2)
      have hJq : JJ G ad g1 N V M th T o := by rw [hu]; exact hJ
      rcases hask with ⟨hrc, hn2⟩ | ⟨hrc, hi2, ha2⟩ | ⟨hrc, hi2, ha2⟩
      · exact absurd hpre hn2
      · rw [hrc] at co2
        exact ⟨T, 2, o, hk, ⟨hJq.x5.kept K.V4 K.N8 (fun j hj => fr6 j (by have h9 := lbX_lt K.N8 K.V4 K.M40 hj; omega)), ⟨⟨_, co2⟩, (fr6 1003 (by omega)).trans h6.qd, (fr6 1005 (by omega)).trans h6.qFO, (fr6 1006 (by omega)).trans h6.qTO, (fr6 1007 (by omega)).trans h6.qK, (fr6 1008 (by omega)).trans h6.qZ, ⟨fm, (fr6 1009 (by omega)).trans hF1, hF2⟩, h6.xq.kept (fun j hj => fr6 j (by unfold lbQ at hj; omega)), ⟨rz, eq, (fr6 1018 (by omega)).trans hW1, (fr6 1019 (by omega)).trans hW2, hW3⟩, (fr6 1021 (by omega)).trans h6.qv, (fr6 1023 (by omega)).trans h6.qNN, ⟨nf, (fr6 1024 (by omega)).trans hNF1, hNF2⟩, ⟨rr, hR1, (fr6 1028 (by omega)).trans hR2⟩⟩, hJ.jp, (fr6 1100 (by omega)).trans hJq.cj⟩, fun h => absurd (hk.symm.trans h) (by decide)⟩
      · exact absurd ha2 hna
  exact lw_end1 K hE hP hS hl hz ⟨Nat.le_refl _, Nat.le_refl _⟩ hc dL_law_350 dL_law_351 dL_law_354 dL_law_356 dL_law_361 dL_law_363 dL_law_366 dL_law_367 dL_law_368 dL_law_369 dL_law_371 dL_law_372 dL_law_373 dL_law_378 (by omega)

set_option maxHeartbeats 4000000 in
set_option maxRecDepth 100000 in
theorem k_equations {p : Program} {l : Launch} {e : Env} {s : State} {m : MethodId} {below : List Frame} {meth : Method} {c : Code} {H : Heap} {locs : List Loc} {cells slots : Nat} {Q : State → Prop} {ls : Array Slot} {G : cx_G} {L : List Nat} {ad : Nat → Nat} {g : Nat → va_E} {b Ln N V M q th : Nat} {xs : Nat → Int32} {T : TA} {o : Nat → Int64} (K : LK p l s m c G L ad b Ln xs N V M) (hJ : JJ G ad g N V M th T o) (hP : va_P G.1 vwCl (wl L ad g) H) (hS : va_S (cx_A L ad s.heap.size) s.heap H locs) (hl : lv_has ls 7 (lwl b ad q)) (hq5 : q + 4 < Ln) (hc : cells + 4 ≤ 634768 ∧ slots + 24 ≤ 7191766) (hz : LZ p l e s m below meth c Q G L ad b N V M q cells slots) : W p l e room_1 s m #[Value.ref b] below meth c H locs cells slots Q (F0 m 461 ls []) := by
  have hN1 := K.N1
  have hN8 := K.N8
  have hV1 := K.V1
  have hV4 := K.V4
  have h00 : 0 ∈ L := K.hm 0 (Or.inl (by decide))
  obtain ⟨wk, hw1, hw2⟩ := hJ.x5.qw
  refine lv_aload_n K.hx K.hb dL_law_461 rfl (lv_at hl 2 rfl) ?_
  refine lw_arg (a := 0) (k := 1) K hS hl rfl rfl (by omega) (by decide) dL_law_462 dL_law_463 dL_law_465 dL_law_466 dL_law_467 ?_
  refine lv_aload_n K.hx K.hb dL_law_468 rfl (lv_at hl 4 rfl) ?_
  refine cx_WSi (As := [.ref (ad 0), .int (xs (q + 1)), .ref (ad 1100)]) (rest := []) (mc := 4) (ms := 24) ⟨K.hx, K.hb, K.hml, K.hown, K.hts⟩ (c_L_equations K.hD (c_X5_equations K.st9 K.hD K.N8 K.V1 K.V4 K.hM K.M40 K.hm hJ.x5.qo hJ.x5.qH hJ.x5.xa) (fun E h => h.imp (fun h => h.1) (fun h => h.1)) h00 hJ.x5.qo K.h11 hJ.cj (by rintro r u ⟨-, -, -, -, -, hug⟩; rw [hug])) (vx_cwSW 3 K.hts gL_law_L_equations rfl rfl rfl (by decide +kernel) ⟨Nat.le_of_ble_eq_true rfl, Nat.le_of_ble_eq_true rfl⟩) K.hK K.hX hP hS (Nat.le_refl _) hc rfl hl.1 rfl (Nat.le_of_ble_eq_true rfl) dL_law_469 (fun k g1 H locs hp hP hS => ?_)
  refine lv_istore (lv' := (5, .int k) :: lwl b ad q) K.hx K.hb dL_law_472 hl (by decide) rfl (fun ls hl => ?_)
  have hf1 : ∀ j : Nat, 1000 ≤ j → j < 1100 → g1 j = g j := by
    intro j hj1 hj2
    rcases hp with ⟨-, r0, u0, z0, ⟨-, -, -, -, -, hug⟩, -, -, hu⟩ | ⟨-, -, hu⟩ | ⟨-, -, hu⟩
    · exact (hu j (by omega)).trans (by rw [hug])
    · rw [hu]
    · rw [hu]
  have h6 : J6 G ad g1 N V th T := hJ.x6.kept hf1
  obtain ⟨sz, co⟩ := h6.qo
  obtain ⟨fm, hF1, hF2⟩ := h6.qF
  obtain ⟨mn, pq, cm, nd, nx, tb, pz, hQ1, hQ2, hQ3, hQ4, hQ5, hQ6, hQ7, hqp, hpv⟩ := h6.xq
  obtain ⟨rz, eq, hW1, hW2, hW3⟩ := h6.qW
  obtain ⟨nf, hNF1, hNF2⟩ := h6.qNF
  obtain ⟨rr, hR1, hR2⟩ := h6.qR
  refine lv_aload_n K.hx K.hb dL_law_474 rfl (lv_at hl 4 rfl) ?_
  refine lw_arg (a := 1) (k := 1) K hS hl rfl rfl (by omega) (by decide) dL_law_475 dL_law_476 dL_law_478 dL_law_479 dL_law_480 ?_
  refine cx_Vi (As := [.int (xs (q + 1))]) (rest := []) ⟨K.hx, K.hb, K.hml, K.hown, K.hts⟩ (c_X6_equations K.hD K.N1 K.N8 K.V1 K.V4 K.hq co hW1) (cwV 1 K.hts gL_law_X6_equations rfl rfl rfl (by decide +kernel) ⟨Nat.le_of_ble_eq_true rfl, Nat.le_of_ble_eq_true rfl⟩) K.hK hP hS (Nat.le_refl _) (K.hq _ (by decide)) co rfl hc rfl hl.1 rfl (Nat.le_of_ble_eq_true rfl) dL_law_481 (fun r6 g2 H locs hp2 hP hS => ?_)
  refine lv_istore (lv' := (6, .int r6) :: (5, .int k) :: lwl b ad q) K.hx K.hb dL_law_484 hl (by decide) rfl (fun ls hl => ?_)
  have hE : JE1 G ad g2 N V M k r6 := by
    obtain ⟨fr6, rc, hask, co2, hval⟩ := hp2
    rcases hp with ⟨hk, r0, u0, z0, ⟨k1, h1, e1, ha, er5, hug⟩, hz0, hcj, hu⟩ | ⟨hk, hexA, hu⟩ | ⟨hk, hexS, hu⟩
    · rcases hask with ⟨hrc, hn2⟩ | ⟨hrc, hi2, ha2⟩ | ⟨hrc, hi2, ha2⟩
      · exact absurd ⟨k1, Nat.zero_le _, h1, e1⟩ hn2
      · rw [ha] at ha2; cases ha2
      · obtain ⟨k1b, h1b, e1b, er6⟩ := hval hrc
        have ekk : k1b = k1 := (nI_eq (by omega) (by omega)).mp (e1b.symm.trans e1)
        rw [hrc] at co2
        rw [ekk] at er6
        exact ⟨T, 0, vp_updL o 0 z0, hk, ⟨J5.kept (g := u0) (T := T) (by rw [hug]; exact hJ.x5) K.V4 K.N8 (fun j hj => (fr6 j (by have h9 := lbX_lt K.N8 K.V4 K.M40 hj; omega)).trans (hu j (by have h9 := lbX_lt K.N8 K.V4 K.M40 hj; omega))), ⟨⟨_, co2⟩, (fr6 1003 (by omega)).trans h6.qd, (fr6 1005 (by omega)).trans h6.qFO, (fr6 1006 (by omega)).trans h6.qTO, (fr6 1007 (by omega)).trans h6.qK, (fr6 1008 (by omega)).trans h6.qZ, ⟨fm, (fr6 1009 (by omega)).trans hF1, hF2⟩, h6.xq.kept (fun j hj => fr6 j (by unfold lbQ at hj; omega)), ⟨rz, eq, (fr6 1018 (by omega)).trans hW1, (fr6 1019 (by omega)).trans hW2, hW3⟩, (fr6 1021 (by omega)).trans h6.qv, (fr6 1023 (by omega)).trans h6.qNN, ⟨nf, (fr6 1024 (by omega)).trans hNF1, hNF2⟩, ⟨rr, hR1, (fr6 1028 (by omega)).trans hR2⟩⟩, hJ.jp, (fr6 1100 (by omega)).trans hcj⟩, fun _ => (if_pos rfl : vp_updL o 0 z0 0 = z0).trans (by rw [hz0, er5, er6, (hW3 ha k1 h1).1])⟩
    · have hne := hexA.elim (fun h => h.2) (fun h => absurd h.1 nIAIS)
      have hJq : JJ G ad g1 N V M th T o := by rw [hu]; exact hJ
      rcases hask with ⟨hrc, hn2⟩ | ⟨hrc, hi2, ha2⟩ | ⟨hrc, hi2, ha2⟩
      · rw [hrc] at co2
        exact ⟨T, 1, o, hk, ⟨hJq.x5.kept K.V4 K.N8 (fun j hj => fr6 j (by have h9 := lbX_lt K.N8 K.V4 K.M40 hj; omega)), ⟨⟨_, co2⟩, (fr6 1003 (by omega)).trans h6.qd, (fr6 1005 (by omega)).trans h6.qFO, (fr6 1006 (by omega)).trans h6.qTO, (fr6 1007 (by omega)).trans h6.qK, (fr6 1008 (by omega)).trans h6.qZ, ⟨fm, (fr6 1009 (by omega)).trans hF1, hF2⟩, h6.xq.kept (fun j hj => fr6 j (by unfold lbQ at hj; omega)), ⟨rz, eq, (fr6 1018 (by omega)).trans hW1, (fr6 1019 (by omega)).trans hW2, hW3⟩, (fr6 1021 (by omega)).trans h6.qv, (fr6 1023 (by omega)).trans h6.qNN, ⟨nf, (fr6 1024 (by omega)).trans hNF1, hNF2⟩, ⟨rr, hR1, (fr6 1028 (by omega)).trans hR2⟩⟩, hJ.jp, (fr6 1100 (by omega)).trans hJq.cj⟩, fun h => absurd (hk.symm.trans h) (by decide)⟩
      · exact absurd hi2 hne
      · exact absurd hi2 hne
    · obtain ⟨hpre, hna⟩ := hexS.elim (fun h => absurd h.1.symm nIAIS) (fun h => h.2)
      have hJq : JJ G ad g1 N V M th T o := by rw [hu]; exact hJ
      rcases hask with ⟨hrc, hn2⟩ | ⟨hrc, hi2, ha2⟩ | ⟨hrc, hi2, ha2⟩
      · exact absurd hpre hn2
      · rw [hrc] at co2
        exact ⟨T, 2, o, hk, ⟨hJq.x5.kept K.V4 K.N8 (fun j hj => fr6 j (by have h9 := lbX_lt K.N8 K.V4 K.M40 hj; omega)), ⟨⟨_, co2⟩, (fr6 1003 (by omega)).trans h6.qd, (fr6 1005 (by omega)).trans h6.qFO, (fr6 1006 (by omega)).trans h6.qTO, (fr6 1007 (by omega)).trans h6.qK, (fr6 1008 (by omega)).trans h6.qZ, ⟨fm, (fr6 1009 (by omega)).trans hF1, hF2⟩, h6.xq.kept (fun j hj => fr6 j (by unfold lbQ at hj; omega)), ⟨rz, eq, (fr6 1018 (by omega)).trans hW1, (fr6 1019 (by omega)).trans hW2, hW3⟩, (fr6 1021 (by omega)).trans h6.qv, (fr6 1023 (by omega)).trans h6.qNN, ⟨nf, (fr6 1024 (by omega)).trans hNF1, hNF2⟩, ⟨rr, hR1, (fr6 1028 (by omega)).trans hR2⟩⟩, hJ.jp, (fr6 1100 (by omega)).trans hJq.cj⟩, fun h => absurd (hk.symm.trans h) (by decide)⟩
      · exact absurd ha2 hna
  exact lw_end1 K hE hP hS hl hz ⟨Nat.le_refl _, Nat.le_refl _⟩ hc dL_law_486 dL_law_487 dL_law_490 dL_law_492 dL_law_497 dL_law_499 dL_law_502 dL_law_503 dL_law_504 dL_law_505 dL_law_507 dL_law_508 dL_law_509 dL_law_514 (by omega)

set_option maxHeartbeats 4000000 in
set_option maxRecDepth 100000 in
theorem k_at {p : Program} {l : Launch} {e : Env} {s : State} {m : MethodId} {below : List Frame} {meth : Method} {c : Code} {H : Heap} {locs : List Loc} {cells slots : Nat} {Q : State → Prop} {ls : Array Slot} {G : cx_G} {L : List Nat} {ad : Nat → Nat} {g : Nat → va_E} {b Ln N V M q th : Nat} {xs : Nat → Int32} {T : TA} {o : Nat → Int64} (K : LK p l s m c G L ad b Ln xs N V M) (hJ : JJ G ad g N V M th T o) (hP : va_P G.1 vwCl (wl L ad g) H) (hS : va_S (cx_A L ad s.heap.size) s.heap H locs) (hl : lv_has ls 7 (lwl b ad q)) (hq5 : q + 4 < Ln) (hc : cells + 4 ≤ 634768 ∧ slots + 24 ≤ 7191766) (hz : LZ p l e s m below meth c Q G L ad b N V M q cells slots) : W p l e room_1 s m #[Value.ref b] below meth c H locs cells slots Q (F0 m 783 ls []) := by
  have hN1 := K.N1
  have hN8 := K.N8
  have hV1 := K.V1
  have hV4 := K.V4
  have h00 : 0 ∈ L := K.hm 0 (Or.inl (by decide))
  obtain ⟨wk, hw1, hw2⟩ := hJ.x5.qw
  refine lv_aload_n K.hx K.hb dL_law_783 rfl (lv_at hl 2 rfl) ?_
  refine lw_arg (a := 0) (k := 1) K hS hl rfl rfl (by omega) (by decide) dL_law_784 dL_law_785 dL_law_787 dL_law_788 dL_law_789 ?_
  refine lv_aload_n K.hx K.hb dL_law_790 rfl (lv_at hl 4 rfl) ?_
  refine cx_WSi (As := [.ref (ad 0), .int (xs (q + 1)), .ref (ad 1100)]) (rest := []) (mc := 4) (ms := 24) ⟨K.hx, K.hb, K.hml, K.hown, K.hts⟩ (c_L_at K.hD (c_X5_at K.st9 K.hD K.N8 K.V1 K.V4 K.hM K.M40 K.hm hJ.x5.qo hJ.x5.qv) (fun E h => h.1) h00 hJ.x5.qo K.h11 hJ.cj (by rintro r u ⟨-, -, -, -, hug⟩; rw [hug])) (vx_cwSW 3 K.hts gL_law_L_at rfl rfl rfl (by decide +kernel) ⟨Nat.le_of_ble_eq_true rfl, Nat.le_of_ble_eq_true rfl⟩) K.hK K.hX hP hS (Nat.le_refl _) hc rfl hl.1 rfl (Nat.le_of_ble_eq_true rfl) dL_law_791 (fun k g1 H locs hp hP hS => ?_)
  refine lv_istore (lv' := (5, .int k) :: lwl b ad q) K.hx K.hb dL_law_794 hl (by decide) rfl (fun ls hl => ?_)
  have hf1 : ∀ j : Nat, 1000 ≤ j → j < 1100 → g1 j = g j := by
    intro j hj1 hj2
    rcases hp with ⟨-, r0, u0, z0, ⟨-, -, -, -, hug⟩, -, -, hu⟩ | ⟨-, -, hu⟩
    · exact (hu j (by omega)).trans (by rw [hug])
    · rw [hu]
  have h6 : J6 G ad g1 N V th T := hJ.x6.kept hf1
  obtain ⟨sz, co⟩ := h6.qo
  obtain ⟨fm, hF1, hF2⟩ := h6.qF
  obtain ⟨mn, pq, cm, nd, nx, tb, pz, hQ1, hQ2, hQ3, hQ4, hQ5, hQ6, hQ7, hqp, hpv⟩ := h6.xq
  obtain ⟨rz, eq, hW1, hW2, hW3⟩ := h6.qW
  obtain ⟨nf, hNF1, hNF2⟩ := h6.qNF
  obtain ⟨rr, hR1, hR2⟩ := h6.qR
  refine lv_aload_n K.hx K.hb dL_law_796 rfl (lv_at hl 4 rfl) ?_
  refine lw_arg (a := 1) (k := 1) K hS hl rfl rfl (by omega) (by decide) dL_law_797 dL_law_798 dL_law_800 dL_law_801 dL_law_802 ?_
  refine cx_Vi (As := [.int (xs (q + 1))]) (rest := []) ⟨K.hx, K.hb, K.hml, K.hown, K.hts⟩ (c_X6_at K.hD K.N1 K.N8 K.V1 K.V4 K.hq co h6.qv) (cwV 1 K.hts gL_law_X6_at rfl rfl rfl (by decide +kernel) ⟨Nat.le_of_ble_eq_true rfl, Nat.le_of_ble_eq_true rfl⟩) K.hK hP hS (Nat.le_refl _) (K.hq _ (by decide)) co rfl hc rfl hl.1 rfl (Nat.le_of_ble_eq_true rfl) dL_law_803 (fun r6 g2 H locs hp2 hP hS => ?_)
  refine lv_istore (lv' := (6, .int r6) :: (5, .int k) :: lwl b ad q) K.hx K.hb dL_law_806 hl (by decide) rfl (fun ls hl => ?_)
  have hE : JE1 G ad g2 N V M k r6 := by
    obtain ⟨fr6, hp2⟩ := hp2
    rcases hp with ⟨hk, r0, u0, z0, ⟨k1, h1, e1, er5, hug⟩, hz0, hcj, hu⟩ | ⟨hk, ⟨-, hne⟩, hu⟩
    · rcases hp2 with ⟨k1b, h1b, e1b, co2, er6⟩ | ⟨hne, -⟩
      · have ekk : k1b = k1 := (nI_eq (by omega) (by omega)).mp (e1b.symm.trans e1)
        rw [ekk] at er6
        exact ⟨T, 0, vp_updL o 0 z0, hk, ⟨J5.kept (g := u0) (T := T) (by rw [hug]; exact hJ.x5) K.V4 K.N8 (fun j hj => (fr6 j (by have h9 := lbX_lt K.N8 K.V4 K.M40 hj; omega)).trans (hu j (by have h9 := lbX_lt K.N8 K.V4 K.M40 hj; omega))), ⟨⟨_, co2⟩, (fr6 1003 (by omega)).trans h6.qd, (fr6 1005 (by omega)).trans h6.qFO, (fr6 1006 (by omega)).trans h6.qTO, (fr6 1007 (by omega)).trans h6.qK, (fr6 1008 (by omega)).trans h6.qZ, ⟨fm, (fr6 1009 (by omega)).trans hF1, hF2⟩, h6.xq.kept (fun j hj => fr6 j (by unfold lbQ at hj; omega)), ⟨rz, eq, (fr6 1018 (by omega)).trans hW1, (fr6 1019 (by omega)).trans hW2, hW3⟩, (fr6 1021 (by omega)).trans h6.qv, (fr6 1023 (by omega)).trans h6.qNN, ⟨nf, (fr6 1024 (by omega)).trans hNF1, hNF2⟩, ⟨rr, hR1, (fr6 1028 (by omega)).trans hR2⟩⟩, hJ.jp, (fr6 1100 (by omega)).trans hcj⟩, fun _ => (if_pos rfl : vp_updL o 0 z0 0 = z0).trans (by rw [hz0, er5, er6])⟩
      · exact absurd ⟨k1, Nat.zero_le _, h1, e1⟩ hne
    · have hJq : JJ G ad g1 N V M th T o := by rw [hu]; exact hJ
      rcases hp2 with ⟨k1b, h1b, e1b, -⟩ | ⟨-, co2⟩
      · exact absurd ⟨k1b, Nat.zero_le _, h1b, e1b⟩ hne
      · exact ⟨T, 1, o, hk, ⟨hJq.x5.kept K.V4 K.N8 (fun j hj => fr6 j (by have h9 := lbX_lt K.N8 K.V4 K.M40 hj; omega)), ⟨⟨_, co2⟩, (fr6 1003 (by omega)).trans h6.qd, (fr6 1005 (by omega)).trans h6.qFO, (fr6 1006 (by omega)).trans h6.qTO, (fr6 1007 (by omega)).trans h6.qK, (fr6 1008 (by omega)).trans h6.qZ, ⟨fm, (fr6 1009 (by omega)).trans hF1, hF2⟩, h6.xq.kept (fun j hj => fr6 j (by unfold lbQ at hj; omega)), ⟨rz, eq, (fr6 1018 (by omega)).trans hW1, (fr6 1019 (by omega)).trans hW2, hW3⟩, (fr6 1021 (by omega)).trans h6.qv, (fr6 1023 (by omega)).trans h6.qNN, ⟨nf, (fr6 1024 (by omega)).trans hNF1, hNF2⟩, ⟨rr, hR1, (fr6 1028 (by omega)).trans hR2⟩⟩, hJ.jp, (fr6 1100 (by omega)).trans hJq.cj⟩, fun h => absurd (hk.symm.trans h) (by decide)⟩
  exact lw_end1 K hE hP hS hl hz ⟨Nat.le_refl _, Nat.le_refl _⟩ hc dL_law_808 dL_law_809 dL_law_812 dL_law_814 dL_law_819 dL_law_821 dL_law_824 dL_law_825 dL_law_826 dL_law_827 dL_law_829 dL_law_830 dL_law_831 dL_law_836 (by omega)
