/-! THE LAW: the cases -/
set_option maxHeartbeats 4000000 in
set_option maxRecDepth 100000 in
theorem k_point {p : Program} {l : Launch} {e : Env} {s : State} {m : MethodId} {below : List Frame} {meth : Method} {c : Code} {H : Heap} {locs : List Loc} {cells slots : Nat} {Q : State → Prop} {ls : Array Slot} {G : cx_G} {L : List Nat} {ad : Nat → Nat} {g : Nat → va_E} {b Ln N V M q th : Nat} {xs : Nat → Int32} {T : TA} {o : Nat → Int64} (K : LK p l s m c G L ad b Ln xs N V M) (hJ : JJ G ad g N V M th T o) (hP : va_P G.1 vwCl (wl L ad g) H) (hS : va_S (cx_A L ad s.heap.size) s.heap H locs) (hl : lv_has ls 7 (lwl b ad q)) (hq5 : q + 4 < Ln) (hc : cells + 4 ≤ 634768 ∧ slots + 24 ≤ 7191766) (hz : LZ p l e s m below meth c Q G L ad b N V M q cells slots) : W p l e room_1 s m #[Value.ref b] below meth c H locs cells slots Q (F0 m 381 ls []) := by
  have hN1 := K.N1
  have hN8 := K.N8
  have hV1 := K.V1
  have hV4 := K.V4
  have h00 : 0 ∈ L := K.hm 0 (Or.inl (by decide))
  obtain ⟨wk, hw1, hw2⟩ := hJ.x5.qw
  refine lv_aload_n K.hx K.hb dL_law_381 rfl (lv_at hl 2 rfl) ?_
  refine lw_arg (a := 0) (k := 1) K hS hl rfl rfl (by omega) (by decide) dL_law_382 dL_law_383 dL_law_385 dL_law_386 dL_law_387 ?_
  refine lw_arg (a := 0) (k := 2) K hS hl rfl rfl (by omega) (by decide) dL_law_388 dL_law_389 dL_law_391 dL_law_392 dL_law_393 ?_
  refine lw_arg (a := 0) (k := 3) K hS hl rfl rfl (by omega) (by decide) dL_law_394 dL_law_395 dL_law_397 dL_law_398 dL_law_399 ?_
  refine lv_aload_n K.hx K.hb dL_law_400 rfl (lv_at hl 4 rfl) ?_
  refine cx_WSi (As := [.ref (ad 0), .int (xs (q + 1)), .int (xs (q + 2)), .int (xs (q + 3)), .ref (ad 1100)]) (rest := []) (mc := 4) (ms := 24) ⟨K.hx, K.hb, K.hml, K.hown, K.hts⟩ (c_L_point K.hD (c_X5_point K.st9 K.hD K.N8 K.V1 K.V4 K.hM K.M40 K.hm hJ.x5.qo hJ.x5.qH hJ.x5.qA hJ.x5.xa) (fun E h => h.imp (fun h => h.1) (fun h => h.imp (fun h => h.1) (fun h => h.1))) h00 hJ.x5.qo K.h11 hJ.cj (by rintro r u ⟨-, -, -, -, -, -, -, -, -, -, -, hug⟩; rw [hug])) (vx_cwSW 5 K.hts gL_law_L_point rfl rfl rfl (by decide +kernel) ⟨Nat.le_of_ble_eq_true rfl, Nat.le_of_ble_eq_true rfl⟩) K.hK K.hX hP hS (Nat.le_refl _) hc rfl hl.1 rfl (Nat.le_of_ble_eq_true rfl) dL_law_401 (fun k g1 H locs hp hP hS => ?_)
  refine lv_istore (lv' := (5, .int k) :: lwl b ad q) K.hx K.hb dL_law_404 hl (by decide) rfl (fun ls hl => ?_)
  have hf1 : ∀ j : Nat, 1000 ≤ j → j < 1100 → g1 j = g j := by
    intro j hj1 hj2
    rcases hp with ⟨-, r0, u0, z0, ⟨-, -, -, -, -, -, -, -, -, -, -, hug⟩, -, -, hu⟩ | ⟨-, -, hu⟩ | ⟨-, -, hu⟩ | ⟨-, -, hu⟩
    · exact (hu j (by omega)).trans (by rw [hug])
    · rw [hu]
    · rw [hu]
    · rw [hu]
  have h6 : J6 G ad g1 N V th T := hJ.x6.kept hf1
  obtain ⟨sz, co⟩ := h6.qo
  obtain ⟨fm, hF1, hF2⟩ := h6.qF
  obtain ⟨mn, pq, cm, nd, nx, tb, pz, hQ1, hQ2, hQ3, hQ4, hQ5, hQ6, hQ7, hqp, hpv⟩ := h6.xq
  obtain ⟨rz, eq, hW1, hW2, hW3⟩ := h6.qW
  obtain ⟨nf, hNF1, hNF2⟩ := h6.qNF
  obtain ⟨rr, hR1, hR2⟩ := h6.qR
  refine lv_aload_n K.hx K.hb dL_law_406 rfl (lv_at hl 4 rfl) ?_
  refine lw_arg (a := 1) (k := 1) K hS hl rfl rfl (by omega) (by decide) dL_law_407 dL_law_408 dL_law_410 dL_law_411 dL_law_412 ?_
  refine lw_arg (a := 1) (k := 2) K hS hl rfl rfl (by omega) (by decide) dL_law_413 dL_law_414 dL_law_416 dL_law_417 dL_law_418 ?_
  refine lw_arg (a := 1) (k := 3) K hS hl rfl rfl (by omega) (by decide) dL_law_419 dL_law_420 dL_law_422 dL_law_423 dL_law_424 ?_
  refine cx_Vi (As := [.int (xs (q + 1)), .int (xs (q + 2)), .int (xs (q + 3))]) (rest := []) ⟨K.hx, K.hb, K.hml, K.hown, K.hts⟩ (c_X6_point K.hD K.N1 K.N8 K.V1 K.V4 K.hq co hQ1 hQ3 hQ2 (fun _ i hi => by rw [hqp.1 i hi]; have h9 := hpv.cnt hi; omega)) (cwV 3 K.hts gL_law_X6_point rfl rfl rfl (by decide +kernel) ⟨Nat.le_of_ble_eq_true rfl, Nat.le_of_ble_eq_true rfl⟩) K.hK hP hS (Nat.le_refl _) (K.hq _ (by decide)) co rfl hc rfl hl.1 rfl (Nat.le_of_ble_eq_true rfl) dL_law_425 (fun r6 g2 H locs hp2 hP hS => ?_)
  refine lv_istore (lv' := (6, .int r6) :: (5, .int k) :: lwl b ad q) K.hx K.hb dL_law_428 hl (by decide) rfl (fun ls hl => ?_)
  have hE : JE1 G ad g2 N V M k r6 := by
    obtain ⟨fr6, hp2⟩ := hp2
    rcases hp with ⟨hk, r0, u0, z0, ⟨k1, k2, k3, h1, h2, h3, e1, e2, e3, ha, er5, hug⟩, hz0, hcj, hu⟩ | ⟨hk, hexA, hu⟩ | ⟨hk, hexS, hu⟩ | ⟨hk, hexO, hu⟩
    · rcases hp2 with ⟨hne, -⟩ | ⟨-, ha2, -⟩ | ⟨k1b, k3b, h1b, h3b, e1b, e3b, -, hno, -⟩ | ⟨k1b, k2b, k3b, h1b, h2b, h3b, e1b, e2b, e3b, -, co2, er6⟩
      · exact absurd ⟨⟨k1, Nat.zero_le _, h1, e1⟩, ⟨k3, Nat.zero_le _, h3, e3⟩⟩ hne
      · rw [ha] at ha2; cases ha2
      · have ek1 : k1b = k1 := (nI_eq (by omega) (by omega)).mp (e1b.symm.trans e1)
        rw [ek1, hqp.1 k1 h1] at hno
        exact absurd ⟨k2, Nat.zero_le _, h2, e2⟩ hno
      · have ek1 : k1b = k1 := (nI_eq (by omega) (by omega)).mp (e1b.symm.trans e1)
        have hcn := hpv.cnt h1
        rw [ek1, hqp.1 k1 h1] at h2b
        have ek2 : k2b = k2 := (nI_eq (by omega) (by omega)).mp (e2b.symm.trans e2)
        have ek3 : k3b = k3 := (nI_eq (by omega) (by omega)).mp (e3b.symm.trans e3)
        rw [ek1, ek2, ek3] at er6
        exact ⟨T, 0, vp_updL o 0 z0, hk, ⟨J5.kept (g := u0) (T := T) (by rw [hug]; exact hJ.x5) K.V4 K.N8 (fun j hj => (fr6 j (by have h9 := lbX_lt K.N8 K.V4 K.M40 hj; omega)).trans (hu j (by have h9 := lbX_lt K.N8 K.V4 K.M40 hj; omega))), ⟨⟨_, co2⟩, (fr6 1003 (by omega)).trans h6.qd, (fr6 1005 (by omega)).trans h6.qFO, (fr6 1006 (by omega)).trans h6.qTO, (fr6 1007 (by omega)).trans h6.qK, (fr6 1008 (by omega)).trans h6.qZ, ⟨fm, (fr6 1009 (by omega)).trans hF1, hF2⟩, h6.xq.kept (fun j hj => fr6 j (by unfold lbQ at hj; omega)), ⟨rz, eq, (fr6 1018 (by omega)).trans hW1, (fr6 1019 (by omega)).trans hW2, hW3⟩, (fr6 1021 (by omega)).trans h6.qv, (fr6 1023 (by omega)).trans h6.qNN, ⟨nf, (fr6 1024 (by omega)).trans hNF1, hNF2⟩, ⟨rr, hR1, (fr6 1028 (by omega)).trans hR2⟩⟩, hJ.jp, (fr6 1100 (by omega)).trans hcj⟩, fun _ => (if_pos rfl : vp_updL o 0 z0 0 = z0).trans (by rw [hz0, er5, er6, hqp.2.2.1 k1 k2 h1 h2, hqp.2.1 k1 k2 k3 h1 h2 (by omega)])⟩
    · have hne := hexA.elim (fun h => h.2) (fun h => h.elim (fun h => absurd h.1 nIAIS) (fun h => absurd h.1 nIAIO))
      have hJq : JJ G ad g1 N V M th T o := by rw [hu]; exact hJ
      rcases hp2 with ⟨-, co2⟩ | ⟨hpre, -⟩ | ⟨k1b, k3b, h1b, h3b, e1b, e3b, -⟩ | ⟨k1b, k2b, k3b, h1b, h2b, h3b, e1b, e2b, e3b, -⟩
      · exact ⟨T, 1, o, hk, ⟨hJq.x5.kept K.V4 K.N8 (fun j hj => fr6 j (by have h9 := lbX_lt K.N8 K.V4 K.M40 hj; omega)), ⟨⟨_, co2⟩, (fr6 1003 (by omega)).trans h6.qd, (fr6 1005 (by omega)).trans h6.qFO, (fr6 1006 (by omega)).trans h6.qTO, (fr6 1007 (by omega)).trans h6.qK, (fr6 1008 (by omega)).trans h6.qZ, ⟨fm, (fr6 1009 (by omega)).trans hF1, hF2⟩, h6.xq.kept (fun j hj => fr6 j (by unfold lbQ at hj; omega)), ⟨rz, eq, (fr6 1018 (by omega)).trans hW1, (fr6 1019 (by omega)).trans hW2, hW3⟩, (fr6 1021 (by omega)).trans h6.qv, (fr6 1023 (by omega)).trans h6.qNN, ⟨nf, (fr6 1024 (by omega)).trans hNF1, hNF2⟩, ⟨rr, hR1, (fr6 1028 (by omega)).trans hR2⟩⟩, hJ.jp, (fr6 1100 (by omega)).trans hJq.cj⟩, fun h => absurd (hk.symm.trans h) (by decide)⟩
      · exact absurd hpre hne
      · exact absurd ⟨⟨k1b, Nat.zero_le _, h1b, e1b⟩, ⟨k3b, Nat.zero_le _, h3b, e3b⟩⟩ hne
      · exact absurd ⟨⟨k1b, Nat.zero_le _, h1b, e1b⟩, ⟨k3b, Nat.zero_le _, h3b, e3b⟩⟩ hne
    · obtain ⟨hpre, hna⟩ := hexS.elim (fun h => absurd h.1.symm nIAIS) (fun h => h.elim (fun h => h.2) (fun h => absurd h.1 nISIO))
      have hJq : JJ G ad g1 N V M th T o := by rw [hu]; exact hJ
      rcases hp2 with ⟨hne, -⟩ | ⟨-, ha2, co2⟩ | ⟨k1b, k3b, h1b, h3b, e1b, e3b, ha2, -⟩ | ⟨k1b, k2b, k3b, h1b, h2b, h3b, e1b, e2b, e3b, ha2, -⟩
      · exact absurd hpre hne
      · exact ⟨T, 2, o, hk, ⟨hJq.x5.kept K.V4 K.N8 (fun j hj => fr6 j (by have h9 := lbX_lt K.N8 K.V4 K.M40 hj; omega)), ⟨⟨_, co2⟩, (fr6 1003 (by omega)).trans h6.qd, (fr6 1005 (by omega)).trans h6.qFO, (fr6 1006 (by omega)).trans h6.qTO, (fr6 1007 (by omega)).trans h6.qK, (fr6 1008 (by omega)).trans h6.qZ, ⟨fm, (fr6 1009 (by omega)).trans hF1, hF2⟩, h6.xq.kept (fun j hj => fr6 j (by unfold lbQ at hj; omega)), ⟨rz, eq, (fr6 1018 (by omega)).trans hW1, (fr6 1019 (by omega)).trans hW2, hW3⟩, (fr6 1021 (by omega)).trans h6.qv, (fr6 1023 (by omega)).trans h6.qNN, ⟨nf, (fr6 1024 (by omega)).trans hNF1, hNF2⟩, ⟨rr, hR1, (fr6 1028 (by omega)).trans hR2⟩⟩, hJ.jp, (fr6 1100 (by omega)).trans hJq.cj⟩, fun h => absurd (hk.symm.trans h) (by decide)⟩
      · exact absurd ha2 hna
      · exact absurd ha2 hna
    · obtain ⟨ha, k1, k3, h1, h3, e1, e3, hnb⟩ := hexO.elim (fun h => absurd h.1.symm nIAIO) (fun h => h.elim (fun h => absurd h.1.symm nISIO) (fun h => h.2))
      have hJq : JJ G ad g1 N V M th T o := by rw [hu]; exact hJ
      rcases hp2 with ⟨hne, -⟩ | ⟨-, ha2, -⟩ | ⟨k1b, k3b, h1b, h3b, e1b, e3b, -, hno, co2⟩ | ⟨k1b, k2b, k3b, h1b, h2b, h3b, e1b, e2b, e3b, -⟩
      · exact absurd ⟨⟨k1, Nat.zero_le _, h1, e1⟩, ⟨k3, Nat.zero_le _, h3, e3⟩⟩ hne
      · rw [ha] at ha2; cases ha2
      · exact ⟨T, 3, o, hk, ⟨hJq.x5.kept K.V4 K.N8 (fun j hj => fr6 j (by have h9 := lbX_lt K.N8 K.V4 K.M40 hj; omega)), ⟨⟨_, co2⟩, (fr6 1003 (by omega)).trans h6.qd, (fr6 1005 (by omega)).trans h6.qFO, (fr6 1006 (by omega)).trans h6.qTO, (fr6 1007 (by omega)).trans h6.qK, (fr6 1008 (by omega)).trans h6.qZ, ⟨fm, (fr6 1009 (by omega)).trans hF1, hF2⟩, h6.xq.kept (fun j hj => fr6 j (by unfold lbQ at hj; omega)), ⟨rz, eq, (fr6 1018 (by omega)).trans hW1, (fr6 1019 (by omega)).trans hW2, hW3⟩, (fr6 1021 (by omega)).trans h6.qv, (fr6 1023 (by omega)).trans h6.qNN, ⟨nf, (fr6 1024 (by omega)).trans hNF1, hNF2⟩, ⟨rr, hR1, (fr6 1028 (by omega)).trans hR2⟩⟩, hJ.jp, (fr6 1100 (by omega)).trans hJq.cj⟩, fun h => absurd (hk.symm.trans h) (by decide)⟩
      · have ek1 : k1b = k1 := (nI_eq (by omega) (by omega)).mp (e1b.symm.trans e1)
        rw [ek1, hqp.1 k1 h1] at h2b
        exact absurd ⟨k2b, Nat.zero_le _, h2b, e2b⟩ hnb
  exact lw_end1 K hE hP hS hl hz ⟨Nat.le_refl _, Nat.le_refl _⟩ hc dL_law_430 dL_law_431 dL_law_434 dL_law_436 dL_law_441 dL_law_443 dL_law_446 dL_law_447 dL_law_448 dL_law_449 dL_law_451 dL_law_452 dL_law_453 dL_law_458 (by omega)

set_option maxHeartbeats 4000000 in
set_option maxRecDepth 100000 in
theorem k_coefficient {p : Program} {l : Launch} {e : Env} {s : State} {m : MethodId} {below : List Frame} {meth : Method} {c : Code} {H : Heap} {locs : List Loc} {cells slots : Nat} {Q : State → Prop} {ls : Array Slot} {G : cx_G} {L : List Nat} {ad : Nat → Nat} {g : Nat → va_E} {b Ln N V M q th : Nat} {xs : Nat → Int32} {T : TA} {o : Nat → Int64} (K : LK p l s m c G L ad b Ln xs N V M) (hJ : JJ G ad g N V M th T o) (hP : va_P G.1 vwCl (wl L ad g) H) (hS : va_S (cx_A L ad s.heap.size) s.heap H locs) (hl : lv_has ls 7 (lwl b ad q)) (hq5 : q + 4 < Ln) (hc : cells + 4 ≤ 634768 ∧ slots + 24 ≤ 7191766) (hz : LZ p l e s m below meth c Q G L ad b N V M q cells slots) : W p l e room_1 s m #[Value.ref b] below meth c H locs cells slots Q (F0 m 517 ls []) := by
  have hN1 := K.N1
  have hN8 := K.N8
  have hV1 := K.V1
  have hV4 := K.V4
  have h00 : 0 ∈ L := K.hm 0 (Or.inl (by decide))
  obtain ⟨wk, hw1, hw2⟩ := hJ.x5.qw
  refine lv_aload_n K.hx K.hb dL_law_517 rfl (lv_at hl 2 rfl) ?_
  refine lw_arg (a := 0) (k := 1) K hS hl rfl rfl (by omega) (by decide) dL_law_518 dL_law_519 dL_law_521 dL_law_522 dL_law_523 ?_
  refine lw_arg (a := 0) (k := 2) K hS hl rfl rfl (by omega) (by decide) dL_law_524 dL_law_525 dL_law_527 dL_law_528 dL_law_529 ?_
  refine lw_arg (a := 0) (k := 3) K hS hl rfl rfl (by omega) (by decide) dL_law_530 dL_law_531 dL_law_533 dL_law_534 dL_law_535 ?_
  refine lv_aload_n K.hx K.hb dL_law_536 rfl (lv_at hl 4 rfl) ?_
  refine cx_WSi (As := [.ref (ad 0), .int (xs (q + 1)), .int (xs (q + 2)), .int (xs (q + 3)), .ref (ad 1100)]) (rest := []) (mc := 4) (ms := 24) ⟨K.hx, K.hb, K.hml, K.hown, K.hts⟩ (c_L_coefficient K.hD (c_X5_coefficient K.st9 K.hD K.N8 K.V1 K.V4 K.hM K.M40 K.hm hJ.x5.qo hJ.x5.qH hJ.x5.xa) (fun E h => h.imp (fun h => h.1) (fun h => h.imp (fun h => h.1) (fun h => h.1))) h00 hJ.x5.qo K.h11 hJ.cj (by rintro r u ⟨-, -, -, -, -, -, -, -, -, -, -, hug⟩; rw [hug])) (vx_cwSW 5 K.hts gL_law_L_coefficient rfl rfl rfl (by decide +kernel) ⟨Nat.le_of_ble_eq_true rfl, Nat.le_of_ble_eq_true rfl⟩) K.hK K.hX hP hS (Nat.le_refl _) hc rfl hl.1 rfl (Nat.le_of_ble_eq_true rfl) dL_law_537 (fun k g1 H locs hp hP hS => ?_)
  refine lv_istore (lv' := (5, .int k) :: lwl b ad q) K.hx K.hb dL_law_540 hl (by decide) rfl (fun ls hl => ?_)
  have hf1 : ∀ j : Nat, 1000 ≤ j → j < 1100 → g1 j = g j := by
    intro j hj1 hj2
    rcases hp with ⟨-, r0, u0, z0, ⟨-, -, -, -, -, -, -, -, -, -, -, hug⟩, -, -, hu⟩ | ⟨-, -, hu⟩ | ⟨-, -, hu⟩ | ⟨-, -, hu⟩
    · exact (hu j (by omega)).trans (by rw [hug])
    · rw [hu]
    · rw [hu]
    · rw [hu]
  have h6 : J6 G ad g1 N V th T := hJ.x6.kept hf1
  obtain ⟨sz, co⟩ := h6.qo
  obtain ⟨fm, hF1, hF2⟩ := h6.qF
  obtain ⟨mn, pq, cm, nd, nx, tb, pz, hQ1, hQ2, hQ3, hQ4, hQ5, hQ6, hQ7, hqp, hpv⟩ := h6.xq
  obtain ⟨rz, eq, hW1, hW2, hW3⟩ := h6.qW
  obtain ⟨nf, hNF1, hNF2⟩ := h6.qNF
  obtain ⟨rr, hR1, hR2⟩ := h6.qR
  refine lv_aload_n K.hx K.hb dL_law_542 rfl (lv_at hl 4 rfl) ?_
  refine lw_arg (a := 1) (k := 1) K hS hl rfl rfl (by omega) (by decide) dL_law_543 dL_law_544 dL_law_546 dL_law_547 dL_law_548 ?_
  refine lw_arg (a := 1) (k := 2) K hS hl rfl rfl (by omega) (by decide) dL_law_549 dL_law_550 dL_law_552 dL_law_553 dL_law_554 ?_
  refine lw_arg (a := 1) (k := 3) K hS hl rfl rfl (by omega) (by decide) dL_law_555 dL_law_556 dL_law_558 dL_law_559 dL_law_560 ?_
  refine cx_Vi (As := [.int (xs (q + 1)), .int (xs (q + 2)), .int (xs (q + 3))]) (rest := []) ⟨K.hx, K.hb, K.hml, K.hown, K.hts⟩ (c_X6_coefficient K.hD K.N1 K.N8 K.V1 K.V4 K.hq co hW1 hW2 (fun ha i hi => by rw [(hW3 ha i hi).1]; omega)) (cwV 3 K.hts gL_law_X6_coefficient rfl rfl rfl (by decide +kernel) ⟨Nat.le_of_ble_eq_true rfl, Nat.le_of_ble_eq_true rfl⟩) K.hK hP hS (Nat.le_refl _) (K.hq _ (by decide)) co rfl hc rfl hl.1 rfl (Nat.le_of_ble_eq_true rfl) dL_law_561 (fun r6 g2 H locs hp2 hP hS => ?_)
  refine lv_istore (lv' := (6, .int r6) :: (5, .int k) :: lwl b ad q) K.hx K.hb dL_law_564 hl (by decide) rfl (fun ls hl => ?_)
  have hE : JE1 G ad g2 N V M k r6 := by
    obtain ⟨fr6, hp2⟩ := hp2
    rcases hp with ⟨hk, r0, u0, z0, ⟨k1, k2, k3, h1, h2, h3, e1, e2, e3, ha, er5, hug⟩, hz0, hcj, hu⟩ | ⟨hk, hexA, hu⟩ | ⟨hk, hexS, hu⟩ | ⟨hk, hexO, hu⟩
    · rcases hp2 with ⟨hne, -⟩ | ⟨-, ha2, -⟩ | ⟨k1b, k3b, h1b, h3b, e1b, e3b, -, hno, -⟩ | ⟨k1b, k2b, k3b, h1b, h2b, h3b, e1b, e2b, e3b, -, co2, er6⟩
      · exact absurd ⟨⟨k1, Nat.zero_le _, h1, e1⟩, ⟨k3, Nat.zero_le _, h3, e3⟩⟩ hne
      · rw [ha] at ha2; cases ha2
      · have ek1 : k1b = k1 := (nI_eq (by omega) (by omega)).mp (e1b.symm.trans e1)
        rw [ek1, (hW3 ha k1 h1).1] at hno
        exact absurd ⟨k2, Nat.zero_le _, h2, e2⟩ hno
      · have ek1 : k1b = k1 := (nI_eq (by omega) (by omega)).mp (e1b.symm.trans e1)
        have hcn := hpv.cnt h1
        rw [ek1, (hW3 ha k1 h1).1] at h2b
        have ek2 : k2b = k2 := (nI_eq (by omega) (by omega)).mp (e2b.symm.trans e2)
        have ek3 : k3b = k3 := (nI_eq (by omega) (by omega)).mp (e3b.symm.trans e3)
        rw [ek1, ek2, ek3] at er6
        exact ⟨T, 0, vp_updL o 0 z0, hk, ⟨J5.kept (g := u0) (T := T) (by rw [hug]; exact hJ.x5) K.V4 K.N8 (fun j hj => (fr6 j (by have h9 := lbX_lt K.N8 K.V4 K.M40 hj; omega)).trans (hu j (by have h9 := lbX_lt K.N8 K.V4 K.M40 hj; omega))), ⟨⟨_, co2⟩, (fr6 1003 (by omega)).trans h6.qd, (fr6 1005 (by omega)).trans h6.qFO, (fr6 1006 (by omega)).trans h6.qTO, (fr6 1007 (by omega)).trans h6.qK, (fr6 1008 (by omega)).trans h6.qZ, ⟨fm, (fr6 1009 (by omega)).trans hF1, hF2⟩, h6.xq.kept (fun j hj => fr6 j (by unfold lbQ at hj; omega)), ⟨rz, eq, (fr6 1018 (by omega)).trans hW1, (fr6 1019 (by omega)).trans hW2, hW3⟩, (fr6 1021 (by omega)).trans h6.qv, (fr6 1023 (by omega)).trans h6.qNN, ⟨nf, (fr6 1024 (by omega)).trans hNF1, hNF2⟩, ⟨rr, hR1, (fr6 1028 (by omega)).trans hR2⟩⟩, hJ.jp, (fr6 1100 (by omega)).trans hcj⟩, fun _ => (if_pos rfl : vp_updL o 0 z0 0 = z0).trans (by rw [hz0, er5, er6, (hW3 ha k1 h1).2 k2 k3 h2 (by omega)])⟩
    · have hne := hexA.elim (fun h => h.2) (fun h => h.elim (fun h => absurd h.1 nIAIS) (fun h => absurd h.1 nIAIO))
      have hJq : JJ G ad g1 N V M th T o := by rw [hu]; exact hJ
      rcases hp2 with ⟨-, co2⟩ | ⟨hpre, -⟩ | ⟨k1b, k3b, h1b, h3b, e1b, e3b, -⟩ | ⟨k1b, k2b, k3b, h1b, h2b, h3b, e1b, e2b, e3b, -⟩
      · exact ⟨T, 1, o, hk, ⟨hJq.x5.kept K.V4 K.N8 (fun j hj => fr6 j (by have h9 := lbX_lt K.N8 K.V4 K.M40 hj; omega)), ⟨⟨_, co2⟩, (fr6 1003 (by omega)).trans h6.qd, (fr6 1005 (by omega)).trans h6.qFO, (fr6 1006 (by omega)).trans h6.qTO, (fr6 1007 (by omega)).trans h6.qK, (fr6 1008 (by omega)).trans h6.qZ, ⟨fm, (fr6 1009 (by omega)).trans hF1, hF2⟩, h6.xq.kept (fun j hj => fr6 j (by unfold lbQ at hj; omega)), ⟨rz, eq, (fr6 1018 (by omega)).trans hW1, (fr6 1019 (by omega)).trans hW2, hW3⟩, (fr6 1021 (by omega)).trans h6.qv, (fr6 1023 (by omega)).trans h6.qNN, ⟨nf, (fr6 1024 (by omega)).trans hNF1, hNF2⟩, ⟨rr, hR1, (fr6 1028 (by omega)).trans hR2⟩⟩, hJ.jp, (fr6 1100 (by omega)).trans hJq.cj⟩, fun h => absurd (hk.symm.trans h) (by decide)⟩
      · exact absurd hpre hne
      · exact absurd ⟨⟨k1b, Nat.zero_le _, h1b, e1b⟩, ⟨k3b, Nat.zero_le _, h3b, e3b⟩⟩ hne
      · exact absurd ⟨⟨k1b, Nat.zero_le _, h1b, e1b⟩, ⟨k3b, Nat.zero_le _, h3b, e3b⟩⟩ hne
    · obtain ⟨hpre, hna⟩ := hexS.elim (fun h => absurd h.1.symm nIAIS) (fun h => h.elim (fun h => h.2) (fun h => absurd h.1 nISIO))
      have hJq : JJ G ad g1 N V M th T o := by rw [hu]; exact hJ
      rcases hp2 with ⟨hne, -⟩ | ⟨-, ha2, co2⟩ | ⟨k1b, k3b, h1b, h3b, e1b, e3b, ha2, -⟩ | ⟨k1b, k2b, k3b, h1b, h2b, h3b, e1b, e2b, e3b, ha2, -⟩
      · exact absurd hpre hne
      · exact ⟨T, 2, o, hk, ⟨hJq.x5.kept K.V4 K.N8 (fun j hj => fr6 j (by have h9 := lbX_lt K.N8 K.V4 K.M40 hj; omega)), ⟨⟨_, co2⟩, (fr6 1003 (by omega)).trans h6.qd, (fr6 1005 (by omega)).trans h6.qFO, (fr6 1006 (by omega)).trans h6.qTO, (fr6 1007 (by omega)).trans h6.qK, (fr6 1008 (by omega)).trans h6.qZ, ⟨fm, (fr6 1009 (by omega)).trans hF1, hF2⟩, h6.xq.kept (fun j hj => fr6 j (by unfold lbQ at hj; omega)), ⟨rz, eq, (fr6 1018 (by omega)).trans hW1, (fr6 1019 (by omega)).trans hW2, hW3⟩, (fr6 1021 (by omega)).trans h6.qv, (fr6 1023 (by omega)).trans h6.qNN, ⟨nf, (fr6 1024 (by omega)).trans hNF1, hNF2⟩, ⟨rr, hR1, (fr6 1028 (by omega)).trans hR2⟩⟩, hJ.jp, (fr6 1100 (by omega)).trans hJq.cj⟩, fun h => absurd (hk.symm.trans h) (by decide)⟩
      · exact absurd ha2 hna
      · exact absurd ha2 hna
    · obtain ⟨ha, k1, k3, h1, h3, e1, e3, hnb⟩ := hexO.elim (fun h => absurd h.1.symm nIAIO) (fun h => h.elim (fun h => absurd h.1.symm nISIO) (fun h => h.2))
      have hJq : JJ G ad g1 N V M th T o := by rw [hu]; exact hJ
      rcases hp2 with ⟨hne, -⟩ | ⟨-, ha2, -⟩ | ⟨k1b, k3b, h1b, h3b, e1b, e3b, -, hno, co2⟩ | ⟨k1b, k2b, k3b, h1b, h2b, h3b, e1b, e2b, e3b, -⟩
      · exact absurd ⟨⟨k1, Nat.zero_le _, h1, e1⟩, ⟨k3, Nat.zero_le _, h3, e3⟩⟩ hne
      · rw [ha] at ha2; cases ha2
      · exact ⟨T, 3, o, hk, ⟨hJq.x5.kept K.V4 K.N8 (fun j hj => fr6 j (by have h9 := lbX_lt K.N8 K.V4 K.M40 hj; omega)), ⟨⟨_, co2⟩, (fr6 1003 (by omega)).trans h6.qd, (fr6 1005 (by omega)).trans h6.qFO, (fr6 1006 (by omega)).trans h6.qTO, (fr6 1007 (by omega)).trans h6.qK, (fr6 1008 (by omega)).trans h6.qZ, ⟨fm, (fr6 1009 (by omega)).trans hF1, hF2⟩, h6.xq.kept (fun j hj => fr6 j (by unfold lbQ at hj; omega)), ⟨rz, eq, (fr6 1018 (by omega)).trans hW1, (fr6 1019 (by omega)).trans hW2, hW3⟩, (fr6 1021 (by omega)).trans h6.qv, (fr6 1023 (by omega)).trans h6.qNN, ⟨nf, (fr6 1024 (by omega)).trans hNF1, hNF2⟩, ⟨rr, hR1, (fr6 1028 (by omega)).trans hR2⟩⟩, hJ.jp, (fr6 1100 (by omega)).trans hJq.cj⟩, fun h => absurd (hk.symm.trans h) (by decide)⟩
      · have ek1 : k1b = k1 := (nI_eq (by omega) (by omega)).mp (e1b.symm.trans e1)
        rw [ek1, (hW3 ha k1 h1).1] at h2b
        exact absurd ⟨k2b, Nat.zero_le _, h2b, e2b⟩ hnb
  exact lw_end1 K hE hP hS hl hz ⟨Nat.le_refl _, Nat.le_refl _⟩ hc dL_law_566 dL_law_567 dL_law_570 dL_law_572 dL_law_577 dL_law_579 dL_law_582 dL_law_583 dL_law_584 dL_law_585 dL_law_587 dL_law_588 dL_law_589 dL_law_594 (by omega)
