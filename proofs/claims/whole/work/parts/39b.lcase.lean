/-! THE LAW: the cases -/
set_option maxHeartbeats 4000000 in
set_option maxRecDepth 100000 in
theorem k_edge {p : Program} {l : Launch} {e : Env} {s : State} {m : MethodId} {below : List Frame} {meth : Method} {c : Code} {H : Heap} {locs : List Loc} {cells slots : Nat} {Q : State → Prop} {ls : Array Slot} {G : cx_G} {L : List Nat} {ad : Nat → Nat} {g : Nat → va_E} {b Ln N V M q th : Nat} {xs : Nat → Int32} {T : TA} {o : Nat → Int64} (K : LK p l s m c G L ad b Ln xs N V M) (hJ : JJ G ad g N V M th T o) (hP : va_P G.1 vwCl (wl L ad g) H) (hS : va_S (cx_A L ad s.heap.size) s.heap H locs) (hl : lv_has ls 7 (lwl b ad q)) (hq5 : q + 4 < Ln) (hc : cells + 4 ≤ 634768 ∧ slots + 24 ≤ 7191766) (hz : LZ p l e s m below meth c Q G L ad b N V M q cells slots) : W p l e room_1 s m #[Value.ref b] below meth c H locs cells slots Q (F0 m 184 ls []) := by
  have hN1 := K.N1
  have hN8 := K.N8
  have hV1 := K.V1
  have hV4 := K.V4
  have h00 : 0 ∈ L := K.hm 0 (Or.inl (by decide))
  obtain ⟨wk, hw1, hw2⟩ := hJ.x5.qw
  refine lv_aload_n K.hx K.hb dL_law_184 rfl (lv_at hl 2 rfl) ?_
  refine lw_arg (a := 0) (k := 1) K hS hl rfl rfl (by omega) (by decide) dL_law_185 dL_law_186 dL_law_188 dL_law_189 dL_law_190 ?_
  refine lw_arg (a := 0) (k := 2) K hS hl rfl rfl (by omega) (by decide) dL_law_191 dL_law_192 dL_law_194 dL_law_195 dL_law_196 ?_
  refine lw_arg (a := 0) (k := 3) K hS hl rfl rfl (by omega) (by decide) dL_law_197 dL_law_198 dL_law_200 dL_law_201 dL_law_202 ?_
  refine lw_arg (a := 0) (k := 4) K hS hl rfl rfl (by omega) (by decide) dL_law_203 dL_law_204 dL_law_206 dL_law_207 dL_law_208 ?_
  refine lv_aload_n K.hx K.hb dL_law_209 rfl (lv_at hl 4 rfl) ?_
  refine cx_WSi (As := [.ref (ad 0), .int (xs (q + 1)), .int (xs (q + 2)), .int (xs (q + 3)), .int (xs (q + 4)), .ref (ad 1100)]) (rest := []) (mc := 4) (ms := 24) ⟨K.hx, K.hb, K.hml, K.hown, K.hts⟩ (c_L_edge K.hD (c_X5_edge K.st9 K.hD K.N8 K.V1 K.V4 K.hM K.M40 K.hm hJ.x5.qo hJ.x5.qd hJ.x5.qE hJ.x5.qH hJ.jp.zd hJ.jp.ev hJ.x5.xe) (fun E h => h.imp (fun h => h.1) (fun h => h.1)) h00 hJ.x5.qo K.h11 hJ.cj (by rintro r u ⟨er5, k1, k2, k3, k4, e1, e2, e3, h1, h2, h3, hx4, hec, fr, -⟩; exact fr 1100 (by omega))) (vx_cwSW 6 K.hts gL_law_L_edge rfl rfl rfl (by decide +kernel) ⟨Nat.le_of_ble_eq_true rfl, Nat.le_of_ble_eq_true rfl⟩) K.hK K.hX hP hS (Nat.le_refl _) hc rfl hl.1 rfl (Nat.le_of_ble_eq_true rfl) dL_law_210 (fun k g1 H locs hp hP hS => ?_)
  refine lv_istore (lv' := (5, .int k) :: lwl b ad q) K.hx K.hb dL_law_213 hl (by decide) rfl (fun ls hl => ?_)
  have hf1 : ∀ j : Nat, 1000 ≤ j → j < 1100 → g1 j = g j := by
    intro j hj1 hj2
    rcases hp with ⟨-, r0, u0, z0, ⟨er5, k1, k2, k3, k4, e1, e2, e3, h1, h2, h3, hx4, hec, fr, c5o, c5d, xe5, ev5⟩, -, -, hu⟩ | ⟨-, -, hu⟩ | ⟨-, -, hu⟩
    · exact (hu j (by omega)).trans (fr j (by omega))
    · rw [hu]
    · rw [hu]
  have h6 : J6 G ad g1 N V th T := hJ.x6.kept hf1
  obtain ⟨sz, co⟩ := h6.qo
  obtain ⟨fm, hF1, hF2⟩ := h6.qF
  obtain ⟨mn, pq, cm, nd, nx, tb, pz, hQ1, hQ2, hQ3, hQ4, hQ5, hQ6, hQ7, hqp, hpv⟩ := h6.xq
  obtain ⟨rz, eq, hW1, hW2, hW3⟩ := h6.qW
  obtain ⟨nf, hNF1, hNF2⟩ := h6.qNF
  obtain ⟨rr, hR1, hR2⟩ := h6.qR
  refine lv_aload_n K.hx K.hb dL_law_215 rfl (lv_at hl 4 rfl) ?_
  refine lw_arg (a := 1) (k := 1) K hS hl rfl rfl (by omega) (by decide) dL_law_216 dL_law_217 dL_law_219 dL_law_220 dL_law_221 ?_
  refine lw_arg (a := 1) (k := 2) K hS hl rfl rfl (by omega) (by decide) dL_law_222 dL_law_223 dL_law_225 dL_law_226 dL_law_227 ?_
  refine lw_arg (a := 1) (k := 3) K hS hl rfl rfl (by omega) (by decide) dL_law_228 dL_law_229 dL_law_231 dL_law_232 dL_law_233 ?_
  refine lw_arg (a := 1) (k := 4) K hS hl rfl rfl (by omega) (by decide) dL_law_234 dL_law_235 dL_law_237 dL_law_238 dL_law_239 ?_
  refine cx_Vi (As := [.int (xs (q + 1)), .int (xs (q + 2)), .int (xs (q + 3)), .int (xs (q + 4))]) (rest := []) ⟨K.hx, K.hb, K.hml, K.hown, K.hts⟩ (c_X6_edge K.hD K.N1 K.N8 K.V1 K.V4 K.hq co h6.qd h6.qFO h6.qTO h6.qK h6.qZ hF1 hJ.jp.ev.1 hJ.jp.zd) (cwV 4 K.hts gL_law_X6_edge rfl rfl rfl (by decide +kernel) ⟨Nat.le_of_ble_eq_true rfl, Nat.le_of_ble_eq_true rfl⟩) K.hK hP hS (Nat.le_refl _) (K.hq _ (by decide)) co rfl hc rfl hl.1 rfl (Nat.le_of_ble_eq_true rfl) dL_law_240 (fun r6 g2 H locs hp2 hP hS => ?_)
  refine lv_istore (lv' := (6, .int r6) :: (5, .int k) :: lwl b ad q) K.hx K.hb dL_law_243 hl (by decide) rfl (fun ls hl => ?_)
  have hE : JE1 G ad g2 N V M k r6 := by
    obtain ⟨fr6, hp2⟩ := hp2
    rcases hp with ⟨hk, r0, u0, z0, ⟨er5, k1, k2, k3, k4, e1, e2, e3, h1, h2, h3, hx4, hec, fr, c5o, c5d, xe5, ev5⟩, hz0, hcj, hu⟩ | ⟨hk, hexA, hu⟩ | ⟨hk, hexS, hu⟩
    · rcases hp2 with ⟨k1b, k2b, k3b, e1b, e2b, e3b, h1b, h2b, h3b, hxb, hecb, er6, co2, cd2, cFO, cTO, cK, cZ, fm2, cF, of2⟩ | ⟨hne, -⟩ | ⟨-, h20, -⟩
      · have ek1 : k1b = k1 := (nI_eq (by omega) (by omega)).mp (e1b.symm.trans e1)
        have ek2 : k2b = k2 := (nI_eq (by omega) (by omega)).mp (e2b.symm.trans e2)
        have ek3 : k3b = k3 := (nI_eq (by omega) (by omega)).mp (e3b.symm.trans e3)
        rw [ek1] at cFO
        rw [ek2] at cTO
        rw [ek3] at cK
        exact ⟨(false, T.ec + 1, T.en, T.al, T.pl, T.nc, (fun _ => 0), T.va, nu T.ef T.ec k1, nu T.et T.ec k2, nu T.ek T.ec k3, nu T.ev T.ec k4, nu T.ez T.ec (xs (q + 4)), nu T.eg T.ec T.qd, T.nn, T.ng, T.P), 0, vp_updL o 0 z0, hk, ⟨J5.kept (g := u0) (T := (false, T.ec + 1, T.en, T.al, T.pl, T.nc, (fun _ => 0), T.va, nu T.ef T.ec k1, nu T.et T.ec k2, nu T.ek T.ec k3, nu T.ev T.ec k4, nu T.ez T.ec (xs (q + 4)), nu T.eg T.ec T.qd, T.nn, T.ng, T.P)) (⟨c5o, c5d, (fr 2 (by omega)).trans hJ.x5.qv, ⟨wk, hw1, (fr 3 (by omega)).trans hw2⟩, (fr 4 (by omega)).trans hJ.x5.qE, (fr 5 (by omega)).trans hJ.x5.qH, (fr 6 (by omega)).trans hJ.x5.qA, (fr 7 (by omega)).trans hJ.x5.qN, xe5, hJ.x5.xn.kept (fun j _ _ => fr j (by omega)), hJ.x5.xa.kepX K.V4 K.N8 (fun j hj hj2 => fr j (by have h9 := lbX_lt K.N8 K.V4 K.M40 hj; omega)), (by obtain ⟨t2, kp2, rs2, h9⟩ := hJ.x5.sx; exact ⟨t2, kp2, rs2, h9.kept (fun j _ _ => fr j (by omega))⟩)⟩) K.V4 K.N8 (fun j hj => (fr6 j (by have h9 := lbX_lt K.N8 K.V4 K.M40 hj; omega)).trans (hu j (by have h9 := lbX_lt K.N8 K.V4 K.M40 hj; omega))), ⟨⟨_, co2⟩, cd2, cFO, cTO, cK, cZ, ⟨fm2, cF, FR.set hF2 of2 (fun _ _ => rfl)⟩, h6.xq.kept (fun j hj => fr6 j (by unfold lbQ at hj; omega)), ⟨rz, eq, (fr6 1018 (by omega)).trans hW1, (fr6 1019 (by omega)).trans hW2, fun h => Bool.noConfusion h⟩, (fr6 1021 (by omega)).trans h6.qv, (fr6 1023 (by omega)).trans h6.qNN, ⟨nf, (fr6 1024 (by omega)).trans hNF1, hNF2⟩, ⟨rr, hR1, (fr6 1028 (by omega)).trans hR2⟩⟩, ⟨hJ.jp.en, hJ.jp.pl, hJ.jp.nc, ev5, Zb.zero _, hJ.jp.zv, hJ.jp.nn, hJ.jp.zn⟩, (fr6 1100 (by omega)).trans hcj⟩, fun _ => (if_pos rfl : vp_updL o 0 z0 0 = z0).trans (by rw [hz0, er5, er6])⟩
      · exact absurd ⟨⟨k1, Nat.zero_le _, h1, e1⟩, ⟨k2, Nat.zero_le _, h2, e2⟩, ⟨k3, Nat.zero_le _, h3, e3⟩, fun hh => by rw [e3] at hh; obtain ⟨a1, a2, a3⟩ := hx4 (hh.imp (nI_eq (by omega) (by omega)).mp (nI_eq (by omega) (by omega)).mp); exact ⟨k4, a2, a3, a1⟩⟩ hne
      · omega
    · have hne := hexA.elim (fun h => h.2) (fun h => absurd h.1 nIAIS)
      have hJq : JJ G ad g1 N V M th T o := by rw [hu]; exact hJ
      rcases hp2 with ⟨k1b, k2b, k3b, e1b, e2b, e3b, h1b, h2b, h3b, hxb, hecb, er6, co2, cd2, cFO, cTO, cK, cZ, fm2, cF, of2⟩ | ⟨-, co2, cd2, cFO, cTO, cK, cZ, cF⟩ | ⟨hpre, -⟩
      · exact absurd ⟨⟨k1b, Nat.zero_le _, h1b, e1b⟩, ⟨k2b, Nat.zero_le _, h2b, e2b⟩, ⟨k3b, Nat.zero_le _, h3b, e3b⟩, fun hh => hxb (by rw [e3b] at hh; exact hh)⟩ hne
      · exact ⟨T, 1, o, hk, ⟨hJq.x5.kept K.V4 K.N8 (fun j hj => fr6 j (by have h9 := lbX_lt K.N8 K.V4 K.M40 hj; omega)), ⟨⟨_, co2⟩, cd2, cFO, cTO, cK, cZ, ⟨fm, cF, hF2⟩, h6.xq.kept (fun j hj => fr6 j (by unfold lbQ at hj; omega)), ⟨rz, eq, (fr6 1018 (by omega)).trans hW1, (fr6 1019 (by omega)).trans hW2, hW3⟩, (fr6 1021 (by omega)).trans h6.qv, (fr6 1023 (by omega)).trans h6.qNN, ⟨nf, (fr6 1024 (by omega)).trans hNF1, hNF2⟩, ⟨rr, hR1, (fr6 1028 (by omega)).trans hR2⟩⟩, hJ.jp, (fr6 1100 (by omega)).trans hJq.cj⟩, fun h => absurd (hk.symm.trans h) (by decide)⟩
      · exact absurd hpre hne
    · obtain ⟨hpre, hn20⟩ := hexS.elim (fun h => absurd h.1.symm nIAIS) (fun h => h.2)
      have hJq : JJ G ad g1 N V M th T o := by rw [hu]; exact hJ
      rcases hp2 with ⟨k1b, k2b, k3b, e1b, e2b, e3b, h1b, h2b, h3b, hxb, hecb, er6, co2, cd2, cFO, cTO, cK, cZ, fm2, cF, of2⟩ | ⟨hne, -⟩ | ⟨-, h20, co2, cd2, cFO, cTO, cK, cZ, cF⟩
      · exact absurd hecb hn20
      · exact absurd hpre hne
      · exact ⟨T, 2, o, hk, ⟨hJq.x5.kept K.V4 K.N8 (fun j hj => fr6 j (by have h9 := lbX_lt K.N8 K.V4 K.M40 hj; omega)), ⟨⟨_, co2⟩, cd2, cFO, cTO, cK, cZ, ⟨fm, cF, hF2⟩, h6.xq.kept (fun j hj => fr6 j (by unfold lbQ at hj; omega)), ⟨rz, eq, (fr6 1018 (by omega)).trans hW1, (fr6 1019 (by omega)).trans hW2, hW3⟩, (fr6 1021 (by omega)).trans h6.qv, (fr6 1023 (by omega)).trans h6.qNN, ⟨nf, (fr6 1024 (by omega)).trans hNF1, hNF2⟩, ⟨rr, hR1, (fr6 1028 (by omega)).trans hR2⟩⟩, hJ.jp, (fr6 1100 (by omega)).trans hJq.cj⟩, fun h => absurd (hk.symm.trans h) (by decide)⟩
  exact lw_end1 K hE hP hS hl hz ⟨Nat.le_refl _, Nat.le_refl _⟩ hc dL_law_245 dL_law_246 dL_law_249 dL_law_251 dL_law_256 dL_law_258 dL_law_261 dL_law_262 dL_law_263 dL_law_264 dL_law_266 dL_law_267 dL_law_268 dL_law_273 (by omega)
