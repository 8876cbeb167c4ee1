/-! THE LAW: the cases -/
theorem lbX_lt {N V M j : Nat} (hN : N ≤ 8) (hV : V ≤ 4) (hM : M ≤ 40) (h : lbX N V M j) : j < 1000 := by
  unfold lbX at h
  omega
theorem nu_lt {f : Nat → Nat} {n N x : Nat} (h : ∀ i : Nat, i < n → f i < N) (hx : x < N) : ∀ i : Nat, i < n + 1 → nu f n x i < N := fun i hi => by
  by_cases h9 : i = n
  · rw [h9, nu_s]; exact hx
  · rw [nu_n h9]; exact h i (by omega)
theorem nu_zb {f : Nat → Nat → FF} {n w : Nat} {v : Nat → FF} (h : ∀ i : Nat, Zb w (f i)) (hv : Zb w v) : ∀ i : Nat, Zb w (nu f n v i) := fun i => by
  by_cases h9 : i = n
  · rw [h9, nu_s]; exact hv
  · rw [nu_n h9]; exact h i
set_option maxHeartbeats 4000000 in
set_option maxRecDepth 100000 in
theorem k_term {p : Program} {l : Launch} {e : Env} {s : State} {m : MethodId} {below : List Frame} {meth : Method} {c : Code} {H : Heap} {locs : List Loc} {cells slots : Nat} {Q : State → Prop} {ls : Array Slot} {G : cx_G} {L : List Nat} {ad : Nat → Nat} {g : Nat → va_E} {b Ln N V M q th : Nat} {xs : Nat → Int32} {T : TA} {o : Nat → Int64} (K : LK p l s m c G L ad b Ln xs N V M) (hJ : JJ G ad g N V M th T o) (hP : va_P G.1 vwCl (wl L ad g) H) (hS : va_S (cx_A L ad s.heap.size) s.heap H locs) (hl : lv_has ls 7 (lwl b ad q)) (hq5 : q + 4 < Ln) (hc : cells + 4 ≤ 634768 ∧ slots + 24 ≤ 7191766) (hz : LZ p l e s m below meth c Q G L ad b N V M q cells slots) : W p l e room_1 s m #[Value.ref b] below meth c H locs cells slots Q (F0 m 136 ls []) := by
  have hN1 := K.N1
  have hN8 := K.N8
  have hV1 := K.V1
  have hV4 := K.V4
  have h00 : 0 ∈ L := K.hm 0 (Or.inl (by decide))
  obtain ⟨wk, hw1, hw2⟩ := hJ.x5.qw
  refine lv_aload_n K.hx K.hb dL_law_136 rfl (lv_at hl 2 rfl) ?_
  refine lw_arg (a := 0) (k := 1) K hS hl rfl rfl (by omega) (by decide) dL_law_137 dL_law_138 dL_law_140 dL_law_141 dL_law_142 ?_
  refine lw_arg (a := 0) (k := 2) K hS hl rfl rfl (by omega) (by decide) dL_law_143 dL_law_144 dL_law_146 dL_law_147 dL_law_148 ?_
  refine cx_WSi (As := [.ref (ad 0), .int (xs (q + 1)), .int (xs (q + 2))]) (rest := []) (mc := 4) (ms := 24) ⟨K.hx, K.hb, K.hml, K.hown, K.hts⟩ (c_L_term K.hD (c_X5_term K.st9 K.hD K.N8 K.V1 K.V4 K.hM K.M40 K.hm hJ.x5.qo hJ.x5.qd) (fun E h => h.1) h00 hJ.x5.qo) (vx_cwSW 3 K.hts gL_law_L_term rfl rfl rfl (by decide +kernel) ⟨Nat.le_of_ble_eq_true rfl, Nat.le_of_ble_eq_true rfl⟩) K.hK K.hX hP hS (Nat.le_refl _) hc rfl hl.1 rfl (Nat.le_of_ble_eq_true rfl) dL_law_149 (fun k g1 H locs hp hP hS => ?_)
  refine lv_istore (lv' := (5, .int k) :: lwl b ad q) K.hx K.hb dL_law_152 hl (by decide) rfl (fun ls hl => ?_)
  have hf1 : ∀ j : Nat, 1000 ≤ j → j < 1100 → g1 j = g j := by
    intro j hj1 hj2
    rcases hp with ⟨-, u0, ⟨k1, h1, e1, fr, c5d⟩, hu⟩ | ⟨-, -, hu⟩
    · exact (hu j).trans (fr j (by omega))
    · rw [hu]
  have h6 : J6 G ad g1 N V th T := hJ.x6.kept hf1
  obtain ⟨sz, co⟩ := h6.qo
  obtain ⟨fm, hF1, hF2⟩ := h6.qF
  obtain ⟨mn, pq, cm, nd, nx, tb, pz, hQ1, hQ2, hQ3, hQ4, hQ5, hQ6, hQ7, hqp, hpv⟩ := h6.xq
  obtain ⟨rz, eq, hW1, hW2, hW3⟩ := h6.qW
  obtain ⟨nf, hNF1, hNF2⟩ := h6.qNF
  obtain ⟨rr, hR1, hR2⟩ := h6.qR
  refine lv_aload_n K.hx K.hb dL_law_154 rfl (lv_at hl 4 rfl) ?_
  refine lw_arg (a := 1) (k := 1) K hS hl rfl rfl (by omega) (by decide) dL_law_155 dL_law_156 dL_law_158 dL_law_159 dL_law_160 ?_
  refine lw_arg (a := 1) (k := 2) K hS hl rfl rfl (by omega) (by decide) dL_law_161 dL_law_162 dL_law_164 dL_law_165 dL_law_166 ?_
  refine cx_Vv (As := [.int (xs (q + 1)), .int (xs (q + 2))]) (rest := []) ⟨K.hx, K.hb, K.hml, K.hown, K.hts⟩ (c_X6_term K.hD K.N1 K.N8 K.V1 K.V4 K.hq co h6.qd) (cwV 2 K.hts gL_law_X6_term rfl rfl rfl (by decide +kernel) ⟨Nat.le_of_ble_eq_true rfl, Nat.le_of_ble_eq_true rfl⟩) K.hK hP hS (Nat.le_refl _) (K.hq _ (by decide)) co rfl hc rfl hl.1 rfl (Nat.le_of_ble_eq_true rfl) dL_law_167 (fun g2 H locs hp2 hP hS => ?_)
  have hE : JE0 G ad g2 N V M k := by
    obtain ⟨fr6, hp2⟩ := hp2
    rcases hp with ⟨hk, u0, ⟨k1, h1, e1, fr, c5d⟩, hu⟩ | ⟨hk, ⟨-, hne⟩, hu⟩
    · rcases hp2 with ⟨k1b, h1b, e1b, co2, cd2⟩ | ⟨hne, -⟩
      · have ekk : k1b = k1 := (nI_eq (by omega) (by omega)).mp (e1b.symm.trans e1)
        rw [ekk] at cd2
        exact ⟨(T.an, T.ec, T.en, T.al, T.pl, T.nc, nu T.qd k1 (fi (xs (q + 2)).toInt), T.va, T.ef, T.et, T.ek, T.ev, T.ez, T.eg, T.nn, T.ng, T.P), 0, o, hk, ⟨J5.kept (g := u0) (T := (T.an, T.ec, T.en, T.al, T.pl, T.nc, nu T.qd k1 (fi (xs (q + 2)).toInt), T.va, T.ef, T.et, T.ek, T.ev, T.ez, T.eg, T.nn, T.ng, T.P)) (⟨(fr 0 (by omega)).trans hJ.x5.qo, c5d, (fr 2 (by omega)).trans hJ.x5.qv, ⟨wk, hw1, (fr 3 (by omega)).trans hw2⟩, (fr 4 (by omega)).trans hJ.x5.qE, (fr 5 (by omega)).trans hJ.x5.qH, (fr 6 (by omega)).trans hJ.x5.qA, (fr 7 (by omega)).trans hJ.x5.qN, hJ.x5.xe.kept (fun j _ _ => fr j (by omega)), hJ.x5.xn.kept (fun j _ _ => fr j (by omega)), hJ.x5.xa.kepX K.V4 K.N8 (fun j hj hj2 => fr j (by have h9 := lbX_lt K.N8 K.V4 K.M40 hj; omega)), (by obtain ⟨t2, kp2, rs2, h9⟩ := hJ.x5.sx; exact ⟨t2, kp2, rs2, h9.kept (fun j _ _ => fr j (by omega))⟩)⟩) K.V4 K.N8 (fun j hj => (fr6 j (by have h9 := lbX_lt K.N8 K.V4 K.M40 hj; omega)).trans (hu j)), ⟨⟨_, co2⟩, cd2, (fr6 1005 (by omega)).trans h6.qFO, (fr6 1006 (by omega)).trans h6.qTO, (fr6 1007 (by omega)).trans h6.qK, (fr6 1008 (by omega)).trans h6.qZ, ⟨fm, (fr6 1009 (by omega)).trans hF1, hF2⟩, h6.xq.kept (fun j hj => fr6 j (by unfold lbQ at hj; omega)), ⟨rz, eq, (fr6 1018 (by omega)).trans hW1, (fr6 1019 (by omega)).trans hW2, hW3⟩, (fr6 1021 (by omega)).trans h6.qv, (fr6 1023 (by omega)).trans h6.qNN, ⟨nf, (fr6 1024 (by omega)).trans hNF1, hNF2⟩, ⟨rr, hR1, (fr6 1028 (by omega)).trans hR2⟩⟩, ⟨hJ.jp.en, hJ.jp.pl, hJ.jp.nc, hJ.jp.ev, hJ.jp.zd.nu h1 _, hJ.jp.zv, hJ.jp.nn, hJ.jp.zn⟩, (fr6 1100 (by omega)).trans ((hu 1100).trans ((fr 1100 (by omega)).trans hJ.cj))⟩⟩
      · exact absurd ⟨k1, Nat.zero_le _, h1, e1⟩ hne
    · have hJq : JJ G ad g1 N V M th T o := by rw [hu]; exact hJ
      rcases hp2 with ⟨k1b, h1b, e1b, -⟩ | ⟨-, co2, cd2⟩
      · exact absurd ⟨k1b, Nat.zero_le _, h1b, e1b⟩ hne
      · exact ⟨T, 1, o, hk, ⟨hJq.x5.kept K.V4 K.N8 (fun j hj => fr6 j (by have h9 := lbX_lt K.N8 K.V4 K.M40 hj; omega)), ⟨⟨_, co2⟩, cd2, (fr6 1005 (by omega)).trans h6.qFO, (fr6 1006 (by omega)).trans h6.qTO, (fr6 1007 (by omega)).trans h6.qK, (fr6 1008 (by omega)).trans h6.qZ, ⟨fm, (fr6 1009 (by omega)).trans hF1, hF2⟩, h6.xq.kept (fun j hj => fr6 j (by unfold lbQ at hj; omega)), ⟨rz, eq, (fr6 1018 (by omega)).trans hW1, (fr6 1019 (by omega)).trans hW2, hW3⟩, (fr6 1021 (by omega)).trans h6.qv, (fr6 1023 (by omega)).trans h6.qNN, ⟨nf, (fr6 1024 (by omega)).trans hNF1, hNF2⟩, ⟨rr, hR1, (fr6 1028 (by omega)).trans hR2⟩⟩, hJ.jp, (fr6 1100 (by omega)).trans hJq.cj⟩⟩
  exact lw_end0 K hE hP hS hl hz ⟨Nat.le_refl _, Nat.le_refl _⟩ hc dL_law_170 dL_law_171 dL_law_174 dL_law_176 dL_law_181 (by omega)

set_option maxHeartbeats 4000000 in
set_option maxRecDepth 100000 in
theorem k_entry {p : Program} {l : Launch} {e : Env} {s : State} {m : MethodId} {below : List Frame} {meth : Method} {c : Code} {H : Heap} {locs : List Loc} {cells slots : Nat} {Q : State → Prop} {ls : Array Slot} {G : cx_G} {L : List Nat} {ad : Nat → Nat} {g : Nat → va_E} {b Ln N V M q th : Nat} {xs : Nat → Int32} {T : TA} {o : Nat → Int64} (K : LK p l s m c G L ad b Ln xs N V M) (hJ : JJ G ad g N V M th T o) (hP : va_P G.1 vwCl (wl L ad g) H) (hS : va_S (cx_A L ad s.heap.size) s.heap H locs) (hl : lv_has ls 7 (lwl b ad q)) (hq5 : q + 4 < Ln) (hc : cells + 4 ≤ 634768 ∧ slots + 24 ≤ 7191766) (hz : LZ p l e s m below meth c Q G L ad b N V M q cells slots) : W p l e room_1 s m #[Value.ref b] below meth c H locs cells slots Q (F0 m 276 ls []) := by
  have hN1 := K.N1
  have hN8 := K.N8
  have hV1 := K.V1
  have hV4 := K.V4
  have h00 : 0 ∈ L := K.hm 0 (Or.inl (by decide))
  obtain ⟨wk, hw1, hw2⟩ := hJ.x5.qw
  refine lv_aload_n K.hx K.hb dL_law_276 rfl (lv_at hl 2 rfl) ?_
  refine lw_arg (a := 0) (k := 1) K hS hl rfl rfl (by omega) (by decide) dL_law_277 dL_law_278 dL_law_280 dL_law_281 dL_law_282 ?_
  refine cx_WSi (As := [.ref (ad 0), .int (xs (q + 1))]) (rest := []) (mc := 4) (ms := 24) ⟨K.hx, K.hb, K.hml, K.hown, K.hts⟩ (c_L_entry K.hD (c_X5_entry K.st9 K.hD K.N8 K.V1 K.V4 K.hM K.M40 K.hm hJ.x5.qo hJ.x5.qH) (fun E h => h.1) h00 hJ.x5.qo) (vx_cwSW 2 K.hts gL_law_L_entry rfl rfl rfl (by decide +kernel) ⟨Nat.le_of_ble_eq_true rfl, Nat.le_of_ble_eq_true rfl⟩) K.hK K.hX hP hS (Nat.le_refl _) hc rfl hl.1 rfl (Nat.le_of_ble_eq_true rfl) dL_law_283 (fun k g1 H locs hp hP hS => ?_)
  refine lv_istore (lv' := (5, .int k) :: lwl b ad q) K.hx K.hb dL_law_286 hl (by decide) rfl (fun ls hl => ?_)
  have hf1 : ∀ j : Nat, 1000 ≤ j → j < 1100 → g1 j = g j := by
    intro j hj1 hj2
    rcases hp with ⟨-, u0, ⟨k1, h1, e1, fr, c5o⟩, hu⟩ | ⟨-, -, hu⟩
    · exact (hu j).trans (fr j (by omega))
    · rw [hu]
  have h6 : J6 G ad g1 N V th T := hJ.x6.kept hf1
  obtain ⟨sz, co⟩ := h6.qo
  obtain ⟨fm, hF1, hF2⟩ := h6.qF
  obtain ⟨mn, pq, cm, nd, nx, tb, pz, hQ1, hQ2, hQ3, hQ4, hQ5, hQ6, hQ7, hqp, hpv⟩ := h6.xq
  obtain ⟨rz, eq, hW1, hW2, hW3⟩ := h6.qW
  obtain ⟨nf, hNF1, hNF2⟩ := h6.qNF
  obtain ⟨rr, hR1, hR2⟩ := h6.qR
  refine lv_aload_n K.hx K.hb dL_law_288 rfl (lv_at hl 4 rfl) ?_
  refine lw_arg (a := 1) (k := 1) K hS hl rfl rfl (by omega) (by decide) dL_law_289 dL_law_290 dL_law_292 dL_law_293 dL_law_294 ?_
  refine cx_Vv (As := [.int (xs (q + 1))]) (rest := []) ⟨K.hx, K.hb, K.hml, K.hown, K.hts⟩ (c_X6_entry K.hD K.N1 K.N8 K.V1 K.V4 K.hq co) (cwV 1 K.hts gL_law_X6_entry rfl rfl rfl (by decide +kernel) ⟨Nat.le_of_ble_eq_true rfl, Nat.le_of_ble_eq_true rfl⟩) K.hK hP hS (Nat.le_refl _) (K.hq _ (by decide)) co rfl hc rfl hl.1 rfl (Nat.le_of_ble_eq_true rfl) dL_law_295 (fun g2 H locs hp2 hP hS => ?_)
  have hE : JE0 G ad g2 N V M k := by
    obtain ⟨fr6, hp2⟩ := hp2
    rcases hp with ⟨hk, u0, ⟨k1, h1, e1, fr, c5o⟩, hu⟩ | ⟨hk, ⟨-, hne⟩, hu⟩
    · rcases hp2 with ⟨k1b, h1b, e1b, co2⟩ | ⟨hne, -⟩
      · have ekk : k1b = k1 := (nI_eq (by omega) (by omega)).mp (e1b.symm.trans e1)
        rw [ekk] at co2
        exact ⟨(false, T.ec, k1, T.al, k1, T.nc, T.qd, T.va, T.ef, T.et, T.ek, T.ev, T.ez, T.eg, T.nn, T.ng, T.P), 0, o, hk, ⟨J5.kept (g := u0) (T := (false, T.ec, k1, T.al, k1, T.nc, T.qd, T.va, T.ef, T.et, T.ek, T.ev, T.ez, T.eg, T.nn, T.ng, T.P)) (⟨c5o, (fr 1 (by omega)).trans hJ.x5.qd, (fr 2 (by omega)).trans hJ.x5.qv, ⟨wk, hw1, (fr 3 (by omega)).trans hw2⟩, (fr 4 (by omega)).trans hJ.x5.qE, (fr 5 (by omega)).trans hJ.x5.qH, (fr 6 (by omega)).trans hJ.x5.qA, (fr 7 (by omega)).trans hJ.x5.qN, hJ.x5.xe.kept (fun j _ _ => fr j (by omega)), hJ.x5.xn.kept (fun j _ _ => fr j (by omega)), hJ.x5.xa.kepX K.V4 K.N8 (fun j hj hj2 => fr j (by have h9 := lbX_lt K.N8 K.V4 K.M40 hj; omega)), (by obtain ⟨t2, kp2, rs2, h9⟩ := hJ.x5.sx; exact ⟨t2, kp2, rs2, h9.kept (fun j _ _ => fr j (by omega))⟩)⟩) K.V4 K.N8 (fun j hj => (fr6 j (by have h9 := lbX_lt K.N8 K.V4 K.M40 hj; omega)).trans (hu j)), ⟨⟨_, co2⟩, (fr6 1003 (by omega)).trans h6.qd, (fr6 1005 (by omega)).trans h6.qFO, (fr6 1006 (by omega)).trans h6.qTO, (fr6 1007 (by omega)).trans h6.qK, (fr6 1008 (by omega)).trans h6.qZ, ⟨fm, (fr6 1009 (by omega)).trans hF1, hF2⟩, h6.xq.kept (fun j hj => fr6 j (by unfold lbQ at hj; omega)), ⟨rz, eq, (fr6 1018 (by omega)).trans hW1, (fr6 1019 (by omega)).trans hW2, fun h => Bool.noConfusion h⟩, (fr6 1021 (by omega)).trans h6.qv, (fr6 1023 (by omega)).trans h6.qNN, ⟨nf, (fr6 1024 (by omega)).trans hNF1, hNF2⟩, ⟨rr, hR1, (fr6 1028 (by omega)).trans hR2⟩⟩, ⟨h1, h1, hJ.jp.nc, hJ.jp.ev, hJ.jp.zd, hJ.jp.zv, hJ.jp.nn, hJ.jp.zn⟩, (fr6 1100 (by omega)).trans ((hu 1100).trans ((fr 1100 (by omega)).trans hJ.cj))⟩⟩
      · exact absurd ⟨k1, Nat.zero_le _, h1, e1⟩ hne
    · have hJq : JJ G ad g1 N V M th T o := by rw [hu]; exact hJ
      rcases hp2 with ⟨k1b, h1b, e1b, -⟩ | ⟨-, co2⟩
      · exact absurd ⟨k1b, Nat.zero_le _, h1b, e1b⟩ hne
      · exact ⟨T, 1, o, hk, ⟨hJq.x5.kept K.V4 K.N8 (fun j hj => fr6 j (by have h9 := lbX_lt K.N8 K.V4 K.M40 hj; omega)), ⟨⟨_, co2⟩, (fr6 1003 (by omega)).trans h6.qd, (fr6 1005 (by omega)).trans h6.qFO, (fr6 1006 (by omega)).trans h6.qTO, (fr6 1007 (by omega)).trans h6.qK, (fr6 1008 (by omega)).trans h6.qZ, ⟨fm, (fr6 1009 (by omega)).trans hF1, hF2⟩, h6.xq.kept (fun j hj => fr6 j (by unfold lbQ at hj; omega)), ⟨rz, eq, (fr6 1018 (by omega)).trans hW1, (fr6 1019 (by omega)).trans hW2, hW3⟩, (fr6 1021 (by omega)).trans h6.qv, (fr6 1023 (by omega)).trans h6.qNN, ⟨nf, (fr6 1024 (by omega)).trans hNF1, hNF2⟩, ⟨rr, hR1, (fr6 1028 (by omega)).trans hR2⟩⟩, hJ.jp, (fr6 1100 (by omega)).trans hJq.cj⟩⟩
  exact lw_end0 K hE hP hS hl hz ⟨Nat.le_refl _, Nat.le_refl _⟩ hc dL_law_298 dL_law_299 dL_law_302 dL_law_304 dL_law_309 (by omega)

set_option maxHeartbeats 4000000 in
set_option maxRecDepth 100000 in
theorem k_begin {p : Program} {l : Launch} {e : Env} {s : State} {m : MethodId} {below : List Frame} {meth : Method} {c : Code} {H : Heap} {locs : List Loc} {cells slots : Nat} {Q : State → Prop} {ls : Array Slot} {G : cx_G} {L : List Nat} {ad : Nat → Nat} {g : Nat → va_E} {b Ln N V M q th : Nat} {xs : Nat → Int32} {T : TA} {o : Nat → Int64} (K : LK p l s m c G L ad b Ln xs N V M) (hJ : JJ G ad g N V M th T o) (hP : va_P G.1 vwCl (wl L ad g) H) (hS : va_S (cx_A L ad s.heap.size) s.heap H locs) (hl : lv_has ls 7 (lwl b ad q)) (hq5 : q + 4 < Ln) (hc : cells + 4 ≤ 634768 ∧ slots + 24 ≤ 7191766) (hz : LZ p l e s m below meth c Q G L ad b N V M q cells slots) : W p l e room_1 s m #[Value.ref b] below meth c H locs cells slots Q (F0 m 660 ls []) := by
  have hN1 := K.N1
  have hN8 := K.N8
  have hV1 := K.V1
  have hV4 := K.V4
  have h00 : 0 ∈ L := K.hm 0 (Or.inl (by decide))
  obtain ⟨wk, hw1, hw2⟩ := hJ.x5.qw
  refine lv_aload_n K.hx K.hb dL_law_660 rfl (lv_at hl 2 rfl) ?_
  refine lw_arg (a := 0) (k := 1) K hS hl rfl rfl (by omega) (by decide) dL_law_661 dL_law_662 dL_law_664 dL_law_665 dL_law_666 ?_
  refine lw_arg (a := 0) (k := 2) K hS hl rfl rfl (by omega) (by decide) dL_law_667 dL_law_668 dL_law_670 dL_law_671 dL_law_672 ?_
  refine cx_WSi (As := [.ref (ad 0), .int (xs (q + 1)), .int (xs (q + 2))]) (rest := []) (mc := 4) (ms := 24) ⟨K.hx, K.hb, K.hml, K.hown, K.hts⟩ (c_L_begin K.hD (c_X5_begin K.st9 K.hD K.N8 K.V1 K.V4 K.hM K.M40 K.hm hJ.x5.qo hJ.x5.qv) (fun E h => h.1) h00 hJ.x5.qo) (vx_cwSW 3 K.hts gL_law_L_begin rfl rfl rfl (by decide +kernel) ⟨Nat.le_of_ble_eq_true rfl, Nat.le_of_ble_eq_true rfl⟩) K.hK K.hX hP hS (Nat.le_refl _) hc rfl hl.1 rfl (Nat.le_of_ble_eq_true rfl) dL_law_673 (fun k g1 H locs hp hP hS => ?_)
  refine lv_istore (lv' := (5, .int k) :: lwl b ad q) K.hx K.hb dL_law_676 hl (by decide) rfl (fun ls hl => ?_)
  have hf1 : ∀ j : Nat, 1000 ≤ j → j < 1100 → g1 j = g j := by
    intro j hj1 hj2
    rcases hp with ⟨-, u0, ⟨k1, h0, h1, e1, fr, c5o, c5v⟩, hu⟩ | ⟨-, -, hu⟩
    · exact (hu j).trans (fr j (by omega))
    · rw [hu]
  have h6 : J6 G ad g1 N V th T := hJ.x6.kept hf1
  obtain ⟨sz, co⟩ := h6.qo
  obtain ⟨fm, hF1, hF2⟩ := h6.qF
  obtain ⟨mn, pq, cm, nd, nx, tb, pz, hQ1, hQ2, hQ3, hQ4, hQ5, hQ6, hQ7, hqp, hpv⟩ := h6.xq
  obtain ⟨rz, eq, hW1, hW2, hW3⟩ := h6.qW
  obtain ⟨nf, hNF1, hNF2⟩ := h6.qNF
  obtain ⟨rr, hR1, hR2⟩ := h6.qR
  refine lv_aload_n K.hx K.hb dL_law_678 rfl (lv_at hl 4 rfl) ?_
  refine lw_arg (a := 1) (k := 1) K hS hl rfl rfl (by omega) (by decide) dL_law_679 dL_law_680 dL_law_682 dL_law_683 dL_law_684 ?_
  refine lw_arg (a := 1) (k := 2) K hS hl rfl rfl (by omega) (by decide) dL_law_685 dL_law_686 dL_law_688 dL_law_689 dL_law_690 ?_
  refine cx_Vv (As := [.int (xs (q + 1)), .int (xs (q + 2))]) (rest := []) ⟨K.hx, K.hb, K.hml, K.hown, K.hts⟩ (c_X6_begin K.hD K.N1 K.N8 K.V1 K.V4 K.hq co h6.qv) (cwV 2 K.hts gL_law_X6_begin rfl rfl rfl (by decide +kernel) ⟨Nat.le_of_ble_eq_true rfl, Nat.le_of_ble_eq_true rfl⟩) K.hK hP hS (Nat.le_refl _) (K.hq _ (by decide)) co rfl hc rfl hl.1 rfl (Nat.le_of_ble_eq_true rfl) dL_law_691 (fun g2 H locs hp2 hP hS => ?_)
  have hE : JE0 G ad g2 N V M k := by
    obtain ⟨fr6, hp2⟩ := hp2
    rcases hp with ⟨hk, u0, ⟨k1, h0, h1, e1, fr, c5o, c5v⟩, hu⟩ | ⟨hk, ⟨-, hne⟩, hu⟩
    · rcases hp2 with ⟨k1b, h0b, h1b, e1b, co2, cv2⟩ | ⟨hne, -⟩
      · have ekk : k1b = k1 := (nI_eq (by omega) (by omega)).mp (e1b.symm.trans e1)
        rw [ekk] at cv2
        exact ⟨(T.an, T.ec, T.en, T.al, T.en, T.nc, T.qd, nu T.va k1 (fi (xs (q + 2)).toInt), T.ef, T.et, T.ek, T.ev, T.ez, T.eg, T.nn, T.ng, T.P), 0, o, hk, ⟨J5.kept (g := u0) (T := (T.an, T.ec, T.en, T.al, T.en, T.nc, T.qd, nu T.va k1 (fi (xs (q + 2)).toInt), T.ef, T.et, T.ek, T.ev, T.ez, T.eg, T.nn, T.ng, T.P)) (⟨c5o, (fr 1 (by omega)).trans hJ.x5.qd, c5v, ⟨wk, hw1, (fr 3 (by omega)).trans hw2⟩, (fr 4 (by omega)).trans hJ.x5.qE, (fr 5 (by omega)).trans hJ.x5.qH, (fr 6 (by omega)).trans hJ.x5.qA, (fr 7 (by omega)).trans hJ.x5.qN, hJ.x5.xe.kept (fun j _ _ => fr j (by omega)), hJ.x5.xn.kept (fun j _ _ => fr j (by omega)), hJ.x5.xa.kepX K.V4 K.N8 (fun j hj hj2 => fr j (by have h9 := lbX_lt K.N8 K.V4 K.M40 hj; omega)), (by obtain ⟨t2, kp2, rs2, h9⟩ := hJ.x5.sx; exact ⟨t2, kp2, rs2, h9.kept (fun j _ _ => fr j (by omega))⟩)⟩) K.V4 K.N8 (fun j hj => (fr6 j (by have h9 := lbX_lt K.N8 K.V4 K.M40 hj; omega)).trans (hu j)), ⟨⟨_, co2⟩, (fr6 1003 (by omega)).trans h6.qd, (fr6 1005 (by omega)).trans h6.qFO, (fr6 1006 (by omega)).trans h6.qTO, (fr6 1007 (by omega)).trans h6.qK, (fr6 1008 (by omega)).trans h6.qZ, ⟨fm, (fr6 1009 (by omega)).trans hF1, hF2⟩, h6.xq.kept (fun j hj => fr6 j (by unfold lbQ at hj; omega)), ⟨rz, eq, (fr6 1018 (by omega)).trans hW1, (fr6 1019 (by omega)).trans hW2, hW3⟩, cv2, (fr6 1023 (by omega)).trans h6.qNN, ⟨nf, (fr6 1024 (by omega)).trans hNF1, hNF2⟩, ⟨rr, hR1, (fr6 1028 (by omega)).trans hR2⟩⟩, ⟨hJ.jp.en, hJ.jp.en, hJ.jp.nc, hJ.jp.ev, hJ.jp.zd, hJ.jp.zv.nu h1 _, hJ.jp.nn, hJ.jp.zn⟩, (fr6 1100 (by omega)).trans ((hu 1100).trans ((fr 1100 (by omega)).trans hJ.cj))⟩⟩
      · exact absurd ⟨k1, h0, h1, e1⟩ hne
    · have hJq : JJ G ad g1 N V M th T o := by rw [hu]; exact hJ
      rcases hp2 with ⟨k1b, h0b, h1b, e1b, -⟩ | ⟨-, co2, cv2⟩
      · exact absurd ⟨k1b, h0b, h1b, e1b⟩ hne
      · exact ⟨T, 1, o, hk, ⟨hJq.x5.kept K.V4 K.N8 (fun j hj => fr6 j (by have h9 := lbX_lt K.N8 K.V4 K.M40 hj; omega)), ⟨⟨_, co2⟩, (fr6 1003 (by omega)).trans h6.qd, (fr6 1005 (by omega)).trans h6.qFO, (fr6 1006 (by omega)).trans h6.qTO, (fr6 1007 (by omega)).trans h6.qK, (fr6 1008 (by omega)).trans h6.qZ, ⟨fm, (fr6 1009 (by omega)).trans hF1, hF2⟩, h6.xq.kept (fun j hj => fr6 j (by unfold lbQ at hj; omega)), ⟨rz, eq, (fr6 1018 (by omega)).trans hW1, (fr6 1019 (by omega)).trans hW2, hW3⟩, cv2, (fr6 1023 (by omega)).trans h6.qNN, ⟨nf, (fr6 1024 (by omega)).trans hNF1, hNF2⟩, ⟨rr, hR1, (fr6 1028 (by omega)).trans hR2⟩⟩, hJ.jp, (fr6 1100 (by omega)).trans hJq.cj⟩⟩
  exact lw_end0 K hE hP hS hl hz ⟨Nat.le_refl _, Nat.le_refl _⟩ hc dL_law_694 dL_law_695 dL_law_698 dL_law_700 dL_law_705 (by omega)
