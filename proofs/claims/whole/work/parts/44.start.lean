/-! THE LAW: its start -/
theorem lw_nA {L : List Nat} {ad : Nat → Nat} {z a : Nat} (h : ∀ j : Nat, j ∈ L → z ≤ ad j) (ha : a < z) (hA : cx_A L ad z a) : False := by
  rcases hA with ⟨j, hj, he⟩ | hA
  · have h9 := h j hj
    omega
  · omega
def lwO : List Value := [.int (nI 0), .null, .null, .int (nI 0), .int (nI 0), .null, .null, .int (nI 0), .int (if false = true then 1 else 0), .int (nI 0), .null, .null, .int (nI 0), .null, .null]
def lwM : List Value := [.int (nI 0), .int (nI 0), .int (nI 0), .null, .int (nI 0), .null, .null, .null, .null, .null, .int (nI 0), .int (if false = true then 1 else 0), .null, .null, .null, .int (nI 0), .null, .null, .null, .null, .int (nI 0), .null, .int (nI 0), .null, .null, .int (nI 0), .null, .null, .null]
theorem lwO_d : ∀ j, j < 15 → defaultValue (tyX5 j) = vp_V lwO j := by decide +kernel
theorem lwM_d : ∀ j, j < 29 → defaultValue (tyX6 j) = vp_V lwM j := by decide +kernel
def lwT : TA := (false, 0, 0, 0, 0, 0, fun _ => 0, nu (fun _ => 0) 0 1, fun _ => 0, fun _ => 0, fun _ => 0, fun _ => 0, fun _ => nI 0, fun _ _ => 0, fun _ => 0, fun _ _ => 0, PS0)
theorem lw_jp {N V : Nat} (hN : 1 ≤ N) : JP N V lwT := ⟨hN, hN, Nat.zero_le _, ⟨Nat.zero_le _, fun i hi => absurd hi (Nat.not_lt_zero i), fun i => Zb.zero _⟩, Zb.zero _, (Zb.zero (V + 1)).nu (Nat.succ_pos V) 1, fun i hi => absurd hi (Nat.not_lt_zero i), fun i => Zb.zero _⟩
set_option maxHeartbeats 4000000 in
set_option maxRecDepth 100000 in
/-- YOUR PART: from the entry, for every script of at most 2562 ints, the law comes to its end with true ('hflags': the launch's flags, for a law that throws: no stack traces) -/
theorem whole_start {p : Program} {e : Env} {s : State} {m : MethodId} {below : List Frame} {meth : Method} {c : Code} (l : Launch) (hflags : l.flags = flags0) {b L : Nat} {xs : Nat → Int32} (hL : L ≤ 2562) (C0 : lw_At p s m meth c b L xs) : W p l e room_1 s m #[Value.ref b] below meth c s.heap [] 0 0 (lw_Z below #[Value.ref b] s) (entryFrame m ([Value.ref b] : List Value).toArray 7) := by
  obtain ⟨hx, hb, hr, hml, hown, hts0, hX, hbl, hlocks, hgv⟩ := id C0
  have hst9 : l.stackTraces = false := by rw [Launch.stackTraces, hflags]; decide +kernel
  have hb : c.code = cL_law := hb
  have hown : s.vm.findClass RL = some m.cls := hown
  have hts : ∀ w ∈ wsL_law, w.before #[Value.ref b] s = true := fun w hw => hts0 w (wsL_law_in w hw)
  obtain ⟨G, hK⟩ := lw_world hts0
  have hY := lw_Y hts0
  have hN1 := clN_1 8 (if 0 < L then xs 0 else 0) (by omega)
  have hN8 := clN_le 8 (if 0 < L then xs 0 else 0) (by omega)
  have hV1 := clN_1 4 (if 1 < L then xs 1 else 0) (by omega)
  have hV4 := clN_le 4 (if 1 < L then xs 1 else 0) (by omega)
  obtain ⟨N, hNe⟩ : ∃ N : Nat, N = clN 8 (if 0 < L then xs 0 else 0) := ⟨_, rfl⟩
  obtain ⟨V, hVe⟩ : ∃ V : Nat, V = clN 4 (if 1 < L then xs 1 else 0) := ⟨_, rfl⟩
  obtain ⟨M, hM⟩ : ∃ M : Nat, M = N * (V + 1) := ⟨_, rfl⟩
  rw [← hNe] at hN1 hN8
  rw [← hVe] at hV1 hV4
  have hM40 : M ≤ 40 := by rw [hM]; exact Nat.mul_le_mul hN8 (by omega : V + 1 ≤ 5)
  obtain ⟨ad, had⟩ : ∃ ad : Nat → Nat, ad = lwA s.heap.size N V M := ⟨_, rfl⟩
  have hadx : ADX ad (s.heap.size + 1) N V M (lwN N V M) (lwH s.heap.size V) := by rw [had]; exact lw_adx hN8 hV4 hM40
  have hadm : ADM ad (s.heap.size + 2 + lwN N V M) := by rw [had]; exact lw_adm
  have ha0 : ad 0 = s.heap.size := by rw [had]; rfl
  have ha1 : ad 1000 = s.heap.size + 1 + lwN N V M := by rw [had]; rfl
  have ha2 : ad 1100 = s.heap.size + 21 + lwN N V M := by rw [had]; rfl
  clear had
  have hl := lv_entry ([.ref b]) (n := 7) (Nat.le_of_ble_eq_true rfl)
  rw [lg_entry_eq]
  generalize (lg_sl ([.ref b]) ++ List.replicate (7 - (lg_sl ([.ref b])).length) Slot.unset).toArray = ls at hl ⊢
  have hl : lv_has ls 7 [(0, .ref b)] := hl
  have hS : va_S (cx_A [] ad s.heap.size) s.heap s.heap [] := va_S.rf
  have hD : cx_D [] ad := ⟨fun i j k h => by simp at h, fun i j h => by simp at h⟩
  have hP : va_P G.1 vwCl (wl [] ad (fun _ => .inr (0, []))) s.heap := fun k q h => by simp [wl] at h
  have S : CallFix p m c cL_law 7 s #[Value.ref b] wsL_law RL := ⟨hx, hb, hml, hown, hts⟩
  refine ax_new (k := 0) (ci := 5) (fs := lwO) (C := RX5) (T := TX5) (N := 15) hx hb hts inlX5 tyX5 tyX5_ok hown (hts0 (.classLink RL 8 RX5) (by decide +kernel)) (hts0 (.instantiable RX5 15) (by decide +kernel)) (hts0 (.initialized RX5) (by decide +kernel)) hK hP hD hS ha0 rfl lwO_d (show 0 + 1 ≤ 634768 by omega) (show 0 + 15 ≤ 7191766 by omega) dL_law_0 (fun L1 H g1 eL1 eg1 hH1 hP hD hS => ?_)
  have c_o : g1 0 = .inr (5, lwO) := by rw [eg1]; exact va_up_self _ _ _
  have hLG : ∀ j : Nat, j ∈ L1 → s.heap.size ≤ ad j := fun j hj => by
    rw [eL1] at hj
    rw [show j = 0 by simpa using hj]
    omega
  have h0L : ∀ j : Nat, j = 0 → j ∈ L1 := fun j hj => by rw [eL1, hj]; simp
  clear eL1 eg1
  refine lv_dup hx hb dL_law_3 rfl ?_
  refine lv_aload_n hx hb dL_law_4 rfl (lv_at hl 0 rfl) ?_
  refine lv_iconst (v := nI 0) hx hb dL_law_5 (by decide) ?_
  refine lw_cell S hts (by omega) hL hX hbl (fun h => lw_nA hLG hbl h) hP hS hl.1 (show 0 + 1 ≤ 634768 ∧ 0 + 15 ≤ 7191766 from ⟨by omega, by omega⟩) (Nat.le_of_ble_eq_true rfl) dL_law_6 (fun H1 locs1 hH2 hP hS => ?_)
  refine lv_aload_n hx hb dL_law_9 rfl (lv_at hl 0 rfl) ?_
  refine lv_iconst (v := nI 1) hx hb dL_law_10 (by decide) ?_
  refine lw_cell S hts (by omega) hL hX hbl (fun h => lw_nA hLG hbl h) hP hS hl.1 (show 0 + 1 ≤ 634768 ∧ 0 + 15 ≤ 7191766 from ⟨by omega, by omega⟩) (Nat.le_of_ble_eq_true rfl) dL_law_11 (fun H2 locs2 hH3 hP hS => ?_)
  have hHs : H2.size = s.heap.size + 1 := by omega
  refine cx_Iv (As := [.int (if 0 < L then xs 0 else 0), .int (if 1 < L then xs 1 else 0)]) (rest := [.ref (ad 0)]) (na := lwN N V M) (mc := 300) (ms := 1600) S (c_X5_init hD hNe hVe hM (by rw [hHs]; exact hadx) c_o h0L) (cwI 2 hts gL_law_X5_init rfl rfl rfl (hts0 (.initialized RX5) (by decide +kernel)) (hts0 (.methodLink RL 70 yX5_init) (by decide +kernel)) (hts0 (.instanceMethod yX5_init) (by decide +kernel)) rfl (by decide +kernel) ⟨Nat.le_of_ble_eq_true rfl, Nat.le_of_ble_eq_true rfl⟩) hK hY hP hS (Nat.le_refl _) (show 0 + 1 + 300 ≤ 634768 ∧ 0 + 15 + 1600 ≤ 7191766 from ⟨by omega, by omega⟩) rfl hl.1 rfl (Nat.le_of_ble_eq_true rfl) dL_law_14 (fun u2 H locs hp2 hlk2 hP hD hH4 hAn2 hS => ?_)
  obtain ⟨hm2, q0, q1, q2, q3, q4, q5, q6, q7, qE, qN, qA, qS⟩ := hp2
  have hJ5 : J5 G ad u2.2 N V M lwT := ⟨q0, q1, q2, ⟨_, Zb.zero _, q3⟩, q4, q5, q6, q7, qE, qN, qA, _, _, _, qS⟩
  have hLG : ∀ j : Nat, j ∈ u2.1 → s.heap.size ≤ ad j := fun j hj => by
    rcases hAn2 (ad j) (Or.inl ⟨j, hj, rfl⟩) with ⟨i, hi, he⟩ | h
    · rw [he]; exact hLG i hi
    · omega
  clear q0 q1 q2 q3 q4 q5 q6 q7 qE qN qA qS hAn2 h0L c_o
  have hHs : H.size = s.heap.size + 1 + lwN N V M := by omega
  refine lv_astore_n (lv' := [(1, .ref (ad 0)), (0, .ref b)]) hx hb dL_law_17 rfl hl (by decide) rfl (fun ls hl => ?_)
  refine ax_new (k := 1000) (ci := 6) (fs := lwM) (C := RX6) (T := TX6) (N := 29) hx hb hts inlX6 tyX6 tyX6_ok hown (hts0 (.classLink RL 72 RX6) (by decide +kernel)) (hts0 (.instantiable RX6 29) (by decide +kernel)) (hts0 (.initialized RX6) (by decide +kernel)) hK hP hD hS (by omega) rfl lwM_d (show 0 + 1 + 300 + 1 ≤ 634768 by omega) (show 0 + 15 + 1600 + 29 ≤ 7191766 by omega) dL_law_18 (fun L3 H g3 eL3 eg3 hH5 hP hD hS => ?_)
  have c_o : g3 1000 = .inr (6, lwM) := by rw [eg3]; exact va_up_self _ _ _
  have hJ5 : J5 G ad g3 N V M lwT := hJ5.kept hV4 hN8 (fun j hj => by rw [eg3]; exact va_up_ne _ _ (by have h9 := lbX_lt hN8 hV4 hM40 hj; omega))
  have hm3 : ∀ j : Nat, lbX N V M j → j ∈ L3 := fun j hj => by rw [eL3]; exact List.mem_append_left _ (hm2 j hj)
  have hLG : ∀ j : Nat, j ∈ L3 → s.heap.size ≤ ad j := fun j hj => by
    rw [eL3] at hj
    rcases List.mem_append.mp hj with h | h
    · exact hLG j h
    · rw [List.mem_singleton.mp h]; omega
  have h0L : ∀ j : Nat, j = 1000 → j ∈ L3 := fun j hj => by rw [eL3, hj]; simp
  clear eL3 eg3 hm2
  refine lv_dup hx hb dL_law_21 rfl ?_
  refine lv_aload_n hx hb dL_law_22 rfl (lv_at hl 1 rfl) ?_
  refine lv_iconst (v := nI 0) hx hb dL_law_23 (by decide) ?_
  refine lw_cell S hts (by omega) hL hX hbl (fun h => lw_nA hLG hbl h) hP hS hl.1 (show 0 + 1 + 300 + 1 ≤ 634768 ∧ 0 + 15 + 1600 + 29 ≤ 7191766 from ⟨by omega, by omega⟩) (Nat.le_of_ble_eq_true rfl) dL_law_24 (fun H1 locs1 hH6 hP hS => ?_)
  refine lv_aload_n hx hb dL_law_27 rfl (lv_at hl 1 rfl) ?_
  refine lv_iconst (v := nI 1) hx hb dL_law_28 (by decide) ?_
  refine lw_cell S hts (by omega) hL hX hbl (fun h => lw_nA hLG hbl h) hP hS hl.1 (show 0 + 1 + 300 + 1 ≤ 634768 ∧ 0 + 15 + 1600 + 29 ≤ 7191766 from ⟨by omega, by omega⟩) (Nat.le_of_ble_eq_true rfl) dL_law_29 (fun H2 locs2 hH7 hP hS => ?_)
  have hHs : H2.size = s.heap.size + 2 + lwN N V M := by omega
  refine cx_Iv (As := [.int (if 0 < L then xs 0 else 0), .int (if 1 < L then xs 1 else 0)]) (rest := [.ref (ad 1000)]) (na := 19) (mc := 19) (ms := 1080) S (c_X6_init hD hNe hVe (by rw [hHs]; exact hadm) c_o h0L) (cwI 2 hts gL_law_X6_init rfl rfl rfl (hts0 (.initialized RX6) (by decide +kernel)) (hts0 (.methodLink RL 74 yX6_init) (by decide +kernel)) (hts0 (.instanceMethod yX6_init) (by decide +kernel)) rfl (by decide +kernel) ⟨Nat.le_of_ble_eq_true rfl, Nat.le_of_ble_eq_true rfl⟩) hK hY hP hS (Nat.le_refl _) (show 0 + 1 + 300 + 1 + 19 ≤ 634768 ∧ 0 + 15 + 1600 + 29 + 1080 ≤ 7191766 from ⟨by omega, by omega⟩) rfl hl.1 rfl (Nat.le_of_ble_eq_true rfl) dL_law_32 (fun u4 H locs hp4 hlk4 hP hD hH8 hAn4 hS => ?_)
  obtain ⟨hq4, fr4, qo, qd, qFO, qTO, qK, qZ, qF, q12, q13, q14, q16, q17, q18, q19, q21, q23, q24, q26, q27, q28⟩ := hp4
  have hJ6 : J6 G ad u4.2 N V 0 lwT := ⟨⟨0, qo⟩, qd, qFO, qTO, qK, qZ, ⟨_, qF, fun _ _ _ => rfl⟩, ⟨_, _, _, _, _, _, _, q12, q13, q14, q16, q17, q26, q27, QP.ps0 (fun _ _ => rfl), PV.ps0⟩, ⟨_, _, q18, q19, fun h => Bool.noConfusion h⟩, q21, q23, ⟨_, q24, fun _ _ _ => rfl⟩, ⟨_, Zb.zero _, q28⟩⟩
  have hJ5 : J5 G ad u4.2 N V M lwT := hJ5.kept hV4 hN8 (fun j hj => fr4 j (Or.inl (lbX_lt hN8 hV4 hM40 hj)))
  have hm4 : ∀ j : Nat, lbX N V M j → j ∈ u4.1 := fun j hj => hlk4 j (hm3 j hj)
  have hLG : ∀ j : Nat, j ∈ u4.1 → s.heap.size ≤ ad j := fun j hj => by
    rcases hAn4 (ad j) (Or.inl ⟨j, hj, rfl⟩) with ⟨i, hi, he⟩ | h
    · rw [he]; exact hLG i hi
    · omega
  clear qo qd qFO qTO qK qZ qF q12 q13 q14 q16 q17 q18 q19 q21 q23 q24 q26 q27 q28 hAn4 h0L c_o fr4 hm3
  refine lv_astore_n (lv' := [(2, .ref (ad 1000)), (1, .ref (ad 0)), (0, .ref b)]) hx hb dL_law_35 rfl hl (by decide) rfl (fun ls hl => ?_)
  refine lv_iconst (v := nI 1) hx hb dL_law_36 (by decide) ?_
  refine ax_newJ (k := 1100) (n := 1) (f := fun _ => 0) hx hb (hts0 (.arrayClass .long) (by decide +kernel)) hK hP hD hS (by omega) (fun _ => rfl) (by omega) (show 0 + 1 + 300 + 1 + 19 + 1 ≤ 634768 by omega) (show 0 + 15 + 1600 + 29 + 1080 + 1 ≤ 7191766 by omega) dL_law_37 (fun L5 H g5 eL5 eg5 hH9 hP hD hS => ?_)
  have c_j : g5 1100 = jA G 1 (fun _ => 0) := by rw [eg5]; exact va_up_self _ _ _
  have hJ5 : J5 G ad g5 N V M lwT := hJ5.kept hV4 hN8 (fun j hj => by rw [eg5]; exact va_up_ne _ _ (by have h9 := lbX_lt hN8 hV4 hM40 hj; omega))
  have hJ6 : J6 G ad g5 N V 0 lwT := hJ6.kept (fun j h1 h2 => by rw [eg5]; exact va_up_ne _ _ (by omega))
  have hLG : ∀ j : Nat, j ∈ L5 → s.heap.size ≤ ad j := fun j hj => by
    rw [eL5] at hj
    rcases List.mem_append.mp hj with h | h
    · exact hLG j h
    · rw [List.mem_singleton.mp h]; omega
  have K : LK p l s m c G L5 ad b L xs N V M := ⟨hx, hb, hml, hown, hts, hst9, hK, lw_X hts0 hgv (fun a ha h => lw_nA hLG ha h), hD, fun j hj => by rw [eL5]; exact List.mem_append_left _ (hm4 j hj), fun j hj => by rw [eL5]; exact List.mem_append_left _ (hq4 j hj), by rw [eL5]; simp, hX, hbl, fun h => lw_nA hLG hbl h, hL, hN1, hN8, hV1, hV4, hM, hM40⟩
  refine lv_astore_n (lv' := [(3, .ref (ad 1100)), (2, .ref (ad 1000)), (1, .ref (ad 0)), (0, .ref b)]) hx hb dL_law_39 rfl hl (by decide) rfl (fun ls hl => ?_)
  refine lv_iconst (v := nI 2) hx hb dL_law_40 (by decide) ?_
  refine lv_istore (lv' := [(4, .int (nI 2)), (3, .ref (ad 1100)), (2, .ref (ad 1000)), (1, .ref (ad 0)), (0, .ref b)]) hx hb dL_law_41 hl (by decide) rfl (fun ls hl => ?_)
  refine lw_loop K (fun g H locs ls ce sl hP hS hcs => ?_) (L + 1) 2 g5 lwT 0 (fun _ => 0) H _ ls _ _ (by omega) (by omega) ⟨hJ5, hJ6, lw_jp hN1, c_j⟩ hP hS (lv_sub hl [0, 4, 3, 2, 1] rfl) (by omega) (by omega)
  refine lv_iconst (v := 1) hx hb dL_law_971 (by decide) ?_
  refine va_forget (fun q hq => ?_) (W.widen (k := 634768) (n := 7191766) hcs.1 hcs.2 (lw_ret hx hb hr hlocks dL_law_972))
  rcases hS.2.2 q hq with ⟨j, hj, he⟩ | h
  · rw [he]; exact hLG j hj
  · exact h
