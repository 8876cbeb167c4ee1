/-! THE LAW: its world's facts, out of the tables -/
abbrev rm_L_cell : Room := { frames := 0, cells := 0, slots := 0, locals := 0 }
set_option maxHeartbeats 4000000 in
theorem c_L_cell {l : Launch} {b Ln k : Nat} {xs : Nat → Int32} (hk : k < 2) (hLn : Ln ≤ 2562) : ∀ sz : Nat, Met l yL_cell wsL_cell rm_L_cell (va_Pc [.ref b, .int (nI k)] (fun U => U.heap.size = sz ∧ va_X b Ln xs U U.heap ∧ b < sz)) (va_Qi (fun r (_ : Unit) => r = if k < Ln then xs k else 0) (fun _ t => t.heap.size = sz) (fun q => sz ≤ q)) 0 0 (fun q => sz ≤ q) := by
  intro sz
  refine cx_ofW (cc := cL_cell) (maxL := 2) (by decide +kernel) rfl ?_
  intro p e s m args below meth c s₁ B hml hv
  obtain ⟨rfl, hsz, hX, hbl⟩ := hv
  subst hsz
  rw [lg_entry_eq]
  have hx := B.exec
  have hb := B.bytes
  have hl := lv_entry [.ref b, .int (nI k)] (n := 2) (Nat.le_of_ble_eq_true rfl)
  generalize (lg_sl [.ref b, .int (nI k)] ++ List.replicate (2 - (lg_sl [.ref b, .int (nI k)]).length) Slot.unset).toArray = ls at hl ⊢
  have hl : lv_has ls 2 [(0, .ref b), (1, .int (nI k))] := hl
  have hS : va_S (fun q => s.heap.size ≤ q) s.heap s.heap [] := va_S.rf
  have hbA : ¬ (fun q => s.heap.size ≤ q) b := Nat.not_le.mpr hbl
  refine lv_iload_n hx hb dL_cell_0 rfl (lv_at hl 1 rfl) ?_
  refine lv_aload_n hx hb dL_cell_1 rfl (lv_at hl 0 rfl) ?_
  refine va_slen hx hb hX hbl hbA hS dL_cell_2 ?_
  refine lv_icmp_ge (x := nI k) (y := nI Ln) (tgt := 12) hx hb dL_cell_3 (by decide) (fun h => ?_) (fun h => ?_)
  · have h9 := (nI_leI (by omega) (by omega)).mp h
    refine lv_iconst (v := 0) hx hb dL_cell_12 (by decide) ?_
    exact W.zret hx hb B.returns rfl (fun t ht hW => ⟨⟨0, (), rfl, (if_neg (by omega)).symm, (by show t.heap.size = s.heap.size; rw [ht])⟩, hS.F ht⟩) hS.2.2 dL_cell_13 B.notSynchronized
  · have h9 : k < Ln := Nat.not_le.mp fun z => h ((nI_leI (by omega) (by omega)).mpr z)
    refine lv_aload_n hx hb dL_cell_6 rfl (lv_at hl 0 rfl) ?_
    refine lv_iload_n hx hb dL_cell_7 rfl (lv_at hl 1 rfl) ?_
    refine va_sld hx hb hX hbl hbA hS (vp_in_nI h9 (by omega)) dL_cell_8 ?_
    rw [nI_clamp (by omega)]
    refine lv_goto (tgt := 13) hx hb dL_cell_9 (by decide) ?_
    exact W.zret hx hb B.returns rfl (fun t ht hW => ⟨⟨xs k, (), rfl, (if_pos h9).symm, (by show t.heap.size = s.heap.size; rw [ht])⟩, hS.F ht⟩) hS.2.2 dL_cell_13 B.notSynchronized
theorem lw_cell {p : Program} {l : Launch} {e : Env} {s : State} {m : MethodId} {below : List Frame} {meth : Method} {c : Code} {H : Heap} {locs : List Loc} {cells slots : Nat} {Q : State → Prop} {G : cx_G} {L : List Nat} {ad : Nat → Nat} {g : Nat → va_E} {b Ln k pc : Nat} {xs : Nat → Int32} {ls : Array Slot} {rest : List Value} (S : CallFix p m c cL_law 7 s #[Value.ref b] wsL_law RL) (hts : ∀ w ∈ wsL_law, w.before #[Value.ref b] s = true) (hk : k < 2) (hLn : Ln ≤ 2562) (hX : va_X b Ln xs s s.heap) (hbl : b < s.heap.size) (hbA : ¬ cx_A L ad s.heap.size b) (hP : va_P G.1 vwCl (wl L ad g) H) (hS : va_S (cx_A L ad s.heap.size) s.heap H locs) (hsize : ls.size = 7) (hc : cells ≤ 634768 ∧ slots ≤ 7191766) (hW : (rest.map fun v => v.category).sum ≤ 8) (hdg : decode cL_law pc = .ok (.invokestatic 64, 3))
    (kk : ∀ (H1 : Heap) (locs1 : List Loc), H1.size = H.size → va_P G.1 vwCl (wl L ad g) H1 → va_S (cx_A L ad s.heap.size) s.heap H1 locs1 → W p l e room_1 s m #[Value.ref b] below meth c H1 locs1 cells slots Q (F0 m (pc + 3) ls (.int (if k < Ln then xs k else 0) :: rest))) : W p l e room_1 s m #[Value.ref b] below meth c H locs cells slots Q (F0 m pc ls (.int (nI k) :: .ref b :: rest)) := by
  have hXH : va_X b Ln xs s H := hX.kept (hS.2.1 b hbl hbA)
  have hr : va_Run p l e room_1 s m #[Value.ref b] below meth c H locs cells slots 0 0 (F0 m pc ls (.int (nI k) :: .ref b :: rest)) rest (va_Qi (fun r (_ : Unit) => r = if k < Ln then xs k else 0) (fun _ t => t.heap.size = H.size) (fun q => H.size ≤ q) [Value.ref b, .int (nI k)].toArray) (fun q => H.size ≤ q) :=
    va_runS (As := [.ref b, .int (nI k)]) S (c_L_cell hk hLn H.size) (va_cwS 2 hts gL_law_L_cell rfl rfl rfl (by decide +kernel) ⟨Nat.le_of_ble_eq_true rfl, Nat.le_of_ble_eq_true rfl⟩) ⟨fun a U gg mk q => ⟨q.1, q.2.1, va_X.moved (u := U) (U := U.calling gg mk a) (Vm.Alike.refl _) q.2.2.1, q.2.2.2⟩, fun U hU hW => ⟨rfl, by rw [hU], by rw [hU]; exact va_X.moved hW.alike hXH, Nat.lt_of_lt_of_le hbl hS.1⟩⟩ rfl rfl hsize rfl (lv_room hW) hdg hc
  refine va_calli hr hS (fun q h1 h2 => absurd h2 (Nat.not_le.mpr h1)) (fun q h => Or.inr (Nat.le_trans hS.1 h)) (fun r u t H1 locs1 ht _ hw hB hz1 hk1 hS1 => ?_)
  subst hw
  exact kk H1 locs1 (by rw [← ht]; exact hB) (wl_kept hP (fun q hq => hk1 q hq (Nat.not_le.mpr hq))) hS1
theorem ax_arrc {args : Array Value} {s : State} {t : FieldType} (h : (Cond.arrayClass t).before args s = true) : ∃ cA : ClassId, ArrOfT s cA t ∧ s.vm.findClass ("[" ++ t.toString) = some cA := by
  obtain ⟨cA, k, comp, h1, h2, h3⟩ := Cond.arrayClass_spec h
  exact ⟨cA, fun N z => ⟨(fun q hq => by cases hq), k, h2, comp, h3⟩, h1⟩
theorem ax_arro {args : Array Value} {s : State} {C : String} (h : (Cond.arrayOver (.object C)).before args s = true) : ∃ cA : ClassId, ArrOfT s cA (.object C) ∧ va_RA s cA (.object C) := by
  obtain ⟨comp, cA, k, h1, h2, h3, h4, h5⟩ := Cond.arrayOver_spec h
  exact ⟨cA, fun N z => ⟨(fun q hq => by cases hq), k, h3, comp, h4⟩, k, comp, h3, h4, h1, h5⟩
theorem ax_arra {args : Array Value} {s : State} {t : FieldType} (h : (Cond.arrayOver (.array t)).before args s = true) : ∃ cA : ClassId, ArrOfT s cA (.array t) ∧ s.vm.findClass ("[" ++ (FieldType.array t).toString) = some cA := by
  obtain ⟨comp, cA, k, h1, h2, h3, h4, h5⟩ := ax_overA h
  exact ⟨cA, fun N z => ⟨(fun q hq => by cases hq), k, h3, comp, h4⟩, h5⟩
set_option maxHeartbeats 4000000 in
set_option maxRecDepth 100000 in
theorem lw_world {args : Array Value} {s : State} (hts : ∀ w ∈ lw_tbl, w.before args s = true) : ∃ G : cx_G, cx_K G s := by
  obtain ⟨c0, i0, k0⟩ := u_known (C := RX0) (T := TX0) (N := 5) (n := 5) hts inX0 (hts (.instantiable RX0 5) (by decide +kernel))
  obtain ⟨c1, i1, k1⟩ := u_known (C := RX1) (T := TX1) (N := 3) (n := 3) hts inX1 (hts (.instantiable RX1 3) (by decide +kernel))
  obtain ⟨c2, i2, k2⟩ := u_known (C := RX2) (T := TX2) (N := 2) (n := 2) hts inX2 (hts (.instantiable RX2 2) (by decide +kernel))
  obtain ⟨c3, i3, k3⟩ := u_known (C := RX3) (T := TX3) (N := 4) (n := 4) hts inX3 (hts (.instantiable RX3 4) (by decide +kernel))
  obtain ⟨c4, i4, k4⟩ := u_known (C := RX4) (T := TX4) (N := 3) (n := 3) hts inX4 (hts (.instantiable RX4 3) (by decide +kernel))
  obtain ⟨c5, i5, k5⟩ := u_known (C := RX5) (T := TX5) (N := 15) (n := 15) hts inX5 (hts (.instantiable RX5 15) (by decide +kernel))
  obtain ⟨c6, i6, k6⟩ := u_known (C := RX6) (T := TX6) (N := 29) (n := 29) hts inX6 (hts (.instantiable RX6 29) (by decide +kernel))
  obtain ⟨a0, b0, d0⟩ := ax_arrc (hts (.arrayClass .int) (by decide +kernel))
  obtain ⟨a1, b1, d1⟩ := ax_arrc (hts (.arrayClass .boolean) (by decide +kernel))
  obtain ⟨a2, b2, d2⟩ := ax_arro (hts (.arrayOver (.object RX0)) (by decide +kernel))
  obtain ⟨a3, b3, d3⟩ := ax_arro (hts (.arrayOver (.object RX1)) (by decide +kernel))
  obtain ⟨a4, b4, d4⟩ := ax_arro (hts (.arrayOver (.object RX2)) (by decide +kernel))
  obtain ⟨a5, b5, d5⟩ := ax_arro (hts (.arrayOver (.object RX3)) (by decide +kernel))
  obtain ⟨a6, b6, d6⟩ := ax_arra (hts (.arrayOver (.array .int)) (by decide +kernel))
  obtain ⟨a7, b7, d7⟩ := ax_arrc (hts (.arrayClass .long) (by decide +kernel))
  obtain ⟨dC, dI, hKc⟩ : ∃ (dC : Nat → ClassId) (dI : Nat → Nat → Nat), ∀ (k : Nat) (q : vw_C), vwCl[k]? = some q → u_Kn s q.1 q.2.1 q.2.2 (dC k) (dI k) := by
    refine ⟨fun k => match k with | 0 => c0 | 1 => c1 | 2 => c2 | 3 => c3 | 4 => c4 | 5 => c5 | _ => c6, fun k => match k with | 0 => i0 | 1 => i1 | 2 => i2 | 3 => i3 | 4 => i4 | 5 => i5 | _ => i6, ?_⟩
    intro k q hq
    match k, hq with
    | 0, hq => cases hq; exact k0
    | 1, hq => cases hq; exact k1
    | 2, hq => cases hq; exact k2
    | 3, hq => cases hq; exact k3
    | 4, hq => cases hq; exact k4
    | 5, hq => cases hq; exact k5
    | 6, hq => cases hq; exact k6
    | k + 7, hq => simp [vwCl] at hq
  refine ⟨((dC, dI), fun k => match k with | 0 => a0 | 1 => a1 | 2 => a2 | 3 => a3 | 4 => a4 | 5 => a5 | 6 => a6 | _ => a7), ⟨hKc, fun k q hq => ?_⟩, fun w hw => ?_⟩
  · match k, hq with
    | 0, hq => cases hq; exact ⟨b0, d0⟩
    | 1, hq => cases hq; exact ⟨b1, d1⟩
    | 2, hq => cases hq; exact ⟨b2, d2⟩
    | 3, hq => cases hq; exact ⟨b3, d3⟩
    | 4, hq => cases hq; exact ⟨b4, d4⟩
    | 5, hq => cases hq; exact ⟨b5, d5⟩
    | 6, hq => cases hq; exact ⟨b6, d6⟩
    | 7, hq => cases hq; exact ⟨b7, d7⟩
    | k + 8, hq => simp [cx_t] at hq
  · have hin : ∀ w ∈ cx_nest, w ∈ lw_tbl := by decide +kernel
    have hon : ∀ w ∈ cx_nest, w.onTables = true := by decide +kernel
    exact va_Nw.of (hon w hw) (hts w (hin w hw))
theorem lw_Y {args : Array Value} {s : State} (hts : ∀ w ∈ lw_tbl, w.before args s = true) : cx_Y s := ⟨va_AOA.of (hts (.arrayOver (.array .int)) (by decide +kernel)), va_AO.of (hts (.arrayOver (.object RX0)) (by decide +kernel)), va_AO.of (hts (.arrayOver (.object RX1)) (by decide +kernel)), va_AO.of (hts (.arrayOver (.object RX2)) (by decide +kernel)), va_AO.of (hts (.arrayOver (.object RX3)) (by decide +kernel))⟩
theorem ax_strv {A : Array Value} {s : State} {own C : String} {k : Nat} (h : (Cond.exactly (.string own k) C).before A s = true) : ∃ a : Nat, (Term.string own k).eval A s none [] s = some (.ref a) := by
  obtain ⟨a, cQ, cell, kQ, ha, -⟩ := Cond.exactly_spec h
  exact ⟨a, ha⟩
set_option maxHeartbeats 4000000 in
set_option maxRecDepth 100000 in
theorem lw_X {args : Array Value} {s : State} {A : Nat → Prop} (hts : ∀ w ∈ lw_tbl, w.before args s = true) (hgv : (Jvm.Cond.and given_1 narrow_1).before args s = true) (hA : ∀ a : Nat, a < s.heap.size → ¬ A a) : cx_X A s s.heap := by
  have hs := flat_of_before _ hgv
  refine ⟨fun q hq => ?_, fun w hw => ?_, fun q hq => ?_, ?_, ?_⟩
  · have h1 : ∀ q ∈ cx_strs, Cond.stringRef RX5 q.1 q.2 ∈ lw_tbl := by decide +kernel
    have h2 : ∀ q ∈ cx_strs, Cond.exactly (.string RX5 q.1) "java/lang/String" ∈ flatC (Jvm.Cond.and given_1 narrow_1) := by decide +kernel
    obtain ⟨a, ha⟩ := ax_strv (hs _ (h2 q hq))
    exact ⟨a, vk_R.of (hts _ (h1 q hq)) ha⟩
  · have h1 : ∀ w ∈ cx_bad, w ∈ lw_tbl := by decide +kernel
    exact va_Nw.of (cx_bad_on w hw) (hts w (h1 w hw))
  · have h1 : ∀ q ∈ cx_pass, Cond.not (.castable q.1 q.2) ∈ flatC (Jvm.Cond.and given_1 narrow_1) := by decide +kernel
    exact va_Nc.of (hs _ (h1 q hq))
  · exact vx_Zqof (hts _ (by decide +kernel)) (hts _ (by decide +kernel)) (hs _ (by decide +kernel)) hA
  · exact vx_Zqof (hts _ (by decide +kernel)) (hts _ (by decide +kernel)) (hs _ (by decide +kernel)) hA
