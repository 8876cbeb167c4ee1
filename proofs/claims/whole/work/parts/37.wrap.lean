/-! THE LAW's wrappers -/
set_option maxRecDepth 20000 in
theorem wd_L_term_0 : Cond.classLink RL 13 "java/lang/IllegalArgumentException" ∈ wsL_term := by decide +kernel
abbrev rm_L_term : Room := { frames := 8, cells := 4, slots := 24, locals := 125 }
set_option maxHeartbeats 4000000 in
set_option maxRecDepth 100000 in
theorem c_L_term {l : Launch} {G : cx_G} {L : List Nat} {ad : Nat → Nat} {g : Nat → va_E} (hD : cx_D L ad) {x1 x2 : Int32} {fs : List Value} {post : (Nat → va_E) → Prop} {ex : String → Prop} (hM : XV l yX5_term wsX5_term rm_X5_term G L ad g [.ref (ad 0), .int x1, .int x2] post ex 4 24) (hex : ∀ E : String, ex E → E = xIA) (h0 : 0 ∈ L) (c_o : g 0 = .inr (5, fs)) : WI l yL_term wsL_term rm_L_term G L ad g [.ref (ad 0), .int x1, .int x2] (fun r u => (r = nI 0 ∧ ∃ u0 : Nat → va_E, post u0 ∧ ∀ j : Nat, u j = u0 j) ∨ (r = nI 1 ∧ ex xIA ∧ u = g)) 4 24 := by
  refine cx_ofWI (cc := cL_term) (maxL := 4) (by decide +kernel) rfl (Nat.le_of_ble_eq_true rfl) ?_
  intro p e s m args below meth c Q hx hb hts hown hml htab hP hK hX hS hz hret ls hl
  have hown : s.vm.findClass RL = some m.cls := hown
  have hl : lv_has ls 4 [(0, .ref (ad 0)), (1, .int x1), (2, .int x2)] := hl
  refine lv_aload_n hx hb dL_term_0 rfl (lv_at hl 0 rfl) ?_
  refine lv_iload_n hx hb dL_term_1 rfl (lv_at hl 1 rfl) ?_
  refine lv_iload_n hx hb dL_term_2 rfl (lv_at hl 2 rfl) ?_
  refine cx_XVv (As := [.int x1, .int x2]) (rest := []) (mc := 4) (ms := 24) ⟨hx, hb, hml, hown, hts⟩ hM (cwV 2 hts gL_term_X5_term rfl rfl rfl (by decide +kernel) ⟨Nat.le_of_ble_eq_true rfl, Nat.le_of_ble_eq_true rfl⟩) hK hX hP hS hz h0 c_o rfl ⟨Nat.le_of_ble_eq_true rfl, Nat.le_of_ble_eq_true rfl⟩ rfl hl.1 rfl (Nat.le_of_ble_eq_true rfl) dL_term_3 (fun E ce q9 H locs hE hP hS h1x h2x h3x => ?_) (fun g1 H locs hp1 hP hS => ?_)
  · rcases hex E hE with rfl
    · refine vx_catch (name := xIA) hown [] ⟨0, 6, 9, 13⟩ [] htab (fun z hz => absurd hz List.not_mem_nil) rfl (by decide) (hts _ wd_L_term_0) (va_Nw.use (cx_bad_on _ cb_IA) (hX.2.1 _ cb_IA)) h1x h2x h3x ?_
      refine lv_astore_n (lv' := [(3, .ref q9), (0, .ref (ad 0)), (1, .int x1), (2, .int x2)]) hx hb dL_term_9 rfl hl (by decide) rfl (fun ls hl => ?_)
      refine lv_iconst (v := nI 1) hx hb dL_term_10 (by decide) ?_
      exact hret (nI 1) g _ _ _ _ _ _ ⟨by decide, by decide⟩ rfl (Or.inr (⟨rfl, hE, rfl⟩)) hP hS dL_term_11
  refine lv_goto (tgt := 12) hx hb dL_term_6 (by decide) ?_
  refine lv_iconst (v := nI 0) hx hb dL_term_12 (by decide) ?_
  exact hret (nI 0) g1 _ _ _ _ _ _ ⟨by decide, by decide⟩ rfl (Or.inl ⟨rfl, g1, hp1, fun _ => rfl⟩) hP hS dL_term_13

set_option maxRecDepth 20000 in
theorem wd_L_edge_0 : Cond.classLink RL 13 "java/lang/IllegalArgumentException" ∈ wsL_edge := by decide +kernel
set_option maxRecDepth 20000 in
theorem wd_L_edge_1 : Cond.classLink RL 19 "java/lang/IllegalStateException" ∈ wsL_edge := by decide +kernel
abbrev rm_L_edge : Room := { frames := 8, cells := 4, slots := 24, locals := 130 }
set_option maxHeartbeats 4000000 in
set_option maxRecDepth 100000 in
theorem c_L_edge {l : Launch} {G : cx_G} {L : List Nat} {ad : Nat → Nat} {g : Nat → va_E} (hD : cx_D L ad) {x1 x2 x3 x4 : Int32} {fs : List Value} {jo : Nat → Int64} {post : Int32 → (Nat → va_E) → Prop} {ex : String → Prop} (hM : XI l yX5_edge wsX5_edge rm_X5_edge G L ad g [.ref (ad 0), .int x1, .int x2, .int x3, .int x4] post ex 4 24) (hex : ∀ E : String, ex E → E = xIA ∨ E = xIS) (h0 : 0 ∈ L) (c_o : g 0 = .inr (5, fs)) (h11 : 1100 ∈ L) (c_j : g 1100 = jA G 1 jo) (hfr : ∀ (r : Int32) (u : Nat → va_E), post r u → u 1100 = g 1100) : WI l yL_edge wsL_edge rm_L_edge G L ad g [.ref (ad 0), .int x1, .int x2, .int x3, .int x4, .ref (ad 1100)] (fun r u => (r = nI 0 ∧ ∃ (r0 : Int32) (u0 : Nat → va_E) (z0 : Int64), post r0 u0 ∧ z0 = r0.toInt64 ∧ u 1100 = jA G 1 (vp_updL jo 0 z0) ∧ ∀ j : Nat, j ≠ 1100 → u j = u0 j) ∨ (r = nI 1 ∧ ex xIA ∧ u = g) ∨ (r = nI 2 ∧ ex xIS ∧ u = g)) 4 24 := by
  refine cx_ofWI (cc := cL_edge) (maxL := 7) (by decide +kernel) rfl (Nat.le_of_ble_eq_true rfl) ?_
  intro p e s m args below meth c Q hx hb hts hown hml htab hP hK hX hS hz hret ls hl
  have hown : s.vm.findClass RL = some m.cls := hown
  have hl : lv_has ls 7 [(0, .ref (ad 0)), (1, .int x1), (2, .int x2), (3, .int x3), (4, .int x4), (5, .ref (ad 1100))] := hl
  refine lv_aload hx hb dL_edge_0 (lv_at hl 5 rfl) ?_
  refine lv_iconst (v := nI 0) hx hb dL_edge_2 (by decide) ?_
  refine lv_aload_n hx hb dL_edge_3 rfl (lv_at hl 0 rfl) ?_
  refine lv_iload_n hx hb dL_edge_4 rfl (lv_at hl 1 rfl) ?_
  refine lv_iload_n hx hb dL_edge_5 rfl (lv_at hl 2 rfl) ?_
  refine lv_iload_n hx hb dL_edge_6 rfl (lv_at hl 3 rfl) ?_
  refine lv_iload hx hb dL_edge_7 (lv_at hl 4 rfl) ?_
  refine cx_XVi (As := [.int x1, .int x2, .int x3, .int x4]) (rest := [.int (nI 0), .ref (ad 1100)]) (mc := 4) (ms := 24) ⟨hx, hb, hml, hown, hts⟩ hM (cwV 4 hts gL_edge_X5_edge rfl rfl rfl (by decide +kernel) ⟨Nat.le_of_ble_eq_true rfl, Nat.le_of_ble_eq_true rfl⟩) hK hX hP hS hz h0 c_o rfl ⟨Nat.le_of_ble_eq_true rfl, Nat.le_of_ble_eq_true rfl⟩ rfl hl.1 rfl (Nat.le_of_ble_eq_true rfl) dL_edge_9 (fun E ce q9 H locs hE hP hS h1x h2x h3x => ?_) (fun r1 g1 H locs hp1 hP hS => ?_)
  · rcases hex E hE with rfl | rfl
    · refine vx_catch (name := xIA) hown [] ⟨0, 14, 17, 13⟩ [⟨0, 14, 21, 19⟩] htab (fun z hz => absurd hz List.not_mem_nil) rfl (by decide) (hts _ wd_L_edge_0) (va_Nw.use (cx_bad_on _ cb_IA) (hX.2.1 _ cb_IA)) h1x h2x h3x ?_
      refine lv_astore (lv' := [(6, .ref q9), (0, .ref (ad 0)), (1, .int x1), (2, .int x2), (3, .int x3), (4, .int x4), (5, .ref (ad 1100))]) hx hb dL_edge_17 hl (by decide) rfl (fun ls hl => ?_)
      refine lv_iconst (v := nI 1) hx hb dL_edge_19 (by decide) ?_
      exact hret (nI 1) g _ _ _ _ _ _ ⟨by decide, by decide⟩ rfl (Or.inr (Or.inl ⟨rfl, hE, rfl⟩)) hP hS dL_edge_20
    · refine vx_catch (name := xIS) hown [⟨0, 14, 17, 13⟩] ⟨0, 14, 21, 19⟩ [] htab (fun z hz => by simp only [List.mem_cons, List.not_mem_nil, or_false] at hz; rcases hz with rfl; exact Or.inr ⟨by decide, xIA, hts _ wd_L_edge_0, hX.2.2.1 (xIS, xIA) (by simp [cx_pass])⟩) rfl (by decide) (hts _ wd_L_edge_1) (va_Nw.use (cx_bad_on _ cb_IS) (hX.2.1 _ cb_IS)) h1x h2x h3x ?_
      refine lv_astore (lv' := [(6, .ref q9), (0, .ref (ad 0)), (1, .int x1), (2, .int x2), (3, .int x3), (4, .int x4), (5, .ref (ad 1100))]) hx hb dL_edge_21 hl (by decide) rfl (fun ls hl => ?_)
      refine lv_iconst (v := nI 2) hx hb dL_edge_23 (by decide) ?_
      exact hret (nI 2) g _ _ _ _ _ _ ⟨by decide, by decide⟩ rfl (Or.inr (Or.inr (⟨rfl, hE, rfl⟩))) hP hS dL_edge_24
  have c_j : g1 1100 = jA G 1 jo := (hfr _ _ hp1).trans c_j
  refine lv_i2l (v := r1.toInt64) hx hb dL_edge_12 rfl ?_
  refine ax_jast (k := 1100) (i := 0) hx hb hK hP hD hS h11 c_j (by omega) (by omega) dL_edge_13 (fun H locs g1 eg1 hP hS => ?_)
  have c_j : g1 1100 = jA G 1 (vp_updL jo 0 r1.toInt64) := cx_eq eg1
  refine lv_goto (tgt := 25) hx hb dL_edge_14 (by decide) ?_
  refine lv_iconst (v := nI 0) hx hb dL_edge_25 (by decide) ?_
  exact hret (nI 0) g1 _ _ _ _ _ _ ⟨by decide, by decide⟩ rfl (Or.inl ⟨rfl, r1, _, _, hp1, rfl, c_j, fun j hj => cx_ne eg1 j hj⟩) hP hS dL_edge_26

set_option maxRecDepth 20000 in
theorem wd_L_entry_0 : Cond.classLink RL 13 "java/lang/IllegalArgumentException" ∈ wsL_entry := by decide +kernel
abbrev rm_L_entry : Room := { frames := 8, cells := 4, slots := 24, locals := 124 }
set_option maxHeartbeats 4000000 in
set_option maxRecDepth 100000 in
theorem c_L_entry {l : Launch} {G : cx_G} {L : List Nat} {ad : Nat → Nat} {g : Nat → va_E} (hD : cx_D L ad) {x1 : Int32} {fs : List Value} {post : (Nat → va_E) → Prop} {ex : String → Prop} (hM : XV l yX5_entry wsX5_entry rm_X5_entry G L ad g [.ref (ad 0), .int x1] post ex 4 24) (hex : ∀ E : String, ex E → E = xIA) (h0 : 0 ∈ L) (c_o : g 0 = .inr (5, fs)) : WI l yL_entry wsL_entry rm_L_entry G L ad g [.ref (ad 0), .int x1] (fun r u => (r = nI 0 ∧ ∃ u0 : Nat → va_E, post u0 ∧ ∀ j : Nat, u j = u0 j) ∨ (r = nI 1 ∧ ex xIA ∧ u = g)) 4 24 := by
  refine cx_ofWI (cc := cL_entry) (maxL := 3) (by decide +kernel) rfl (Nat.le_of_ble_eq_true rfl) ?_
  intro p e s m args below meth c Q hx hb hts hown hml htab hP hK hX hS hz hret ls hl
  have hown : s.vm.findClass RL = some m.cls := hown
  have hl : lv_has ls 3 [(0, .ref (ad 0)), (1, .int x1)] := hl
  refine lv_aload_n hx hb dL_entry_0 rfl (lv_at hl 0 rfl) ?_
  refine lv_iload_n hx hb dL_entry_1 rfl (lv_at hl 1 rfl) ?_
  refine cx_XVv (As := [.int x1]) (rest := []) (mc := 4) (ms := 24) ⟨hx, hb, hml, hown, hts⟩ hM (cwV 1 hts gL_entry_X5_entry rfl rfl rfl (by decide +kernel) ⟨Nat.le_of_ble_eq_true rfl, Nat.le_of_ble_eq_true rfl⟩) hK hX hP hS hz h0 c_o rfl ⟨Nat.le_of_ble_eq_true rfl, Nat.le_of_ble_eq_true rfl⟩ rfl hl.1 rfl (Nat.le_of_ble_eq_true rfl) dL_entry_2 (fun E ce q9 H locs hE hP hS h1x h2x h3x => ?_) (fun g1 H locs hp1 hP hS => ?_)
  · rcases hex E hE with rfl
    · refine vx_catch (name := xIA) hown [] ⟨0, 5, 8, 13⟩ [] htab (fun z hz => absurd hz List.not_mem_nil) rfl (by decide) (hts _ wd_L_entry_0) (va_Nw.use (cx_bad_on _ cb_IA) (hX.2.1 _ cb_IA)) h1x h2x h3x ?_
      refine lv_astore_n (lv' := [(2, .ref q9), (0, .ref (ad 0)), (1, .int x1)]) hx hb dL_entry_8 rfl hl (by decide) rfl (fun ls hl => ?_)
      refine lv_iconst (v := nI 1) hx hb dL_entry_9 (by decide) ?_
      exact hret (nI 1) g _ _ _ _ _ _ ⟨by decide, by decide⟩ rfl (Or.inr (⟨rfl, hE, rfl⟩)) hP hS dL_entry_10
  refine lv_goto (tgt := 11) hx hb dL_entry_5 (by decide) ?_
  refine lv_iconst (v := nI 0) hx hb dL_entry_11 (by decide) ?_
  exact hret (nI 0) g1 _ _ _ _ _ _ ⟨by decide, by decide⟩ rfl (Or.inl ⟨rfl, g1, hp1, fun _ => rfl⟩) hP hS dL_entry_12

set_option maxRecDepth 20000 in
theorem wd_L_points_0 : Cond.classLink RL 13 "java/lang/IllegalArgumentException" ∈ wsL_points := by decide +kernel
set_option maxRecDepth 20000 in
theorem wd_L_points_1 : Cond.classLink RL 19 "java/lang/IllegalStateException" ∈ wsL_points := by decide +kernel
abbrev rm_L_points : Room := { frames := 8, cells := 4, slots := 24, locals := 124 }
set_option maxHeartbeats 4000000 in
set_option maxRecDepth 100000 in
theorem c_L_points {l : Launch} {G : cx_G} {L : List Nat} {ad : Nat → Nat} {g : Nat → va_E} (hD : cx_D L ad) {x1 : Int32} {fs : List Value} {jo : Nat → Int64} {post : Int32 → (Nat → va_E) → Prop} {ex : String → Prop} (hM : XI l yX5_points wsX5_points rm_X5_points G L ad g [.ref (ad 0), .int x1] post ex 4 24) (hex : ∀ E : String, ex E → E = xIA ∨ E = xIS) (h0 : 0 ∈ L) (c_o : g 0 = .inr (5, fs)) (h11 : 1100 ∈ L) (c_j : g 1100 = jA G 1 jo) (hfr : ∀ (r : Int32) (u : Nat → va_E), post r u → u 1100 = g 1100) : WI l yL_points wsL_points rm_L_points G L ad g [.ref (ad 0), .int x1, .ref (ad 1100)] (fun r u => (r = nI 0 ∧ ∃ (r0 : Int32) (u0 : Nat → va_E) (z0 : Int64), post r0 u0 ∧ z0 = r0.toInt64 ∧ u 1100 = jA G 1 (vp_updL jo 0 z0) ∧ ∀ j : Nat, j ≠ 1100 → u j = u0 j) ∨ (r = nI 1 ∧ ex xIA ∧ u = g) ∨ (r = nI 2 ∧ ex xIS ∧ u = g)) 4 24 := by
  refine cx_ofWI (cc := cL_points) (maxL := 4) (by decide +kernel) rfl (Nat.le_of_ble_eq_true rfl) ?_
  intro p e s m args below meth c Q hx hb hts hown hml htab hP hK hX hS hz hret ls hl
  have hown : s.vm.findClass RL = some m.cls := hown
  have hl : lv_has ls 4 [(0, .ref (ad 0)), (1, .int x1), (2, .ref (ad 1100))] := hl
  refine lv_aload_n hx hb dL_points_0 rfl (lv_at hl 2 rfl) ?_
  refine lv_iconst (v := nI 0) hx hb dL_points_1 (by decide) ?_
  refine lv_aload_n hx hb dL_points_2 rfl (lv_at hl 0 rfl) ?_
  refine lv_iload_n hx hb dL_points_3 rfl (lv_at hl 1 rfl) ?_
  refine cx_XVi (As := [.int x1]) (rest := [.int (nI 0), .ref (ad 1100)]) (mc := 4) (ms := 24) ⟨hx, hb, hml, hown, hts⟩ hM (cwV 1 hts gL_points_X5_points rfl rfl rfl (by decide +kernel) ⟨Nat.le_of_ble_eq_true rfl, Nat.le_of_ble_eq_true rfl⟩) hK hX hP hS hz h0 c_o rfl ⟨Nat.le_of_ble_eq_true rfl, Nat.le_of_ble_eq_true rfl⟩ rfl hl.1 rfl (Nat.le_of_ble_eq_true rfl) dL_points_4 (fun E ce q9 H locs hE hP hS h1x h2x h3x => ?_) (fun r1 g1 H locs hp1 hP hS => ?_)
  · rcases hex E hE with rfl | rfl
    · refine vx_catch (name := xIA) hown [] ⟨0, 9, 12, 13⟩ [⟨0, 9, 15, 19⟩] htab (fun z hz => absurd hz List.not_mem_nil) rfl (by decide) (hts _ wd_L_points_0) (va_Nw.use (cx_bad_on _ cb_IA) (hX.2.1 _ cb_IA)) h1x h2x h3x ?_
      refine lv_astore_n (lv' := [(3, .ref q9), (0, .ref (ad 0)), (1, .int x1), (2, .ref (ad 1100))]) hx hb dL_points_12 rfl hl (by decide) rfl (fun ls hl => ?_)
      refine lv_iconst (v := nI 1) hx hb dL_points_13 (by decide) ?_
      exact hret (nI 1) g _ _ _ _ _ _ ⟨by decide, by decide⟩ rfl (Or.inr (Or.inl ⟨rfl, hE, rfl⟩)) hP hS dL_points_14
    · refine vx_catch (name := xIS) hown [⟨0, 9, 12, 13⟩] ⟨0, 9, 15, 19⟩ [] htab (fun z hz => by simp only [List.mem_cons, List.not_mem_nil, or_false] at hz; rcases hz with rfl; exact Or.inr ⟨by decide, xIA, hts _ wd_L_points_0, hX.2.2.1 (xIS, xIA) (by simp [cx_pass])⟩) rfl (by decide) (hts _ wd_L_points_1) (va_Nw.use (cx_bad_on _ cb_IS) (hX.2.1 _ cb_IS)) h1x h2x h3x ?_
      refine lv_astore_n (lv' := [(3, .ref q9), (0, .ref (ad 0)), (1, .int x1), (2, .ref (ad 1100))]) hx hb dL_points_15 rfl hl (by decide) rfl (fun ls hl => ?_)
      refine lv_iconst (v := nI 2) hx hb dL_points_16 (by decide) ?_
      exact hret (nI 2) g _ _ _ _ _ _ ⟨by decide, by decide⟩ rfl (Or.inr (Or.inr (⟨rfl, hE, rfl⟩))) hP hS dL_points_17
  have c_j : g1 1100 = jA G 1 jo := (hfr _ _ hp1).trans c_j
  refine lv_i2l (v := r1.toInt64) hx hb dL_points_7 rfl ?_
  refine ax_jast (k := 1100) (i := 0) hx hb hK hP hD hS h11 c_j (by omega) (by omega) dL_points_8 (fun H locs g1 eg1 hP hS => ?_)
  have c_j : g1 1100 = jA G 1 (vp_updL jo 0 r1.toInt64) := cx_eq eg1
  refine lv_goto (tgt := 18) hx hb dL_points_9 (by decide) ?_
  refine lv_iconst (v := nI 0) hx hb dL_points_18 (by decide) ?_
  exact hret (nI 0) g1 _ _ _ _ _ _ ⟨by decide, by decide⟩ rfl (Or.inl ⟨rfl, r1, _, _, hp1, rfl, c_j, fun j hj => cx_ne eg1 j hj⟩) hP hS dL_points_19

set_option maxRecDepth 20000 in
theorem wd_L_point_0 : Cond.classLink RL 13 "java/lang/IllegalArgumentException" ∈ wsL_point := by decide +kernel
set_option maxRecDepth 20000 in
theorem wd_L_point_1 : Cond.classLink RL 19 "java/lang/IllegalStateException" ∈ wsL_point := by decide +kernel
set_option maxRecDepth 20000 in
theorem wd_L_point_2 : Cond.classLink RL 33 "java/lang/IndexOutOfBoundsException" ∈ wsL_point := by decide +kernel
abbrev rm_L_point : Room := { frames := 8, cells := 4, slots := 24, locals := 128 }
set_option maxHeartbeats 4000000 in
set_option maxRecDepth 100000 in
theorem c_L_point {l : Launch} {G : cx_G} {L : List Nat} {ad : Nat → Nat} {g : Nat → va_E} (hD : cx_D L ad) {x1 x2 x3 : Int32} {fs : List Value} {jo : Nat → Int64} {post : Int32 → (Nat → va_E) → Prop} {ex : String → Prop} (hM : XI l yX5_point wsX5_point rm_X5_point G L ad g [.ref (ad 0), .int x1, .int x2, .int x3] post ex 4 24) (hex : ∀ E : String, ex E → E = xIA ∨ E = xIS ∨ E = xIO) (h0 : 0 ∈ L) (c_o : g 0 = .inr (5, fs)) (h11 : 1100 ∈ L) (c_j : g 1100 = jA G 1 jo) (hfr : ∀ (r : Int32) (u : Nat → va_E), post r u → u 1100 = g 1100) : WI l yL_point wsL_point rm_L_point G L ad g [.ref (ad 0), .int x1, .int x2, .int x3, .ref (ad 1100)] (fun r u => (r = nI 0 ∧ ∃ (r0 : Int32) (u0 : Nat → va_E) (z0 : Int64), post r0 u0 ∧ z0 = r0.toInt64 ∧ u 1100 = jA G 1 (vp_updL jo 0 z0) ∧ ∀ j : Nat, j ≠ 1100 → u j = u0 j) ∨ (r = nI 1 ∧ ex xIA ∧ u = g) ∨ (r = nI 2 ∧ ex xIS ∧ u = g) ∨ (r = nI 3 ∧ ex xIO ∧ u = g)) 4 24 := by
  refine cx_ofWI (cc := cL_point) (maxL := 6) (by decide +kernel) rfl (Nat.le_of_ble_eq_true rfl) ?_
  intro p e s m args below meth c Q hx hb hts hown hml htab hP hK hX hS hz hret ls hl
  have hown : s.vm.findClass RL = some m.cls := hown
  have hl : lv_has ls 6 [(0, .ref (ad 0)), (1, .int x1), (2, .int x2), (3, .int x3), (4, .ref (ad 1100))] := hl
  refine lv_aload hx hb dL_point_0 (lv_at hl 4 rfl) ?_
  refine lv_iconst (v := nI 0) hx hb dL_point_2 (by decide) ?_
  refine lv_aload_n hx hb dL_point_3 rfl (lv_at hl 0 rfl) ?_
  refine lv_iload_n hx hb dL_point_4 rfl (lv_at hl 1 rfl) ?_
  refine lv_iload_n hx hb dL_point_5 rfl (lv_at hl 2 rfl) ?_
  refine lv_iload_n hx hb dL_point_6 rfl (lv_at hl 3 rfl) ?_
  refine cx_XVi (As := [.int x1, .int x2, .int x3]) (rest := [.int (nI 0), .ref (ad 1100)]) (mc := 4) (ms := 24) ⟨hx, hb, hml, hown, hts⟩ hM (cwV 3 hts gL_point_X5_point rfl rfl rfl (by decide +kernel) ⟨Nat.le_of_ble_eq_true rfl, Nat.le_of_ble_eq_true rfl⟩) hK hX hP hS hz h0 c_o rfl ⟨Nat.le_of_ble_eq_true rfl, Nat.le_of_ble_eq_true rfl⟩ rfl hl.1 rfl (Nat.le_of_ble_eq_true rfl) dL_point_7 (fun E ce q9 H locs hE hP hS h1x h2x h3x => ?_) (fun r1 g1 H locs hp1 hP hS => ?_)
  · rcases hex E hE with rfl | rfl | rfl
    · refine vx_catch (name := xIA) hown [] ⟨0, 12, 15, 13⟩ [⟨0, 12, 19, 19⟩, ⟨0, 12, 23, 33⟩] htab (fun z hz => absurd hz List.not_mem_nil) rfl (by decide) (hts _ wd_L_point_0) (va_Nw.use (cx_bad_on _ cb_IA) (hX.2.1 _ cb_IA)) h1x h2x h3x ?_
      refine lv_astore (lv' := [(5, .ref q9), (0, .ref (ad 0)), (1, .int x1), (2, .int x2), (3, .int x3), (4, .ref (ad 1100))]) hx hb dL_point_15 hl (by decide) rfl (fun ls hl => ?_)
      refine lv_iconst (v := nI 1) hx hb dL_point_17 (by decide) ?_
      exact hret (nI 1) g _ _ _ _ _ _ ⟨by decide, by decide⟩ rfl (Or.inr (Or.inl ⟨rfl, hE, rfl⟩)) hP hS dL_point_18
    · refine vx_catch (name := xIS) hown [⟨0, 12, 15, 13⟩] ⟨0, 12, 19, 19⟩ [⟨0, 12, 23, 33⟩] htab (fun z hz => by simp only [List.mem_cons, List.not_mem_nil, or_false] at hz; rcases hz with rfl; exact Or.inr ⟨by decide, xIA, hts _ wd_L_point_0, hX.2.2.1 (xIS, xIA) (by simp [cx_pass])⟩) rfl (by decide) (hts _ wd_L_point_1) (va_Nw.use (cx_bad_on _ cb_IS) (hX.2.1 _ cb_IS)) h1x h2x h3x ?_
      refine lv_astore (lv' := [(5, .ref q9), (0, .ref (ad 0)), (1, .int x1), (2, .int x2), (3, .int x3), (4, .ref (ad 1100))]) hx hb dL_point_19 hl (by decide) rfl (fun ls hl => ?_)
      refine lv_iconst (v := nI 2) hx hb dL_point_21 (by decide) ?_
      exact hret (nI 2) g _ _ _ _ _ _ ⟨by decide, by decide⟩ rfl (Or.inr (Or.inr (Or.inl ⟨rfl, hE, rfl⟩))) hP hS dL_point_22
    · refine vx_catch (name := xIO) hown [⟨0, 12, 15, 13⟩, ⟨0, 12, 19, 19⟩] ⟨0, 12, 23, 33⟩ [] htab (fun z hz => by simp only [List.mem_cons, List.not_mem_nil, or_false] at hz; rcases hz with rfl | rfl; exact Or.inr ⟨by decide, xIA, hts _ wd_L_point_0, hX.2.2.1 (xIO, xIA) (by simp [cx_pass])⟩; exact Or.inr ⟨by decide, xIS, hts _ wd_L_point_1, hX.2.2.1 (xIO, xIS) (by simp [cx_pass])⟩) rfl (by decide) (hts _ wd_L_point_2) (va_Nw.use (cx_bad_on _ cb_IO) (hX.2.1 _ cb_IO)) h1x h2x h3x ?_
      refine lv_astore (lv' := [(5, .ref q9), (0, .ref (ad 0)), (1, .int x1), (2, .int x2), (3, .int x3), (4, .ref (ad 1100))]) hx hb dL_point_23 hl (by decide) rfl (fun ls hl => ?_)
      refine lv_iconst (v := nI 3) hx hb dL_point_25 (by decide) ?_
      exact hret (nI 3) g _ _ _ _ _ _ ⟨by decide, by decide⟩ rfl (Or.inr (Or.inr (Or.inr (⟨rfl, hE, rfl⟩)))) hP hS dL_point_26
  have c_j : g1 1100 = jA G 1 jo := (hfr _ _ hp1).trans c_j
  refine lv_i2l (v := r1.toInt64) hx hb dL_point_10 rfl ?_
  refine ax_jast (k := 1100) (i := 0) hx hb hK hP hD hS h11 c_j (by omega) (by omega) dL_point_11 (fun H locs g1 eg1 hP hS => ?_)
  have c_j : g1 1100 = jA G 1 (vp_updL jo 0 r1.toInt64) := cx_eq eg1
  refine lv_goto (tgt := 27) hx hb dL_point_12 (by decide) ?_
  refine lv_iconst (v := nI 0) hx hb dL_point_27 (by decide) ?_
  exact hret (nI 0) g1 _ _ _ _ _ _ ⟨by decide, by decide⟩ rfl (Or.inl ⟨rfl, r1, _, _, hp1, rfl, c_j, fun j hj => cx_ne eg1 j hj⟩) hP hS dL_point_28

set_option maxRecDepth 20000 in
theorem wd_L_equations_0 : Cond.classLink RL 13 "java/lang/IllegalArgumentException" ∈ wsL_equations := by decide +kernel
set_option maxRecDepth 20000 in
theorem wd_L_equations_1 : Cond.classLink RL 19 "java/lang/IllegalStateException" ∈ wsL_equations := by decide +kernel
abbrev rm_L_equations : Room := { frames := 8, cells := 4, slots := 24, locals := 124 }
set_option maxHeartbeats 4000000 in
set_option maxRecDepth 100000 in
theorem c_L_equations {l : Launch} {G : cx_G} {L : List Nat} {ad : Nat → Nat} {g : Nat → va_E} (hD : cx_D L ad) {x1 : Int32} {fs : List Value} {jo : Nat → Int64} {post : Int32 → (Nat → va_E) → Prop} {ex : String → Prop} (hM : XI l yX5_equations wsX5_equations rm_X5_equations G L ad g [.ref (ad 0), .int x1] post ex 4 24) (hex : ∀ E : String, ex E → E = xIA ∨ E = xIS) (h0 : 0 ∈ L) (c_o : g 0 = .inr (5, fs)) (h11 : 1100 ∈ L) (c_j : g 1100 = jA G 1 jo) (hfr : ∀ (r : Int32) (u : Nat → va_E), post r u → u 1100 = g 1100) : WI l yL_equations wsL_equations rm_L_equations G L ad g [.ref (ad 0), .int x1, .ref (ad 1100)] (fun r u => (r = nI 0 ∧ ∃ (r0 : Int32) (u0 : Nat → va_E) (z0 : Int64), post r0 u0 ∧ z0 = r0.toInt64 ∧ u 1100 = jA G 1 (vp_updL jo 0 z0) ∧ ∀ j : Nat, j ≠ 1100 → u j = u0 j) ∨ (r = nI 1 ∧ ex xIA ∧ u = g) ∨ (r = nI 2 ∧ ex xIS ∧ u = g)) 4 24 := by
  refine cx_ofWI (cc := cL_equations) (maxL := 4) (by decide +kernel) rfl (Nat.le_of_ble_eq_true rfl) ?_
  intro p e s m args below meth c Q hx hb hts hown hml htab hP hK hX hS hz hret ls hl
  have hown : s.vm.findClass RL = some m.cls := hown
  have hl : lv_has ls 4 [(0, .ref (ad 0)), (1, .int x1), (2, .ref (ad 1100))] := hl
  refine lv_aload_n hx hb dL_equations_0 rfl (lv_at hl 2 rfl) ?_
  refine lv_iconst (v := nI 0) hx hb dL_equations_1 (by decide) ?_
  refine lv_aload_n hx hb dL_equations_2 rfl (lv_at hl 0 rfl) ?_
  refine lv_iload_n hx hb dL_equations_3 rfl (lv_at hl 1 rfl) ?_
  refine cx_XVi (As := [.int x1]) (rest := [.int (nI 0), .ref (ad 1100)]) (mc := 4) (ms := 24) ⟨hx, hb, hml, hown, hts⟩ hM (cwV 1 hts gL_equations_X5_equations rfl rfl rfl (by decide +kernel) ⟨Nat.le_of_ble_eq_true rfl, Nat.le_of_ble_eq_true rfl⟩) hK hX hP hS hz h0 c_o rfl ⟨Nat.le_of_ble_eq_true rfl, Nat.le_of_ble_eq_true rfl⟩ rfl hl.1 rfl (Nat.le_of_ble_eq_true rfl) dL_equations_4 (fun E ce q9 H locs hE hP hS h1x h2x h3x => ?_) (fun r1 g1 H locs hp1 hP hS => ?_)
  · rcases hex E hE with rfl | rfl
    · refine vx_catch (name := xIA) hown [] ⟨0, 9, 12, 13⟩ [⟨0, 9, 15, 19⟩] htab (fun z hz => absurd hz List.not_mem_nil) rfl (by decide) (hts _ wd_L_equations_0) (va_Nw.use (cx_bad_on _ cb_IA) (hX.2.1 _ cb_IA)) h1x h2x h3x ?_
      refine lv_astore_n (lv' := [(3, .ref q9), (0, .ref (ad 0)), (1, .int x1), (2, .ref (ad 1100))]) hx hb dL_equations_12 rfl hl (by decide) rfl (fun ls hl => ?_)
      refine lv_iconst (v := nI 1) hx hb dL_equations_13 (by decide) ?_
      exact hret (nI 1) g _ _ _ _ _ _ ⟨by decide, by decide⟩ rfl (Or.inr (Or.inl ⟨rfl, hE, rfl⟩)) hP hS dL_equations_14
    · refine vx_catch (name := xIS) hown [⟨0, 9, 12, 13⟩] ⟨0, 9, 15, 19⟩ [] htab (fun z hz => by simp only [List.mem_cons, List.not_mem_nil, or_false] at hz; rcases hz with rfl; exact Or.inr ⟨by decide, xIA, hts _ wd_L_equations_0, hX.2.2.1 (xIS, xIA) (by simp [cx_pass])⟩) rfl (by decide) (hts _ wd_L_equations_1) (va_Nw.use (cx_bad_on _ cb_IS) (hX.2.1 _ cb_IS)) h1x h2x h3x ?_
      refine lv_astore_n (lv' := [(3, .ref q9), (0, .ref (ad 0)), (1, .int x1), (2, .ref (ad 1100))]) hx hb dL_equations_15 rfl hl (by decide) rfl (fun ls hl => ?_)
      refine lv_iconst (v := nI 2) hx hb dL_equations_16 (by decide) ?_
      exact hret (nI 2) g _ _ _ _ _ _ ⟨by decide, by decide⟩ rfl (Or.inr (Or.inr (⟨rfl, hE, rfl⟩))) hP hS dL_equations_17
  have c_j : g1 1100 = jA G 1 jo := (hfr _ _ hp1).trans c_j
  refine lv_i2l (v := r1.toInt64) hx hb dL_equations_7 rfl ?_
  refine ax_jast (k := 1100) (i := 0) hx hb hK hP hD hS h11 c_j (by omega) (by omega) dL_equations_8 (fun H locs g1 eg1 hP hS => ?_)
  have c_j : g1 1100 = jA G 1 (vp_updL jo 0 r1.toInt64) := cx_eq eg1
  refine lv_goto (tgt := 18) hx hb dL_equations_9 (by decide) ?_
  refine lv_iconst (v := nI 0) hx hb dL_equations_18 (by decide) ?_
  exact hret (nI 0) g1 _ _ _ _ _ _ ⟨by decide, by decide⟩ rfl (Or.inl ⟨rfl, r1, _, _, hp1, rfl, c_j, fun j hj => cx_ne eg1 j hj⟩) hP hS dL_equations_19

set_option maxRecDepth 20000 in
theorem wd_L_coefficient_0 : Cond.classLink RL 13 "java/lang/IllegalArgumentException" ∈ wsL_coefficient := by decide +kernel
set_option maxRecDepth 20000 in
theorem wd_L_coefficient_1 : Cond.classLink RL 19 "java/lang/IllegalStateException" ∈ wsL_coefficient := by decide +kernel
set_option maxRecDepth 20000 in
theorem wd_L_coefficient_2 : Cond.classLink RL 33 "java/lang/IndexOutOfBoundsException" ∈ wsL_coefficient := by decide +kernel
abbrev rm_L_coefficient : Room := { frames := 8, cells := 4, slots := 24, locals := 127 }
set_option maxHeartbeats 4000000 in
set_option maxRecDepth 100000 in
theorem c_L_coefficient {l : Launch} {G : cx_G} {L : List Nat} {ad : Nat → Nat} {g : Nat → va_E} (hD : cx_D L ad) {x1 x2 x3 : Int32} {fs : List Value} {jo : Nat → Int64} {post : Int32 → (Nat → va_E) → Prop} {ex : String → Prop} (hM : XI l yX5_coefficient wsX5_coefficient rm_X5_coefficient G L ad g [.ref (ad 0), .int x1, .int x2, .int x3] post ex 4 24) (hex : ∀ E : String, ex E → E = xIA ∨ E = xIS ∨ E = xIO) (h0 : 0 ∈ L) (c_o : g 0 = .inr (5, fs)) (h11 : 1100 ∈ L) (c_j : g 1100 = jA G 1 jo) (hfr : ∀ (r : Int32) (u : Nat → va_E), post r u → u 1100 = g 1100) : WI l yL_coefficient wsL_coefficient rm_L_coefficient G L ad g [.ref (ad 0), .int x1, .int x2, .int x3, .ref (ad 1100)] (fun r u => (r = nI 0 ∧ ∃ (r0 : Int32) (u0 : Nat → va_E) (z0 : Int64), post r0 u0 ∧ z0 = r0.toInt64 ∧ u 1100 = jA G 1 (vp_updL jo 0 z0) ∧ ∀ j : Nat, j ≠ 1100 → u j = u0 j) ∨ (r = nI 1 ∧ ex xIA ∧ u = g) ∨ (r = nI 2 ∧ ex xIS ∧ u = g) ∨ (r = nI 3 ∧ ex xIO ∧ u = g)) 4 24 := by
  refine cx_ofWI (cc := cL_coefficient) (maxL := 6) (by decide +kernel) rfl (Nat.le_of_ble_eq_true rfl) ?_
  intro p e s m args below meth c Q hx hb hts hown hml htab hP hK hX hS hz hret ls hl
  have hown : s.vm.findClass RL = some m.cls := hown
  have hl : lv_has ls 6 [(0, .ref (ad 0)), (1, .int x1), (2, .int x2), (3, .int x3), (4, .ref (ad 1100))] := hl
  refine lv_aload hx hb dL_coefficient_0 (lv_at hl 4 rfl) ?_
  refine lv_iconst (v := nI 0) hx hb dL_coefficient_2 (by decide) ?_
  refine lv_aload_n hx hb dL_coefficient_3 rfl (lv_at hl 0 rfl) ?_
  refine lv_iload_n hx hb dL_coefficient_4 rfl (lv_at hl 1 rfl) ?_
  refine lv_iload_n hx hb dL_coefficient_5 rfl (lv_at hl 2 rfl) ?_
  refine lv_iload_n hx hb dL_coefficient_6 rfl (lv_at hl 3 rfl) ?_
  refine cx_XVi (As := [.int x1, .int x2, .int x3]) (rest := [.int (nI 0), .ref (ad 1100)]) (mc := 4) (ms := 24) ⟨hx, hb, hml, hown, hts⟩ hM (cwV 3 hts gL_coefficient_X5_coefficient rfl rfl rfl (by decide +kernel) ⟨Nat.le_of_ble_eq_true rfl, Nat.le_of_ble_eq_true rfl⟩) hK hX hP hS hz h0 c_o rfl ⟨Nat.le_of_ble_eq_true rfl, Nat.le_of_ble_eq_true rfl⟩ rfl hl.1 rfl (Nat.le_of_ble_eq_true rfl) dL_coefficient_7 (fun E ce q9 H locs hE hP hS h1x h2x h3x => ?_) (fun r1 g1 H locs hp1 hP hS => ?_)
  · rcases hex E hE with rfl | rfl | rfl
    · refine vx_catch (name := xIA) hown [] ⟨0, 12, 15, 13⟩ [⟨0, 12, 19, 19⟩, ⟨0, 12, 23, 33⟩] htab (fun z hz => absurd hz List.not_mem_nil) rfl (by decide) (hts _ wd_L_coefficient_0) (va_Nw.use (cx_bad_on _ cb_IA) (hX.2.1 _ cb_IA)) h1x h2x h3x ?_
      refine lv_astore (lv' := [(5, .ref q9), (0, .ref (ad 0)), (1, .int x1), (2, .int x2), (3, .int x3), (4, .ref (ad 1100))]) hx hb dL_coefficient_15 hl (by decide) rfl (fun ls hl => ?_)
      refine lv_iconst (v := nI 1) hx hb dL_coefficient_17 (by decide) ?_
      exact hret (nI 1) g _ _ _ _ _ _ ⟨by decide, by decide⟩ rfl (Or.inr (Or.inl ⟨rfl, hE, rfl⟩)) hP hS dL_coefficient_18
    · refine vx_catch (name := xIS) hown [⟨0, 12, 15, 13⟩] ⟨0, 12, 19, 19⟩ [⟨0, 12, 23, 33⟩] htab (fun z hz => by simp only [List.mem_cons, List.not_mem_nil, or_false] at hz; rcases hz with rfl; exact Or.inr ⟨by decide, xIA, hts _ wd_L_coefficient_0, hX.2.2.1 (xIS, xIA) (by simp [cx_pass])⟩) rfl (by decide) (hts _ wd_L_coefficient_1) (va_Nw.use (cx_bad_on _ cb_IS) (hX.2.1 _ cb_IS)) h1x h2x h3x ?_
      refine lv_astore (lv' := [(5, .ref q9), (0, .ref (ad 0)), (1, .int x1), (2, .int x2), (3, .int x3), (4, .ref (ad 1100))]) hx hb dL_coefficient_19 hl (by decide) rfl (fun ls hl => ?_)
      refine lv_iconst (v := nI 2) hx hb dL_coefficient_21 (by decide) ?_
      exact hret (nI 2) g _ _ _ _ _ _ ⟨by decide, by decide⟩ rfl (Or.inr (Or.inr (Or.inl ⟨rfl, hE, rfl⟩))) hP hS dL_coefficient_22
    · refine vx_catch (name := xIO) hown [⟨0, 12, 15, 13⟩, ⟨0, 12, 19, 19⟩] ⟨0, 12, 23, 33⟩ [] htab (fun z hz => by simp only [List.mem_cons, List.not_mem_nil, or_false] at hz; rcases hz with rfl | rfl; exact Or.inr ⟨by decide, xIA, hts _ wd_L_coefficient_0, hX.2.2.1 (xIO, xIA) (by simp [cx_pass])⟩; exact Or.inr ⟨by decide, xIS, hts _ wd_L_coefficient_1, hX.2.2.1 (xIO, xIS) (by simp [cx_pass])⟩) rfl (by decide) (hts _ wd_L_coefficient_2) (va_Nw.use (cx_bad_on _ cb_IO) (hX.2.1 _ cb_IO)) h1x h2x h3x ?_
      refine lv_astore (lv' := [(5, .ref q9), (0, .ref (ad 0)), (1, .int x1), (2, .int x2), (3, .int x3), (4, .ref (ad 1100))]) hx hb dL_coefficient_23 hl (by decide) rfl (fun ls hl => ?_)
      refine lv_iconst (v := nI 3) hx hb dL_coefficient_25 (by decide) ?_
      exact hret (nI 3) g _ _ _ _ _ _ ⟨by decide, by decide⟩ rfl (Or.inr (Or.inr (Or.inr (⟨rfl, hE, rfl⟩)))) hP hS dL_coefficient_26
  have c_j : g1 1100 = jA G 1 jo := (hfr _ _ hp1).trans c_j
  refine lv_i2l (v := r1.toInt64) hx hb dL_coefficient_10 rfl ?_
  refine ax_jast (k := 1100) (i := 0) hx hb hK hP hD hS h11 c_j (by omega) (by omega) dL_coefficient_11 (fun H locs g1 eg1 hP hS => ?_)
  have c_j : g1 1100 = jA G 1 (vp_updL jo 0 r1.toInt64) := cx_eq eg1
  refine lv_goto (tgt := 27) hx hb dL_coefficient_12 (by decide) ?_
  refine lv_iconst (v := nI 0) hx hb dL_coefficient_27 (by decide) ?_
  exact hret (nI 0) g1 _ _ _ _ _ _ ⟨by decide, by decide⟩ rfl (Or.inl ⟨rfl, r1, _, _, hp1, rfl, c_j, fun j hj => cx_ne eg1 j hj⟩) hP hS dL_coefficient_28

set_option maxRecDepth 20000 in
theorem wd_L_holds_0 : Cond.classLink RL 13 "java/lang/IllegalArgumentException" ∈ wsL_holds := by decide +kernel
set_option maxRecDepth 20000 in
theorem wd_L_holds_1 : Cond.classLink RL 19 "java/lang/IllegalStateException" ∈ wsL_holds := by decide +kernel
abbrev rm_L_holds : Room := { frames := 8, cells := 4, slots := 24, locals := 125 }
set_option maxHeartbeats 4000000 in
set_option maxRecDepth 100000 in
theorem c_L_holds {l : Launch} {G : cx_G} {L : List Nat} {ad : Nat → Nat} {g : Nat → va_E} (hD : cx_D L ad) {x1 : Int32} {fs : List Value} {jo : Nat → Int64} {post : Int32 → (Nat → va_E) → Prop} {ex : String → Prop} (hM : XI l yX5_holds wsX5_holds rm_X5_holds G L ad g [.ref (ad 0), .int x1] post ex 4 24) (hex : ∀ E : String, ex E → E = xIA ∨ E = xIS) (h0 : 0 ∈ L) (c_o : g 0 = .inr (5, fs)) (h11 : 1100 ∈ L) (c_j : g 1100 = jA G 1 jo) (hfr : ∀ (r : Int32) (u : Nat → va_E), post r u → u 1100 = g 1100) : WI l yL_holds wsL_holds rm_L_holds G L ad g [.ref (ad 0), .int x1, .ref (ad 1100)] (fun r u => (r = nI 0 ∧ ∃ (r0 : Int32) (u0 : Nat → va_E) (z0 : Int64), post r0 u0 ∧ ((r0 = 0 ∧ z0 = lN 0) ∨ (¬ r0 = 0 ∧ z0 = lN 1)) ∧ u 1100 = jA G 1 (vp_updL jo 0 z0) ∧ ∀ j : Nat, j ≠ 1100 → u j = u0 j) ∨ (r = nI 1 ∧ ex xIA ∧ u = g) ∨ (r = nI 2 ∧ ex xIS ∧ u = g)) 4 24 := by
  refine cx_ofWI (cc := cL_holds) (maxL := 4) (by decide +kernel) rfl (Nat.le_of_ble_eq_true rfl) ?_
  intro p e s m args below meth c Q hx hb hts hown hml htab hP hK hX hS hz hret ls hl
  have hown : s.vm.findClass RL = some m.cls := hown
  have hl : lv_has ls 4 [(0, .ref (ad 0)), (1, .int x1), (2, .ref (ad 1100))] := hl
  refine lv_aload_n hx hb dL_holds_0 rfl (lv_at hl 2 rfl) ?_
  refine lv_iconst (v := nI 0) hx hb dL_holds_1 (by decide) ?_
  refine lv_aload_n hx hb dL_holds_2 rfl (lv_at hl 0 rfl) ?_
  refine lv_iload_n hx hb dL_holds_3 rfl (lv_at hl 1 rfl) ?_
  refine cx_XVi (As := [.int x1]) (rest := [.int (nI 0), .ref (ad 1100)]) (mc := 4) (ms := 24) ⟨hx, hb, hml, hown, hts⟩ hM (cwV 1 hts gL_holds_X5_holds rfl rfl rfl (by decide +kernel) ⟨Nat.le_of_ble_eq_true rfl, Nat.le_of_ble_eq_true rfl⟩) hK hX hP hS hz h0 c_o rfl ⟨Nat.le_of_ble_eq_true rfl, Nat.le_of_ble_eq_true rfl⟩ rfl hl.1 rfl (Nat.le_of_ble_eq_true rfl) dL_holds_4 (fun E ce q9 H locs hE hP hS h1x h2x h3x => ?_) (fun r1 g1 H locs hp1 hP hS => ?_)
  · rcases hex E hE with rfl | rfl
    · refine vx_catch (name := xIA) hown [] ⟨0, 16, 19, 13⟩ [⟨0, 16, 22, 19⟩] htab (fun z hz => absurd hz List.not_mem_nil) rfl (by decide) (hts _ wd_L_holds_0) (va_Nw.use (cx_bad_on _ cb_IA) (hX.2.1 _ cb_IA)) h1x h2x h3x ?_
      refine lv_astore_n (lv' := [(3, .ref q9), (0, .ref (ad 0)), (1, .int x1), (2, .ref (ad 1100))]) hx hb dL_holds_19 rfl hl (by decide) rfl (fun ls hl => ?_)
      refine lv_iconst (v := nI 1) hx hb dL_holds_20 (by decide) ?_
      exact hret (nI 1) g _ _ _ _ _ _ ⟨by decide, by decide⟩ rfl (Or.inr (Or.inl ⟨rfl, hE, rfl⟩)) hP hS dL_holds_21
    · refine vx_catch (name := xIS) hown [⟨0, 16, 19, 13⟩] ⟨0, 16, 22, 19⟩ [] htab (fun z hz => by simp only [List.mem_cons, List.not_mem_nil, or_false] at hz; rcases hz with rfl; exact Or.inr ⟨by decide, xIA, hts _ wd_L_holds_0, hX.2.2.1 (xIS, xIA) (by simp [cx_pass])⟩) rfl (by decide) (hts _ wd_L_holds_1) (va_Nw.use (cx_bad_on _ cb_IS) (hX.2.1 _ cb_IS)) h1x h2x h3x ?_
      refine lv_astore_n (lv' := [(3, .ref q9), (0, .ref (ad 0)), (1, .int x1), (2, .ref (ad 1100))]) hx hb dL_holds_22 rfl hl (by decide) rfl (fun ls hl => ?_)
      refine lv_iconst (v := nI 2) hx hb dL_holds_23 (by decide) ?_
      exact hret (nI 2) g _ _ _ _ _ _ ⟨by decide, by decide⟩ rfl (Or.inr (Or.inr (⟨rfl, hE, rfl⟩))) hP hS dL_holds_24
  have c_j : g1 1100 = jA G 1 jo := (hfr _ _ hp1).trans c_j
  refine lv_if_eq (x := r1) (tgt := 14) hx hb dL_holds_7 (by decide) (fun h7 => ?_) (fun h7 => ?_)
  · skip
    refine lv_lconst (v := lN 0) hx hb dL_holds_14 rfl ?_
    refine ax_jast (k := 1100) (i := 0) hx hb hK hP hD hS h11 c_j (by omega) (by omega) dL_holds_15 (fun H locs g1 eg1 hP hS => ?_)
    have c_j : g1 1100 = jA G 1 (vp_updL jo 0 (lN 0)) := cx_eq eg1
    refine lv_goto (tgt := 25) hx hb dL_holds_16 (by decide) ?_
    refine lv_iconst (v := nI 0) hx hb dL_holds_25 (by decide) ?_
    exact hret (nI 0) g1 _ _ _ _ _ _ ⟨by decide, by decide⟩ rfl (Or.inl ⟨rfl, r1, _, _, hp1, Or.inl ⟨h7, rfl⟩, c_j, fun j hj => cx_ne eg1 j hj⟩) hP hS dL_holds_26
  · skip
    refine lv_lconst (v := lN 1) hx hb dL_holds_10 rfl ?_
    refine lv_goto (tgt := 15) hx hb dL_holds_11 (by decide) ?_
    refine ax_jast (k := 1100) (i := 0) hx hb hK hP hD hS h11 c_j (by omega) (by omega) dL_holds_15 (fun H locs g2 eg2 hP hS => ?_)
    have c_j : g2 1100 = jA G 1 (vp_updL jo 0 (lN 1)) := cx_eq eg2
    refine lv_goto (tgt := 25) hx hb dL_holds_16 (by decide) ?_
    refine lv_iconst (v := nI 0) hx hb dL_holds_25 (by decide) ?_
    exact hret (nI 0) g2 _ _ _ _ _ _ ⟨by decide, by decide⟩ rfl (Or.inl ⟨rfl, r1, _, _, hp1, Or.inr ⟨h7, rfl⟩, c_j, fun j hj => cx_ne eg2 j hj⟩) hP hS dL_holds_26

set_option maxRecDepth 20000 in
theorem wd_L_begin_0 : Cond.classLink RL 13 "java/lang/IllegalArgumentException" ∈ wsL_begin := by decide +kernel
abbrev rm_L_begin : Room := { frames := 8, cells := 4, slots := 24, locals := 125 }
set_option maxHeartbeats 4000000 in
set_option maxRecDepth 100000 in
theorem c_L_begin {l : Launch} {G : cx_G} {L : List Nat} {ad : Nat → Nat} {g : Nat → va_E} (hD : cx_D L ad) {x1 x2 : Int32} {fs : List Value} {post : (Nat → va_E) → Prop} {ex : String → Prop} (hM : XV l yX5_begin wsX5_begin rm_X5_begin G L ad g [.ref (ad 0), .int x1, .int x2] post ex 4 24) (hex : ∀ E : String, ex E → E = xIA) (h0 : 0 ∈ L) (c_o : g 0 = .inr (5, fs)) : WI l yL_begin wsL_begin rm_L_begin G L ad g [.ref (ad 0), .int x1, .int x2] (fun r u => (r = nI 0 ∧ ∃ u0 : Nat → va_E, post u0 ∧ ∀ j : Nat, u j = u0 j) ∨ (r = nI 1 ∧ ex xIA ∧ u = g)) 4 24 := by
  refine cx_ofWI (cc := cL_begin) (maxL := 4) (by decide +kernel) rfl (Nat.le_of_ble_eq_true rfl) ?_
  intro p e s m args below meth c Q hx hb hts hown hml htab hP hK hX hS hz hret ls hl
  have hown : s.vm.findClass RL = some m.cls := hown
  have hl : lv_has ls 4 [(0, .ref (ad 0)), (1, .int x1), (2, .int x2)] := hl
  refine lv_aload_n hx hb dL_begin_0 rfl (lv_at hl 0 rfl) ?_
  refine lv_iload_n hx hb dL_begin_1 rfl (lv_at hl 1 rfl) ?_
  refine lv_iload_n hx hb dL_begin_2 rfl (lv_at hl 2 rfl) ?_
  refine cx_XVv (As := [.int x1, .int x2]) (rest := []) (mc := 4) (ms := 24) ⟨hx, hb, hml, hown, hts⟩ hM (cwV 2 hts gL_begin_X5_begin rfl rfl rfl (by decide +kernel) ⟨Nat.le_of_ble_eq_true rfl, Nat.le_of_ble_eq_true rfl⟩) hK hX hP hS hz h0 c_o rfl ⟨Nat.le_of_ble_eq_true rfl, Nat.le_of_ble_eq_true rfl⟩ rfl hl.1 rfl (Nat.le_of_ble_eq_true rfl) dL_begin_3 (fun E ce q9 H locs hE hP hS h1x h2x h3x => ?_) (fun g1 H locs hp1 hP hS => ?_)
  · rcases hex E hE with rfl
    · refine vx_catch (name := xIA) hown [] ⟨0, 6, 9, 13⟩ [] htab (fun z hz => absurd hz List.not_mem_nil) rfl (by decide) (hts _ wd_L_begin_0) (va_Nw.use (cx_bad_on _ cb_IA) (hX.2.1 _ cb_IA)) h1x h2x h3x ?_
      refine lv_astore_n (lv' := [(3, .ref q9), (0, .ref (ad 0)), (1, .int x1), (2, .int x2)]) hx hb dL_begin_9 rfl hl (by decide) rfl (fun ls hl => ?_)
      refine lv_iconst (v := nI 1) hx hb dL_begin_10 (by decide) ?_
      exact hret (nI 1) g _ _ _ _ _ _ ⟨by decide, by decide⟩ rfl (Or.inr (⟨rfl, hE, rfl⟩)) hP hS dL_begin_11
  refine lv_goto (tgt := 12) hx hb dL_begin_6 (by decide) ?_
  refine lv_iconst (v := nI 0) hx hb dL_begin_12 (by decide) ?_
  exact hret (nI 0) g1 _ _ _ _ _ _ ⟨by decide, by decide⟩ rfl (Or.inl ⟨rfl, g1, hp1, fun _ => rfl⟩) hP hS dL_begin_13

set_option maxRecDepth 20000 in
theorem wd_L_go_0 : Cond.classLink RL 13 "java/lang/IllegalArgumentException" ∈ wsL_go := by decide +kernel
abbrev rm_L_go : Room := { frames := 7, cells := 4, slots := 24, locals := 105 }
set_option maxHeartbeats 4000000 in
set_option maxRecDepth 100000 in
theorem c_L_go {l : Launch} {G : cx_G} {L : List Nat} {ad : Nat → Nat} {g : Nat → va_E} (hD : cx_D L ad) {x1 x2 : Int32} {fs : List Value} {jo : Nat → Int64} {post : Int32 → (Nat → va_E) → Prop} {ex : String → Prop} (hM : XI l yX5_go wsX5_go rm_X5_go G L ad g [.ref (ad 0), .int x1, .int x2] post ex 4 24) (hex : ∀ E : String, ex E → E = xIA) (h0 : 0 ∈ L) (c_o : g 0 = .inr (5, fs)) (h11 : 1100 ∈ L) (c_j : g 1100 = jA G 1 jo) (hfr : ∀ (r : Int32) (u : Nat → va_E), post r u → u 1100 = g 1100) : WI l yL_go wsL_go rm_L_go G L ad g [.ref (ad 0), .int x1, .int x2, .ref (ad 1100)] (fun r u => (r = nI 0 ∧ ∃ (r0 : Int32) (u0 : Nat → va_E) (z0 : Int64), post r0 u0 ∧ ((r0 = 0 ∧ z0 = lN 0) ∨ (¬ r0 = 0 ∧ z0 = lN 1)) ∧ u 1100 = jA G 1 (vp_updL jo 0 z0) ∧ ∀ j : Nat, j ≠ 1100 → u j = u0 j) ∨ (r = nI 1 ∧ ex xIA ∧ u = g)) 4 24 := by
  refine cx_ofWI (cc := cL_go) (maxL := 5) (by decide +kernel) rfl (Nat.le_of_ble_eq_true rfl) ?_
  intro p e s m args below meth c Q hx hb hts hown hml htab hP hK hX hS hz hret ls hl
  have hown : s.vm.findClass RL = some m.cls := hown
  have hl : lv_has ls 5 [(0, .ref (ad 0)), (1, .int x1), (2, .int x2), (3, .ref (ad 1100))] := hl
  refine lv_aload_n hx hb dL_go_0 rfl (lv_at hl 3 rfl) ?_
  refine lv_iconst (v := nI 0) hx hb dL_go_1 (by decide) ?_
  refine lv_aload_n hx hb dL_go_2 rfl (lv_at hl 0 rfl) ?_
  refine lv_iload_n hx hb dL_go_3 rfl (lv_at hl 1 rfl) ?_
  refine lv_iload_n hx hb dL_go_4 rfl (lv_at hl 2 rfl) ?_
  refine cx_XVi (As := [.int x1, .int x2]) (rest := [.int (nI 0), .ref (ad 1100)]) (mc := 4) (ms := 24) ⟨hx, hb, hml, hown, hts⟩ hM (cwV 2 hts gL_go_X5_go rfl rfl rfl (by decide +kernel) ⟨Nat.le_of_ble_eq_true rfl, Nat.le_of_ble_eq_true rfl⟩) hK hX hP hS hz h0 c_o rfl ⟨Nat.le_of_ble_eq_true rfl, Nat.le_of_ble_eq_true rfl⟩ rfl hl.1 rfl (Nat.le_of_ble_eq_true rfl) dL_go_5 (fun E ce q9 H locs hE hP hS h1x h2x h3x => ?_) (fun r1 g1 H locs hp1 hP hS => ?_)
  · rcases hex E hE with rfl
    · refine vx_catch (name := xIA) hown [] ⟨0, 17, 20, 13⟩ [] htab (fun z hz => absurd hz List.not_mem_nil) rfl (by decide) (hts _ wd_L_go_0) (va_Nw.use (cx_bad_on _ cb_IA) (hX.2.1 _ cb_IA)) h1x h2x h3x ?_
      refine lv_astore (lv' := [(4, .ref q9), (0, .ref (ad 0)), (1, .int x1), (2, .int x2), (3, .ref (ad 1100))]) hx hb dL_go_20 hl (by decide) rfl (fun ls hl => ?_)
      refine lv_iconst (v := nI 1) hx hb dL_go_22 (by decide) ?_
      exact hret (nI 1) g _ _ _ _ _ _ ⟨by decide, by decide⟩ rfl (Or.inr (⟨rfl, hE, rfl⟩)) hP hS dL_go_23
  have c_j : g1 1100 = jA G 1 jo := (hfr _ _ hp1).trans c_j
  refine lv_if_eq (x := r1) (tgt := 15) hx hb dL_go_8 (by decide) (fun h8 => ?_) (fun h8 => ?_)
  · skip
    refine lv_lconst (v := lN 0) hx hb dL_go_15 rfl ?_
    refine ax_jast (k := 1100) (i := 0) hx hb hK hP hD hS h11 c_j (by omega) (by omega) dL_go_16 (fun H locs g1 eg1 hP hS => ?_)
    have c_j : g1 1100 = jA G 1 (vp_updL jo 0 (lN 0)) := cx_eq eg1
    refine lv_goto (tgt := 24) hx hb dL_go_17 (by decide) ?_
    refine lv_iconst (v := nI 0) hx hb dL_go_24 (by decide) ?_
    exact hret (nI 0) g1 _ _ _ _ _ _ ⟨by decide, by decide⟩ rfl (Or.inl ⟨rfl, r1, _, _, hp1, Or.inl ⟨h8, rfl⟩, c_j, fun j hj => cx_ne eg1 j hj⟩) hP hS dL_go_25
  · skip
    refine lv_lconst (v := lN 1) hx hb dL_go_11 rfl ?_
    refine lv_goto (tgt := 16) hx hb dL_go_12 (by decide) ?_
    refine ax_jast (k := 1100) (i := 0) hx hb hK hP hD hS h11 c_j (by omega) (by omega) dL_go_16 (fun H locs g2 eg2 hP hS => ?_)
    have c_j : g2 1100 = jA G 1 (vp_updL jo 0 (lN 1)) := cx_eq eg2
    refine lv_goto (tgt := 24) hx hb dL_go_17 (by decide) ?_
    refine lv_iconst (v := nI 0) hx hb dL_go_24 (by decide) ?_
    exact hret (nI 0) g2 _ _ _ _ _ _ ⟨by decide, by decide⟩ rfl (Or.inl ⟨rfl, r1, _, _, hp1, Or.inr ⟨h8, rfl⟩, c_j, fun j hj => cx_ne eg2 j hj⟩) hP hS dL_go_25

set_option maxRecDepth 20000 in
theorem wd_L_at_0 : Cond.classLink RL 13 "java/lang/IllegalArgumentException" ∈ wsL_at := by decide +kernel
abbrev rm_L_at : Room := { frames := 8, cells := 4, slots := 24, locals := 124 }
set_option maxHeartbeats 4000000 in
set_option maxRecDepth 100000 in
theorem c_L_at {l : Launch} {G : cx_G} {L : List Nat} {ad : Nat → Nat} {g : Nat → va_E} (hD : cx_D L ad) {x1 : Int32} {fs : List Value} {jo : Nat → Int64} {post : Int32 → (Nat → va_E) → Prop} {ex : String → Prop} (hM : XI l yX5_at wsX5_at rm_X5_at G L ad g [.ref (ad 0), .int x1] post ex 4 24) (hex : ∀ E : String, ex E → E = xIA) (h0 : 0 ∈ L) (c_o : g 0 = .inr (5, fs)) (h11 : 1100 ∈ L) (c_j : g 1100 = jA G 1 jo) (hfr : ∀ (r : Int32) (u : Nat → va_E), post r u → u 1100 = g 1100) : WI l yL_at wsL_at rm_L_at G L ad g [.ref (ad 0), .int x1, .ref (ad 1100)] (fun r u => (r = nI 0 ∧ ∃ (r0 : Int32) (u0 : Nat → va_E) (z0 : Int64), post r0 u0 ∧ z0 = r0.toInt64 ∧ u 1100 = jA G 1 (vp_updL jo 0 z0) ∧ ∀ j : Nat, j ≠ 1100 → u j = u0 j) ∨ (r = nI 1 ∧ ex xIA ∧ u = g)) 4 24 := by
  refine cx_ofWI (cc := cL_at) (maxL := 4) (by decide +kernel) rfl (Nat.le_of_ble_eq_true rfl) ?_
  intro p e s m args below meth c Q hx hb hts hown hml htab hP hK hX hS hz hret ls hl
  have hown : s.vm.findClass RL = some m.cls := hown
  have hl : lv_has ls 4 [(0, .ref (ad 0)), (1, .int x1), (2, .ref (ad 1100))] := hl
  refine lv_aload_n hx hb dL_at_0 rfl (lv_at hl 2 rfl) ?_
  refine lv_iconst (v := nI 0) hx hb dL_at_1 (by decide) ?_
  refine lv_aload_n hx hb dL_at_2 rfl (lv_at hl 0 rfl) ?_
  refine lv_iload_n hx hb dL_at_3 rfl (lv_at hl 1 rfl) ?_
  refine cx_XVi (As := [.int x1]) (rest := [.int (nI 0), .ref (ad 1100)]) (mc := 4) (ms := 24) ⟨hx, hb, hml, hown, hts⟩ hM (cwV 1 hts gL_at_X5_at rfl rfl rfl (by decide +kernel) ⟨Nat.le_of_ble_eq_true rfl, Nat.le_of_ble_eq_true rfl⟩) hK hX hP hS hz h0 c_o rfl ⟨Nat.le_of_ble_eq_true rfl, Nat.le_of_ble_eq_true rfl⟩ rfl hl.1 rfl (Nat.le_of_ble_eq_true rfl) dL_at_4 (fun E ce q9 H locs hE hP hS h1x h2x h3x => ?_) (fun r1 g1 H locs hp1 hP hS => ?_)
  · rcases hex E hE with rfl
    · refine vx_catch (name := xIA) hown [] ⟨0, 9, 12, 13⟩ [] htab (fun z hz => absurd hz List.not_mem_nil) rfl (by decide) (hts _ wd_L_at_0) (va_Nw.use (cx_bad_on _ cb_IA) (hX.2.1 _ cb_IA)) h1x h2x h3x ?_
      refine lv_astore_n (lv' := [(3, .ref q9), (0, .ref (ad 0)), (1, .int x1), (2, .ref (ad 1100))]) hx hb dL_at_12 rfl hl (by decide) rfl (fun ls hl => ?_)
      refine lv_iconst (v := nI 1) hx hb dL_at_13 (by decide) ?_
      exact hret (nI 1) g _ _ _ _ _ _ ⟨by decide, by decide⟩ rfl (Or.inr (⟨rfl, hE, rfl⟩)) hP hS dL_at_14
  have c_j : g1 1100 = jA G 1 jo := (hfr _ _ hp1).trans c_j
  refine lv_i2l (v := r1.toInt64) hx hb dL_at_7 rfl ?_
  refine ax_jast (k := 1100) (i := 0) hx hb hK hP hD hS h11 c_j (by omega) (by omega) dL_at_8 (fun H locs g1 eg1 hP hS => ?_)
  have c_j : g1 1100 = jA G 1 (vp_updL jo 0 r1.toInt64) := cx_eq eg1
  refine lv_goto (tgt := 15) hx hb dL_at_9 (by decide) ?_
  refine lv_iconst (v := nI 0) hx hb dL_at_15 (by decide) ?_
  exact hret (nI 0) g1 _ _ _ _ _ _ ⟨by decide, by decide⟩ rfl (Or.inl ⟨rfl, r1, _, _, hp1, rfl, c_j, fun j hj => cx_ne eg1 j hj⟩) hP hS dL_at_16

set_option maxRecDepth 20000 in
theorem wd_L_note_0 : Cond.classLink RL 13 "java/lang/IllegalArgumentException" ∈ wsL_note := by decide +kernel
set_option maxRecDepth 20000 in
theorem wd_L_note_1 : Cond.classLink RL 19 "java/lang/IllegalStateException" ∈ wsL_note := by decide +kernel
abbrev rm_L_note : Room := { frames := 8, cells := 4, slots := 24, locals := 124 }
set_option maxHeartbeats 4000000 in
set_option maxRecDepth 100000 in
theorem c_L_note {l : Launch} {G : cx_G} {L : List Nat} {ad : Nat → Nat} {g : Nat → va_E} (hD : cx_D L ad) {x1 : Int32} {fs : List Value} {jo : Nat → Int64} {post : Int32 → (Nat → va_E) → Prop} {ex : String → Prop} (hM : XI l yX5_note wsX5_note rm_X5_note G L ad g [.ref (ad 0), .int x1] post ex 4 24) (hex : ∀ E : String, ex E → E = xIA ∨ E = xIS) (h0 : 0 ∈ L) (c_o : g 0 = .inr (5, fs)) (h11 : 1100 ∈ L) (c_j : g 1100 = jA G 1 jo) (hfr : ∀ (r : Int32) (u : Nat → va_E), post r u → u 1100 = g 1100) : WI l yL_note wsL_note rm_L_note G L ad g [.ref (ad 0), .int x1, .ref (ad 1100)] (fun r u => (r = nI 0 ∧ ∃ (r0 : Int32) (u0 : Nat → va_E) (z0 : Int64), post r0 u0 ∧ z0 = r0.toInt64 ∧ u 1100 = jA G 1 (vp_updL jo 0 z0) ∧ ∀ j : Nat, j ≠ 1100 → u j = u0 j) ∨ (r = nI 1 ∧ ex xIA ∧ u = g) ∨ (r = nI 2 ∧ ex xIS ∧ u = g)) 4 24 := by
  refine cx_ofWI (cc := cL_note) (maxL := 4) (by decide +kernel) rfl (Nat.le_of_ble_eq_true rfl) ?_
  intro p e s m args below meth c Q hx hb hts hown hml htab hP hK hX hS hz hret ls hl
  have hown : s.vm.findClass RL = some m.cls := hown
  have hl : lv_has ls 4 [(0, .ref (ad 0)), (1, .int x1), (2, .ref (ad 1100))] := hl
  refine lv_aload_n hx hb dL_note_0 rfl (lv_at hl 2 rfl) ?_
  refine lv_iconst (v := nI 0) hx hb dL_note_1 (by decide) ?_
  refine lv_aload_n hx hb dL_note_2 rfl (lv_at hl 0 rfl) ?_
  refine lv_iload_n hx hb dL_note_3 rfl (lv_at hl 1 rfl) ?_
  refine cx_XVi (As := [.int x1]) (rest := [.int (nI 0), .ref (ad 1100)]) (mc := 4) (ms := 24) ⟨hx, hb, hml, hown, hts⟩ hM (cwV 1 hts gL_note_X5_note rfl rfl rfl (by decide +kernel) ⟨Nat.le_of_ble_eq_true rfl, Nat.le_of_ble_eq_true rfl⟩) hK hX hP hS hz h0 c_o rfl ⟨Nat.le_of_ble_eq_true rfl, Nat.le_of_ble_eq_true rfl⟩ rfl hl.1 rfl (Nat.le_of_ble_eq_true rfl) dL_note_4 (fun E ce q9 H locs hE hP hS h1x h2x h3x => ?_) (fun r1 g1 H locs hp1 hP hS => ?_)
  · rcases hex E hE with rfl | rfl
    · refine vx_catch (name := xIA) hown [] ⟨0, 9, 12, 13⟩ [⟨0, 9, 15, 19⟩] htab (fun z hz => absurd hz List.not_mem_nil) rfl (by decide) (hts _ wd_L_note_0) (va_Nw.use (cx_bad_on _ cb_IA) (hX.2.1 _ cb_IA)) h1x h2x h3x ?_
      refine lv_astore_n (lv' := [(3, .ref q9), (0, .ref (ad 0)), (1, .int x1), (2, .ref (ad 1100))]) hx hb dL_note_12 rfl hl (by decide) rfl (fun ls hl => ?_)
      refine lv_iconst (v := nI 1) hx hb dL_note_13 (by decide) ?_
      exact hret (nI 1) g _ _ _ _ _ _ ⟨by decide, by decide⟩ rfl (Or.inr (Or.inl ⟨rfl, hE, rfl⟩)) hP hS dL_note_14
    · refine vx_catch (name := xIS) hown [⟨0, 9, 12, 13⟩] ⟨0, 9, 15, 19⟩ [] htab (fun z hz => by simp only [List.mem_cons, List.not_mem_nil, or_false] at hz; rcases hz with rfl; exact Or.inr ⟨by decide, xIA, hts _ wd_L_note_0, hX.2.2.1 (xIS, xIA) (by simp [cx_pass])⟩) rfl (by decide) (hts _ wd_L_note_1) (va_Nw.use (cx_bad_on _ cb_IS) (hX.2.1 _ cb_IS)) h1x h2x h3x ?_
      refine lv_astore_n (lv' := [(3, .ref q9), (0, .ref (ad 0)), (1, .int x1), (2, .ref (ad 1100))]) hx hb dL_note_15 rfl hl (by decide) rfl (fun ls hl => ?_)
      refine lv_iconst (v := nI 2) hx hb dL_note_16 (by decide) ?_
      exact hret (nI 2) g _ _ _ _ _ _ ⟨by decide, by decide⟩ rfl (Or.inr (Or.inr (⟨rfl, hE, rfl⟩))) hP hS dL_note_17
  have c_j : g1 1100 = jA G 1 jo := (hfr _ _ hp1).trans c_j
  refine lv_i2l (v := r1.toInt64) hx hb dL_note_7 rfl ?_
  refine ax_jast (k := 1100) (i := 0) hx hb hK hP hD hS h11 c_j (by omega) (by omega) dL_note_8 (fun H locs g1 eg1 hP hS => ?_)
  have c_j : g1 1100 = jA G 1 (vp_updL jo 0 r1.toInt64) := cx_eq eg1
  refine lv_goto (tgt := 18) hx hb dL_note_9 (by decide) ?_
  refine lv_iconst (v := nI 0) hx hb dL_note_18 (by decide) ?_
  exact hret (nI 0) g1 _ _ _ _ _ _ ⟨by decide, by decide⟩ rfl (Or.inl ⟨rfl, r1, _, _, hp1, rfl, c_j, fun j hj => cx_ne eg1 j hj⟩) hP hS dL_note_19

set_option maxRecDepth 20000 in
theorem wd_L_noteAll_0 : Cond.classLink RL 19 "java/lang/IllegalStateException" ∈ wsL_noteAll := by decide +kernel
set_option maxRecDepth 20000 in
theorem wd_L_noteAll_1 : Cond.classLink RL 62 "java/lang/UnsupportedOperationException" ∈ wsL_noteAll := by decide +kernel
abbrev rm_L_noteAll : Room := { frames := 8, cells := 4, slots := 24, locals := 151 }
set_option maxHeartbeats 4000000 in
set_option maxRecDepth 100000 in
theorem c_L_noteAll {l : Launch} {G : cx_G} {L : List Nat} {ad : Nat → Nat} {g : Nat → va_E} (hD : cx_D L ad) {x9 : Int32} {fs : List Value} {jo : Nat → Int64} {post : Int32 → (Nat → va_E) → Prop} {ex : String → Prop} (hM : XI l yX5_noteAll wsX5_noteAll rm_X5_noteAll G L ad g [.ref (ad 0)] post ex 4 24) (hex : ∀ E : String, ex E → E = xIS ∨ E = xUO) (h0 : 0 ∈ L) (c_o : g 0 = .inr (5, fs)) (h11 : 1100 ∈ L) (c_j : g 1100 = jA G 1 jo) (hfr : ∀ (r : Int32) (u : Nat → va_E), post r u → u 1100 = g 1100) : WI l yL_noteAll wsL_noteAll rm_L_noteAll G L ad g [.ref (ad 0), .ref (ad 1100)] (fun r u => (r = nI 0 ∧ ∃ (r0 : Int32) (u0 : Nat → va_E) (z0 : Int64), post r0 u0 ∧ z0 = r0.toInt64 ∧ u 1100 = jA G 1 (vp_updL jo 0 z0) ∧ ∀ j : Nat, j ≠ 1100 → u j = u0 j) ∨ (r = nI 1 ∧ ex xIS ∧ u = g) ∨ (r = nI 2 ∧ ex xUO ∧ u = g)) 4 24 := by
  refine cx_ofWI (cc := cL_noteAll) (maxL := 3) (by decide +kernel) rfl (Nat.le_of_ble_eq_true rfl) ?_
  intro p e s m args below meth c Q hx hb hts hown hml htab hP hK hX hS hz hret ls hl
  have hown : s.vm.findClass RL = some m.cls := hown
  have hl : lv_has ls 3 [(0, .ref (ad 0)), (1, .ref (ad 1100))] := hl
  refine lv_aload_n hx hb dL_noteAll_0 rfl (lv_at hl 1 rfl) ?_
  refine lv_iconst (v := nI 0) hx hb dL_noteAll_1 (by decide) ?_
  refine lv_aload_n hx hb dL_noteAll_2 rfl (lv_at hl 0 rfl) ?_
  refine cx_XVi (As := []) (rest := [.int (nI 0), .ref (ad 1100)]) (mc := 4) (ms := 24) ⟨hx, hb, hml, hown, hts⟩ hM (cwV 0 hts gL_noteAll_X5_noteAll rfl rfl rfl (by decide +kernel) ⟨Nat.le_of_ble_eq_true rfl, Nat.le_of_ble_eq_true rfl⟩) hK hX hP hS hz h0 c_o rfl ⟨Nat.le_of_ble_eq_true rfl, Nat.le_of_ble_eq_true rfl⟩ rfl hl.1 rfl (Nat.le_of_ble_eq_true rfl) dL_noteAll_3 (fun E ce q9 H locs hE hP hS h1x h2x h3x => ?_) (fun r1 g1 H locs hp1 hP hS => ?_)
  · rcases hex E hE with rfl | rfl
    · refine vx_catch (name := xIS) hown [] ⟨0, 8, 11, 19⟩ [⟨0, 8, 14, 62⟩] htab (fun z hz => absurd hz List.not_mem_nil) rfl (by decide) (hts _ wd_L_noteAll_0) (va_Nw.use (cx_bad_on _ cb_IS) (hX.2.1 _ cb_IS)) h1x h2x h3x ?_
      refine lv_astore_n (lv' := [(2, .ref q9), (0, .ref (ad 0)), (1, .ref (ad 1100))]) hx hb dL_noteAll_11 rfl hl (by decide) rfl (fun ls hl => ?_)
      refine lv_iconst (v := nI 1) hx hb dL_noteAll_12 (by decide) ?_
      exact hret (nI 1) g _ _ _ _ _ _ ⟨by decide, by decide⟩ rfl (Or.inr (Or.inl ⟨rfl, hE, rfl⟩)) hP hS dL_noteAll_13
    · refine vx_catch (name := xUO) hown [⟨0, 8, 11, 19⟩] ⟨0, 8, 14, 62⟩ [] htab (fun z hz => by simp only [List.mem_cons, List.not_mem_nil, or_false] at hz; rcases hz with rfl; exact Or.inr ⟨by decide, xIS, hts _ wd_L_noteAll_0, hX.2.2.1 (xUO, xIS) (by simp [cx_pass])⟩) rfl (by decide) (hts _ wd_L_noteAll_1) (va_Nw.use (cx_bad_on _ cb_UO) (hX.2.1 _ cb_UO)) h1x h2x h3x ?_
      refine lv_astore_n (lv' := [(2, .ref q9), (0, .ref (ad 0)), (1, .ref (ad 1100))]) hx hb dL_noteAll_14 rfl hl (by decide) rfl (fun ls hl => ?_)
      refine lv_iconst (v := nI 2) hx hb dL_noteAll_15 (by decide) ?_
      exact hret (nI 2) g _ _ _ _ _ _ ⟨by decide, by decide⟩ rfl (Or.inr (Or.inr (⟨rfl, hE, rfl⟩))) hP hS dL_noteAll_16
  have c_j : g1 1100 = jA G 1 jo := (hfr _ _ hp1).trans c_j
  refine lv_i2l (v := r1.toInt64) hx hb dL_noteAll_6 rfl ?_
  refine ax_jast (k := 1100) (i := 0) hx hb hK hP hD hS h11 c_j (by omega) (by omega) dL_noteAll_7 (fun H locs g1 eg1 hP hS => ?_)
  have c_j : g1 1100 = jA G 1 (vp_updL jo 0 r1.toInt64) := cx_eq eg1
  refine lv_goto (tgt := 17) hx hb dL_noteAll_8 (by decide) ?_
  refine lv_iconst (v := nI 0) hx hb dL_noteAll_17 (by decide) ?_
  exact hret (nI 0) g1 _ _ _ _ _ _ ⟨by decide, by decide⟩ rfl (Or.inl ⟨rfl, r1, _, _, hp1, rfl, c_j, fun j hj => cx_ne eg1 j hj⟩) hP hS dL_noteAll_18
