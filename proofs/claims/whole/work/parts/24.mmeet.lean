/-! THE MODEL: points -/
theorem QP.tab {N V node : Nat} {P : PS} {mn : Nat → Nat} {pq y v : Nat → FF} {cm : Nat → Int32} {nd nx : Nat → Nat} {k : Nat} (h : QP N P mn pq cm nd nx) (hn : node < N) (hk : 5 ≤ k) (hl : LY (fun a b => if a = mn node then v b else pq (25 * node + 5 * a + b)) (mn node) k y) (hV : V ≤ 4) (u : Nat → FF) : InSp (V + 1) (rw5 y) (mn node + 1) u ↔ InSp (V + 1) (nu (P.2.2.2.2.1 node) (P.2.2.2.1 node) v) (P.2.2.2.1 node + 1) u := by
  have e := h.1 node hn
  rw [← e]
  refine (LY.insp (hl.row hk) hV).trans ?_
  have hc : ∀ a : Nat, a < mn node + 1 → ∀ j : Nat, j < V + 1 → (if a = mn node then v j else pq (25 * node + 5 * a + j)) = nu (P.2.2.2.2.1 node) (mn node) v a j := by
    intro a ha j hj
    by_cases q : a = mn node
    · rw [if_pos q, q, nu_s]
    · rw [if_neg q, nu_n q]
      exact h.2.1 node a j hn (by omega) (by omega)
  exact ⟨fun z => z.cg hc, fun z => z.cg (fun a ha j hj => (hc a ha j hj).symm)⟩
theorem QP.tab0 {N V node : Nat} {P : PS} {mn : Nat → Nat} {pq y : Nat → FF} {cm : Nat → Int32} {nd nx : Nat → Nat} (h : QP N P mn pq cm nd nx) (hn : node < N) (hl : LY (fun a b => pq (25 * node + 5 * a + b)) (mn node) 0 y) (hV : V ≤ 4) (u : Nat → FF) : InSp (V + 1) (rw5 y) (mn node) u ↔ InSp (V + 1) (P.2.2.2.2.1 node) (P.2.2.2.1 node) u := by
  have e := h.1 node hn
  rw [← e]
  refine (LY.insp hl hV).trans ?_
  have hc : ∀ a : Nat, a < mn node → ∀ j : Nat, j < V + 1 → pq (25 * node + 5 * a + j) = P.2.2.2.2.1 node a j := fun a ha j hj => h.2.1 node a j hn (by omega) (by omega)
  exact ⟨fun z => z.cg hc, fun z => z.cg (fun a ha j hj => (hc a ha j hj).symm)⟩
theorem PV.cntT {N V node : Nat} {P : PS} (h : PV N V P) (hn : node < N) {t : Nat → Bool} {kp : Nat → Nat → FF} (hr : RRf (V + 1) t kp (InSp (V + 1) (P.2.2.2.2.1 node) (P.2.2.2.1 node))) : cntT t (V + 1) = P.2.2.2.1 node := by
  obtain ⟨⟨T, K, hs⟩, -⟩ := h
  obtain ⟨q1, q2⟩ := hs node hn
  rw [q1]
  exact (cntT_cg (q2.one hr (InSp.lin _ _ _)).1).symm
theorem LY.ini {F F2 : Nat → Nat → FF} {i : Nat} {y : Nat → FF} (h : LY F i 0 y) (hf : ∀ a b : Nat, a < i → b < 5 → F a b = F2 a b) : LY F2 i 0 y := h.cg (fun a b hb hab => hf a b (by omega) hb)

set_option maxRecDepth 20000 in
theorem wd_X6_layPoints_0 : Cond.fieldLink RX6 84 "AffineHullsModel" "size" "I" ∈ wsX6_layPoints := by decide +kernel
set_option maxRecDepth 20000 in
theorem in_X6_layPoints_X6 : ∀ w ∈ u_ws RX6 TX6 29, w ∈ wsX6_layPoints := by decide +kernel
set_option maxRecDepth 20000 in
theorem wd_X6_layPoints_2 : Cond.fieldLink RX6 28 "AffineHullsModel" "many" "[I" ∈ wsX6_layPoints := by decide +kernel
set_option maxRecDepth 20000 in
theorem wd_X6_layPoints_3 : Cond.fieldLink RX6 31 "AffineHullsModel" "points" "[I" ∈ wsX6_layPoints := by decide +kernel
abbrev rm_X6_layPoints : Room := { frames := 1, cells := 0, slots := 0, locals := 22 }
set_option maxHeartbeats 4000000 in
set_option maxRecDepth 100000 in
theorem c_X6_layPoints {l : Launch} {G : cx_G} {L : List Nat} {ad : Nat → Nat} {g : Nat → va_E} (hD : cx_D L ad) {N V th ec en al pl nc sz : Nat} {an : Bool} {node : Nat} {mn : Nat → Nat} {pq tb : Nat → FF} (hN1 : 1 ≤ N) (hN : N ≤ 8) (hV1 : 1 ≤ V) (hV : V ≤ 4) (hq : ∀ j : Nat, lbM j = true → j ∈ L) (c_o : g 1000 = .inr (6, [.int (nI N), .int (nI V), .int (nI th), .ref (ad 1003), .int (nI ec), .ref (ad 1005), .ref (ad 1006), .ref (ad 1007), .ref (ad 1008), .ref (ad 1009), .int (nI en), .int (if an = true then 1 else 0), .ref (ad 1012), .ref (ad 1013), .ref (ad 1014), .int (nI al), .ref (ad 1016), .ref (ad 1017), .ref (ad 1018), .ref (ad 1019), .int (nI pl), .ref (ad 1021), .int (nI nc), .ref (ad 1023), .ref (ad 1024), .int (nI sz), .ref (ad 1026), .ref (ad 1027), .ref (ad 1028)])) (c_M : g 1012 = nA G 8 mn) (c_Q : g 1013 = nA G 200 (vN pq)) (c_T : g 1026 = nA G 150 (vN tb)) (hnd : node < 8) (hmn : mn node ≤ 5) : MV l yX6_layPoints wsX6_layPoints rm_X6_layPoints G L ad g [.ref (ad 1000), .int (nI node)] (fun u => (∀ j : Nat, (j ≠ 1000 ∧ j ≠ 1026) → u j = g j) ∧ u 1000 = .inr (6, [.int (nI N), .int (nI V), .int (nI th), .ref (ad 1003), .int (nI ec), .ref (ad 1005), .ref (ad 1006), .ref (ad 1007), .ref (ad 1008), .ref (ad 1009), .int (nI en), .int (if an = true then 1 else 0), .ref (ad 1012), .ref (ad 1013), .ref (ad 1014), .int (nI al), .ref (ad 1016), .ref (ad 1017), .ref (ad 1018), .ref (ad 1019), .int (nI pl), .ref (ad 1021), .int (nI nc), .ref (ad 1023), .ref (ad 1024), .int (nI (mn node)), .ref (ad 1026), .ref (ad 1027), .ref (ad 1028)]) ∧ ∃ tb2 : Nat → FF, u 1026 = nA G 150 (vN tb2) ∧ LY (fun a b => pq (25 * node + 5 * a + b)) (mn node) 0 tb2) := by
  refine cx_ofV (cc := cX6_layPoints) (maxL := 4) (by decide +kernel) rfl (Nat.le_of_ble_eq_true rfl) ?_
  intro p e s m args below meth c Q hx hb hts hown hml hP hK hS hz hret ls hl
  have hown : s.vm.findClass RX6 = some m.cls := hown
  have hl : lv_has ls 4 [(0, .ref (ad 1000)), (1, .int (nI node))] := hl
  have fr : ∀ j : Nat, (j ≠ 1000 ∧ j ≠ 1026) → g j = g j := fun _ _ => rfl
  refine lv_aload_n hx hb dX6_layPoints_0 rfl (lv_at hl 0 rfl) ?_
  refine lv_iconst (v := nI 0) hx hb dX6_layPoints_1 (by decide) ?_
  refine ax_put (k := 1000) (v := .int (nI 0)) (fs' := [.int (nI N), .int (nI V), .int (nI th), .ref (ad 1003), .int (nI ec), .ref (ad 1005), .ref (ad 1006), .ref (ad 1007), .ref (ad 1008), .ref (ad 1009), .int (nI en), .int (if an = true then 1 else 0), .ref (ad 1012), .ref (ad 1013), .ref (ad 1014), .int (nI al), .ref (ad 1016), .ref (ad 1017), .ref (ad 1018), .ref (ad 1019), .int (nI pl), .ref (ad 1021), .int (nI nc), .ref (ad 1023), .ref (ad 1024), .int (nI 0), .ref (ad 1026), .ref (ad 1027), .ref (ad 1028)]) hx hb hts in_X6_layPoints_X6 tyX6 tyX6_ok nmX6 hown hK hP hD hS (hq _ (by decide)) c_o rfl 25 (by decide) (hts _ wd_X6_layPoints_0) (fun _ h9 => h9) rfl (ty := .int) (by decide +kernel) rfl rfl (Nat.le_of_ble_eq_true rfl) rfl dX6_layPoints_2 (fun H locs g1 eg1 hP hS => ?_)
  have c_M : g1 1012 = nA G 8 mn := (cx_ne eg1 1012 (by omega)).trans c_M
  have c_Q : g1 1013 = nA G 200 (vN pq) := (cx_ne eg1 1013 (by omega)).trans c_Q
  have c_T : g1 1026 = nA G 150 (vN tb) := (cx_ne eg1 1026 (by omega)).trans c_T
  have c_o : g1 1000 = .inr (6, [.int (nI N), .int (nI V), .int (nI th), .ref (ad 1003), .int (nI ec), .ref (ad 1005), .ref (ad 1006), .ref (ad 1007), .ref (ad 1008), .ref (ad 1009), .int (nI en), .int (if an = true then 1 else 0), .ref (ad 1012), .ref (ad 1013), .ref (ad 1014), .int (nI al), .ref (ad 1016), .ref (ad 1017), .ref (ad 1018), .ref (ad 1019), .int (nI pl), .ref (ad 1021), .int (nI nc), .ref (ad 1023), .ref (ad 1024), .int (nI 0), .ref (ad 1026), .ref (ad 1027), .ref (ad 1028)]) := cx_eq eg1
  have fr : ∀ j : Nat, (j ≠ 1000 ∧ j ≠ 1026) → g1 j = g j := fun j hj => (cx_ne eg1 j (by omega)).trans (fr j hj)
  refine lv_iconst (v := nI 0) hx hb dX6_layPoints_5 (by decide) ?_
  refine lv_istore_n (lv' := [(2, .int (nI 0)), (0, .ref (ad 1000)), (1, .int (nI node))]) hx hb dX6_layPoints_6 rfl hl (by decide) rfl (fun ls hl => ?_)
  have LP7 : ∀ (fu : Nat) (i : Nat) (tbx : Nat → FF), (i ≤ mn node) → (LY (fun a b => pq (25 * node + 5 * a + b)) i 0 tbx) → (mn node - i) < fu → ∀ (ga2 : Nat → va_E) (H : Heap) (locs : List Loc) (ls : Array Slot), (ga2 1000 = .inr (6, [.int (nI N), .int (nI V), .int (nI th), .ref (ad 1003), .int (nI ec), .ref (ad 1005), .ref (ad 1006), .ref (ad 1007), .ref (ad 1008), .ref (ad 1009), .int (nI en), .int (if an = true then 1 else 0), .ref (ad 1012), .ref (ad 1013), .ref (ad 1014), .int (nI al), .ref (ad 1016), .ref (ad 1017), .ref (ad 1018), .ref (ad 1019), .int (nI pl), .ref (ad 1021), .int (nI nc), .ref (ad 1023), .ref (ad 1024), .int (nI i), .ref (ad 1026), .ref (ad 1027), .ref (ad 1028)])) → (ga2 1012 = nA G 8 mn) → (ga2 1013 = nA G 200 (vN pq)) → (ga2 1026 = nA G 150 (vN tbx)) → (∀ j : Nat, (j ≠ 1000 ∧ j ≠ 1026) → ga2 j = g j) → va_P G.1 vwCl (wl L ad ga2) H → va_S (cx_A L ad s.heap.size) s.heap H locs → lv_has ls 4 [(2, .int (nI i)), (0, .ref (ad 1000)), (1, .int (nI node))] → W p l e rm_X6_layPoints s m args below meth c H locs 0 0 Q (F0 m 7 ls []) := by
    intro fu
    induction fu with
    | zero => intro i tbx him hly hfu; exact absurd hfu (Nat.not_lt_zero _)
    | succ fu ih7 =>
      intro i tbx him hly hfu7 ga2 H locs ls c_o c_M c_Q c_T fr hP hS hl
      refine lv_iload_n hx hb dX6_layPoints_7 rfl (lv_at hl 0 rfl) ?_
      refine lv_aload_n hx hb dX6_layPoints_8 rfl (lv_at hl 1 rfl) ?_
      refine ax_get (k := 1000) (v := .ref (ad 1012)) hx hb hts in_X6_layPoints_X6 hown hK hP (hq _ (by decide)) c_o rfl 12 (by decide) (hts _ wd_X6_layPoints_2) (fun _ h9 => h9) rfl dX6_layPoints_9 ?_
      refine lv_iload_n hx hb dX6_layPoints_12 rfl (lv_at hl 2 rfl) ?_
      refine ax_iald (k := 1012) (i := node) (v := nI (mn node)) hx hb hK hP (hq _ (by decide)) c_M (by omega) (by omega) rfl dX6_layPoints_13 ?_
      refine ax_icge (a := i) (b := mn node) (tgt := 66) hx hb dX6_layPoints_14 (by decide) (by omega) (by omega) (fun h14 => ?_) (fun h14 => ?_)
      · skip
        exact hret ga2 _ _ _ _ (by have ei : i = mn node := (by omega); subst ei; exact ⟨fr, c_o, tbx, c_T, hly⟩) hP hS dX6_layPoints_66
      · skip
        refine lv_iconst (v := nI 0) hx hb dX6_layPoints_17 (by decide) ?_
        refine lv_istore_n (lv' := [(3, .int (nI 0)), (2, .int (nI i)), (0, .ref (ad 1000)), (1, .int (nI node))]) hx hb dX6_layPoints_18 rfl hl (by decide) rfl (fun ls hl => ?_)
        have LP19 : ∀ (fu : Nat) (k : Nat) (y : Nat → FF), (k ≤ 5) → (LY (fun a b => pq (25 * node + 5 * a + b)) i k y) → (5 - k) < fu → ∀ (ga3 : Nat → va_E) (H : Heap) (locs : List Loc) (ls : Array Slot), (ga3 1000 = .inr (6, [.int (nI N), .int (nI V), .int (nI th), .ref (ad 1003), .int (nI ec), .ref (ad 1005), .ref (ad 1006), .ref (ad 1007), .ref (ad 1008), .ref (ad 1009), .int (nI en), .int (if an = true then 1 else 0), .ref (ad 1012), .ref (ad 1013), .ref (ad 1014), .int (nI al), .ref (ad 1016), .ref (ad 1017), .ref (ad 1018), .ref (ad 1019), .int (nI pl), .ref (ad 1021), .int (nI nc), .ref (ad 1023), .ref (ad 1024), .int (nI i), .ref (ad 1026), .ref (ad 1027), .ref (ad 1028)])) → (ga3 1012 = nA G 8 mn) → (ga3 1013 = nA G 200 (vN pq)) → (ga3 1026 = nA G 150 (vN y)) → (∀ j : Nat, (j ≠ 1000 ∧ j ≠ 1026) → ga3 j = g j) → va_P G.1 vwCl (wl L ad ga3) H → va_S (cx_A L ad s.heap.size) s.heap H locs → lv_has ls 4 [(3, .int (nI k)), (2, .int (nI i)), (0, .ref (ad 1000)), (1, .int (nI node))] → W p l e rm_X6_layPoints s m args below meth c H locs 0 0 Q (F0 m 19 ls []) := by
          intro fu
          induction fu with
          | zero => intro k y hk5 hlk hfu; exact absurd hfu (Nat.not_lt_zero _)
          | succ fu ih19 =>
            intro k y hk5 hlk hfu19 ga3 H locs ls c_o c_M c_Q c_T fr hP hS hl
            refine lv_iload_n hx hb dX6_layPoints_19 rfl (lv_at hl 0 rfl) ?_
            refine lv_iconst (v := nI 5) hx hb dX6_layPoints_20 (by decide) ?_
            refine ax_icge (a := k) (b := 5) (tgt := 50) hx hb dX6_layPoints_21 (by decide) (by omega) (by omega) (fun h21 => ?_) (fun h21 => ?_)
            · skip
              refine lv_aload_n hx hb dX6_layPoints_50 rfl (lv_at hl 2 rfl) ?_
              refine lv_dup hx hb dX6_layPoints_51 rfl ?_
              refine ax_get (k := 1000) (v := .int (nI i)) hx hb hts in_X6_layPoints_X6 hown hK hP (hq _ (by decide)) c_o rfl 25 (by decide) (hts _ wd_X6_layPoints_0) (fun _ h9 => h9) rfl dX6_layPoints_52 ?_
              refine lv_iconst (v := nI 1) hx hb dX6_layPoints_55 (by decide) ?_
              refine ax_add (a := i) (b := 1) hx hb dX6_layPoints_56 ?_
              refine ax_put (k := 1000) (v := .int (nI (i + 1))) (fs' := [.int (nI N), .int (nI V), .int (nI th), .ref (ad 1003), .int (nI ec), .ref (ad 1005), .ref (ad 1006), .ref (ad 1007), .ref (ad 1008), .ref (ad 1009), .int (nI en), .int (if an = true then 1 else 0), .ref (ad 1012), .ref (ad 1013), .ref (ad 1014), .int (nI al), .ref (ad 1016), .ref (ad 1017), .ref (ad 1018), .ref (ad 1019), .int (nI pl), .ref (ad 1021), .int (nI nc), .ref (ad 1023), .ref (ad 1024), .int (nI (i + 1)), .ref (ad 1026), .ref (ad 1027), .ref (ad 1028)]) hx hb hts in_X6_layPoints_X6 tyX6 tyX6_ok nmX6 hown hK hP hD hS (hq _ (by decide)) c_o rfl 25 (by decide) (hts _ wd_X6_layPoints_0) (fun _ h9 => h9) rfl (ty := .int) (by decide +kernel) rfl rfl (Nat.le_of_ble_eq_true rfl) rfl dX6_layPoints_57 (fun H locs g4 eg4 hP hS => ?_)
              have c_M : g4 1012 = nA G 8 mn := (cx_ne eg4 1012 (by omega)).trans c_M
              have c_Q : g4 1013 = nA G 200 (vN pq) := (cx_ne eg4 1013 (by omega)).trans c_Q
              have c_T : g4 1026 = nA G 150 (vN y) := (cx_ne eg4 1026 (by omega)).trans c_T
              have c_o : g4 1000 = .inr (6, [.int (nI N), .int (nI V), .int (nI th), .ref (ad 1003), .int (nI ec), .ref (ad 1005), .ref (ad 1006), .ref (ad 1007), .ref (ad 1008), .ref (ad 1009), .int (nI en), .int (if an = true then 1 else 0), .ref (ad 1012), .ref (ad 1013), .ref (ad 1014), .int (nI al), .ref (ad 1016), .ref (ad 1017), .ref (ad 1018), .ref (ad 1019), .int (nI pl), .ref (ad 1021), .int (nI nc), .ref (ad 1023), .ref (ad 1024), .int (nI (i + 1)), .ref (ad 1026), .ref (ad 1027), .ref (ad 1028)]) := cx_eq eg4
              have fr : ∀ j : Nat, (j ≠ 1000 ∧ j ≠ 1026) → g4 j = g j := fun j hj => (cx_ne eg4 j (by omega)).trans (fr j hj)
              refine lv_iinc (v := nI (i + 1)) (lv' := [(2, .int (nI (i + 1))), (3, .int (nI k)), (0, .ref (ad 1000)), (1, .int (nI node))]) hx hb dX6_layPoints_60 hl (k := 1) rfl (nI_1 _) (by decide) rfl (fun ls hl => ?_)
              refine lv_goto (tgt := 7) hx hb dX6_layPoints_63 (by decide) ?_
              exact ih7 (i + 1) y (by omega) (hlk.row h21) (by omega) g4 _ _ _ c_o c_M c_Q c_T  fr hP hS (lv_sub hl [0, 2, 3] rfl)
            · skip
              refine lv_aload_n hx hb dX6_layPoints_24 rfl (lv_at hl 2 rfl) ?_
              refine lv_iload_n hx hb dX6_layPoints_25 rfl (lv_at hl 0 rfl) ?_
              refine lv_aload_n hx hb dX6_layPoints_26 rfl (lv_at hl 2 rfl) ?_
              refine ax_get (k := 1000) (v := .ref (ad 1013)) hx hb hts in_X6_layPoints_X6 hown hK hP (hq _ (by decide)) c_o rfl 13 (by decide) (hts _ wd_X6_layPoints_3) (fun _ h9 => h9) rfl dX6_layPoints_27 ?_
              refine lv_bipush (v := nI 25) hx hb dX6_layPoints_30 (by decide) ?_
              refine lv_iload_n hx hb dX6_layPoints_32 rfl (lv_at hl 3 rfl) ?_
              refine ax_mul (a := 25) (b := node) hx hb dX6_layPoints_33 ?_
              refine lv_iconst (v := nI 5) hx hb dX6_layPoints_34 (by decide) ?_
              refine lv_iload_n hx hb dX6_layPoints_35 rfl (lv_at hl 1 rfl) ?_
              refine ax_mul (a := 5) (b := i) hx hb dX6_layPoints_36 ?_
              refine ax_add (a := 25 * node) (b := 5 * i) hx hb dX6_layPoints_37 ?_
              refine lv_iload_n hx hb dX6_layPoints_38 rfl (lv_at hl 0 rfl) ?_
              refine ax_add (a := 25 * node + (5 * i)) (b := k) hx hb dX6_layPoints_39 ?_
              refine ax_iald (k := 1013) (i := 25 * node + (5 * i) + k) (v := nI ((vN pq) (25 * node + (5 * i) + k))) hx hb hK hP (hq _ (by decide)) c_Q (by omega) (by omega) rfl dX6_layPoints_40 ?_
              refine cx_Vv (As := [.int (nI k), .int (nI ((vN pq) (25 * node + (5 * i) + k)))]) (rest := []) ⟨hx, hb, hml, hown, hts⟩ (c_X6_put hD hN1 hN hV1 hV hq (k := k) (x := pq (25 * node + 5 * i + k)) (tb := y) c_o c_T (by omega)) (cwV 2 hts gX6_layPoints_X6_put rfl rfl rfl (by decide +kernel) ⟨Nat.le_of_ble_eq_true rfl, Nat.le_of_ble_eq_true rfl⟩) hK hP hS hz (hq _ (by decide)) c_o rfl ⟨Nat.zero_le _, Nat.zero_le _⟩ rfl hl.1 rfl (Nat.le_of_ble_eq_true rfl) dX6_layPoints_41 (fun g5 H locs hp5 hP hS => ?_)
              obtain ⟨hp5a, hp5b⟩ := hp5
              have c_o : g5 1000 = .inr (6, [.int (nI N), .int (nI V), .int (nI th), .ref (ad 1003), .int (nI ec), .ref (ad 1005), .ref (ad 1006), .ref (ad 1007), .ref (ad 1008), .ref (ad 1009), .int (nI en), .int (if an = true then 1 else 0), .ref (ad 1012), .ref (ad 1013), .ref (ad 1014), .int (nI al), .ref (ad 1016), .ref (ad 1017), .ref (ad 1018), .ref (ad 1019), .int (nI pl), .ref (ad 1021), .int (nI nc), .ref (ad 1023), .ref (ad 1024), .int (nI i), .ref (ad 1026), .ref (ad 1027), .ref (ad 1028)]) := (hp5a 1000 (by omega)).trans c_o
              have c_M : g5 1012 = nA G 8 mn := (hp5a 1012 (by omega)).trans c_M
              have c_Q : g5 1013 = nA G 200 (vN pq) := (hp5a 1013 (by omega)).trans c_Q
              have fr : ∀ j : Nat, (j ≠ 1000 ∧ j ≠ 1026) → g5 j = g j := fun j hj => (hp5a j (by omega)).trans (fr j hj)
              have c_T := hp5b
              refine lv_iinc (v := nI (k + 1)) (lv' := [(3, .int (nI (k + 1))), (2, .int (nI i)), (0, .ref (ad 1000)), (1, .int (nI node))]) hx hb dX6_layPoints_44 hl (k := 0) rfl (nI_1 _) (by decide) rfl (fun ls hl => ?_)
              refine lv_goto (tgt := 19) hx hb dX6_layPoints_47 (by decide) ?_
              exact ih19 (k + 1) (nu y (5 * i + k) (pq (25 * node + 5 * i + k))) h21 (hlk.step h21 rfl) (by omega) g5 _ _ _ c_o c_M c_Q c_T  fr hP hS (lv_sub hl [0, 1, 2, 3] rfl)
        exact LP19 ((5 - 0) + 1) 0 tbx (Nat.zero_le _) hly (Nat.lt_succ_self _) ga2 _ _ _ c_o c_M c_Q c_T  fr hP hS (lv_sub hl [0, 1, 2, 3] rfl)
  exact LP7 ((mn node - 0) + 1) 0 tb (Nat.zero_le _) LY.start (Nat.lt_succ_self _) g1 _ _ _ c_o c_M c_Q c_T  fr hP hS (lv_sub hl [0, 1, 2] rfl)

set_option maxRecDepth 20000 in
theorem wd_X6_meet_0 : Cond.fieldLink RX6 84 "AffineHullsModel" "size" "I" ∈ wsX6_meet := by decide +kernel
set_option maxRecDepth 20000 in
theorem in_X6_meet_X6 : ∀ w ∈ u_ws RX6 TX6 29, w ∈ wsX6_meet := by decide +kernel
set_option maxRecDepth 20000 in
theorem wd_X6_meet_2 : Cond.fieldLink RX6 28 "AffineHullsModel" "many" "[I" ∈ wsX6_meet := by decide +kernel
set_option maxRecDepth 20000 in
theorem wd_X6_meet_3 : Cond.fieldLink RX6 34 "AffineHullsModel" "came" "[I" ∈ wsX6_meet := by decide +kernel
set_option maxRecDepth 20000 in
theorem wd_X6_meet_4 : Cond.fieldLink RX6 37 "AffineHullsModel" "nodeOf" "[I" ∈ wsX6_meet := by decide +kernel
set_option maxRecDepth 20000 in
theorem wd_X6_meet_5 : Cond.fieldLink RX6 133 "AffineHullsModel" "all" "I" ∈ wsX6_meet := by decide +kernel
set_option maxRecDepth 20000 in
theorem wd_X6_meet_6 : Cond.fieldLink RX6 40 "AffineHullsModel" "numberOf" "[I" ∈ wsX6_meet := by decide +kernel
set_option maxRecDepth 20000 in
theorem wd_X6_meet_7 : Cond.fieldLink RX6 31 "AffineHullsModel" "points" "[I" ∈ wsX6_meet := by decide +kernel
set_option maxRecDepth 20000 in
theorem wd_X6_meet_8 : Cond.fieldLink RX6 64 "AffineHullsModel" "row" "[I" ∈ wsX6_meet := by decide +kernel
abbrev rm_X6_meet : Room := { frames := 3, cells := 0, slots := 0, locals := 79 }
set_option maxHeartbeats 4000000 in
set_option maxRecDepth 100000 in
theorem c_X6_meet {l : Launch} {G : cx_G} {L : List Nat} {ad : Nat → Nat} {g : Nat → va_E} (hD : cx_D L ad) {N V th ec en pl nc sz : Nat} {an : Bool} {node : Nat} {fz : Int32} {P : PS} {v : Nat → FF} (hN1 : 1 ≤ N) (hN : N ≤ 8) (hV1 : 1 ≤ V) (hV : V ≤ 4) (hq : ∀ j : Nat, lbM j = true → j ∈ L) (c_o : g 1000 = .inr (6, [.int (nI N), .int (nI V), .int (nI th), .ref (ad 1003), .int (nI ec), .ref (ad 1005), .ref (ad 1006), .ref (ad 1007), .ref (ad 1008), .ref (ad 1009), .int (nI en), .int (if an = true then 1 else 0), .ref (ad 1012), .ref (ad 1013), .ref (ad 1014), .int (nI P.1), .ref (ad 1016), .ref (ad 1017), .ref (ad 1018), .ref (ad 1019), .int (nI pl), .ref (ad 1021), .int (nI nc), .ref (ad 1023), .ref (ad 1024), .int (nI sz), .ref (ad 1026), .ref (ad 1027), .ref (ad 1028)])) (c_R : g 1028 = nA G 5 (vN v)) (hnode : node < N) (hzv : Zb (V + 1) v) (xq : QA G g N V P) : MV l yX6_meet wsX6_meet rm_X6_meet G L ad g [.ref (ad 1000), .int (nI node), .int fz] (fun u => (∀ j : Nat, (j ≠ 1000 ∧ ¬ lbQ j) → u j = g j) ∧ (∃ sz2 : Nat, u 1000 = .inr (6, [.int (nI N), .int (nI V), .int (nI th), .ref (ad 1003), .int (nI ec), .ref (ad 1005), .ref (ad 1006), .ref (ad 1007), .ref (ad 1008), .ref (ad 1009), .int (nI en), .int (if an = true then 1 else 0), .ref (ad 1012), .ref (ad 1013), .ref (ad 1014), .int (nI ((meetF (V + 1) P node v fz).1)), .ref (ad 1016), .ref (ad 1017), .ref (ad 1018), .ref (ad 1019), .int (nI pl), .ref (ad 1021), .int (nI nc), .ref (ad 1023), .ref (ad 1024), .int (nI sz2), .ref (ad 1026), .ref (ad 1027), .ref (ad 1028)])) ∧ QA G u N V (meetF (V + 1) P node v fz)) := by
  refine cx_ofV (cc := cX6_meet) (maxL := 5) (by decide +kernel) rfl (Nat.le_of_ble_eq_true rfl) ?_
  intro p e s m args below meth c Q hx hb hts hown hml hP hK hS hz hret ls hl
  have hown : s.vm.findClass RX6 = some m.cls := hown
  have hl : lv_has ls 5 [(0, .ref (ad 1000)), (1, .int (nI node)), (2, .int fz)] := hl
  have fr : ∀ j : Nat, (j ≠ 1000 ∧ ¬ lbQ j) → g j = g j := fun _ _ => rfl
  obtain ⟨mn, pq, cm, nd, nx, tb, pz0, c_M, c_Q, c_C, c_D, c_X, c_T, c_P, hqp, hpv⟩ := id xq
  have hmn : mn node ≤ 5 := by have := hpv.cnt hnode; have := hqp.1 node hnode; omega
  have hal := hpv.all40 hN hV
  have hmc := hqp.1 node hnode
  refine lv_aload_n hx hb dX6_meet_0 rfl (lv_at hl 0 rfl) ?_
  refine lv_iload_n hx hb dX6_meet_1 rfl (lv_at hl 1 rfl) ?_
  refine cx_Vv (As := [.int (nI node)]) (rest := []) ⟨hx, hb, hml, hown, hts⟩ (c_X6_layPoints hD hN1 hN hV1 hV hq (node := node) (mn := mn) (pq := pq) (tb := tb) c_o c_M c_Q c_T (by omega) hmn) (cwV 1 hts gX6_meet_X6_layPoints rfl rfl rfl (by decide +kernel) ⟨Nat.le_of_ble_eq_true rfl, Nat.le_of_ble_eq_true rfl⟩) hK hP hS hz (hq _ (by decide)) c_o rfl ⟨Nat.zero_le _, Nat.zero_le _⟩ rfl hl.1 rfl (Nat.le_of_ble_eq_true rfl) dX6_meet_2 (fun g1 H locs hp1 hP hS => ?_)
  obtain ⟨hp1a, hp1o, tb2, hp1T, hly⟩ := hp1
  have c_R : g1 1028 = nA G 5 (vN v) := (hp1a 1028 (by omega)).trans c_R
  have c_M : g1 1012 = nA G 8 mn := (hp1a 1012 (by omega)).trans c_M
  have c_Q : g1 1013 = nA G 200 (vN pq) := (hp1a 1013 (by omega)).trans c_Q
  have c_C : g1 1014 = iA G 40 cm := (hp1a 1014 (by omega)).trans c_C
  have c_D : g1 1016 = nA G 41 nd := (hp1a 1016 (by omega)).trans c_D
  have c_X : g1 1017 = nA G 41 nx := (hp1a 1017 (by omega)).trans c_X
  have c_P : g1 1027 = iA G 5 pz0 := (hp1a 1027 (by omega)).trans c_P
  have fr : ∀ j : Nat, (j ≠ 1000 ∧ ¬ lbQ j) → g1 j = g j := fun j hj => (hp1a j (by first | omega | (unfold lbQ at hj; omega))).trans (fr j hj)
  have c_o := hp1o
  have c_T := hp1T
  refine lv_iconst (v := nI 0) hx hb dX6_meet_5 (by decide) ?_
  refine lv_istore_n (lv' := [(3, .int (nI 0)), (0, .ref (ad 1000)), (1, .int (nI node)), (2, .int fz)]) hx hb dX6_meet_6 rfl hl (by decide) rfl (fun ls hl => ?_)
  have LP7 : ∀ (fu : Nat) (k : Nat) (y : Nat → FF), (k ≤ 5) → (LY (fun a b => if a = mn node then v b else pq (25 * node + 5 * a + b)) (mn node) k y) → (5 - k) < fu → ∀ (ga2 : Nat → va_E) (H : Heap) (locs : List Loc) (ls : Array Slot), (ga2 1000 = .inr (6, [.int (nI N), .int (nI V), .int (nI th), .ref (ad 1003), .int (nI ec), .ref (ad 1005), .ref (ad 1006), .ref (ad 1007), .ref (ad 1008), .ref (ad 1009), .int (nI en), .int (if an = true then 1 else 0), .ref (ad 1012), .ref (ad 1013), .ref (ad 1014), .int (nI P.1), .ref (ad 1016), .ref (ad 1017), .ref (ad 1018), .ref (ad 1019), .int (nI pl), .ref (ad 1021), .int (nI nc), .ref (ad 1023), .ref (ad 1024), .int (nI (mn node)), .ref (ad 1026), .ref (ad 1027), .ref (ad 1028)])) → (ga2 1028 = nA G 5 (vN v)) → (ga2 1012 = nA G 8 mn) → (ga2 1013 = nA G 200 (vN pq)) → (ga2 1014 = iA G 40 cm) → (ga2 1016 = nA G 41 nd) → (ga2 1017 = nA G 41 nx) → (ga2 1026 = nA G 150 (vN y)) → (ga2 1027 = iA G 5 pz0) → (∀ j : Nat, (j ≠ 1000 ∧ ¬ lbQ j) → ga2 j = g j) → va_P G.1 vwCl (wl L ad ga2) H → va_S (cx_A L ad s.heap.size) s.heap H locs → lv_has ls 5 [(3, .int (nI k)), (0, .ref (ad 1000)), (1, .int (nI node)), (2, .int fz)] → W p l e rm_X6_meet s m args below meth c H locs 0 0 Q (F0 m 7 ls []) := by
    intro fu
    induction fu with
    | zero => intro k y hk5 hlk hfu; exact absurd hfu (Nat.not_lt_zero _)
    | succ fu ih7 =>
      intro k y hk5 hlk hfu7 ga2 H locs ls c_o c_R c_M c_Q c_C c_D c_X c_T c_P fr hP hS hl
      refine lv_iload_n hx hb dX6_meet_7 rfl (lv_at hl 0 rfl) ?_
      refine lv_iconst (v := nI 5) hx hb dX6_meet_8 (by decide) ?_
      refine ax_icge (a := k) (b := 5) (tgt := 29) hx hb dX6_meet_9 (by decide) (by omega) (by omega) (fun h9 => ?_) (fun h9 => ?_)
      · skip
        refine lv_aload_n hx hb dX6_meet_29 rfl (lv_at hl 1 rfl) ?_
        refine lv_dup hx hb dX6_meet_30 rfl ?_
        refine ax_get (k := 1000) (v := .int (nI (mn node))) hx hb hts in_X6_meet_X6 hown hK hP (hq _ (by decide)) c_o rfl 25 (by decide) (hts _ wd_X6_meet_0) (fun _ h9 => h9) rfl dX6_meet_31 ?_
        refine lv_iconst (v := nI 1) hx hb dX6_meet_34 (by decide) ?_
        refine ax_add (a := mn node) (b := 1) hx hb dX6_meet_35 ?_
        refine ax_put (k := 1000) (v := .int (nI (mn node + 1))) (fs' := [.int (nI N), .int (nI V), .int (nI th), .ref (ad 1003), .int (nI ec), .ref (ad 1005), .ref (ad 1006), .ref (ad 1007), .ref (ad 1008), .ref (ad 1009), .int (nI en), .int (if an = true then 1 else 0), .ref (ad 1012), .ref (ad 1013), .ref (ad 1014), .int (nI P.1), .ref (ad 1016), .ref (ad 1017), .ref (ad 1018), .ref (ad 1019), .int (nI pl), .ref (ad 1021), .int (nI nc), .ref (ad 1023), .ref (ad 1024), .int (nI (mn node + 1)), .ref (ad 1026), .ref (ad 1027), .ref (ad 1028)]) hx hb hts in_X6_meet_X6 tyX6 tyX6_ok nmX6 hown hK hP hD hS (hq _ (by decide)) c_o rfl 25 (by decide) (hts _ wd_X6_meet_0) (fun _ h9 => h9) rfl (ty := .int) (by decide +kernel) rfl rfl (Nat.le_of_ble_eq_true rfl) rfl dX6_meet_36 (fun H locs g3 eg3 hP hS => ?_)
        have c_R : g3 1028 = nA G 5 (vN v) := (cx_ne eg3 1028 (by omega)).trans c_R
        have c_M : g3 1012 = nA G 8 mn := (cx_ne eg3 1012 (by omega)).trans c_M
        have c_Q : g3 1013 = nA G 200 (vN pq) := (cx_ne eg3 1013 (by omega)).trans c_Q
        have c_C : g3 1014 = iA G 40 cm := (cx_ne eg3 1014 (by omega)).trans c_C
        have c_D : g3 1016 = nA G 41 nd := (cx_ne eg3 1016 (by omega)).trans c_D
        have c_X : g3 1017 = nA G 41 nx := (cx_ne eg3 1017 (by omega)).trans c_X
        have c_T : g3 1026 = nA G 150 (vN y) := (cx_ne eg3 1026 (by omega)).trans c_T
        have c_P : g3 1027 = iA G 5 pz0 := (cx_ne eg3 1027 (by omega)).trans c_P
        have c_o : g3 1000 = .inr (6, [.int (nI N), .int (nI V), .int (nI th), .ref (ad 1003), .int (nI ec), .ref (ad 1005), .ref (ad 1006), .ref (ad 1007), .ref (ad 1008), .ref (ad 1009), .int (nI en), .int (if an = true then 1 else 0), .ref (ad 1012), .ref (ad 1013), .ref (ad 1014), .int (nI P.1), .ref (ad 1016), .ref (ad 1017), .ref (ad 1018), .ref (ad 1019), .int (nI pl), .ref (ad 1021), .int (nI nc), .ref (ad 1023), .ref (ad 1024), .int (nI (mn node + 1)), .ref (ad 1026), .ref (ad 1027), .ref (ad 1028)]) := cx_eq eg3
        have fr : ∀ j : Nat, (j ≠ 1000 ∧ ¬ lbQ j) → g3 j = g j := fun j hj => (cx_ne eg3 j (by unfold lbQ at hj; omega)).trans (fr j hj)
        refine lv_aload_n hx hb dX6_meet_39 rfl (lv_at hl 1 rfl) ?_
        refine cx_Vi (As := []) (rest := []) ⟨hx, hb, hml, hown, hts⟩ (c_X6_rank hD hN1 hN hV1 hV hq (tb := y) c_o c_T c_P (by omega)) (cwV 0 hts gX6_meet_X6_rank rfl rfl rfl (by decide +kernel) ⟨Nat.le_of_ble_eq_true rfl, Nat.le_of_ble_eq_true rfl⟩) hK hP hS hz (hq _ (by decide)) c_o rfl ⟨Nat.zero_le _, Nat.zero_le _⟩ rfl hl.1 rfl (Nat.le_of_ble_eq_true rfl) dX6_meet_40 (fun r4 g4 H locs hp4 hP hS => ?_)
        obtain ⟨hp4a, tb3, pz, t, pv, hrk, e_r4, hp4T, hp4P⟩ := hp4
        have c_o : g4 1000 = .inr (6, [.int (nI N), .int (nI V), .int (nI th), .ref (ad 1003), .int (nI ec), .ref (ad 1005), .ref (ad 1006), .ref (ad 1007), .ref (ad 1008), .ref (ad 1009), .int (nI en), .int (if an = true then 1 else 0), .ref (ad 1012), .ref (ad 1013), .ref (ad 1014), .int (nI P.1), .ref (ad 1016), .ref (ad 1017), .ref (ad 1018), .ref (ad 1019), .int (nI pl), .ref (ad 1021), .int (nI nc), .ref (ad 1023), .ref (ad 1024), .int (nI (mn node + 1)), .ref (ad 1026), .ref (ad 1027), .ref (ad 1028)]) := (hp4a 1000 (by omega)).trans c_o
        have c_R : g4 1028 = nA G 5 (vN v) := (hp4a 1028 (by omega)).trans c_R
        have c_M : g4 1012 = nA G 8 mn := (hp4a 1012 (by omega)).trans c_M
        have c_Q : g4 1013 = nA G 200 (vN pq) := (hp4a 1013 (by omega)).trans c_Q
        have c_C : g4 1014 = iA G 40 cm := (hp4a 1014 (by omega)).trans c_C
        have c_D : g4 1016 = nA G 41 nd := (hp4a 1016 (by omega)).trans c_D
        have c_X : g4 1017 = nA G 41 nx := (hp4a 1017 (by omega)).trans c_X
        have fr : ∀ j : Nat, (j ≠ 1000 ∧ ¬ lbQ j) → g4 j = g j := fun j hj => (hp4a j (by first | omega | (unfold lbQ at hj; omega))).trans (fr j hj)
        have c_T := hp4T
        have c_P := hp4P
        rw [e_r4]
        have hct := cntT_le t (V + 1)
        refine lv_aload_n hx hb dX6_meet_43 rfl (lv_at hl 1 rfl) ?_
        refine ax_get (k := 1000) (v := .int (nI (mn node + 1))) hx hb hts in_X6_meet_X6 hown hK hP (hq _ (by decide)) c_o rfl 25 (by decide) (hts _ wd_X6_meet_0) (fun _ h9 => h9) rfl dX6_meet_44 ?_
        refine ax_icge (a := cntT t (V + 1)) (b := mn node + 1) (tgt := 51) hx hb dX6_meet_47 (by decide) (by omega) (by omega) (fun h47 => ?_) (fun h47 => ?_)
        · skip
          have hrr := hpv.rank hnode (v := v) (hrk.1.ex (hqp.tab hnode h9 hlk hV))
          have hin : ¬ InSp (V + 1) (P.2.2.2.2.1 node) (P.2.2.2.1 node) v := fun z => by have := hrr.1 z; omega
          refine lv_aload_n hx hb dX6_meet_51 rfl (lv_at hl 1 rfl) ?_
          refine ax_get (k := 1000) (v := .ref (ad 1012)) hx hb hts in_X6_meet_X6 hown hK hP (hq _ (by decide)) c_o rfl 12 (by decide) (hts _ wd_X6_meet_2) (fun _ h9 => h9) rfl dX6_meet_52 ?_
          refine lv_iload_n hx hb dX6_meet_55 rfl (lv_at hl 2 rfl) ?_
          refine ax_iald (k := 1012) (i := node) (v := nI (mn node)) hx hb hK hP (hq _ (by decide)) c_M (by omega) (by omega) rfl dX6_meet_56 ?_
          refine lv_istore_n (lv' := [(3, .int (nI (mn node))), (0, .ref (ad 1000)), (1, .int (nI node)), (2, .int fz)]) hx hb dX6_meet_57 rfl hl (by decide) rfl (fun ls hl => ?_)
          refine lv_iconst (v := nI 0) hx hb dX6_meet_58 (by decide) ?_
          refine lv_istore (lv' := [(4, .int (nI 0)), (3, .int (nI (mn node))), (0, .ref (ad 1000)), (1, .int (nI node)), (2, .int fz)]) hx hb dX6_meet_59 hl (by decide) rfl (fun ls hl => ?_)
          have LP61 : ∀ (fu : Nat) (k : Nat) (y2 : Nat → FF), (k ≤ 5) → (OF (25 * node + 5 * mn node) pq v k y2) → (5 - k) < fu → ∀ (ga5 : Nat → va_E) (H : Heap) (locs : List Loc) (ls : Array Slot), (ga5 1000 = .inr (6, [.int (nI N), .int (nI V), .int (nI th), .ref (ad 1003), .int (nI ec), .ref (ad 1005), .ref (ad 1006), .ref (ad 1007), .ref (ad 1008), .ref (ad 1009), .int (nI en), .int (if an = true then 1 else 0), .ref (ad 1012), .ref (ad 1013), .ref (ad 1014), .int (nI P.1), .ref (ad 1016), .ref (ad 1017), .ref (ad 1018), .ref (ad 1019), .int (nI pl), .ref (ad 1021), .int (nI nc), .ref (ad 1023), .ref (ad 1024), .int (nI (mn node + 1)), .ref (ad 1026), .ref (ad 1027), .ref (ad 1028)])) → (ga5 1028 = nA G 5 (vN v)) → (ga5 1012 = nA G 8 mn) → (ga5 1013 = nA G 200 (vN y2)) → (ga5 1014 = iA G 40 cm) → (ga5 1016 = nA G 41 nd) → (ga5 1017 = nA G 41 nx) → (ga5 1026 = nA G 150 (vN tb3)) → (ga5 1027 = iA G 5 pz) → (∀ j : Nat, (j ≠ 1000 ∧ ¬ lbQ j) → ga5 j = g j) → va_P G.1 vwCl (wl L ad ga5) H → va_S (cx_A L ad s.heap.size) s.heap H locs → lv_has ls 5 [(4, .int (nI k)), (3, .int (nI (mn node))), (0, .ref (ad 1000)), (1, .int (nI node)), (2, .int fz)] → W p l e rm_X6_meet s m args below meth c H locs 0 0 Q (F0 m 61 ls []) := by
            intro fu
            induction fu with
            | zero => intro k y2 hk5 hof hfu; exact absurd hfu (Nat.not_lt_zero _)
            | succ fu ih61 =>
              intro k y2 hk5 hof hfu61 ga5 H locs ls c_o c_R c_M c_Q c_C c_D c_X c_T c_P fr hP hS hl
              refine lv_iload hx hb dX6_meet_61 (lv_at hl 0 rfl) ?_
              refine lv_iconst (v := nI 5) hx hb dX6_meet_63 (by decide) ?_
              refine ax_icge (a := k) (b := 5) (tgt := 96) hx hb dX6_meet_64 (by decide) (by omega) (by omega) (fun h64 => ?_) (fun h64 => ?_)
              · skip
                refine lv_aload_n hx hb dX6_meet_96 rfl (lv_at hl 2 rfl) ?_
                refine ax_get (k := 1000) (v := .ref (ad 1014)) hx hb hts in_X6_meet_X6 hown hK hP (hq _ (by decide)) c_o rfl 14 (by decide) (hts _ wd_X6_meet_3) (fun _ h9 => h9) rfl dX6_meet_97 ?_
                refine lv_iconst (v := nI 5) hx hb dX6_meet_100 (by decide) ?_
                refine lv_iload_n hx hb dX6_meet_101 rfl (lv_at hl 3 rfl) ?_
                refine ax_mul (a := 5) (b := node) hx hb dX6_meet_102 ?_
                refine lv_iload_n hx hb dX6_meet_103 rfl (lv_at hl 1 rfl) ?_
                refine ax_add (a := 5 * node) (b := mn node) hx hb dX6_meet_104 ?_
                refine lv_iload_n hx hb dX6_meet_105 rfl (lv_at hl 4 rfl) ?_
                refine ax_iast (k := 1014) (i := 5 * node + (mn node)) (f' := (nu cm (5 * node + (mn node)) fz)) hx hb hK hP hD hS (hq _ (by decide)) c_C (by omega) (by omega) (up_i _ _ _) dX6_meet_106 (fun H locs g6 eg6 hP hS => ?_)
                have c_o : g6 1000 = .inr (6, [.int (nI N), .int (nI V), .int (nI th), .ref (ad 1003), .int (nI ec), .ref (ad 1005), .ref (ad 1006), .ref (ad 1007), .ref (ad 1008), .ref (ad 1009), .int (nI en), .int (if an = true then 1 else 0), .ref (ad 1012), .ref (ad 1013), .ref (ad 1014), .int (nI P.1), .ref (ad 1016), .ref (ad 1017), .ref (ad 1018), .ref (ad 1019), .int (nI pl), .ref (ad 1021), .int (nI nc), .ref (ad 1023), .ref (ad 1024), .int (nI (mn node + 1)), .ref (ad 1026), .ref (ad 1027), .ref (ad 1028)]) := (cx_ne eg6 1000 (by omega)).trans c_o
                have c_R : g6 1028 = nA G 5 (vN v) := (cx_ne eg6 1028 (by omega)).trans c_R
                have c_M : g6 1012 = nA G 8 mn := (cx_ne eg6 1012 (by omega)).trans c_M
                have c_Q : g6 1013 = nA G 200 (vN y2) := (cx_ne eg6 1013 (by omega)).trans c_Q
                have c_D : g6 1016 = nA G 41 nd := (cx_ne eg6 1016 (by omega)).trans c_D
                have c_X : g6 1017 = nA G 41 nx := (cx_ne eg6 1017 (by omega)).trans c_X
                have c_T : g6 1026 = nA G 150 (vN tb3) := (cx_ne eg6 1026 (by omega)).trans c_T
                have c_P : g6 1027 = iA G 5 pz := (cx_ne eg6 1027 (by omega)).trans c_P
                have c_C : g6 1014 = iA G 40 (nu cm (5 * node + (mn node)) fz) := cx_eq eg6
                have fr : ∀ j : Nat, (j ≠ 1000 ∧ ¬ lbQ j) → g6 j = g j := fun j hj => (cx_ne eg6 j (by unfold lbQ at hj; omega)).trans (fr j hj)
                refine lv_aload_n hx hb dX6_meet_107 rfl (lv_at hl 2 rfl) ?_
                refine ax_get (k := 1000) (v := .ref (ad 1016)) hx hb hts in_X6_meet_X6 hown hK hP (hq _ (by decide)) c_o rfl 16 (by decide) (hts _ wd_X6_meet_4) (fun _ h9 => h9) rfl dX6_meet_108 ?_
                refine lv_aload_n hx hb dX6_meet_111 rfl (lv_at hl 2 rfl) ?_
                refine ax_get (k := 1000) (v := .int (nI P.1)) hx hb hts in_X6_meet_X6 hown hK hP (hq _ (by decide)) c_o rfl 15 (by decide) (hts _ wd_X6_meet_5) (fun _ h9 => h9) rfl dX6_meet_112 ?_
                refine lv_iload_n hx hb dX6_meet_115 rfl (lv_at hl 3 rfl) ?_
                refine ax_iast (k := 1016) (i := P.1) (f' := (fun j => nI ((nu nd P.1 node) j))) hx hb hK hP hD hS (hq _ (by decide)) c_D (by omega) (by omega) (up_n _ _ _) dX6_meet_116 (fun H locs g7 eg7 hP hS => ?_)
                have c_o : g7 1000 = .inr (6, [.int (nI N), .int (nI V), .int (nI th), .ref (ad 1003), .int (nI ec), .ref (ad 1005), .ref (ad 1006), .ref (ad 1007), .ref (ad 1008), .ref (ad 1009), .int (nI en), .int (if an = true then 1 else 0), .ref (ad 1012), .ref (ad 1013), .ref (ad 1014), .int (nI P.1), .ref (ad 1016), .ref (ad 1017), .ref (ad 1018), .ref (ad 1019), .int (nI pl), .ref (ad 1021), .int (nI nc), .ref (ad 1023), .ref (ad 1024), .int (nI (mn node + 1)), .ref (ad 1026), .ref (ad 1027), .ref (ad 1028)]) := (cx_ne eg7 1000 (by omega)).trans c_o
                have c_R : g7 1028 = nA G 5 (vN v) := (cx_ne eg7 1028 (by omega)).trans c_R
                have c_M : g7 1012 = nA G 8 mn := (cx_ne eg7 1012 (by omega)).trans c_M
                have c_Q : g7 1013 = nA G 200 (vN y2) := (cx_ne eg7 1013 (by omega)).trans c_Q
                have c_C : g7 1014 = iA G 40 (nu cm (5 * node + (mn node)) fz) := (cx_ne eg7 1014 (by omega)).trans c_C
                have c_X : g7 1017 = nA G 41 nx := (cx_ne eg7 1017 (by omega)).trans c_X
                have c_T : g7 1026 = nA G 150 (vN tb3) := (cx_ne eg7 1026 (by omega)).trans c_T
                have c_P : g7 1027 = iA G 5 pz := (cx_ne eg7 1027 (by omega)).trans c_P
                have c_D : g7 1016 = nA G 41 (nu nd P.1 node) := cx_eq eg7
                have fr : ∀ j : Nat, (j ≠ 1000 ∧ ¬ lbQ j) → g7 j = g j := fun j hj => (cx_ne eg7 j (by unfold lbQ at hj; omega)).trans (fr j hj)
                refine lv_aload_n hx hb dX6_meet_117 rfl (lv_at hl 2 rfl) ?_
                refine ax_get (k := 1000) (v := .ref (ad 1017)) hx hb hts in_X6_meet_X6 hown hK hP (hq _ (by decide)) c_o rfl 17 (by decide) (hts _ wd_X6_meet_6) (fun _ h9 => h9) rfl dX6_meet_118 ?_
                refine lv_aload_n hx hb dX6_meet_121 rfl (lv_at hl 2 rfl) ?_
                refine ax_get (k := 1000) (v := .int (nI P.1)) hx hb hts in_X6_meet_X6 hown hK hP (hq _ (by decide)) c_o rfl 15 (by decide) (hts _ wd_X6_meet_5) (fun _ h9 => h9) rfl dX6_meet_122 ?_
                refine lv_iload_n hx hb dX6_meet_125 rfl (lv_at hl 1 rfl) ?_
                refine ax_iast (k := 1017) (i := P.1) (f' := (fun j => nI ((nu nx P.1 (mn node)) j))) hx hb hK hP hD hS (hq _ (by decide)) c_X (by omega) (by omega) (up_n _ _ _) dX6_meet_126 (fun H locs g8 eg8 hP hS => ?_)
                have c_o : g8 1000 = .inr (6, [.int (nI N), .int (nI V), .int (nI th), .ref (ad 1003), .int (nI ec), .ref (ad 1005), .ref (ad 1006), .ref (ad 1007), .ref (ad 1008), .ref (ad 1009), .int (nI en), .int (if an = true then 1 else 0), .ref (ad 1012), .ref (ad 1013), .ref (ad 1014), .int (nI P.1), .ref (ad 1016), .ref (ad 1017), .ref (ad 1018), .ref (ad 1019), .int (nI pl), .ref (ad 1021), .int (nI nc), .ref (ad 1023), .ref (ad 1024), .int (nI (mn node + 1)), .ref (ad 1026), .ref (ad 1027), .ref (ad 1028)]) := (cx_ne eg8 1000 (by omega)).trans c_o
                have c_R : g8 1028 = nA G 5 (vN v) := (cx_ne eg8 1028 (by omega)).trans c_R
                have c_M : g8 1012 = nA G 8 mn := (cx_ne eg8 1012 (by omega)).trans c_M
                have c_Q : g8 1013 = nA G 200 (vN y2) := (cx_ne eg8 1013 (by omega)).trans c_Q
                have c_C : g8 1014 = iA G 40 (nu cm (5 * node + (mn node)) fz) := (cx_ne eg8 1014 (by omega)).trans c_C
                have c_D : g8 1016 = nA G 41 (nu nd P.1 node) := (cx_ne eg8 1016 (by omega)).trans c_D
                have c_T : g8 1026 = nA G 150 (vN tb3) := (cx_ne eg8 1026 (by omega)).trans c_T
                have c_P : g8 1027 = iA G 5 pz := (cx_ne eg8 1027 (by omega)).trans c_P
                have c_X : g8 1017 = nA G 41 (nu nx P.1 (mn node)) := cx_eq eg8
                have fr : ∀ j : Nat, (j ≠ 1000 ∧ ¬ lbQ j) → g8 j = g j := fun j hj => (cx_ne eg8 j (by unfold lbQ at hj; omega)).trans (fr j hj)
                refine lv_aload_n hx hb dX6_meet_127 rfl (lv_at hl 2 rfl) ?_
                refine lv_dup hx hb dX6_meet_128 rfl ?_
                refine ax_get (k := 1000) (v := .int (nI P.1)) hx hb hts in_X6_meet_X6 hown hK hP (hq _ (by decide)) c_o rfl 15 (by decide) (hts _ wd_X6_meet_5) (fun _ h9 => h9) rfl dX6_meet_129 ?_
                refine lv_iconst (v := nI 1) hx hb dX6_meet_132 (by decide) ?_
                refine ax_add (a := P.1) (b := 1) hx hb dX6_meet_133 ?_
                refine ax_put (k := 1000) (v := .int (nI (P.1 + 1))) (fs' := [.int (nI N), .int (nI V), .int (nI th), .ref (ad 1003), .int (nI ec), .ref (ad 1005), .ref (ad 1006), .ref (ad 1007), .ref (ad 1008), .ref (ad 1009), .int (nI en), .int (if an = true then 1 else 0), .ref (ad 1012), .ref (ad 1013), .ref (ad 1014), .int (nI (P.1 + 1)), .ref (ad 1016), .ref (ad 1017), .ref (ad 1018), .ref (ad 1019), .int (nI pl), .ref (ad 1021), .int (nI nc), .ref (ad 1023), .ref (ad 1024), .int (nI (mn node + 1)), .ref (ad 1026), .ref (ad 1027), .ref (ad 1028)]) hx hb hts in_X6_meet_X6 tyX6 tyX6_ok nmX6 hown hK hP hD hS (hq _ (by decide)) c_o rfl 15 (by decide) (hts _ wd_X6_meet_5) (fun _ h9 => h9) rfl (ty := .int) (by decide +kernel) rfl rfl (Nat.le_of_ble_eq_true rfl) rfl dX6_meet_134 (fun H locs g9 eg9 hP hS => ?_)
                have c_R : g9 1028 = nA G 5 (vN v) := (cx_ne eg9 1028 (by omega)).trans c_R
                have c_M : g9 1012 = nA G 8 mn := (cx_ne eg9 1012 (by omega)).trans c_M
                have c_Q : g9 1013 = nA G 200 (vN y2) := (cx_ne eg9 1013 (by omega)).trans c_Q
                have c_C : g9 1014 = iA G 40 (nu cm (5 * node + (mn node)) fz) := (cx_ne eg9 1014 (by omega)).trans c_C
                have c_D : g9 1016 = nA G 41 (nu nd P.1 node) := (cx_ne eg9 1016 (by omega)).trans c_D
                have c_X : g9 1017 = nA G 41 (nu nx P.1 (mn node)) := (cx_ne eg9 1017 (by omega)).trans c_X
                have c_T : g9 1026 = nA G 150 (vN tb3) := (cx_ne eg9 1026 (by omega)).trans c_T
                have c_P : g9 1027 = iA G 5 pz := (cx_ne eg9 1027 (by omega)).trans c_P
                have c_o : g9 1000 = .inr (6, [.int (nI N), .int (nI V), .int (nI th), .ref (ad 1003), .int (nI ec), .ref (ad 1005), .ref (ad 1006), .ref (ad 1007), .ref (ad 1008), .ref (ad 1009), .int (nI en), .int (if an = true then 1 else 0), .ref (ad 1012), .ref (ad 1013), .ref (ad 1014), .int (nI (P.1 + 1)), .ref (ad 1016), .ref (ad 1017), .ref (ad 1018), .ref (ad 1019), .int (nI pl), .ref (ad 1021), .int (nI nc), .ref (ad 1023), .ref (ad 1024), .int (nI (mn node + 1)), .ref (ad 1026), .ref (ad 1027), .ref (ad 1028)]) := cx_eq eg9
                have fr : ∀ j : Nat, (j ≠ 1000 ∧ ¬ lbQ j) → g9 j = g j := fun j hj => (cx_ne eg9 j (by unfold lbQ at hj; omega)).trans (fr j hj)
                refine lv_aload_n hx hb dX6_meet_137 rfl (lv_at hl 2 rfl) ?_
                refine ax_get (k := 1000) (v := .ref (ad 1012)) hx hb hts in_X6_meet_X6 hown hK hP (hq _ (by decide)) c_o rfl 12 (by decide) (hts _ wd_X6_meet_2) (fun _ h9 => h9) rfl dX6_meet_138 ?_
                refine lv_iload_n hx hb dX6_meet_141 rfl (lv_at hl 3 rfl) ?_
                refine lv_dup2_11 hx hb dX6_meet_142 rfl rfl ?_
                refine ax_iald (k := 1012) (i := node) (v := nI (mn node)) hx hb hK hP (hq _ (by decide)) c_M (by omega) (by omega) rfl dX6_meet_143 ?_
                refine lv_iconst (v := nI 1) hx hb dX6_meet_144 (by decide) ?_
                refine ax_add (a := mn node) (b := 1) hx hb dX6_meet_145 ?_
                refine ax_iast (k := 1012) (i := node) (f' := (fun j => nI ((nu mn node (mn node + 1)) j))) hx hb hK hP hD hS (hq _ (by decide)) c_M (by omega) (by omega) (up_n _ _ _) dX6_meet_146 (fun H locs g10 eg10 hP hS => ?_)
                have c_o : g10 1000 = .inr (6, [.int (nI N), .int (nI V), .int (nI th), .ref (ad 1003), .int (nI ec), .ref (ad 1005), .ref (ad 1006), .ref (ad 1007), .ref (ad 1008), .ref (ad 1009), .int (nI en), .int (if an = true then 1 else 0), .ref (ad 1012), .ref (ad 1013), .ref (ad 1014), .int (nI (P.1 + 1)), .ref (ad 1016), .ref (ad 1017), .ref (ad 1018), .ref (ad 1019), .int (nI pl), .ref (ad 1021), .int (nI nc), .ref (ad 1023), .ref (ad 1024), .int (nI (mn node + 1)), .ref (ad 1026), .ref (ad 1027), .ref (ad 1028)]) := (cx_ne eg10 1000 (by omega)).trans c_o
                have c_R : g10 1028 = nA G 5 (vN v) := (cx_ne eg10 1028 (by omega)).trans c_R
                have c_Q : g10 1013 = nA G 200 (vN y2) := (cx_ne eg10 1013 (by omega)).trans c_Q
                have c_C : g10 1014 = iA G 40 (nu cm (5 * node + (mn node)) fz) := (cx_ne eg10 1014 (by omega)).trans c_C
                have c_D : g10 1016 = nA G 41 (nu nd P.1 node) := (cx_ne eg10 1016 (by omega)).trans c_D
                have c_X : g10 1017 = nA G 41 (nu nx P.1 (mn node)) := (cx_ne eg10 1017 (by omega)).trans c_X
                have c_T : g10 1026 = nA G 150 (vN tb3) := (cx_ne eg10 1026 (by omega)).trans c_T
                have c_P : g10 1027 = iA G 5 pz := (cx_ne eg10 1027 (by omega)).trans c_P
                have c_M : g10 1012 = nA G 8 (nu mn node (mn node + 1)) := cx_eq eg10
                have fr : ∀ j : Nat, (j ≠ 1000 ∧ ¬ lbQ j) → g10 j = g j := fun j hj => (cx_ne eg10 j (by unfold lbQ at hj; omega)).trans (fr j hj)
                exact hret g10 _ _ _ _ (by have e5 : k = 5 := (by omega); subst e5; exact ⟨fr, ⟨_, by rw [meetF_f hin]; exact c_o⟩, _, _, _, _, _, tb3, pz, c_M, c_Q, c_C, c_D, c_X, c_T, c_P, hqp.push hpv hV hnode (by omega) hof hin, hpv.meet hnode hzv fz⟩) hP hS dX6_meet_147
              · skip
                refine lv_aload_n hx hb dX6_meet_67 rfl (lv_at hl 2 rfl) ?_
                refine ax_get (k := 1000) (v := .ref (ad 1013)) hx hb hts in_X6_meet_X6 hown hK hP (hq _ (by decide)) c_o rfl 13 (by decide) (hts _ wd_X6_meet_7) (fun _ h9 => h9) rfl dX6_meet_68 ?_
                refine lv_bipush (v := nI 25) hx hb dX6_meet_71 (by decide) ?_
                refine lv_iload_n hx hb dX6_meet_73 rfl (lv_at hl 3 rfl) ?_
                refine ax_mul (a := 25) (b := node) hx hb dX6_meet_74 ?_
                refine lv_iconst (v := nI 5) hx hb dX6_meet_75 (by decide) ?_
                refine lv_iload_n hx hb dX6_meet_76 rfl (lv_at hl 1 rfl) ?_
                refine ax_mul (a := 5) (b := mn node) hx hb dX6_meet_77 ?_
                refine ax_add (a := 25 * node) (b := 5 * (mn node)) hx hb dX6_meet_78 ?_
                refine lv_iload hx hb dX6_meet_79 (lv_at hl 0 rfl) ?_
                refine ax_add (a := 25 * node + (5 * (mn node))) (b := k) hx hb dX6_meet_81 ?_
                refine lv_aload_n hx hb dX6_meet_82 rfl (lv_at hl 2 rfl) ?_
                refine ax_get (k := 1000) (v := .ref (ad 1028)) hx hb hts in_X6_meet_X6 hown hK hP (hq _ (by decide)) c_o rfl 28 (by decide) (hts _ wd_X6_meet_8) (fun _ h9 => h9) rfl dX6_meet_83 ?_
                refine lv_iload hx hb dX6_meet_86 (lv_at hl 0 rfl) ?_
                refine ax_iald (k := 1028) (i := k) (v := nI ((vN v) k)) hx hb hK hP (hq _ (by decide)) c_R (by omega) (by omega) rfl dX6_meet_88 ?_
                refine ax_iast (k := 1013) (i := 25 * node + (5 * (mn node)) + k) (f' := (fun j => nI ((nu (vN y2) (25 * node + (5 * (mn node)) + k) ((vN v) k)) j))) hx hb hK hP hD hS (hq _ (by decide)) c_Q (by omega) (by omega) (up_n _ _ _) dX6_meet_89 (fun H locs g11 eg11 hP hS => ?_)
                have c_o : g11 1000 = .inr (6, [.int (nI N), .int (nI V), .int (nI th), .ref (ad 1003), .int (nI ec), .ref (ad 1005), .ref (ad 1006), .ref (ad 1007), .ref (ad 1008), .ref (ad 1009), .int (nI en), .int (if an = true then 1 else 0), .ref (ad 1012), .ref (ad 1013), .ref (ad 1014), .int (nI P.1), .ref (ad 1016), .ref (ad 1017), .ref (ad 1018), .ref (ad 1019), .int (nI pl), .ref (ad 1021), .int (nI nc), .ref (ad 1023), .ref (ad 1024), .int (nI (mn node + 1)), .ref (ad 1026), .ref (ad 1027), .ref (ad 1028)]) := (cx_ne eg11 1000 (by omega)).trans c_o
                have c_R : g11 1028 = nA G 5 (vN v) := (cx_ne eg11 1028 (by omega)).trans c_R
                have c_M : g11 1012 = nA G 8 mn := (cx_ne eg11 1012 (by omega)).trans c_M
                have c_C : g11 1014 = iA G 40 cm := (cx_ne eg11 1014 (by omega)).trans c_C
                have c_D : g11 1016 = nA G 41 nd := (cx_ne eg11 1016 (by omega)).trans c_D
                have c_X : g11 1017 = nA G 41 nx := (cx_ne eg11 1017 (by omega)).trans c_X
                have c_T : g11 1026 = nA G 150 (vN tb3) := (cx_ne eg11 1026 (by omega)).trans c_T
                have c_P : g11 1027 = iA G 5 pz := (cx_ne eg11 1027 (by omega)).trans c_P
                have c_Q : g11 1013 = nA G 200 (nu (vN y2) (25 * node + (5 * (mn node)) + k) ((vN v) k)) := cx_eq eg11
                have fr : ∀ j : Nat, (j ≠ 1000 ∧ ¬ lbQ j) → g11 j = g j := fun j hj => (cx_ne eg11 j (by unfold lbQ at hj; omega)).trans (fr j hj)
                have c_Q : g11 1013 = nA G 200 (vN (nu y2 (25 * node + 5 * mn node + k) (v k))) := by rw [← vN_nu]; exact c_Q
                refine lv_iinc (v := nI (k + 1)) (lv' := [(4, .int (nI (k + 1))), (3, .int (nI (mn node))), (0, .ref (ad 1000)), (1, .int (nI node)), (2, .int fz)]) hx hb dX6_meet_90 hl (k := 0) rfl (nI_1 _) (by decide) rfl (fun ls hl => ?_)
                refine lv_goto (tgt := 61) hx hb dX6_meet_93 (by decide) ?_
                exact ih61 (k + 1) (nu y2 (25 * node + 5 * mn node + k) (v k)) h64 (hof.step rfl) (by omega) g11 _ _ _ c_o c_R c_M c_Q c_C c_D c_X c_T c_P  fr hP hS (lv_sub hl [0, 1, 2, 3, 4] rfl)
          exact LP61 ((5 - 0) + 1) 0 pq (Nat.zero_le _) OF.start (Nat.lt_succ_self _) g4 _ _ _ c_o c_R c_M c_Q c_C c_D c_X c_T c_P  fr hP hS (lv_sub hl [0, 1, 2, 3, 4] rfl)
        · skip
          have hrr := hpv.rank hnode (v := v) (hrk.1.ex (hqp.tab hnode h9 hlk hV))
          have hin : InSp (V + 1) (P.2.2.2.2.1 node) (P.2.2.2.1 node) v := Classical.byContradiction (fun z => by have := hrr.2 z; omega)
          exact hret g4 _ _ _ _ (by rw [meetF_t hin]; exact ⟨fr, ⟨_, c_o⟩, mn, pq, cm, nd, nx, tb3, pz, c_M, c_Q, c_C, c_D, c_X, c_T, c_P, hqp, hpv⟩) hP hS dX6_meet_50
      · skip
        refine lv_aload_n hx hb dX6_meet_12 rfl (lv_at hl 1 rfl) ?_
        refine lv_iload_n hx hb dX6_meet_13 rfl (lv_at hl 0 rfl) ?_
        refine lv_aload_n hx hb dX6_meet_14 rfl (lv_at hl 1 rfl) ?_
        refine ax_get (k := 1000) (v := .ref (ad 1028)) hx hb hts in_X6_meet_X6 hown hK hP (hq _ (by decide)) c_o rfl 28 (by decide) (hts _ wd_X6_meet_8) (fun _ h9 => h9) rfl dX6_meet_15 ?_
        refine lv_iload_n hx hb dX6_meet_18 rfl (lv_at hl 0 rfl) ?_
        refine ax_iald (k := 1028) (i := k) (v := nI ((vN v) k)) hx hb hK hP (hq _ (by decide)) c_R (by omega) (by omega) rfl dX6_meet_19 ?_
        refine cx_Vv (As := [.int (nI k), .int (nI ((vN v) k))]) (rest := []) ⟨hx, hb, hml, hown, hts⟩ (c_X6_put hD hN1 hN hV1 hV hq (k := k) (x := v k) (tb := y) c_o c_T (by omega)) (cwV 2 hts gX6_meet_X6_put rfl rfl rfl (by decide +kernel) ⟨Nat.le_of_ble_eq_true rfl, Nat.le_of_ble_eq_true rfl⟩) hK hP hS hz (hq _ (by decide)) c_o rfl ⟨Nat.zero_le _, Nat.zero_le _⟩ rfl hl.1 rfl (Nat.le_of_ble_eq_true rfl) dX6_meet_20 (fun g12 H locs hp12 hP hS => ?_)
        obtain ⟨hp12a, hp12b⟩ := hp12
        have c_o : g12 1000 = .inr (6, [.int (nI N), .int (nI V), .int (nI th), .ref (ad 1003), .int (nI ec), .ref (ad 1005), .ref (ad 1006), .ref (ad 1007), .ref (ad 1008), .ref (ad 1009), .int (nI en), .int (if an = true then 1 else 0), .ref (ad 1012), .ref (ad 1013), .ref (ad 1014), .int (nI P.1), .ref (ad 1016), .ref (ad 1017), .ref (ad 1018), .ref (ad 1019), .int (nI pl), .ref (ad 1021), .int (nI nc), .ref (ad 1023), .ref (ad 1024), .int (nI (mn node)), .ref (ad 1026), .ref (ad 1027), .ref (ad 1028)]) := (hp12a 1000 (by omega)).trans c_o
        have c_R : g12 1028 = nA G 5 (vN v) := (hp12a 1028 (by omega)).trans c_R
        have c_M : g12 1012 = nA G 8 mn := (hp12a 1012 (by omega)).trans c_M
        have c_Q : g12 1013 = nA G 200 (vN pq) := (hp12a 1013 (by omega)).trans c_Q
        have c_C : g12 1014 = iA G 40 cm := (hp12a 1014 (by omega)).trans c_C
        have c_D : g12 1016 = nA G 41 nd := (hp12a 1016 (by omega)).trans c_D
        have c_X : g12 1017 = nA G 41 nx := (hp12a 1017 (by omega)).trans c_X
        have c_P : g12 1027 = iA G 5 pz0 := (hp12a 1027 (by omega)).trans c_P
        have fr : ∀ j : Nat, (j ≠ 1000 ∧ ¬ lbQ j) → g12 j = g j := fun j hj => (hp12a j (by unfold lbQ at hj; omega)).trans (fr j hj)
        have c_T := hp12b
        refine lv_iinc (v := nI (k + 1)) (lv' := [(3, .int (nI (k + 1))), (0, .ref (ad 1000)), (1, .int (nI node)), (2, .int fz)]) hx hb dX6_meet_23 hl (k := 0) rfl (nI_1 _) (by decide) rfl (fun ls hl => ?_)
        refine lv_goto (tgt := 7) hx hb dX6_meet_26 (by decide) ?_
        exact ih7 (k + 1) (nu y (5 * mn node + k) (v k)) h9 (hlk.step h9 (if_pos rfl).symm) (by omega) g12 _ _ _ c_o c_R c_M c_Q c_C c_D c_X c_T c_P  fr hP hS (lv_sub hl [0, 1, 2, 3] rfl)
  exact LP7 ((5 - 0) + 1) 0 tb2 (Nat.zero_le _) (hly.ini (fun a b ha hb => (if_neg (by omega)).symm)) (Nat.lt_succ_self _) g1 _ _ _ c_o c_R c_M c_Q c_C c_D c_X c_T c_P  fr hP hS (lv_sub hl [0, 1, 2, 3] rfl)

set_option maxRecDepth 20000 in
theorem wd_X6_pass_0 : Cond.fieldLink RX6 16 "AffineHullsModel" "tos" "[I" ∈ wsX6_pass := by decide +kernel
set_option maxRecDepth 20000 in
theorem in_X6_pass_X6 : ∀ w ∈ u_ws RX6 TX6 29, w ∈ wsX6_pass := by decide +kernel
set_option maxRecDepth 20000 in
theorem wd_X6_pass_2 : Cond.fieldLink RX6 64 "AffineHullsModel" "row" "[I" ∈ wsX6_pass := by decide +kernel
set_option maxRecDepth 20000 in
theorem wd_X6_pass_3 : Cond.fieldLink RX6 31 "AffineHullsModel" "points" "[I" ∈ wsX6_pass := by decide +kernel
set_option maxRecDepth 20000 in
theorem wd_X6_pass_4 : Cond.fieldLink RX6 19 "AffineHullsModel" "kinds" "[I" ∈ wsX6_pass := by decide +kernel
abbrev rm_X6_pass : Room := { frames := 4, cells := 0, slots := 0, locals := 103 }
set_option maxHeartbeats 4000000 in
set_option maxRecDepth 100000 in
theorem c_X6_pass {l : Launch} {G : cx_G} {L : List Nat} {ad : Nat → Nat} {g : Nat → va_E} (hD : cx_D L ad) {N V th ec en pl nc sz : Nat} {an : Bool} {kq ei nod ix : Nat} {P : PS} {ef et ek ev : Nat → Nat} {ez : Nat → Int32} {eg : Nat → Nat → FF} {fm rr : Nat → FF} (hN1 : 1 ≤ N) (hN : N ≤ 8) (hV1 : 1 ≤ V) (hV : V ≤ 4) (hq : ∀ j : Nat, lbM j = true → j ∈ L) (c_o : g 1000 = .inr (6, [.int (nI N), .int (nI V), .int (nI th), .ref (ad 1003), .int (nI ec), .ref (ad 1005), .ref (ad 1006), .ref (ad 1007), .ref (ad 1008), .ref (ad 1009), .int (nI en), .int (if an = true then 1 else 0), .ref (ad 1012), .ref (ad 1013), .ref (ad 1014), .int (nI P.1), .ref (ad 1016), .ref (ad 1017), .ref (ad 1018), .ref (ad 1019), .int (nI pl), .ref (ad 1021), .int (nI nc), .ref (ad 1023), .ref (ad 1024), .int (nI sz), .ref (ad 1026), .ref (ad 1027), .ref (ad 1028)])) (c_K : g 1007 = nA G 20 ek) (c_Z : g 1008 = iA G 20 ez) (c_F : g 1009 = nA G 100 (vN fm)) (c_TO : g 1006 = nA G 20 et) (c_R : g 1028 = nA G 5 (vN rr)) (hkq : kq < P.1) (hnod : P.2.1 kq = nod) (hixe : P.2.2.1 kq = ix) (hei : ei < ec) (hzr : Zb 5 rr) (hfr : FR fm eg) (hev : EV N V ec ef et ek ez ev eg) (xq : QA G g N V P) : MV l yX6_pass wsX6_pass rm_X6_pass G L ad g [.ref (ad 1000), .int (nI ei), .int (nI nod), .int (nI ix)] (fun u => (∀ j : Nat, (j ≠ 1000 ∧ j ≠ 1028 ∧ ¬ lbQ j) → u j = g j) ∧ (∃ sz2 : Nat, u 1000 = .inr (6, [.int (nI N), .int (nI V), .int (nI th), .ref (ad 1003), .int (nI ec), .ref (ad 1005), .ref (ad 1006), .ref (ad 1007), .ref (ad 1008), .ref (ad 1009), .int (nI en), .int (if an = true then 1 else 0), .ref (ad 1012), .ref (ad 1013), .ref (ad 1014), .int (nI ((passF (V + 1) et ek ev eg kq ei P (if ek ei = 2 then 2 else 1)).1)), .ref (ad 1016), .ref (ad 1017), .ref (ad 1018), .ref (ad 1019), .int (nI pl), .ref (ad 1021), .int (nI nc), .ref (ad 1023), .ref (ad 1024), .int (nI sz2), .ref (ad 1026), .ref (ad 1027), .ref (ad 1028)])) ∧ (∃ rr2 : Nat → FF, Zb 5 rr2 ∧ u 1028 = nA G 5 (vN rr2)) ∧ QA G u N V (passF (V + 1) et ek ev eg kq ei P (if ek ei = 2 then 2 else 1))) := by
  refine cx_ofV (cc := cX6_pass) (maxL := 7) (by decide +kernel) rfl (Nat.le_of_ble_eq_true rfl) ?_
  intro p e s m args below meth c Q hx hb hts hown hml hP hK hS hz hret ls hl
  have hown : s.vm.findClass RX6 = some m.cls := hown
  have hl : lv_has ls 7 [(0, .ref (ad 1000)), (1, .int (nI ei)), (2, .int (nI nod)), (3, .int (nI ix))] := hl
  have fr : ∀ j : Nat, (j ≠ 1000 ∧ j ≠ 1028 ∧ ¬ lbQ j) → g j = g j := fun _ _ => rfl
  have hec := hev.1
  obtain ⟨hf1, hf2, hf3, hf4⟩ := hev.2.1 ei hei
  have hnN : nod < N := by obtain ⟨_, _, _, _, _, _, _, _, _, _, _, _, _, _, _, q⟩ := id xq; rw [← hnod]; exact (q.2.1 kq hkq).1
  have LP17 : ∀ (wy : Nat), (wy = if ek ei = 2 then 2 else 1) → ∀ (ls : Array Slot), lv_has ls 7 [(4, .int (nI wy)), (0, .ref (ad 1000)), (1, .int (nI ei)), (2, .int (nI nod)), (3, .int (nI ix))] → W p l e rm_X6_pass s m args below meth c s.heap [] 0 0 Q (F0 m 17 ls []) := by
    intro wy hwy ls hl
    have hwy2 : wy ≤ 2 := by rw [hwy]; split <;> omega
    refine lv_iconst (v := nI 0) hx hb dX6_pass_17 (by decide) ?_
    refine lv_istore (lv' := [(5, .int (nI 0)), (4, .int (nI wy)), (0, .ref (ad 1000)), (1, .int (nI ei)), (2, .int (nI nod)), (3, .int (nI ix))]) hx hb dX6_pass_18 hl (by decide) rfl (fun ls hl => ?_)
    have LP20 : ∀ (fu : Nat) (way : Nat) (rr2 : Nat → FF) (szx : Nat), (way ≤ wy) → (Zb 5 rr2) → (wy - way) < fu → ∀ (ga2 : Nat → va_E) (H : Heap) (locs : List Loc) (ls : Array Slot), (ga2 1000 = .inr (6, [.int (nI N), .int (nI V), .int (nI th), .ref (ad 1003), .int (nI ec), .ref (ad 1005), .ref (ad 1006), .ref (ad 1007), .ref (ad 1008), .ref (ad 1009), .int (nI en), .int (if an = true then 1 else 0), .ref (ad 1012), .ref (ad 1013), .ref (ad 1014), .int (nI ((passF (V + 1) et ek ev eg kq ei P way).1)), .ref (ad 1016), .ref (ad 1017), .ref (ad 1018), .ref (ad 1019), .int (nI pl), .ref (ad 1021), .int (nI nc), .ref (ad 1023), .ref (ad 1024), .int (nI szx), .ref (ad 1026), .ref (ad 1027), .ref (ad 1028)])) → (ga2 1007 = nA G 20 ek) → (ga2 1008 = iA G 20 ez) → (ga2 1009 = nA G 100 (vN fm)) → (ga2 1006 = nA G 20 et) → (ga2 1028 = nA G 5 (vN rr2)) → (QA G ga2 N V (passF (V + 1) et ek ev eg kq ei P way)) → (∀ j : Nat, (j ≠ 1000 ∧ j ≠ 1028 ∧ ¬ lbQ j) → ga2 j = g j) → va_P G.1 vwCl (wl L ad ga2) H → va_S (cx_A L ad s.heap.size) s.heap H locs → lv_has ls 7 [(5, .int (nI way)), (4, .int (nI wy)), (0, .ref (ad 1000)), (1, .int (nI ei)), (2, .int (nI nod)), (3, .int (nI ix))] → W p l e rm_X6_pass s m args below meth c H locs 0 0 Q (F0 m 20 ls []) := by
      intro fu
      induction fu with
      | zero => intro way rr2 szx hww hz2 hfu; exact absurd hfu (Nat.not_lt_zero _)
      | succ fu ih20 =>
        intro way rr2 szx hww hz2 hfu20 ga2 H locs ls c_o c_K c_Z c_F c_TO c_R xq fr hP hS hl
        refine lv_iload hx hb dX6_pass_20 (lv_at hl 0 rfl) ?_
        refine lv_iload hx hb dX6_pass_22 (lv_at hl 1 rfl) ?_
        refine ax_icge (a := way) (b := wy) (tgt := 107) hx hb dX6_pass_24 (by decide) (by omega) (by omega) (fun h24 => ?_) (fun h24 => ?_)
        · skip
          exact hret ga2 _ _ _ _ (by have ew : way = wy := (by omega); rw [hwy] at ew; subst ew; exact ⟨fr, ⟨_, c_o⟩, ⟨_, hz2, c_R⟩, xq⟩) hP hS dX6_pass_107
        · skip
          obtain ⟨mn, pq, cm, nd, nx, tb, pz0, c_M, c_Q, c_C, c_D, c_X, c_T, c_P, hqp, hpv⟩ := id xq
          obtain ⟨hp1, hp2, hp3⟩ := passF_at (w := V + 1) (et := et) (ek := ek) (ev := ev) (eg := eg) (e := ei) hkq way
          have hix : ix < (passF (V + 1) et ek ev eg kq ei P way).2.2.2.1 nod := by have := (hpv.2.1 kq hp1).2; rw [hp2, hp3, hnod, hixe] at this; exact this
          have hix5 := hpv.cnt hnN
          have hz0 := hpv.2.2.1 nod ix hnN hix
          have hw2 : way < 2 := by rw [hwy] at h24; split at h24 <;> omega
          refine lv_iconst (v := nI 0) hx hb dX6_pass_27 (by decide) ?_
          refine lv_istore (lv' := [(6, .int (nI 0)), (5, .int (nI way)), (4, .int (nI wy)), (0, .ref (ad 1000)), (1, .int (nI ei)), (2, .int (nI nod)), (3, .int (nI ix))]) hx hb dX6_pass_28 hl (by decide) rfl (fun ls hl => ?_)
          have LP30 : ∀ (fu : Nat) (k : Nat) (y : Nat → FF), (k ≤ 5) → (∀ j : Nat, y j = if j < k then (passF (V + 1) et ek ev eg kq ei P way).2.2.2.2.1 nod ix j else rr2 j) → (5 - k) < fu → ∀ (ga3 : Nat → va_E) (H : Heap) (locs : List Loc) (ls : Array Slot), (ga3 1000 = .inr (6, [.int (nI N), .int (nI V), .int (nI th), .ref (ad 1003), .int (nI ec), .ref (ad 1005), .ref (ad 1006), .ref (ad 1007), .ref (ad 1008), .ref (ad 1009), .int (nI en), .int (if an = true then 1 else 0), .ref (ad 1012), .ref (ad 1013), .ref (ad 1014), .int (nI ((passF (V + 1) et ek ev eg kq ei P way).1)), .ref (ad 1016), .ref (ad 1017), .ref (ad 1018), .ref (ad 1019), .int (nI pl), .ref (ad 1021), .int (nI nc), .ref (ad 1023), .ref (ad 1024), .int (nI szx), .ref (ad 1026), .ref (ad 1027), .ref (ad 1028)])) → (ga3 1007 = nA G 20 ek) → (ga3 1008 = iA G 20 ez) → (ga3 1009 = nA G 100 (vN fm)) → (ga3 1006 = nA G 20 et) → (ga3 1028 = nA G 5 (vN y)) → (ga3 1013 = nA G 200 (vN pq)) → (QA G ga3 N V (passF (V + 1) et ek ev eg kq ei P way)) → (∀ j : Nat, (j ≠ 1000 ∧ j ≠ 1028 ∧ ¬ lbQ j) → ga3 j = g j) → va_P G.1 vwCl (wl L ad ga3) H → va_S (cx_A L ad s.heap.size) s.heap H locs → lv_has ls 7 [(6, .int (nI k)), (5, .int (nI way)), (4, .int (nI wy)), (0, .ref (ad 1000)), (1, .int (nI ei)), (2, .int (nI nod)), (3, .int (nI ix))] → W p l e rm_X6_pass s m args below meth c H locs 0 0 Q (F0 m 30 ls []) := by
            intro fu
            induction fu with
            | zero => intro k y hk5 hr hfu; exact absurd hfu (Nat.not_lt_zero _)
            | succ fu ih30 =>
              intro k y hk5 hr hfu30 ga3 H locs ls c_o c_K c_Z c_F c_TO c_R c_Q xq fr hP hS hl
              refine lv_iload hx hb dX6_pass_30 (lv_at hl 0 rfl) ?_
              refine lv_iconst (v := nI 5) hx hb dX6_pass_32 (by decide) ?_
              refine ax_icge (a := k) (b := 5) (tgt := 65) hx hb dX6_pass_33 (by decide) (by omega) (by omega) (fun h33 => ?_) (fun h33 => ?_)
              · skip
                rw [cp_done h33 hz2 (Zb.five hz0 hV) hr] at c_R
                refine lv_aload_n hx hb dX6_pass_65 rfl (lv_at hl 3 rfl) ?_
                refine lv_iload_n hx hb dX6_pass_66 rfl (lv_at hl 4 rfl) ?_
                refine lv_iload hx hb dX6_pass_67 (lv_at hl 1 rfl) ?_
                rw [show nI way = nI (ff way).val from congrArg nI (Nat.mod_eq_of_lt (show way < 65521 by omega)).symm]
                refine cx_Vv (As := [.int (nI ei), .int (nI ((ff way).val))]) (rest := []) ⟨hx, hb, hml, hown, hts⟩ (c_X6_change hD hN1 hN hV1 hV hq (ei := ei) (xx := ff way) (ev := ev) (rr := (passF (V + 1) et ek ev eg kq ei P way).2.2.2.2.1 nod ix) (eg := eg) c_o c_K c_Z c_F c_R (by omega) hfr hev.2.2 hf3 hf4) (cwV 2 hts gX6_pass_X6_change rfl rfl rfl (by decide +kernel) ⟨Nat.le_of_ble_eq_true rfl, Nat.le_of_ble_eq_true rfl⟩) hK hP hS hz (hq _ (by decide)) c_o rfl ⟨Nat.zero_le _, Nat.zero_le _⟩ rfl hl.1 rfl (Nat.le_of_ble_eq_true rfl) dX6_pass_69 (fun g4 H locs hp4 hP hS => ?_)
                obtain ⟨hp4a, hp4b⟩ := hp4
                have c_o : g4 1000 = .inr (6, [.int (nI N), .int (nI V), .int (nI th), .ref (ad 1003), .int (nI ec), .ref (ad 1005), .ref (ad 1006), .ref (ad 1007), .ref (ad 1008), .ref (ad 1009), .int (nI en), .int (if an = true then 1 else 0), .ref (ad 1012), .ref (ad 1013), .ref (ad 1014), .int (nI ((passF (V + 1) et ek ev eg kq ei P way).1)), .ref (ad 1016), .ref (ad 1017), .ref (ad 1018), .ref (ad 1019), .int (nI pl), .ref (ad 1021), .int (nI nc), .ref (ad 1023), .ref (ad 1024), .int (nI szx), .ref (ad 1026), .ref (ad 1027), .ref (ad 1028)]) := (hp4a 1000 (by omega)).trans c_o
                have c_K : g4 1007 = nA G 20 ek := (hp4a 1007 (by omega)).trans c_K
                have c_Z : g4 1008 = iA G 20 ez := (hp4a 1008 (by omega)).trans c_Z
                have c_F : g4 1009 = nA G 100 (vN fm) := (hp4a 1009 (by omega)).trans c_F
                have c_TO : g4 1006 = nA G 20 et := (hp4a 1006 (by omega)).trans c_TO
                have c_Q : g4 1013 = nA G 200 (vN pq) := (hp4a 1013 (by omega)).trans c_Q
                have xq : QA G g4 N V (passF (V + 1) et ek ev eg kq ei P way) := xq.kept (fun j hj => hp4a j (by unfold lbQ at hj; omega))
                have fr : ∀ j : Nat, (j ≠ 1000 ∧ j ≠ 1028 ∧ ¬ lbQ j) → g4 j = g j := fun j hj => (hp4a j (by omega)).trans (fr j hj)
                have c_R := hp4b
                refine lv_aload_n hx hb dX6_pass_72 rfl (lv_at hl 3 rfl) ?_
                refine lv_aload_n hx hb dX6_pass_73 rfl (lv_at hl 3 rfl) ?_
                refine ax_get (k := 1000) (v := .ref (ad 1006)) hx hb hts in_X6_pass_X6 hown hK hP (hq _ (by decide)) c_o rfl 6 (by decide) (hts _ wd_X6_pass_0) (fun _ h9 => h9) rfl dX6_pass_74 ?_
                refine lv_iload_n hx hb dX6_pass_77 rfl (lv_at hl 4 rfl) ?_
                refine ax_iald (k := 1006) (i := ei) (v := nI (et ei)) hx hb hK hP (hq _ (by decide)) c_TO (by omega) (by omega) rfl dX6_pass_78 ?_
                refine lv_sipush (v := nI 10000) hx hb dX6_pass_79 (by decide) ?_
                refine lv_iload_n hx hb dX6_pass_82 rfl (lv_at hl 4 rfl) ?_
                refine ax_mul (a := 10000) (b := ei) hx hb dX6_pass_83 ?_
                refine lv_sipush (v := nI 1000) hx hb dX6_pass_84 (by decide) ?_
                refine lv_iload_n hx hb dX6_pass_87 rfl (lv_at hl 5 rfl) ?_
                refine ax_mul (a := 1000) (b := nod) hx hb dX6_pass_88 ?_
                refine ax_add (a := 10000 * ei) (b := 1000 * nod) hx hb dX6_pass_89 ?_
                refine lv_bipush (v := nI 10) hx hb dX6_pass_90 (by decide) ?_
                refine lv_iload_n hx hb dX6_pass_92 rfl (lv_at hl 6 rfl) ?_
                refine ax_mul (a := 10) (b := ix) hx hb dX6_pass_93 ?_
                refine ax_add (a := 10000 * ei + (1000 * nod)) (b := 10 * ix) hx hb dX6_pass_94 ?_
                refine lv_iload hx hb dX6_pass_95 (lv_at hl 1 rfl) ?_
                refine ax_add (a := 10000 * ei + (1000 * nod) + (10 * ix)) (b := way) hx hb dX6_pass_97 ?_
                refine cx_Vv (As := [.int (nI (et ei)), .int (nI (10000 * ei + (1000 * nod) + (10 * ix) + way))]) (rest := []) ⟨hx, hb, hml, hown, hts⟩ (c_X6_meet hD hN1 hN hV1 hV hq (node := et ei) (fz := nI (10000 * ei + 1000 * nod + 10 * ix + way)) (P := passF (V + 1) et ek ev eg kq ei P way) (v := stepF (V + 1) (ek ei) (ev ei) (eg ei) (ff way) ((passF (V + 1) et ek ev eg kq ei P way).2.2.2.2.1 nod ix)) c_o c_R hf2 (stepF_z hz0 (fun h => (hf4 h).2.2)) xq) (cwV 2 hts gX6_pass_X6_meet rfl rfl rfl (by decide +kernel) ⟨Nat.le_of_ble_eq_true rfl, Nat.le_of_ble_eq_true rfl⟩) hK hP hS hz (hq _ (by decide)) c_o rfl ⟨Nat.zero_le _, Nat.zero_le _⟩ rfl hl.1 rfl (Nat.le_of_ble_eq_true rfl) dX6_pass_98 (fun g5 H locs hp5 hP hS => ?_)
                obtain ⟨hp5a, ⟨szn, hp5o⟩, hp5x⟩ := hp5
                have c_K : g5 1007 = nA G 20 ek := (hp5a 1007 (by unfold lbQ; omega)).trans c_K
                have c_Z : g5 1008 = iA G 20 ez := (hp5a 1008 (by unfold lbQ; omega)).trans c_Z
                have c_F : g5 1009 = nA G 100 (vN fm) := (hp5a 1009 (by unfold lbQ; omega)).trans c_F
                have c_TO : g5 1006 = nA G 20 et := (hp5a 1006 (by unfold lbQ; omega)).trans c_TO
                have c_R : g5 1028 = nA G 5 (vN (stepF (V + 1) (ek ei) (ev ei) (eg ei) (ff way) ((passF (V + 1) et ek ev eg kq ei P way).2.2.2.2.1 nod ix))) := (hp5a 1028 (by unfold lbQ; omega)).trans c_R
                have fr : ∀ j : Nat, (j ≠ 1000 ∧ j ≠ 1028 ∧ ¬ lbQ j) → g5 j = g j := fun j hj => (hp5a j (by unfold lbQ at hj ⊢; omega)).trans (fr j hj)
                rw [passF_s hkq hnod hixe way] at hp5o hp5x
                have c_o := hp5o
                have xq := hp5x
                refine lv_iinc (v := nI (way + 1)) (lv' := [(5, .int (nI (way + 1))), (6, .int (nI k)), (4, .int (nI wy)), (0, .ref (ad 1000)), (1, .int (nI ei)), (2, .int (nI nod)), (3, .int (nI ix))]) hx hb dX6_pass_101 hl (k := 1) rfl (nI_1 _) (by decide) rfl (fun ls hl => ?_)
                refine lv_goto (tgt := 20) hx hb dX6_pass_104 (by decide) ?_
                exact ih20 (way + 1) (stepF (V + 1) (ek ei) (ev ei) (eg ei) (ff way) ((passF (V + 1) et ek ev eg kq ei P way).2.2.2.2.1 nod ix)) szn h24 (Zb.five (stepF_z hz0 (fun h => (hf4 h).2.2)) hV) (by omega) g5 _ _ _ c_o c_K c_Z c_F c_TO c_R xq fr hP hS (lv_sub hl [0, 2, 3, 4, 5, 6] rfl)
              · skip
                refine lv_aload_n hx hb dX6_pass_36 rfl (lv_at hl 3 rfl) ?_
                refine ax_get (k := 1000) (v := .ref (ad 1028)) hx hb hts in_X6_pass_X6 hown hK hP (hq _ (by decide)) c_o rfl 28 (by decide) (hts _ wd_X6_pass_2) (fun _ h9 => h9) rfl dX6_pass_37 ?_
                refine lv_iload hx hb dX6_pass_40 (lv_at hl 0 rfl) ?_
                refine lv_aload_n hx hb dX6_pass_42 rfl (lv_at hl 3 rfl) ?_
                refine ax_get (k := 1000) (v := .ref (ad 1013)) hx hb hts in_X6_pass_X6 hown hK hP (hq _ (by decide)) c_o rfl 13 (by decide) (hts _ wd_X6_pass_3) (fun _ h9 => h9) rfl dX6_pass_43 ?_
                refine lv_bipush (v := nI 25) hx hb dX6_pass_46 (by decide) ?_
                refine lv_iload_n hx hb dX6_pass_48 rfl (lv_at hl 5 rfl) ?_
                refine ax_mul (a := 25) (b := nod) hx hb dX6_pass_49 ?_
                refine lv_iconst (v := nI 5) hx hb dX6_pass_50 (by decide) ?_
                refine lv_iload_n hx hb dX6_pass_51 rfl (lv_at hl 6 rfl) ?_
                refine ax_mul (a := 5) (b := ix) hx hb dX6_pass_52 ?_
                refine ax_add (a := 25 * nod) (b := 5 * ix) hx hb dX6_pass_53 ?_
                refine lv_iload hx hb dX6_pass_54 (lv_at hl 0 rfl) ?_
                refine ax_add (a := 25 * nod + (5 * ix)) (b := k) hx hb dX6_pass_56 ?_
                refine ax_iald (k := 1013) (i := 25 * nod + (5 * ix) + k) (v := nI ((vN pq) (25 * nod + (5 * ix) + k))) hx hb hK hP (hq _ (by decide)) c_Q (by omega) (by omega) rfl dX6_pass_57 ?_
                refine ax_iast (k := 1028) (i := k) (f' := (fun j => nI ((nu (vN y) k ((vN pq) (25 * nod + (5 * ix) + k))) j))) hx hb hK hP hD hS (hq _ (by decide)) c_R (by omega) (by omega) (up_n _ _ _) dX6_pass_58 (fun H locs g6 eg6 hP hS => ?_)
                have c_o : g6 1000 = .inr (6, [.int (nI N), .int (nI V), .int (nI th), .ref (ad 1003), .int (nI ec), .ref (ad 1005), .ref (ad 1006), .ref (ad 1007), .ref (ad 1008), .ref (ad 1009), .int (nI en), .int (if an = true then 1 else 0), .ref (ad 1012), .ref (ad 1013), .ref (ad 1014), .int (nI ((passF (V + 1) et ek ev eg kq ei P way).1)), .ref (ad 1016), .ref (ad 1017), .ref (ad 1018), .ref (ad 1019), .int (nI pl), .ref (ad 1021), .int (nI nc), .ref (ad 1023), .ref (ad 1024), .int (nI szx), .ref (ad 1026), .ref (ad 1027), .ref (ad 1028)]) := (cx_ne eg6 1000 (by omega)).trans c_o
                have c_K : g6 1007 = nA G 20 ek := (cx_ne eg6 1007 (by omega)).trans c_K
                have c_Z : g6 1008 = iA G 20 ez := (cx_ne eg6 1008 (by omega)).trans c_Z
                have c_F : g6 1009 = nA G 100 (vN fm) := (cx_ne eg6 1009 (by omega)).trans c_F
                have c_TO : g6 1006 = nA G 20 et := (cx_ne eg6 1006 (by omega)).trans c_TO
                have c_Q : g6 1013 = nA G 200 (vN pq) := (cx_ne eg6 1013 (by omega)).trans c_Q
                have xq : QA G g6 N V (passF (V + 1) et ek ev eg kq ei P way) := xq.kept (fun j hj => cx_ne eg6 j (by unfold lbQ at hj; omega))
                have c_R : g6 1028 = nA G 5 (nu (vN y) k ((vN pq) (25 * nod + (5 * ix) + k))) := cx_eq eg6
                have fr : ∀ j : Nat, (j ≠ 1000 ∧ j ≠ 1028 ∧ ¬ lbQ j) → g6 j = g j := fun j hj => (cx_ne eg6 j (by unfold lbQ at hj; omega)).trans (fr j hj)
                have e9 := hqp.2.1 nod ix k hnN hix h33
                have c_R : g6 1028 = nA G 5 (vN (nu y k (((passF (V + 1) et ek ev eg kq ei P way).2.2.2.2.1 nod ix) k))) := by rw [← e9, ← vN_nu]; exact c_R
                refine lv_iinc (v := nI (k + 1)) (lv' := [(6, .int (nI (k + 1))), (5, .int (nI way)), (4, .int (nI wy)), (0, .ref (ad 1000)), (1, .int (nI ei)), (2, .int (nI nod)), (3, .int (nI ix))]) hx hb dX6_pass_59 hl (k := 0) rfl (nI_1 _) (by decide) rfl (fun ls hl => ?_)
                refine lv_goto (tgt := 30) hx hb dX6_pass_62 (by decide) ?_
                exact ih30 (k + 1) (nu y k (((passF (V + 1) et ek ev eg kq ei P way).2.2.2.2.1 nod ix) k)) h33 (cp_step hr) (by omega) g6 _ _ _ c_o c_K c_Z c_F c_TO c_R c_Q xq fr hP hS (lv_sub hl [0, 1, 2, 3, 4, 5, 6] rfl)
          exact LP30 ((5 - 0) + 1) 0 rr2 (Nat.zero_le _) cp_0 (Nat.lt_succ_self _) ga2 _ _ _ c_o c_K c_Z c_F c_TO c_R c_Q xq fr hP hS (lv_sub hl [0, 1, 2, 3, 4, 5, 6] rfl)
    exact LP20 ((wy - 0) + 1) 0 rr sz (Nat.zero_le _) hzr (Nat.lt_succ_self _) g _ _ _ c_o c_K c_Z c_F c_TO c_R xq fr hP hS (lv_sub hl [0, 1, 2, 3, 4, 5] rfl)
  refine lv_aload_n hx hb dX6_pass_0 rfl (lv_at hl 0 rfl) ?_
  refine ax_get (k := 1000) (v := .ref (ad 1007)) hx hb hts in_X6_pass_X6 hown hK hP (hq _ (by decide)) c_o rfl 7 (by decide) (hts _ wd_X6_pass_4) (fun _ h9 => h9) rfl dX6_pass_1 ?_
  refine lv_iload_n hx hb dX6_pass_4 rfl (lv_at hl 1 rfl) ?_
  refine ax_iald (k := 1007) (i := ei) (v := nI (ek ei)) hx hb hK hP (hq _ (by decide)) c_K (by omega) (by omega) rfl dX6_pass_5 ?_
  refine lv_iconst (v := nI 2) hx hb dX6_pass_6 (by decide) ?_
  refine ax_icne (a := ek ei) (b := 2) (tgt := 14) hx hb dX6_pass_7 (by decide) (by omega) (by omega) (fun h7 => ?_) (fun h7 => ?_)
  · skip
    refine lv_iconst (v := nI 1) hx hb dX6_pass_14 (by decide) ?_
    refine lv_istore (lv' := [(4, .int (nI 1)), (0, .ref (ad 1000)), (1, .int (nI ei)), (2, .int (nI nod)), (3, .int (nI ix))]) hx hb dX6_pass_15 hl (by decide) rfl (fun ls hl => ?_)
    exact LP17 1 ((if_neg h7).symm) _ (lv_sub hl [0, 1, 2, 3, 4] rfl)
  · skip
    refine lv_iconst (v := nI 2) hx hb dX6_pass_10 (by decide) ?_
    refine lv_goto (tgt := 15) hx hb dX6_pass_11 (by decide) ?_
    refine lv_istore (lv' := [(4, .int (nI 2)), (0, .ref (ad 1000)), (1, .int (nI ei)), (2, .int (nI nod)), (3, .int (nI ix))]) hx hb dX6_pass_15 hl (by decide) rfl (fun ls hl => ?_)
    exact LP17 2 ((if_pos h7).symm) _ (lv_sub hl [0, 1, 2, 3, 4] rfl)
