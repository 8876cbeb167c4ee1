def inB (lo n : Nat) (x : Int32) : Prop := ∃ k : Nat, lo ≤ k ∧ k < n ∧ x = nI k
theorem inB_iff {lo n : Nat} {x : Int32} (hn : n < 2147483648) : inB lo n x ↔ (lo : Int) ≤ x.toInt ∧ x.toInt < n := by
  constructor
  · rintro ⟨k, h1, h2, rfl⟩
    rw [nI_toInt (by omega)]
    omega
  · rintro ⟨h1, h2⟩
    exact ⟨x.toInt.toNat, by omega, by omega, i32_eq (by omega) (by omega)⟩
theorem i32_ltn {x : Int32} {k : Nat} (hk : k < 2147483648) : x < nI k ↔ x.toInt < k := by rw [Int32.lt_iff_toInt_lt, nI_toInt (by omega)]
theorem i32_len {x : Int32} {k : Nat} (hk : k < 2147483648) : x ≤ nI k ↔ x.toInt ≤ k := by rw [Int32.le_iff_toInt_le, nI_toInt (by omega)]
theorem nb_0 {n : Nat} {x : Int32} (hn : n < 2147483648) (h : x < 0) : ¬ inB 0 n x := by rw [inB_iff hn]; rw [i32_neg] at h; omega
theorem nb_n {lo n : Nat} {x : Int32} (hn : n < 2147483648) (h : ¬ x < nI n) : ¬ inB lo n x := by rw [inB_iff hn]; rw [i32_ltn hn] at h; omega
theorem nb_l {lo n : Nat} {x : Int32} (hn : n < 2147483647) (h : ¬ x ≤ nI n) : ¬ inB lo (n + 1) x := by rw [inB_iff (by omega)]; rw [i32_len (by omega)] at h; omega
theorem nb_1 {lo n : Nat} {x : Int32} (hn : n < 2147483648) (hlo : lo < 2147483648) (h : x < nI lo) : ¬ inB lo n x := by rw [inB_iff hn]; rw [i32_ltn hlo] at h; omega
theorem yb_n {n : Nat} {x : Int32} (hn : n < 2147483648) (h0 : ¬ x < 0) (h : x < nI n) : inB 0 n x := by rw [inB_iff hn]; rw [i32_ltn hn] at h; rw [i32_neg] at h0; omega
theorem yb_l {n : Nat} {x : Int32} (hn : n < 2147483647) (h0 : ¬ x < 0) (h : x ≤ nI n) : inB 0 (n + 1) x := by rw [inB_iff (by omega)]; rw [i32_len (by omega)] at h; rw [i32_neg] at h0; omega
theorem yb_1 {lo n : Nat} {x : Int32} (hn : n < 2147483647) (hlo : lo < 2147483648) (h0 : ¬ x < nI lo) (h : x ≤ nI n) : inB lo (n + 1) x := by rw [inB_iff (by omega)]; rw [i32_len (by omega)] at h; rw [i32_ltn hlo] at h0; omega
theorem inB_lit {lo n k : Nat} (h1 : lo ≤ k) (h2 : k < n) : inB lo n (nI k) := ⟨k, h1, h2, rfl⟩

set_option maxRecDepth 20000 in
theorem th_X5_requireNode_xIA : ∀ w ∈ Cond.classLink RX5 79 xIA :: Cond.initialized xIA :: (vx_atS RX5 83 xIA xNm).filter goodWord, w ∈ wsX5_requireNode := by decide +kernel
set_option maxRecDepth 20000 in
theorem wd_X5_requireNode_1 : Cond.fieldLink RX5 57 "AffineHulls" "hulls" "[LAffineHulls$Hull;" ∈ wsX5_requireNode := by decide +kernel
set_option maxRecDepth 20000 in
theorem in_X5_requireNode_X5 : ∀ w ∈ u_ws RX5 TX5 15, w ∈ wsX5_requireNode := by decide +kernel
abbrev rm_X5_requireNode : Room := { frames := 6, cells := 1, slots := 6, locals := 82 }
set_option maxHeartbeats 4000000 in
set_option maxRecDepth 100000 in
theorem c_X5_requireNode {l : Launch} (hst9 : l.stackTraces = false) {G : cx_G} {L : List Nat} {ad : Nat → Nat} {g : Nat → va_E} (hD : cx_D L ad) {N V M ec en al pl nc : Nat} {an : Bool} {x1 : Int32} (hN : N ≤ 8) (hV1 : 1 ≤ V) (hV : V ≤ 4) (hM : M = N * (V + 1)) (hM2 : M ≤ 40) (hm : ∀ j : Nat, lbX N V M j → j ∈ L) (c_o : g 0 = .inr (5, [.int (nI V), .ref (ad 1), .ref (ad 4), .int (nI ec), .int (nI en), .ref (ad 5), .ref (ad 6), .int (nI al), .int (if an = true then 1 else 0), .int (nI pl), .ref (ad 2), .ref (ad 7), .int (nI nc), .ref (ad 180), .ref (ad 3)])) (c_H : g 5 = rA (G.2 3) N (fun i => if i < N then some (ad (200 + 2 * i)) else none)) : XV l yX5_requireNode wsX5_requireNode rm_X5_requireNode G L ad g [.ref (ad 0), .int x1] (fun u => u = g ∧ inB 0 N x1) (fun E => E = xIA ∧ ¬ inB 0 N x1) 1 6 := by
  refine cx_ofXV (cc := cX5_requireNode) (maxL := 2) (by decide +kernel) rfl (Nat.le_of_ble_eq_true rfl) ?_
  intro p e s m args below meth c Q hQ hx hb hts hown hml hexc hlk hP hK hX hS hz hret ls hl
  have hown : s.vm.findClass RX5 = some m.cls := hown
  have hl : lv_has ls 2 [(0, .ref (ad 0)), (1, .int x1)] := hl
  refine lv_iload_n hx hb dX5_requireNode_0 rfl (lv_at hl 1 rfl) ?_
  refine lv_if_lt (x := x1) (tgt := 13) hx hb dX5_requireNode_1 (by decide) (fun h1 => ?_) (fun h1 => ?_)
  · skip
    rw [hQ]
    exact cx_throw (ik := 79) (ic := 83) (is := 207) (X := xIA) (text := "no such node") hx hb hst9 hown hts (by decide) (by decide) th_X5_requireNode_xIA hX hP hS (hl.1.trans hml.symm) dX5_requireNode_13 dX5_requireNode_16 dX5_requireNode_17 dX5_requireNode_19 dX5_requireNode_22 hexc ⟨Nat.le_of_ble_eq_true rfl, Nat.le_of_ble_eq_true rfl, Nat.le_of_ble_eq_true rfl, Nat.le_of_ble_eq_true rfl⟩ hlk (⟨rfl, nb_0 (by omega) h1⟩) (by decide) (by decide)
  · skip
    refine lv_iload_n hx hb dX5_requireNode_4 rfl (lv_at hl 1 rfl) ?_
    refine lv_aload_n hx hb dX5_requireNode_5 rfl (lv_at hl 0 rfl) ?_
    refine ax_get (k := 0) (v := .ref (ad 5)) hx hb hts in_X5_requireNode_X5 hown hK hP (hm _ (by unfold lbX; omega)) c_o rfl 5 (by decide) (hts _ wd_X5_requireNode_1) (fun _ h9 => h9) rfl dX5_requireNode_6 ?_
    refine ax_alen (k := 5) (n := N) hx hb hK hP (hm _ (by unfold lbX; omega)) 3 rfl c_H rfl dX5_requireNode_9 ?_
    refine lv_icmp_lt (x := x1) (y := nI N) (tgt := 23) hx hb dX5_requireNode_10 (by decide) (fun h10 => ?_) (fun h10 => ?_)
    · skip
      exact hret g _ _ _ _ _ _ ⟨by decide, by decide⟩ ⟨rfl, yb_n (by omega) h1 h10⟩ hP hS dX5_requireNode_23
    · skip
      rw [hQ]
      exact cx_throw (ik := 79) (ic := 83) (is := 207) (X := xIA) (text := "no such node") hx hb hst9 hown hts (by decide) (by decide) th_X5_requireNode_xIA hX hP hS (hl.1.trans hml.symm) dX5_requireNode_13 dX5_requireNode_16 dX5_requireNode_17 dX5_requireNode_19 dX5_requireNode_22 hexc ⟨Nat.le_of_ble_eq_true rfl, Nat.le_of_ble_eq_true rfl, Nat.le_of_ble_eq_true rfl, Nat.le_of_ble_eq_true rfl⟩ hlk (⟨rfl, nb_n (by omega) h10⟩) (by decide) (by decide)

set_option maxRecDepth 20000 in
theorem th_X5_requireVariable_xIA : ∀ w ∈ Cond.classLink RX5 79 xIA :: Cond.initialized xIA :: (vx_atS RX5 83 xIA xNm).filter goodWord, w ∈ wsX5_requireVariable := by decide +kernel
set_option maxRecDepth 20000 in
theorem wd_X5_requireVariable_1 : Cond.fieldLink RX5 18 "AffineHulls" "variables" "I" ∈ wsX5_requireVariable := by decide +kernel
set_option maxRecDepth 20000 in
theorem in_X5_requireVariable_X5 : ∀ w ∈ u_ws RX5 TX5 15, w ∈ wsX5_requireVariable := by decide +kernel
abbrev rm_X5_requireVariable : Room := { frames := 6, cells := 1, slots := 6, locals := 82 }
set_option maxHeartbeats 4000000 in
set_option maxRecDepth 100000 in
theorem c_X5_requireVariable {l : Launch} (hst9 : l.stackTraces = false) {G : cx_G} {L : List Nat} {ad : Nat → Nat} {g : Nat → va_E} (hD : cx_D L ad) {N V M ec en al pl nc : Nat} {an : Bool} {x1 : Int32} (hN : N ≤ 8) (hV1 : 1 ≤ V) (hV : V ≤ 4) (hM : M = N * (V + 1)) (hM2 : M ≤ 40) (hm : ∀ j : Nat, lbX N V M j → j ∈ L) (c_o : g 0 = .inr (5, [.int (nI V), .ref (ad 1), .ref (ad 4), .int (nI ec), .int (nI en), .ref (ad 5), .ref (ad 6), .int (nI al), .int (if an = true then 1 else 0), .int (nI pl), .ref (ad 2), .ref (ad 7), .int (nI nc), .ref (ad 180), .ref (ad 3)])) : XV l yX5_requireVariable wsX5_requireVariable rm_X5_requireVariable G L ad g [.ref (ad 0), .int x1] (fun u => u = g ∧ inB 1 (V + 1) x1) (fun E => E = xIA ∧ ¬ inB 1 (V + 1) x1) 1 6 := by
  refine cx_ofXV (cc := cX5_requireVariable) (maxL := 2) (by decide +kernel) rfl (Nat.le_of_ble_eq_true rfl) ?_
  intro p e s m args below meth c Q hQ hx hb hts hown hml hexc hlk hP hK hX hS hz hret ls hl
  have hown : s.vm.findClass RX5 = some m.cls := hown
  have hl : lv_has ls 2 [(0, .ref (ad 0)), (1, .int x1)] := hl
  refine lv_iload_n hx hb dX5_requireVariable_0 rfl (lv_at hl 1 rfl) ?_
  refine lv_iconst (v := nI 1) hx hb dX5_requireVariable_1 (by decide) ?_
  refine lv_icmp_lt (x := x1) (y := nI 1) (tgt := 13) hx hb dX5_requireVariable_2 (by decide) (fun h2 => ?_) (fun h2 => ?_)
  · skip
    rw [hQ]
    exact cx_throw (ik := 79) (ic := 83) (is := 209) (X := xIA) (text := "no such variable") hx hb hst9 hown hts (by decide) (by decide) th_X5_requireVariable_xIA hX hP hS (hl.1.trans hml.symm) dX5_requireVariable_13 dX5_requireVariable_16 dX5_requireVariable_17 dX5_requireVariable_19 dX5_requireVariable_22 hexc ⟨Nat.le_of_ble_eq_true rfl, Nat.le_of_ble_eq_true rfl, Nat.le_of_ble_eq_true rfl, Nat.le_of_ble_eq_true rfl⟩ hlk (⟨rfl, nb_1 (by omega) (by omega) h2⟩) (by decide) (by decide)
  · skip
    refine lv_iload_n hx hb dX5_requireVariable_5 rfl (lv_at hl 1 rfl) ?_
    refine lv_aload_n hx hb dX5_requireVariable_6 rfl (lv_at hl 0 rfl) ?_
    refine ax_get (k := 0) (v := .int (nI V)) hx hb hts in_X5_requireVariable_X5 hown hK hP (hm _ (by unfold lbX; omega)) c_o rfl 0 (by decide) (hts _ wd_X5_requireVariable_1) (fun _ h9 => h9) rfl dX5_requireVariable_7 ?_
    refine lv_icmp_le (x := x1) (y := nI V) (tgt := 23) hx hb dX5_requireVariable_10 (by decide) (fun h10 => ?_) (fun h10 => ?_)
    · skip
      exact hret g _ _ _ _ _ _ ⟨by decide, by decide⟩ ⟨rfl, yb_1 (by omega) (by omega) h2 h10⟩ hP hS dX5_requireVariable_23
    · skip
      rw [hQ]
      exact cx_throw (ik := 79) (ic := 83) (is := 209) (X := xIA) (text := "no such variable") hx hb hst9 hown hts (by decide) (by decide) th_X5_requireVariable_xIA hX hP hS (hl.1.trans hml.symm) dX5_requireVariable_13 dX5_requireVariable_16 dX5_requireVariable_17 dX5_requireVariable_19 dX5_requireVariable_22 hexc ⟨Nat.le_of_ble_eq_true rfl, Nat.le_of_ble_eq_true rfl, Nat.le_of_ble_eq_true rfl, Nat.le_of_ble_eq_true rfl⟩ hlk (⟨rfl, nb_l (by omega) h10⟩) (by decide) (by decide)

set_option maxRecDepth 20000 in
theorem th_X5_requirePlace_xIA : ∀ w ∈ Cond.classLink RX5 79 xIA :: Cond.initialized xIA :: (vx_atS RX5 83 xIA xNm).filter goodWord, w ∈ wsX5_requirePlace := by decide +kernel
set_option maxRecDepth 20000 in
theorem wd_X5_requirePlace_1 : Cond.fieldLink RX5 18 "AffineHulls" "variables" "I" ∈ wsX5_requirePlace := by decide +kernel
set_option maxRecDepth 20000 in
theorem in_X5_requirePlace_X5 : ∀ w ∈ u_ws RX5 TX5 15, w ∈ wsX5_requirePlace := by decide +kernel
abbrev rm_X5_requirePlace : Room := { frames := 6, cells := 1, slots := 6, locals := 82 }
set_option maxHeartbeats 4000000 in
set_option maxRecDepth 100000 in
theorem c_X5_requirePlace {l : Launch} (hst9 : l.stackTraces = false) {G : cx_G} {L : List Nat} {ad : Nat → Nat} {g : Nat → va_E} (hD : cx_D L ad) {N V M ec en al pl nc : Nat} {an : Bool} {x1 : Int32} (hN : N ≤ 8) (hV1 : 1 ≤ V) (hV : V ≤ 4) (hM : M = N * (V + 1)) (hM2 : M ≤ 40) (hm : ∀ j : Nat, lbX N V M j → j ∈ L) (c_o : g 0 = .inr (5, [.int (nI V), .ref (ad 1), .ref (ad 4), .int (nI ec), .int (nI en), .ref (ad 5), .ref (ad 6), .int (nI al), .int (if an = true then 1 else 0), .int (nI pl), .ref (ad 2), .ref (ad 7), .int (nI nc), .ref (ad 180), .ref (ad 3)])) : XV l yX5_requirePlace wsX5_requirePlace rm_X5_requirePlace G L ad g [.ref (ad 0), .int x1] (fun u => u = g ∧ inB 0 (V + 1) x1) (fun E => E = xIA ∧ ¬ inB 0 (V + 1) x1) 1 6 := by
  refine cx_ofXV (cc := cX5_requirePlace) (maxL := 2) (by decide +kernel) rfl (Nat.le_of_ble_eq_true rfl) ?_
  intro p e s m args below meth c Q hQ hx hb hts hown hml hexc hlk hP hK hX hS hz hret ls hl
  have hown : s.vm.findClass RX5 = some m.cls := hown
  have hl : lv_has ls 2 [(0, .ref (ad 0)), (1, .int x1)] := hl
  refine lv_iload_n hx hb dX5_requirePlace_0 rfl (lv_at hl 1 rfl) ?_
  refine lv_if_lt (x := x1) (tgt := 12) hx hb dX5_requirePlace_1 (by decide) (fun h1 => ?_) (fun h1 => ?_)
  · skip
    rw [hQ]
    exact cx_throw (ik := 79) (ic := 83) (is := 211) (X := xIA) (text := "neither 0 nor a variable") hx hb hst9 hown hts (by decide) (by decide) th_X5_requirePlace_xIA hX hP hS (hl.1.trans hml.symm) dX5_requirePlace_12 dX5_requirePlace_15 dX5_requirePlace_16 dX5_requirePlace_18 dX5_requirePlace_21 hexc ⟨Nat.le_of_ble_eq_true rfl, Nat.le_of_ble_eq_true rfl, Nat.le_of_ble_eq_true rfl, Nat.le_of_ble_eq_true rfl⟩ hlk (⟨rfl, nb_0 (by omega) h1⟩) (by decide) (by decide)
  · skip
    refine lv_iload_n hx hb dX5_requirePlace_4 rfl (lv_at hl 1 rfl) ?_
    refine lv_aload_n hx hb dX5_requirePlace_5 rfl (lv_at hl 0 rfl) ?_
    refine ax_get (k := 0) (v := .int (nI V)) hx hb hts in_X5_requirePlace_X5 hown hK hP (hm _ (by unfold lbX; omega)) c_o rfl 0 (by decide) (hts _ wd_X5_requirePlace_1) (fun _ h9 => h9) rfl dX5_requirePlace_6 ?_
    refine lv_icmp_le (x := x1) (y := nI V) (tgt := 22) hx hb dX5_requirePlace_9 (by decide) (fun h9 => ?_) (fun h9 => ?_)
    · skip
      exact hret g _ _ _ _ _ _ ⟨by decide, by decide⟩ ⟨rfl, yb_l (by omega) h1 h9⟩ hP hS dX5_requirePlace_22
    · skip
      rw [hQ]
      exact cx_throw (ik := 79) (ic := 83) (is := 211) (X := xIA) (text := "neither 0 nor a variable") hx hb hst9 hown hts (by decide) (by decide) th_X5_requirePlace_xIA hX hP hS (hl.1.trans hml.symm) dX5_requirePlace_12 dX5_requirePlace_15 dX5_requirePlace_16 dX5_requirePlace_18 dX5_requirePlace_21 hexc ⟨Nat.le_of_ble_eq_true rfl, Nat.le_of_ble_eq_true rfl, Nat.le_of_ble_eq_true rfl, Nat.le_of_ble_eq_true rfl⟩ hlk (⟨rfl, nb_l (by omega) h9⟩) (by decide) (by decide)

set_option maxRecDepth 20000 in
theorem wd_X5_requireAnalysed_0 : Cond.fieldLink RX5 104 "AffineHulls" "analysed" "Z" ∈ wsX5_requireAnalysed := by decide +kernel
set_option maxRecDepth 20000 in
theorem in_X5_requireAnalysed_X5 : ∀ w ∈ u_ws RX5 TX5 15, w ∈ wsX5_requireAnalysed := by decide +kernel
set_option maxRecDepth 20000 in
theorem th_X5_requireAnalysed_xIS : ∀ w ∈ Cond.classLink RX5 92 xIS :: Cond.initialized xIS :: (vx_atS RX5 96 xIS xNm).filter goodWord, w ∈ wsX5_requireAnalysed := by decide +kernel
abbrev rm_X5_requireAnalysed : Room := { frames := 6, cells := 1, slots := 6, locals := 82 }
set_option maxHeartbeats 4000000 in
set_option maxRecDepth 100000 in
theorem c_X5_requireAnalysed {l : Launch} (hst9 : l.stackTraces = false) {G : cx_G} {L : List Nat} {ad : Nat → Nat} {g : Nat → va_E} (hD : cx_D L ad) {N V M ec en al pl nc : Nat} {an : Bool} (hN : N ≤ 8) (hV1 : 1 ≤ V) (hV : V ≤ 4) (hM : M = N * (V + 1)) (hM2 : M ≤ 40) (hm : ∀ j : Nat, lbX N V M j → j ∈ L) (c_o : g 0 = .inr (5, [.int (nI V), .ref (ad 1), .ref (ad 4), .int (nI ec), .int (nI en), .ref (ad 5), .ref (ad 6), .int (nI al), .int (if an = true then 1 else 0), .int (nI pl), .ref (ad 2), .ref (ad 7), .int (nI nc), .ref (ad 180), .ref (ad 3)])) : XV l yX5_requireAnalysed wsX5_requireAnalysed rm_X5_requireAnalysed G L ad g [.ref (ad 0)] (fun u => u = g ∧ an = true) (fun E => E = xIS ∧ ¬ an = true) 1 6 := by
  refine cx_ofXV (cc := cX5_requireAnalysed) (maxL := 1) (by decide +kernel) rfl (Nat.le_of_ble_eq_true rfl) ?_
  intro p e s m args below meth c Q hQ hx hb hts hown hml hexc hlk hP hK hX hS hz hret ls hl
  have hown : s.vm.findClass RX5 = some m.cls := hown
  have hl : lv_has ls 1 [(0, .ref (ad 0))] := hl
  refine lv_aload_n hx hb dX5_requireAnalysed_0 rfl (lv_at hl 0 rfl) ?_
  refine ax_get (k := 0) (v := .int (if an = true then 1 else 0)) hx hb hts in_X5_requireAnalysed_X5 hown hK hP (hm _ (by unfold lbX; omega)) c_o rfl 8 (by decide) (hts _ wd_X5_requireAnalysed_0) (fun _ h9 => h9) rfl dX5_requireAnalysed_1 ?_
  refine ax_zne (b := an) (tgt := 17) hx hb dX5_requireAnalysed_4 (by decide) (fun h4 => ?_) (fun h4 => ?_)
  · skip
    exact hret g _ _ _ _ _ _ ⟨by decide, by decide⟩ ⟨rfl, h4⟩ hP hS dX5_requireAnalysed_17
  · skip
    rw [hQ]
    exact cx_throw (ik := 92) (ic := 96) (is := 213) (X := xIS) (text := "not analysed") hx hb hst9 hown hts (by decide) (by decide) th_X5_requireAnalysed_xIS hX hP hS (hl.1.trans hml.symm) dX5_requireAnalysed_7 dX5_requireAnalysed_10 dX5_requireAnalysed_11 dX5_requireAnalysed_13 dX5_requireAnalysed_16 hexc ⟨Nat.le_of_ble_eq_true rfl, Nat.le_of_ble_eq_true rfl, Nat.le_of_ble_eq_true rfl, Nat.le_of_ble_eq_true rfl⟩ hlk (⟨rfl, by rw [h4]; decide⟩) (by decide) (by decide)

set_option maxRecDepth 20000 in
theorem wd_X5_term_0 : Cond.fieldLink RX5 22 "AffineHulls" "draft" "[I" ∈ wsX5_term := by decide +kernel
set_option maxRecDepth 20000 in
theorem in_X5_term_X5 : ∀ w ∈ u_ws RX5 TX5 15, w ∈ wsX5_term := by decide +kernel
abbrev rm_X5_term : Room := { frames := 7, cells := 4, slots := 24, locals := 103 }
set_option maxHeartbeats 4000000 in
set_option maxRecDepth 100000 in
theorem c_X5_term {l : Launch} (hst9 : l.stackTraces = false) {G : cx_G} {L : List Nat} {ad : Nat → Nat} {g : Nat → va_E} (hD : cx_D L ad) {N V M ec en al pl nc : Nat} {an : Bool} {x1 x2 : Int32} {d : Nat → FF} (hN : N ≤ 8) (hV1 : 1 ≤ V) (hV : V ≤ 4) (hM : M = N * (V + 1)) (hM2 : M ≤ 40) (hm : ∀ j : Nat, lbX N V M j → j ∈ L) (c_o : g 0 = .inr (5, [.int (nI V), .ref (ad 1), .ref (ad 4), .int (nI ec), .int (nI en), .ref (ad 5), .ref (ad 6), .int (nI al), .int (if an = true then 1 else 0), .int (nI pl), .ref (ad 2), .ref (ad 7), .int (nI nc), .ref (ad 180), .ref (ad 3)])) (c_d : g 1 = nA G (V + 1) (vN d)) : XV l yX5_term wsX5_term rm_X5_term G L ad g [.ref (ad 0), .int x1, .int x2] (fun u => ∃ k1 : Nat, k1 < V + 1 ∧ x1 = nI k1 ∧ (∀ j : Nat, j ≠ 1 → u j = g j) ∧ u 1 = nA G (V + 1) (vN (nu d k1 (fi x2.toInt)))) (fun E => E = xIA ∧ ¬ inB 0 (V + 1) x1) 4 24 := by
  refine cx_ofXV (cc := cX5_term) (maxL := 3) (by decide +kernel) rfl (Nat.le_of_ble_eq_true rfl) ?_
  intro p e s m args below meth c Q hQ hx hb hts hown hml hexc hlk hP hK hX hS hz hret ls hl
  have hown : s.vm.findClass RX5 = some m.cls := hown
  have hl : lv_has ls 3 [(0, .ref (ad 0)), (1, .int x1), (2, .int x2)] := hl
  have fr : ∀ j : Nat, j ≠ 1 → g j = g j := fun _ _ => rfl
  refine lv_aload_n hx hb dX5_term_0 rfl (lv_at hl 0 rfl) ?_
  refine lv_iload_n hx hb dX5_term_1 rfl (lv_at hl 1 rfl) ?_
  refine cx_XVv (As := [.int x1]) (rest := []) (mc := 1) (ms := 6) ⟨hx, hb, hml, hown, hts⟩ (c_X5_requirePlace hst9 hD hN hV1 hV hM hM2 hm c_o (x1 := x1)) (cwV 1 hts gX5_term_X5_requirePlace rfl rfl rfl (by decide +kernel) ⟨Nat.le_of_ble_eq_true rfl, Nat.le_of_ble_eq_true rfl⟩) hK hX hP hS hz (hm _ (by unfold lbX; omega)) c_o rfl ⟨Nat.le_of_ble_eq_true rfl, Nat.le_of_ble_eq_true rfl⟩ rfl hl.1 rfl (Nat.le_of_ble_eq_true rfl) dX5_term_2 (fun E ce q9 H locs hE hP hS h1x h2x h3x => by rw [hQ]; exact cx_leave hexc hlk h1x h2x h3x (⟨hE.1, hE.2⟩) hP hS (by decide) (by decide)) (fun g1 H locs hp1 hP hS => ?_)
  obtain ⟨ehp1, k1, hk1a, hk1b, rfl⟩ := hp1
  rw [ehp1] at hP
  refine lv_aload_n hx hb dX5_term_5 rfl (lv_at hl 0 rfl) ?_
  refine ax_get (k := 0) (v := .ref (ad 1)) hx hb hts in_X5_term_X5 hown hK hP (hm _ (by unfold lbX; omega)) c_o rfl 1 (by decide) (hts _ wd_X5_term_0) (fun _ h9 => h9) rfl dX5_term_6 ?_
  refine lv_iload_n hx hb dX5_term_9 rfl (lv_at hl 1 rfl) ?_
  refine lv_iload_n hx hb dX5_term_10 rfl (lv_at hl 2 rfl) ?_
  refine cx_Si (As := [.int x2]) (rest := [.int (nI k1), .ref (ad 1)]) ⟨hx, hb, hml, hown, hts⟩ (c_X5_number hD (x := x2)) (va_cwS 1 hts gX5_term_X5_number rfl rfl rfl (by decide +kernel) ⟨Nat.le_of_ble_eq_true rfl, Nat.le_of_ble_eq_true rfl⟩) hK hP hS hz ⟨Nat.le_of_ble_eq_true rfl, Nat.le_of_ble_eq_true rfl⟩ rfl hl.1 rfl (Nat.le_of_ble_eq_true rfl) dX5_term_11 (fun r2 g2 H locs hp2 hP hS => ?_)
  obtain ⟨er2, ehp2g⟩ := hp2
  rw [ehp2g] at hP
  rw [er2]
  refine ax_iast (k := 1) (i := k1) (f' := (fun j => nI ((nu (vN d) k1 ((fi (x2).toInt).val)) j))) hx hb hK hP hD hS (hm _ (by unfold lbX; omega)) c_d (by omega) (by omega) (up_n _ _ _) dX5_term_14 (fun H locs g3 eg3 hP hS => ?_)
  have c_o : g3 0 = .inr (5, [.int (nI V), .ref (ad 1), .ref (ad 4), .int (nI ec), .int (nI en), .ref (ad 5), .ref (ad 6), .int (nI al), .int (if an = true then 1 else 0), .int (nI pl), .ref (ad 2), .ref (ad 7), .int (nI nc), .ref (ad 180), .ref (ad 3)]) := (cx_ne eg3 0 (by omega)).trans c_o
  have c_d : g3 1 = nA G (V + 1) (nu (vN d) k1 ((fi (x2).toInt).val)) := cx_eq eg3
  have fr : ∀ j : Nat, j ≠ 1 → g3 j = g j := fun j hj => (cx_ne eg3 j (by omega)).trans (fr j hj)
  exact hret g3 _ _ _ _ _ _ ⟨by decide, by decide⟩ ⟨k1, hk1b, rfl, fr, by rw [vN_nu] at c_d; exact c_d⟩ hP hS dX5_term_15

theorem XE.set {G : cx_G} {ad : Nat → Nat} {g u : Nat → va_E} {V k a b q : Nat} {z : Int32} {ef et ek : Nat → Nat} {ez : Nat → Int32} {eg : Nat → Nat → FF} {v : Nat → FF} (h : XE G ad g V ef et ek ez eg) (hk : ∀ j : Nat, (j ≠ 300 + 2 * k ∧ j ≠ 301 + 2 * k) → u j = g j) (h1 : u (300 + 2 * k) = .inr (0, [.int (nI a), .int (nI b), .int (nI q), .int z, .ref (ad (301 + 2 * k))])) (h2 : u (301 + 2 * k) = nA G (V + 1) (vN v)) : XE G ad u V (nu ef k a) (nu et k b) (nu ek k q) (nu ez k z) (nu eg k v) := by
  refine ⟨fun i hi => ?_, fun i hi => ?_⟩
  · by_cases e : i = k
    · subst e; rw [nu_s, nu_s, nu_s, nu_s]; exact h1
    · rw [nu_n e, nu_n e, nu_n e, nu_n e]; exact (hk _ (by omega)).trans (h.1 i hi)
  · by_cases e : i = k
    · subst e; rw [nu_s]; exact h2
    · rw [nu_n e]; exact (hk _ (by omega)).trans (h.2 i hi)
theorem EV.snoc {N V ec a b q x : Nat} {z : Int32} {ef et ek ev : Nat → Nat} {ez : Nat → Int32} {eg : Nat → Nat → FF} {v : Nat → FF} (h : EV N V ec ef et ek ez ev eg) (h0 : ec < 20) (ha : a < N) (hb : b < N) (hq : q ≤ 4) (hx : q = 1 ∨ q = 2 → z = nI x ∧ 1 ≤ x ∧ x < V + 1) (hv : Zb (V + 1) v) : EV N V (ec + 1) (nu ef ec a) (nu et ec b) (nu ek ec q) (nu ez ec z) (nu ev ec x) (nu eg ec v) := by
  refine ⟨h0, fun i hi => ?_, fun i => ?_⟩
  · by_cases e : i = ec
    · subst e; rw [nu_s, nu_s, nu_s, nu_s, nu_s]; exact ⟨ha, hb, hq, hx⟩
    · rw [nu_n e, nu_n e, nu_n e, nu_n e, nu_n e]; exact h.2.1 i (by omega)
  · by_cases e : i = ec
    · rw [e, nu_s]; exact hv
    · rw [nu_n e]; exact h.2.2 i

set_option maxRecDepth 20000 in
theorem th_X5_edge_xIA : ∀ w ∈ Cond.classLink RX5 79 xIA :: Cond.initialized xIA :: (vx_atS RX5 83 xIA xNm).filter goodWord, w ∈ wsX5_edge := by decide +kernel
set_option maxRecDepth 20000 in
theorem wd_X5_edge_1 : Cond.fieldLink RX5 89 "AffineHulls" "edgeCount" "I" ∈ wsX5_edge := by decide +kernel
set_option maxRecDepth 20000 in
theorem in_X5_edge_X5 : ∀ w ∈ u_ws RX5 TX5 15, w ∈ wsX5_edge := by decide +kernel
set_option maxRecDepth 20000 in
theorem wd_X5_edge_3 : Cond.fieldLink RX5 43 "AffineHulls" "edges" "[LAffineHulls$Edge;" ∈ wsX5_edge := by decide +kernel
set_option maxRecDepth 20000 in
theorem wd_X5_edge_4 : Cond.fieldLink RX5 22 "AffineHulls" "draft" "[I" ∈ wsX5_edge := by decide +kernel
set_option maxRecDepth 20000 in
theorem wd_X5_edge_5 : Cond.fieldLink RX5 104 "AffineHulls" "analysed" "Z" ∈ wsX5_edge := by decide +kernel
set_option maxRecDepth 20000 in
theorem th_X5_edge_xIS : ∀ w ∈ Cond.classLink RX5 92 xIS :: Cond.initialized xIS :: (vx_atS RX5 96 xIS xNm).filter goodWord, w ∈ wsX5_edge := by decide +kernel
abbrev rm_X5_edge : Room := { frames := 7, cells := 4, slots := 24, locals := 106 }
set_option maxHeartbeats 4000000 in
set_option maxRecDepth 100000 in
theorem c_X5_edge {l : Launch} (hst9 : l.stackTraces = false) {G : cx_G} {L : List Nat} {ad : Nat → Nat} {g : Nat → va_E} (hD : cx_D L ad) {N V M ec en al pl nc : Nat} {an : Bool} {x1 x2 x3 x4 : Int32} {d : Nat → FF} {ef et ek ev : Nat → Nat} {ez : Nat → Int32} {eg : Nat → Nat → FF} (hN : N ≤ 8) (hV1 : 1 ≤ V) (hV : V ≤ 4) (hM : M = N * (V + 1)) (hM2 : M ≤ 40) (hm : ∀ j : Nat, lbX N V M j → j ∈ L) (c_o : g 0 = .inr (5, [.int (nI V), .ref (ad 1), .ref (ad 4), .int (nI ec), .int (nI en), .ref (ad 5), .ref (ad 6), .int (nI al), .int (if an = true then 1 else 0), .int (nI pl), .ref (ad 2), .ref (ad 7), .int (nI nc), .ref (ad 180), .ref (ad 3)])) (c_d : g 1 = nA G (V + 1) (vN d)) (c_E : g 4 = rA (G.2 2) 20 (fun i => if i < 20 then some (ad (300 + 2 * i)) else none)) (c_H : g 5 = rA (G.2 3) N (fun i => if i < N then some (ad (200 + 2 * i)) else none)) (hd : Zb (V + 1) d) (hev : EV N V ec ef et ek ez ev eg) (xe : XE G ad g V ef et ek ez eg) : XI l yX5_edge wsX5_edge rm_X5_edge G L ad g [.ref (ad 0), .int x1, .int x2, .int x3, .int x4] (fun r u => r = nI ec ∧ ∃ k1 k2 k3 k4 : Nat, x1 = nI k1 ∧ x2 = nI k2 ∧ x3 = nI k3 ∧ k1 < N ∧ k2 < N ∧ k3 < 5 ∧ (k3 = 1 ∨ k3 = 2 → x4 = nI k4 ∧ 1 ≤ k4 ∧ k4 < V + 1) ∧ ec < 20 ∧ (∀ j : Nat, (j ≠ 0 ∧ j ≠ 1 ∧ ¬ (300 ≤ j ∧ j < 340)) → u j = g j) ∧ u 0 = .inr (5, [.int (nI V), .ref (ad 1), .ref (ad 4), .int (nI (ec + 1)), .int (nI en), .ref (ad 5), .ref (ad 6), .int (nI al), .int (if false = true then 1 else 0), .int (nI pl), .ref (ad 2), .ref (ad 7), .int (nI nc), .ref (ad 180), .ref (ad 3)]) ∧ u 1 = nA G (V + 1) (vN (fun _ => 0)) ∧ XE G ad u V (nu ef ec k1) (nu et ec k2) (nu ek ec k3) (nu ez ec x4) (nu eg ec d) ∧ EV N V (ec + 1) (nu ef ec k1) (nu et ec k2) (nu ek ec k3) (nu ez ec x4) (nu ev ec k4) (nu eg ec d)) (fun E => (E = xIA ∧ ¬ (inB 0 N x1 ∧ inB 0 N x2 ∧ inB 0 5 x3 ∧ (x3 = nI 1 ∨ x3 = nI 2 → inB 1 (V + 1) x4))) ∨ (E = xIS ∧ (inB 0 N x1 ∧ inB 0 N x2 ∧ inB 0 5 x3 ∧ (x3 = nI 1 ∨ x3 = nI 2 → inB 1 (V + 1) x4)) ∧ ¬ ec < 20)) 4 24 := by
  refine cx_ofXI (cc := cX5_edge) (maxL := 5) (by decide +kernel) rfl (Nat.le_of_ble_eq_true rfl) ?_
  intro p e s m args below meth c Q hQ hx hb hts hown hml hexc hlk hP hK hX hS hz hret ls hl
  have hown : s.vm.findClass RX5 = some m.cls := hown
  have hl : lv_has ls 5 [(0, .ref (ad 0)), (1, .int x1), (2, .int x2), (3, .int x3), (4, .int x4)] := hl
  have fr : ∀ j : Nat, (j ≠ 0 ∧ j ≠ 1 ∧ ¬ (300 ≤ j ∧ j < 340)) → g j = g j := fun _ _ => rfl
  have hec := hev.1
  refine lv_aload_n hx hb dX5_edge_0 rfl (lv_at hl 0 rfl) ?_
  refine lv_iload_n hx hb dX5_edge_1 rfl (lv_at hl 1 rfl) ?_
  refine cx_XVv (As := [.int x1]) (rest := []) (mc := 1) (ms := 6) ⟨hx, hb, hml, hown, hts⟩ (c_X5_requireNode hst9 hD hN hV1 hV hM hM2 hm c_o c_H (x1 := x1)) (cwV 1 hts gX5_edge_X5_requireNode rfl rfl rfl (by decide +kernel) ⟨Nat.le_of_ble_eq_true rfl, Nat.le_of_ble_eq_true rfl⟩) hK hX hP hS hz (hm _ (by unfold lbX; omega)) c_o rfl ⟨Nat.le_of_ble_eq_true rfl, Nat.le_of_ble_eq_true rfl⟩ rfl hl.1 rfl (Nat.le_of_ble_eq_true rfl) dX5_edge_2 (fun E ce q9 H locs hE hP hS h1x h2x h3x => by rw [hQ]; exact cx_leave hexc hlk h1x h2x h3x (Or.inl ⟨hE.1, fun q => hE.2 q.1⟩) hP hS (by decide) (by decide)) (fun g1 H locs hp1 hP hS => ?_)
  obtain ⟨ehp1, k1, hk1a, hk1b, rfl⟩ := hp1
  rw [ehp1] at hP
  refine lv_aload_n hx hb dX5_edge_5 rfl (lv_at hl 0 rfl) ?_
  refine lv_iload_n hx hb dX5_edge_6 rfl (lv_at hl 2 rfl) ?_
  refine cx_XVv (As := [.int x2]) (rest := []) (mc := 1) (ms := 6) ⟨hx, hb, hml, hown, hts⟩ (c_X5_requireNode hst9 hD hN hV1 hV hM hM2 hm c_o c_H (x1 := x2)) (cwV 1 hts gX5_edge_X5_requireNode rfl rfl rfl (by decide +kernel) ⟨Nat.le_of_ble_eq_true rfl, Nat.le_of_ble_eq_true rfl⟩) hK hX hP hS hz (hm _ (by unfold lbX; omega)) c_o rfl ⟨Nat.le_of_ble_eq_true rfl, Nat.le_of_ble_eq_true rfl⟩ rfl hl.1 rfl (Nat.le_of_ble_eq_true rfl) dX5_edge_7 (fun E ce q9 H locs hE hP hS h1x h2x h3x => by rw [hQ]; exact cx_leave hexc hlk h1x h2x h3x (Or.inl ⟨hE.1, fun q => hE.2 q.2.1⟩) hP hS (by decide) (by decide)) (fun g2 H locs hp2 hP hS => ?_)
  obtain ⟨ehp2, k2, hk2a, hk2b, rfl⟩ := hp2
  rw [ehp2] at hP
  refine lv_iload_n hx hb dX5_edge_10 rfl (lv_at hl 3 rfl) ?_
  refine lv_if_lt (x := x3) (tgt := 19) hx hb dX5_edge_11 (by decide) (fun h11 => ?_) (fun h11 => ?_)
  · skip
    rw [hQ]
    exact cx_throw (ik := 79) (ic := 83) (is := 81) (X := xIA) (text := "no such kind") hx hb hst9 hown hts (by decide) (by decide) th_X5_edge_xIA hX hP hS (hl.1.trans hml.symm) dX5_edge_19 dX5_edge_22 dX5_edge_23 dX5_edge_25 dX5_edge_28 hexc ⟨Nat.le_of_ble_eq_true rfl, Nat.le_of_ble_eq_true rfl, Nat.le_of_ble_eq_true rfl, Nat.le_of_ble_eq_true rfl⟩ hlk (Or.inl ⟨rfl, fun q => nb_0 (by omega) h11 q.2.2.1⟩) (by decide) (by decide)
  · skip
    refine lv_iload_n hx hb dX5_edge_14 rfl (lv_at hl 3 rfl) ?_
    refine lv_iconst (v := nI 4) hx hb dX5_edge_15 (by decide) ?_
    refine lv_icmp_le (x := x3) (y := nI 4) (tgt := 29) hx hb dX5_edge_16 (by decide) (fun h16 => ?_) (fun h16 => ?_)
    · skip
      obtain ⟨k3, hk3a, hk3b, rfl⟩ := yb_l (n := 4) (by omega) h11 h16
      refine lv_iload_n hx hb dX5_edge_29 rfl (lv_at hl 3 rfl) ?_
      refine lv_iconst (v := nI 1) hx hb dX5_edge_30 (by decide) ?_
      refine ax_iceq (a := k3) (b := 1) (tgt := 39) hx hb dX5_edge_31 (by decide) (by omega) (by omega) (fun h31 => ?_) (fun h31 => ?_)
      · skip
        refine lv_aload_n hx hb dX5_edge_39 rfl (lv_at hl 0 rfl) ?_
        refine lv_iload hx hb dX5_edge_40 (lv_at hl 4 rfl) ?_
        refine cx_XVv (As := [.int x4]) (rest := []) (mc := 1) (ms := 6) ⟨hx, hb, hml, hown, hts⟩ (c_X5_requireVariable hst9 hD hN hV1 hV hM hM2 hm c_o (x1 := x4)) (cwV 1 hts gX5_edge_X5_requireVariable rfl rfl rfl (by decide +kernel) ⟨Nat.le_of_ble_eq_true rfl, Nat.le_of_ble_eq_true rfl⟩) hK hX hP hS hz (hm _ (by unfold lbX; omega)) c_o rfl ⟨Nat.le_of_ble_eq_true rfl, Nat.le_of_ble_eq_true rfl⟩ rfl hl.1 rfl (Nat.le_of_ble_eq_true rfl) dX5_edge_42 (fun E ce q9 H locs hE hP hS h1x h2x h3x => by rw [hQ]; exact cx_leave hexc hlk h1x h2x h3x (Or.inl ⟨hE.1, fun q => hE.2 (q.2.2.2 (by first | exact Or.inl (by rw [h31]) | exact Or.inr (by rw [h36])))⟩) hP hS (by decide) (by decide)) (fun g3 H locs hp3 hP hS => ?_)
        obtain ⟨ehp3, k4, hk4a, hk4b, rfl⟩ := hp3
        rw [ehp3] at hP
        refine lv_aload_n hx hb dX5_edge_45 rfl (lv_at hl 0 rfl) ?_
        refine ax_get (k := 0) (v := .int (nI ec)) hx hb hts in_X5_edge_X5 hown hK hP (hm _ (by unfold lbX; omega)) c_o rfl 3 (by decide) (hts _ wd_X5_edge_1) (fun _ h9 => h9) rfl dX5_edge_46 ?_
        refine lv_bipush (v := nI 20) hx hb dX5_edge_49 (by decide) ?_
        refine ax_iclt (a := ec) (b := 20) (tgt := 64) hx hb dX5_edge_51 (by decide) (by omega) (by omega) (fun h51 => ?_) (fun h51 => ?_)
        · skip
          have c_ed := xe.1 ec (by omega)
          have c_ef := xe.2 ec (by omega)
          refine lv_aload_n hx hb dX5_edge_64 rfl (lv_at hl 0 rfl) ?_
          refine ax_get (k := 0) (v := .ref (ad 4)) hx hb hts in_X5_edge_X5 hown hK hP (hm _ (by unfold lbX; omega)) c_o rfl 2 (by decide) (hts _ wd_X5_edge_3) (fun _ h9 => h9) rfl dX5_edge_65 ?_
          refine lv_aload_n hx hb dX5_edge_68 rfl (lv_at hl 0 rfl) ?_
          refine ax_get (k := 0) (v := .int (nI ec)) hx hb hts in_X5_edge_X5 hown hK hP (hm _ (by unfold lbX; omega)) c_o rfl 3 (by decide) (hts _ wd_X5_edge_1) (fun _ h9 => h9) rfl dX5_edge_69 ?_
          refine ax_aald (k := 4) (i := ec) (b := ad (300 + 2 * ec)) hx hb hK hP (hm _ (by unfold lbX; omega)) 2 rfl rfl c_E (by omega) (by omega) (if_pos (by omega)) dX5_edge_72 ?_
          refine lv_iload_n hx hb dX5_edge_73 rfl (lv_at hl 1 rfl) ?_
          refine lv_iload_n hx hb dX5_edge_74 rfl (lv_at hl 2 rfl) ?_
          refine lv_iload_n hx hb dX5_edge_75 rfl (lv_at hl 3 rfl) ?_
          refine lv_iload hx hb dX5_edge_76 (lv_at hl 4 rfl) ?_
          refine lv_aload_n hx hb dX5_edge_78 rfl (lv_at hl 0 rfl) ?_
          refine ax_get (k := 0) (v := .ref (ad 1)) hx hb hts in_X5_edge_X5 hown hK hP (hm _ (by unfold lbX; omega)) c_o rfl 1 (by decide) (hts _ wd_X5_edge_4) (fun _ h9 => h9) rfl dX5_edge_79 ?_
          refine cx_Vv (As := [.int (nI k1), .int (nI k2), .int (nI k3), .int (nI k4), .ref (ad 1)]) (rest := []) ⟨hx, hb, hml, hown, hts⟩ (c_X0_set hD (k := 300 + 2 * ec) (kf := 301 + 2 * ec) (b := 1) (n := V + 1) (v := d) (w := eg ec) (by omega) (by omega) (by omega) (hm _ (by unfold lbX; omega)) (hm _ (by unfold lbX; omega)) (hm _ (by unfold lbX; omega)) (by omega) c_ed c_ef c_d) (cwV 5 hts gX5_edge_X0_set rfl rfl rfl (by decide +kernel) ⟨Nat.le_of_ble_eq_true rfl, Nat.le_of_ble_eq_true rfl⟩) hK hP hS hz (hm _ (by unfold lbX; omega)) c_ed rfl ⟨Nat.le_of_ble_eq_true rfl, Nat.le_of_ble_eq_true rfl⟩ rfl hl.1 rfl (Nat.le_of_ble_eq_true rfl) dX5_edge_82 (fun g4 H locs hp4 hP hS => ?_)
          obtain ⟨hp4a, hp4b, hp4c⟩ := hp4
          have c_o : g4 0 = .inr (5, [.int (nI V), .ref (ad 1), .ref (ad 4), .int (nI ec), .int (nI en), .ref (ad 5), .ref (ad 6), .int (nI al), .int (if an = true then 1 else 0), .int (nI pl), .ref (ad 2), .ref (ad 7), .int (nI nc), .ref (ad 180), .ref (ad 3)]) := (hp4a 0 (by omega)).trans c_o
          have c_d : g4 1 = nA G (V + 1) (vN d) := (hp4a 1 (by omega)).trans c_d
          have c_E : g4 4 = rA (G.2 2) 20 (fun i => if i < 20 then some (ad (300 + 2 * i)) else none) := (hp4a 4 (by omega)).trans c_E
          have c_H : g4 5 = rA (G.2 3) N (fun i => if i < N then some (ad (200 + 2 * i)) else none) := (hp4a 5 (by omega)).trans c_H
          have fr : ∀ j : Nat, (j ≠ 0 ∧ j ≠ 1 ∧ ¬ (300 ≤ j ∧ j < 340)) → g4 j = g j := fun j hj => (hp4a j (by omega)).trans (fr j hj)
          rw [cpv_z hd (hev.2.2 ec)] at hp4c
          have xe : XE G ad g4 V (nu ef ec k1) (nu et ec k2) (nu ek ec k3) (nu ez ec (nI k4)) (nu eg ec d) := xe.set hp4a hp4b hp4c
          refine lv_aload_n hx hb dX5_edge_85 rfl (lv_at hl 0 rfl) ?_
          refine lv_dup hx hb dX5_edge_86 rfl ?_
          refine ax_get (k := 0) (v := .int (nI ec)) hx hb hts in_X5_edge_X5 hown hK hP (hm _ (by unfold lbX; omega)) c_o rfl 3 (by decide) (hts _ wd_X5_edge_1) (fun _ h9 => h9) rfl dX5_edge_87 ?_
          refine lv_iconst (v := nI 1) hx hb dX5_edge_90 (by decide) ?_
          refine ax_add (a := ec) (b := 1) hx hb dX5_edge_91 ?_
          refine ax_put (k := 0) (v := .int (nI (ec + 1))) (fs' := [.int (nI V), .ref (ad 1), .ref (ad 4), .int (nI (ec + 1)), .int (nI en), .ref (ad 5), .ref (ad 6), .int (nI al), .int (if an = true then 1 else 0), .int (nI pl), .ref (ad 2), .ref (ad 7), .int (nI nc), .ref (ad 180), .ref (ad 3)]) hx hb hts in_X5_edge_X5 tyX5 tyX5_ok nmX5 hown hK hP hD hS (hm _ (by unfold lbX; omega)) c_o rfl 3 (by decide) (hts _ wd_X5_edge_1) (fun _ h9 => h9) rfl (ty := .int) (by decide +kernel) rfl rfl (Nat.le_of_ble_eq_true rfl) rfl dX5_edge_92 (fun H locs g5 eg5 hP hS => ?_)
          have c_d : g5 1 = nA G (V + 1) (vN d) := (cx_ne eg5 1 (by omega)).trans c_d
          have c_E : g5 4 = rA (G.2 2) 20 (fun i => if i < 20 then some (ad (300 + 2 * i)) else none) := (cx_ne eg5 4 (by omega)).trans c_E
          have c_H : g5 5 = rA (G.2 3) N (fun i => if i < N then some (ad (200 + 2 * i)) else none) := (cx_ne eg5 5 (by omega)).trans c_H
          have xe : XE G ad g5 V (nu ef ec k1) (nu et ec k2) (nu ek ec k3) (nu ez ec (nI k4)) (nu eg ec d) := xe.kept (fun j h1 h2 => cx_ne eg5 j (by omega))
          have c_o : g5 0 = .inr (5, [.int (nI V), .ref (ad 1), .ref (ad 4), .int (nI (ec + 1)), .int (nI en), .ref (ad 5), .ref (ad 6), .int (nI al), .int (if an = true then 1 else 0), .int (nI pl), .ref (ad 2), .ref (ad 7), .int (nI nc), .ref (ad 180), .ref (ad 3)]) := cx_eq eg5
          have fr : ∀ j : Nat, (j ≠ 0 ∧ j ≠ 1 ∧ ¬ (300 ≤ j ∧ j < 340)) → g5 j = g j := fun j hj => (cx_ne eg5 j (by omega)).trans (fr j hj)
          refine lv_aload_n hx hb dX5_edge_95 rfl (lv_at hl 0 rfl) ?_
          refine cx_Vv (As := []) (rest := []) ⟨hx, hb, hml, hown, hts⟩ (c_X5_clearDraft hD hN hV1 hV hM hM2 hm (d := d) c_o c_d) (cwV 0 hts gX5_edge_X5_clearDraft rfl rfl rfl (by decide +kernel) ⟨Nat.le_of_ble_eq_true rfl, Nat.le_of_ble_eq_true rfl⟩) hK hP hS hz (hm _ (by unfold lbX; omega)) c_o rfl ⟨Nat.le_of_ble_eq_true rfl, Nat.le_of_ble_eq_true rfl⟩ rfl hl.1 rfl (Nat.le_of_ble_eq_true rfl) dX5_edge_96 (fun g6 H locs hp6 hP hS => ?_)
          obtain ⟨hp6a, hp6b⟩ := hp6
          have c_o : g6 0 = .inr (5, [.int (nI V), .ref (ad 1), .ref (ad 4), .int (nI (ec + 1)), .int (nI en), .ref (ad 5), .ref (ad 6), .int (nI al), .int (if an = true then 1 else 0), .int (nI pl), .ref (ad 2), .ref (ad 7), .int (nI nc), .ref (ad 180), .ref (ad 3)]) := (hp6a 0 (by omega)).trans c_o
          have c_E : g6 4 = rA (G.2 2) 20 (fun i => if i < 20 then some (ad (300 + 2 * i)) else none) := (hp6a 4 (by omega)).trans c_E
          have c_H : g6 5 = rA (G.2 3) N (fun i => if i < N then some (ad (200 + 2 * i)) else none) := (hp6a 5 (by omega)).trans c_H
          have xe : XE G ad g6 V (nu ef ec k1) (nu et ec k2) (nu ek ec k3) (nu ez ec (nI k4)) (nu eg ec d) := xe.kept (fun j h1 h2 => hp6a j (by omega))
          have fr : ∀ j : Nat, (j ≠ 0 ∧ j ≠ 1 ∧ ¬ (300 ≤ j ∧ j < 340)) → g6 j = g j := fun j hj => (hp6a j (by omega)).trans (fr j hj)
          have c_d := hp6b
          rw [fl0_z hd] at c_d
          refine lv_aload_n hx hb dX5_edge_99 rfl (lv_at hl 0 rfl) ?_
          refine lv_iconst (v := nI 0) hx hb dX5_edge_100 (by decide) ?_
          refine ax_put (k := 0) (v := .int (nI 0)) (fs' := [.int (nI V), .ref (ad 1), .ref (ad 4), .int (nI (ec + 1)), .int (nI en), .ref (ad 5), .ref (ad 6), .int (nI al), .int (nI 0), .int (nI pl), .ref (ad 2), .ref (ad 7), .int (nI nc), .ref (ad 180), .ref (ad 3)]) hx hb hts in_X5_edge_X5 tyX5 tyX5_ok nmX5 hown hK hP hD hS (hm _ (by unfold lbX; omega)) c_o rfl 8 (by decide) (hts _ wd_X5_edge_5) (fun _ h9 => h9) rfl (ty := .boolean) (by decide +kernel) (by decide) (by decide) (Nat.le_of_ble_eq_true rfl) rfl dX5_edge_101 (fun H locs g7 eg7 hP hS => ?_)
          have c_d : g7 1 = nA G (V + 1) (vN (fun _ => 0)) := (cx_ne eg7 1 (by omega)).trans c_d
          have c_E : g7 4 = rA (G.2 2) 20 (fun i => if i < 20 then some (ad (300 + 2 * i)) else none) := (cx_ne eg7 4 (by omega)).trans c_E
          have c_H : g7 5 = rA (G.2 3) N (fun i => if i < N then some (ad (200 + 2 * i)) else none) := (cx_ne eg7 5 (by omega)).trans c_H
          have xe : XE G ad g7 V (nu ef ec k1) (nu et ec k2) (nu ek ec k3) (nu ez ec (nI k4)) (nu eg ec d) := xe.kept (fun j h1 h2 => cx_ne eg7 j (by omega))
          have c_o : g7 0 = .inr (5, [.int (nI V), .ref (ad 1), .ref (ad 4), .int (nI (ec + 1)), .int (nI en), .ref (ad 5), .ref (ad 6), .int (nI al), .int (nI 0), .int (nI pl), .ref (ad 2), .ref (ad 7), .int (nI nc), .ref (ad 180), .ref (ad 3)]) := cx_eq eg7
          have fr : ∀ j : Nat, (j ≠ 0 ∧ j ≠ 1 ∧ ¬ (300 ≤ j ∧ j < 340)) → g7 j = g j := fun j hj => (cx_ne eg7 j (by omega)).trans (fr j hj)
          refine lv_aload_n hx hb dX5_edge_104 rfl (lv_at hl 0 rfl) ?_
          refine ax_get (k := 0) (v := .int (nI (ec + 1))) hx hb hts in_X5_edge_X5 hown hK hP (hm _ (by unfold lbX; omega)) c_o rfl 3 (by decide) (hts _ wd_X5_edge_1) (fun _ h9 => h9) rfl dX5_edge_105 ?_
          refine lv_iconst (v := nI 1) hx hb dX5_edge_108 (by decide) ?_
          refine ax_sub (a := ec + 1) (b := 1) hx hb dX5_edge_109 (by omega) ?_
          exact hret (nI (ec + 1 - 1)) g7 _ _ _ _ _ _ ⟨by decide, by decide⟩ rfl ⟨rfl, k1, k2, k3, k4, rfl, rfl, rfl, hk1b, hk2b, hk3b, (fun q => ⟨rfl, hk4a, hk4b⟩), h51, fr, c_o, c_d, xe, hev.snoc h51 hk1b hk2b (by omega) (fun q => ⟨rfl, hk4a, hk4b⟩) hd⟩ hP hS dX5_edge_110
        · skip
          rw [hQ]
          exact cx_throw (ik := 92) (ic := 96) (is := 94) (X := xIS) (text := "no more edges") hx hb hst9 hown hts (by decide) (by decide) th_X5_edge_xIS hX hP hS (hl.1.trans hml.symm) dX5_edge_54 dX5_edge_57 dX5_edge_58 dX5_edge_60 dX5_edge_63 hexc ⟨Nat.le_of_ble_eq_true rfl, Nat.le_of_ble_eq_true rfl, Nat.le_of_ble_eq_true rfl, Nat.le_of_ble_eq_true rfl⟩ hlk (Or.inr ⟨rfl, ⟨inB_lit hk1a hk1b, inB_lit hk2a hk2b, inB_lit hk3a hk3b, fun _ => inB_lit hk4a hk4b⟩, by omega⟩) (by decide) (by decide)
      · skip
        refine lv_iload_n hx hb dX5_edge_34 rfl (lv_at hl 3 rfl) ?_
        refine lv_iconst (v := nI 2) hx hb dX5_edge_35 (by decide) ?_
        refine ax_icne (a := k3) (b := 2) (tgt := 45) hx hb dX5_edge_36 (by decide) (by omega) (by omega) (fun h36 => ?_) (fun h36 => ?_)
        · skip
          refine lv_aload_n hx hb dX5_edge_45 rfl (lv_at hl 0 rfl) ?_
          refine ax_get (k := 0) (v := .int (nI ec)) hx hb hts in_X5_edge_X5 hown hK hP (hm _ (by unfold lbX; omega)) c_o rfl 3 (by decide) (hts _ wd_X5_edge_1) (fun _ h9 => h9) rfl dX5_edge_46 ?_
          refine lv_bipush (v := nI 20) hx hb dX5_edge_49 (by decide) ?_
          refine ax_iclt (a := ec) (b := 20) (tgt := 64) hx hb dX5_edge_51 (by decide) (by omega) (by omega) (fun h51 => ?_) (fun h51 => ?_)
          · skip
            have c_ed := xe.1 ec (by omega)
            have c_ef := xe.2 ec (by omega)
            refine lv_aload_n hx hb dX5_edge_64 rfl (lv_at hl 0 rfl) ?_
            refine ax_get (k := 0) (v := .ref (ad 4)) hx hb hts in_X5_edge_X5 hown hK hP (hm _ (by unfold lbX; omega)) c_o rfl 2 (by decide) (hts _ wd_X5_edge_3) (fun _ h9 => h9) rfl dX5_edge_65 ?_
            refine lv_aload_n hx hb dX5_edge_68 rfl (lv_at hl 0 rfl) ?_
            refine ax_get (k := 0) (v := .int (nI ec)) hx hb hts in_X5_edge_X5 hown hK hP (hm _ (by unfold lbX; omega)) c_o rfl 3 (by decide) (hts _ wd_X5_edge_1) (fun _ h9 => h9) rfl dX5_edge_69 ?_
            refine ax_aald (k := 4) (i := ec) (b := ad (300 + 2 * ec)) hx hb hK hP (hm _ (by unfold lbX; omega)) 2 rfl rfl c_E (by omega) (by omega) (if_pos (by omega)) dX5_edge_72 ?_
            refine lv_iload_n hx hb dX5_edge_73 rfl (lv_at hl 1 rfl) ?_
            refine lv_iload_n hx hb dX5_edge_74 rfl (lv_at hl 2 rfl) ?_
            refine lv_iload_n hx hb dX5_edge_75 rfl (lv_at hl 3 rfl) ?_
            refine lv_iload hx hb dX5_edge_76 (lv_at hl 4 rfl) ?_
            refine lv_aload_n hx hb dX5_edge_78 rfl (lv_at hl 0 rfl) ?_
            refine ax_get (k := 0) (v := .ref (ad 1)) hx hb hts in_X5_edge_X5 hown hK hP (hm _ (by unfold lbX; omega)) c_o rfl 1 (by decide) (hts _ wd_X5_edge_4) (fun _ h9 => h9) rfl dX5_edge_79 ?_
            refine cx_Vv (As := [.int (nI k1), .int (nI k2), .int (nI k3), .int x4, .ref (ad 1)]) (rest := []) ⟨hx, hb, hml, hown, hts⟩ (c_X0_set hD (k := 300 + 2 * ec) (kf := 301 + 2 * ec) (b := 1) (n := V + 1) (v := d) (w := eg ec) (by omega) (by omega) (by omega) (hm _ (by unfold lbX; omega)) (hm _ (by unfold lbX; omega)) (hm _ (by unfold lbX; omega)) (by omega) c_ed c_ef c_d) (cwV 5 hts gX5_edge_X0_set rfl rfl rfl (by decide +kernel) ⟨Nat.le_of_ble_eq_true rfl, Nat.le_of_ble_eq_true rfl⟩) hK hP hS hz (hm _ (by unfold lbX; omega)) c_ed rfl ⟨Nat.le_of_ble_eq_true rfl, Nat.le_of_ble_eq_true rfl⟩ rfl hl.1 rfl (Nat.le_of_ble_eq_true rfl) dX5_edge_82 (fun g8 H locs hp8 hP hS => ?_)
            obtain ⟨hp8a, hp8b, hp8c⟩ := hp8
            have c_o : g8 0 = .inr (5, [.int (nI V), .ref (ad 1), .ref (ad 4), .int (nI ec), .int (nI en), .ref (ad 5), .ref (ad 6), .int (nI al), .int (if an = true then 1 else 0), .int (nI pl), .ref (ad 2), .ref (ad 7), .int (nI nc), .ref (ad 180), .ref (ad 3)]) := (hp8a 0 (by omega)).trans c_o
            have c_d : g8 1 = nA G (V + 1) (vN d) := (hp8a 1 (by omega)).trans c_d
            have c_E : g8 4 = rA (G.2 2) 20 (fun i => if i < 20 then some (ad (300 + 2 * i)) else none) := (hp8a 4 (by omega)).trans c_E
            have c_H : g8 5 = rA (G.2 3) N (fun i => if i < N then some (ad (200 + 2 * i)) else none) := (hp8a 5 (by omega)).trans c_H
            have fr : ∀ j : Nat, (j ≠ 0 ∧ j ≠ 1 ∧ ¬ (300 ≤ j ∧ j < 340)) → g8 j = g j := fun j hj => (hp8a j (by omega)).trans (fr j hj)
            rw [cpv_z hd (hev.2.2 ec)] at hp8c
            have xe : XE G ad g8 V (nu ef ec k1) (nu et ec k2) (nu ek ec k3) (nu ez ec x4) (nu eg ec d) := xe.set hp8a hp8b hp8c
            refine lv_aload_n hx hb dX5_edge_85 rfl (lv_at hl 0 rfl) ?_
            refine lv_dup hx hb dX5_edge_86 rfl ?_
            refine ax_get (k := 0) (v := .int (nI ec)) hx hb hts in_X5_edge_X5 hown hK hP (hm _ (by unfold lbX; omega)) c_o rfl 3 (by decide) (hts _ wd_X5_edge_1) (fun _ h9 => h9) rfl dX5_edge_87 ?_
            refine lv_iconst (v := nI 1) hx hb dX5_edge_90 (by decide) ?_
            refine ax_add (a := ec) (b := 1) hx hb dX5_edge_91 ?_
            refine ax_put (k := 0) (v := .int (nI (ec + 1))) (fs' := [.int (nI V), .ref (ad 1), .ref (ad 4), .int (nI (ec + 1)), .int (nI en), .ref (ad 5), .ref (ad 6), .int (nI al), .int (if an = true then 1 else 0), .int (nI pl), .ref (ad 2), .ref (ad 7), .int (nI nc), .ref (ad 180), .ref (ad 3)]) hx hb hts in_X5_edge_X5 tyX5 tyX5_ok nmX5 hown hK hP hD hS (hm _ (by unfold lbX; omega)) c_o rfl 3 (by decide) (hts _ wd_X5_edge_1) (fun _ h9 => h9) rfl (ty := .int) (by decide +kernel) rfl rfl (Nat.le_of_ble_eq_true rfl) rfl dX5_edge_92 (fun H locs g9 eg9 hP hS => ?_)
            have c_d : g9 1 = nA G (V + 1) (vN d) := (cx_ne eg9 1 (by omega)).trans c_d
            have c_E : g9 4 = rA (G.2 2) 20 (fun i => if i < 20 then some (ad (300 + 2 * i)) else none) := (cx_ne eg9 4 (by omega)).trans c_E
            have c_H : g9 5 = rA (G.2 3) N (fun i => if i < N then some (ad (200 + 2 * i)) else none) := (cx_ne eg9 5 (by omega)).trans c_H
            have xe : XE G ad g9 V (nu ef ec k1) (nu et ec k2) (nu ek ec k3) (nu ez ec x4) (nu eg ec d) := xe.kept (fun j h1 h2 => cx_ne eg9 j (by omega))
            have c_o : g9 0 = .inr (5, [.int (nI V), .ref (ad 1), .ref (ad 4), .int (nI (ec + 1)), .int (nI en), .ref (ad 5), .ref (ad 6), .int (nI al), .int (if an = true then 1 else 0), .int (nI pl), .ref (ad 2), .ref (ad 7), .int (nI nc), .ref (ad 180), .ref (ad 3)]) := cx_eq eg9
            have fr : ∀ j : Nat, (j ≠ 0 ∧ j ≠ 1 ∧ ¬ (300 ≤ j ∧ j < 340)) → g9 j = g j := fun j hj => (cx_ne eg9 j (by omega)).trans (fr j hj)
            refine lv_aload_n hx hb dX5_edge_95 rfl (lv_at hl 0 rfl) ?_
            refine cx_Vv (As := []) (rest := []) ⟨hx, hb, hml, hown, hts⟩ (c_X5_clearDraft hD hN hV1 hV hM hM2 hm (d := d) c_o c_d) (cwV 0 hts gX5_edge_X5_clearDraft rfl rfl rfl (by decide +kernel) ⟨Nat.le_of_ble_eq_true rfl, Nat.le_of_ble_eq_true rfl⟩) hK hP hS hz (hm _ (by unfold lbX; omega)) c_o rfl ⟨Nat.le_of_ble_eq_true rfl, Nat.le_of_ble_eq_true rfl⟩ rfl hl.1 rfl (Nat.le_of_ble_eq_true rfl) dX5_edge_96 (fun g10 H locs hp10 hP hS => ?_)
            obtain ⟨hp10a, hp10b⟩ := hp10
            have c_o : g10 0 = .inr (5, [.int (nI V), .ref (ad 1), .ref (ad 4), .int (nI (ec + 1)), .int (nI en), .ref (ad 5), .ref (ad 6), .int (nI al), .int (if an = true then 1 else 0), .int (nI pl), .ref (ad 2), .ref (ad 7), .int (nI nc), .ref (ad 180), .ref (ad 3)]) := (hp10a 0 (by omega)).trans c_o
            have c_E : g10 4 = rA (G.2 2) 20 (fun i => if i < 20 then some (ad (300 + 2 * i)) else none) := (hp10a 4 (by omega)).trans c_E
            have c_H : g10 5 = rA (G.2 3) N (fun i => if i < N then some (ad (200 + 2 * i)) else none) := (hp10a 5 (by omega)).trans c_H
            have xe : XE G ad g10 V (nu ef ec k1) (nu et ec k2) (nu ek ec k3) (nu ez ec x4) (nu eg ec d) := xe.kept (fun j h1 h2 => hp10a j (by omega))
            have fr : ∀ j : Nat, (j ≠ 0 ∧ j ≠ 1 ∧ ¬ (300 ≤ j ∧ j < 340)) → g10 j = g j := fun j hj => (hp10a j (by omega)).trans (fr j hj)
            have c_d := hp10b
            rw [fl0_z hd] at c_d
            refine lv_aload_n hx hb dX5_edge_99 rfl (lv_at hl 0 rfl) ?_
            refine lv_iconst (v := nI 0) hx hb dX5_edge_100 (by decide) ?_
            refine ax_put (k := 0) (v := .int (nI 0)) (fs' := [.int (nI V), .ref (ad 1), .ref (ad 4), .int (nI (ec + 1)), .int (nI en), .ref (ad 5), .ref (ad 6), .int (nI al), .int (nI 0), .int (nI pl), .ref (ad 2), .ref (ad 7), .int (nI nc), .ref (ad 180), .ref (ad 3)]) hx hb hts in_X5_edge_X5 tyX5 tyX5_ok nmX5 hown hK hP hD hS (hm _ (by unfold lbX; omega)) c_o rfl 8 (by decide) (hts _ wd_X5_edge_5) (fun _ h9 => h9) rfl (ty := .boolean) (by decide +kernel) (by decide) (by decide) (Nat.le_of_ble_eq_true rfl) rfl dX5_edge_101 (fun H locs g11 eg11 hP hS => ?_)
            have c_d : g11 1 = nA G (V + 1) (vN (fun _ => 0)) := (cx_ne eg11 1 (by omega)).trans c_d
            have c_E : g11 4 = rA (G.2 2) 20 (fun i => if i < 20 then some (ad (300 + 2 * i)) else none) := (cx_ne eg11 4 (by omega)).trans c_E
            have c_H : g11 5 = rA (G.2 3) N (fun i => if i < N then some (ad (200 + 2 * i)) else none) := (cx_ne eg11 5 (by omega)).trans c_H
            have xe : XE G ad g11 V (nu ef ec k1) (nu et ec k2) (nu ek ec k3) (nu ez ec x4) (nu eg ec d) := xe.kept (fun j h1 h2 => cx_ne eg11 j (by omega))
            have c_o : g11 0 = .inr (5, [.int (nI V), .ref (ad 1), .ref (ad 4), .int (nI (ec + 1)), .int (nI en), .ref (ad 5), .ref (ad 6), .int (nI al), .int (nI 0), .int (nI pl), .ref (ad 2), .ref (ad 7), .int (nI nc), .ref (ad 180), .ref (ad 3)]) := cx_eq eg11
            have fr : ∀ j : Nat, (j ≠ 0 ∧ j ≠ 1 ∧ ¬ (300 ≤ j ∧ j < 340)) → g11 j = g j := fun j hj => (cx_ne eg11 j (by omega)).trans (fr j hj)
            refine lv_aload_n hx hb dX5_edge_104 rfl (lv_at hl 0 rfl) ?_
            refine ax_get (k := 0) (v := .int (nI (ec + 1))) hx hb hts in_X5_edge_X5 hown hK hP (hm _ (by unfold lbX; omega)) c_o rfl 3 (by decide) (hts _ wd_X5_edge_1) (fun _ h9 => h9) rfl dX5_edge_105 ?_
            refine lv_iconst (v := nI 1) hx hb dX5_edge_108 (by decide) ?_
            refine ax_sub (a := ec + 1) (b := 1) hx hb dX5_edge_109 (by omega) ?_
            exact hret (nI (ec + 1 - 1)) g11 _ _ _ _ _ _ ⟨by decide, by decide⟩ rfl ⟨rfl, k1, k2, k3, 0, rfl, rfl, rfl, hk1b, hk2b, hk3b, (fun q => by omega), h51, fr, c_o, c_d, xe, hev.snoc h51 hk1b hk2b (by omega) (fun q => by omega) hd⟩ hP hS dX5_edge_110
          · skip
            rw [hQ]
            exact cx_throw (ik := 92) (ic := 96) (is := 94) (X := xIS) (text := "no more edges") hx hb hst9 hown hts (by decide) (by decide) th_X5_edge_xIS hX hP hS (hl.1.trans hml.symm) dX5_edge_54 dX5_edge_57 dX5_edge_58 dX5_edge_60 dX5_edge_63 hexc ⟨Nat.le_of_ble_eq_true rfl, Nat.le_of_ble_eq_true rfl, Nat.le_of_ble_eq_true rfl, Nat.le_of_ble_eq_true rfl⟩ hlk (Or.inr ⟨rfl, ⟨inB_lit hk1a hk1b, inB_lit hk2a hk2b, inB_lit hk3a hk3b, fun q => by rcases q with q | q <;> have q9 := congrArg Int32.toInt q <;> rw [nI_toInt (by omega), nI_toInt (by omega)] at q9 <;> omega⟩, by omega⟩) (by decide) (by decide)
        · skip
          refine lv_aload_n hx hb dX5_edge_39 rfl (lv_at hl 0 rfl) ?_
          refine lv_iload hx hb dX5_edge_40 (lv_at hl 4 rfl) ?_
          refine cx_XVv (As := [.int x4]) (rest := []) (mc := 1) (ms := 6) ⟨hx, hb, hml, hown, hts⟩ (c_X5_requireVariable hst9 hD hN hV1 hV hM hM2 hm c_o (x1 := x4)) (cwV 1 hts gX5_edge_X5_requireVariable rfl rfl rfl (by decide +kernel) ⟨Nat.le_of_ble_eq_true rfl, Nat.le_of_ble_eq_true rfl⟩) hK hX hP hS hz (hm _ (by unfold lbX; omega)) c_o rfl ⟨Nat.le_of_ble_eq_true rfl, Nat.le_of_ble_eq_true rfl⟩ rfl hl.1 rfl (Nat.le_of_ble_eq_true rfl) dX5_edge_42 (fun E ce q9 H locs hE hP hS h1x h2x h3x => by rw [hQ]; exact cx_leave hexc hlk h1x h2x h3x (Or.inl ⟨hE.1, fun q => hE.2 (q.2.2.2 (by first | exact Or.inl (by rw [h31]) | exact Or.inr (by rw [h36])))⟩) hP hS (by decide) (by decide)) (fun g12 H locs hp12 hP hS => ?_)
          obtain ⟨ehp12, k4, hk4a, hk4b, rfl⟩ := hp12
          rw [ehp12] at hP
          refine lv_aload_n hx hb dX5_edge_45 rfl (lv_at hl 0 rfl) ?_
          refine ax_get (k := 0) (v := .int (nI ec)) hx hb hts in_X5_edge_X5 hown hK hP (hm _ (by unfold lbX; omega)) c_o rfl 3 (by decide) (hts _ wd_X5_edge_1) (fun _ h9 => h9) rfl dX5_edge_46 ?_
          refine lv_bipush (v := nI 20) hx hb dX5_edge_49 (by decide) ?_
          refine ax_iclt (a := ec) (b := 20) (tgt := 64) hx hb dX5_edge_51 (by decide) (by omega) (by omega) (fun h51 => ?_) (fun h51 => ?_)
          · skip
            have c_ed := xe.1 ec (by omega)
            have c_ef := xe.2 ec (by omega)
            refine lv_aload_n hx hb dX5_edge_64 rfl (lv_at hl 0 rfl) ?_
            refine ax_get (k := 0) (v := .ref (ad 4)) hx hb hts in_X5_edge_X5 hown hK hP (hm _ (by unfold lbX; omega)) c_o rfl 2 (by decide) (hts _ wd_X5_edge_3) (fun _ h9 => h9) rfl dX5_edge_65 ?_
            refine lv_aload_n hx hb dX5_edge_68 rfl (lv_at hl 0 rfl) ?_
            refine ax_get (k := 0) (v := .int (nI ec)) hx hb hts in_X5_edge_X5 hown hK hP (hm _ (by unfold lbX; omega)) c_o rfl 3 (by decide) (hts _ wd_X5_edge_1) (fun _ h9 => h9) rfl dX5_edge_69 ?_
            refine ax_aald (k := 4) (i := ec) (b := ad (300 + 2 * ec)) hx hb hK hP (hm _ (by unfold lbX; omega)) 2 rfl rfl c_E (by omega) (by omega) (if_pos (by omega)) dX5_edge_72 ?_
            refine lv_iload_n hx hb dX5_edge_73 rfl (lv_at hl 1 rfl) ?_
            refine lv_iload_n hx hb dX5_edge_74 rfl (lv_at hl 2 rfl) ?_
            refine lv_iload_n hx hb dX5_edge_75 rfl (lv_at hl 3 rfl) ?_
            refine lv_iload hx hb dX5_edge_76 (lv_at hl 4 rfl) ?_
            refine lv_aload_n hx hb dX5_edge_78 rfl (lv_at hl 0 rfl) ?_
            refine ax_get (k := 0) (v := .ref (ad 1)) hx hb hts in_X5_edge_X5 hown hK hP (hm _ (by unfold lbX; omega)) c_o rfl 1 (by decide) (hts _ wd_X5_edge_4) (fun _ h9 => h9) rfl dX5_edge_79 ?_
            refine cx_Vv (As := [.int (nI k1), .int (nI k2), .int (nI k3), .int (nI k4), .ref (ad 1)]) (rest := []) ⟨hx, hb, hml, hown, hts⟩ (c_X0_set hD (k := 300 + 2 * ec) (kf := 301 + 2 * ec) (b := 1) (n := V + 1) (v := d) (w := eg ec) (by omega) (by omega) (by omega) (hm _ (by unfold lbX; omega)) (hm _ (by unfold lbX; omega)) (hm _ (by unfold lbX; omega)) (by omega) c_ed c_ef c_d) (cwV 5 hts gX5_edge_X0_set rfl rfl rfl (by decide +kernel) ⟨Nat.le_of_ble_eq_true rfl, Nat.le_of_ble_eq_true rfl⟩) hK hP hS hz (hm _ (by unfold lbX; omega)) c_ed rfl ⟨Nat.le_of_ble_eq_true rfl, Nat.le_of_ble_eq_true rfl⟩ rfl hl.1 rfl (Nat.le_of_ble_eq_true rfl) dX5_edge_82 (fun g13 H locs hp13 hP hS => ?_)
            obtain ⟨hp13a, hp13b, hp13c⟩ := hp13
            have c_o : g13 0 = .inr (5, [.int (nI V), .ref (ad 1), .ref (ad 4), .int (nI ec), .int (nI en), .ref (ad 5), .ref (ad 6), .int (nI al), .int (if an = true then 1 else 0), .int (nI pl), .ref (ad 2), .ref (ad 7), .int (nI nc), .ref (ad 180), .ref (ad 3)]) := (hp13a 0 (by omega)).trans c_o
            have c_d : g13 1 = nA G (V + 1) (vN d) := (hp13a 1 (by omega)).trans c_d
            have c_E : g13 4 = rA (G.2 2) 20 (fun i => if i < 20 then some (ad (300 + 2 * i)) else none) := (hp13a 4 (by omega)).trans c_E
            have c_H : g13 5 = rA (G.2 3) N (fun i => if i < N then some (ad (200 + 2 * i)) else none) := (hp13a 5 (by omega)).trans c_H
            have fr : ∀ j : Nat, (j ≠ 0 ∧ j ≠ 1 ∧ ¬ (300 ≤ j ∧ j < 340)) → g13 j = g j := fun j hj => (hp13a j (by omega)).trans (fr j hj)
            rw [cpv_z hd (hev.2.2 ec)] at hp13c
            have xe : XE G ad g13 V (nu ef ec k1) (nu et ec k2) (nu ek ec k3) (nu ez ec (nI k4)) (nu eg ec d) := xe.set hp13a hp13b hp13c
            refine lv_aload_n hx hb dX5_edge_85 rfl (lv_at hl 0 rfl) ?_
            refine lv_dup hx hb dX5_edge_86 rfl ?_
            refine ax_get (k := 0) (v := .int (nI ec)) hx hb hts in_X5_edge_X5 hown hK hP (hm _ (by unfold lbX; omega)) c_o rfl 3 (by decide) (hts _ wd_X5_edge_1) (fun _ h9 => h9) rfl dX5_edge_87 ?_
            refine lv_iconst (v := nI 1) hx hb dX5_edge_90 (by decide) ?_
            refine ax_add (a := ec) (b := 1) hx hb dX5_edge_91 ?_
            refine ax_put (k := 0) (v := .int (nI (ec + 1))) (fs' := [.int (nI V), .ref (ad 1), .ref (ad 4), .int (nI (ec + 1)), .int (nI en), .ref (ad 5), .ref (ad 6), .int (nI al), .int (if an = true then 1 else 0), .int (nI pl), .ref (ad 2), .ref (ad 7), .int (nI nc), .ref (ad 180), .ref (ad 3)]) hx hb hts in_X5_edge_X5 tyX5 tyX5_ok nmX5 hown hK hP hD hS (hm _ (by unfold lbX; omega)) c_o rfl 3 (by decide) (hts _ wd_X5_edge_1) (fun _ h9 => h9) rfl (ty := .int) (by decide +kernel) rfl rfl (Nat.le_of_ble_eq_true rfl) rfl dX5_edge_92 (fun H locs g14 eg14 hP hS => ?_)
            have c_d : g14 1 = nA G (V + 1) (vN d) := (cx_ne eg14 1 (by omega)).trans c_d
            have c_E : g14 4 = rA (G.2 2) 20 (fun i => if i < 20 then some (ad (300 + 2 * i)) else none) := (cx_ne eg14 4 (by omega)).trans c_E
            have c_H : g14 5 = rA (G.2 3) N (fun i => if i < N then some (ad (200 + 2 * i)) else none) := (cx_ne eg14 5 (by omega)).trans c_H
            have xe : XE G ad g14 V (nu ef ec k1) (nu et ec k2) (nu ek ec k3) (nu ez ec (nI k4)) (nu eg ec d) := xe.kept (fun j h1 h2 => cx_ne eg14 j (by omega))
            have c_o : g14 0 = .inr (5, [.int (nI V), .ref (ad 1), .ref (ad 4), .int (nI (ec + 1)), .int (nI en), .ref (ad 5), .ref (ad 6), .int (nI al), .int (if an = true then 1 else 0), .int (nI pl), .ref (ad 2), .ref (ad 7), .int (nI nc), .ref (ad 180), .ref (ad 3)]) := cx_eq eg14
            have fr : ∀ j : Nat, (j ≠ 0 ∧ j ≠ 1 ∧ ¬ (300 ≤ j ∧ j < 340)) → g14 j = g j := fun j hj => (cx_ne eg14 j (by omega)).trans (fr j hj)
            refine lv_aload_n hx hb dX5_edge_95 rfl (lv_at hl 0 rfl) ?_
            refine cx_Vv (As := []) (rest := []) ⟨hx, hb, hml, hown, hts⟩ (c_X5_clearDraft hD hN hV1 hV hM hM2 hm (d := d) c_o c_d) (cwV 0 hts gX5_edge_X5_clearDraft rfl rfl rfl (by decide +kernel) ⟨Nat.le_of_ble_eq_true rfl, Nat.le_of_ble_eq_true rfl⟩) hK hP hS hz (hm _ (by unfold lbX; omega)) c_o rfl ⟨Nat.le_of_ble_eq_true rfl, Nat.le_of_ble_eq_true rfl⟩ rfl hl.1 rfl (Nat.le_of_ble_eq_true rfl) dX5_edge_96 (fun g15 H locs hp15 hP hS => ?_)
            obtain ⟨hp15a, hp15b⟩ := hp15
            have c_o : g15 0 = .inr (5, [.int (nI V), .ref (ad 1), .ref (ad 4), .int (nI (ec + 1)), .int (nI en), .ref (ad 5), .ref (ad 6), .int (nI al), .int (if an = true then 1 else 0), .int (nI pl), .ref (ad 2), .ref (ad 7), .int (nI nc), .ref (ad 180), .ref (ad 3)]) := (hp15a 0 (by omega)).trans c_o
            have c_E : g15 4 = rA (G.2 2) 20 (fun i => if i < 20 then some (ad (300 + 2 * i)) else none) := (hp15a 4 (by omega)).trans c_E
            have c_H : g15 5 = rA (G.2 3) N (fun i => if i < N then some (ad (200 + 2 * i)) else none) := (hp15a 5 (by omega)).trans c_H
            have xe : XE G ad g15 V (nu ef ec k1) (nu et ec k2) (nu ek ec k3) (nu ez ec (nI k4)) (nu eg ec d) := xe.kept (fun j h1 h2 => hp15a j (by omega))
            have fr : ∀ j : Nat, (j ≠ 0 ∧ j ≠ 1 ∧ ¬ (300 ≤ j ∧ j < 340)) → g15 j = g j := fun j hj => (hp15a j (by omega)).trans (fr j hj)
            have c_d := hp15b
            rw [fl0_z hd] at c_d
            refine lv_aload_n hx hb dX5_edge_99 rfl (lv_at hl 0 rfl) ?_
            refine lv_iconst (v := nI 0) hx hb dX5_edge_100 (by decide) ?_
            refine ax_put (k := 0) (v := .int (nI 0)) (fs' := [.int (nI V), .ref (ad 1), .ref (ad 4), .int (nI (ec + 1)), .int (nI en), .ref (ad 5), .ref (ad 6), .int (nI al), .int (nI 0), .int (nI pl), .ref (ad 2), .ref (ad 7), .int (nI nc), .ref (ad 180), .ref (ad 3)]) hx hb hts in_X5_edge_X5 tyX5 tyX5_ok nmX5 hown hK hP hD hS (hm _ (by unfold lbX; omega)) c_o rfl 8 (by decide) (hts _ wd_X5_edge_5) (fun _ h9 => h9) rfl (ty := .boolean) (by decide +kernel) (by decide) (by decide) (Nat.le_of_ble_eq_true rfl) rfl dX5_edge_101 (fun H locs g16 eg16 hP hS => ?_)
            have c_d : g16 1 = nA G (V + 1) (vN (fun _ => 0)) := (cx_ne eg16 1 (by omega)).trans c_d
            have c_E : g16 4 = rA (G.2 2) 20 (fun i => if i < 20 then some (ad (300 + 2 * i)) else none) := (cx_ne eg16 4 (by omega)).trans c_E
            have c_H : g16 5 = rA (G.2 3) N (fun i => if i < N then some (ad (200 + 2 * i)) else none) := (cx_ne eg16 5 (by omega)).trans c_H
            have xe : XE G ad g16 V (nu ef ec k1) (nu et ec k2) (nu ek ec k3) (nu ez ec (nI k4)) (nu eg ec d) := xe.kept (fun j h1 h2 => cx_ne eg16 j (by omega))
            have c_o : g16 0 = .inr (5, [.int (nI V), .ref (ad 1), .ref (ad 4), .int (nI (ec + 1)), .int (nI en), .ref (ad 5), .ref (ad 6), .int (nI al), .int (nI 0), .int (nI pl), .ref (ad 2), .ref (ad 7), .int (nI nc), .ref (ad 180), .ref (ad 3)]) := cx_eq eg16
            have fr : ∀ j : Nat, (j ≠ 0 ∧ j ≠ 1 ∧ ¬ (300 ≤ j ∧ j < 340)) → g16 j = g j := fun j hj => (cx_ne eg16 j (by omega)).trans (fr j hj)
            refine lv_aload_n hx hb dX5_edge_104 rfl (lv_at hl 0 rfl) ?_
            refine ax_get (k := 0) (v := .int (nI (ec + 1))) hx hb hts in_X5_edge_X5 hown hK hP (hm _ (by unfold lbX; omega)) c_o rfl 3 (by decide) (hts _ wd_X5_edge_1) (fun _ h9 => h9) rfl dX5_edge_105 ?_
            refine lv_iconst (v := nI 1) hx hb dX5_edge_108 (by decide) ?_
            refine ax_sub (a := ec + 1) (b := 1) hx hb dX5_edge_109 (by omega) ?_
            exact hret (nI (ec + 1 - 1)) g16 _ _ _ _ _ _ ⟨by decide, by decide⟩ rfl ⟨rfl, k1, k2, k3, k4, rfl, rfl, rfl, hk1b, hk2b, hk3b, (fun q => ⟨rfl, hk4a, hk4b⟩), h51, fr, c_o, c_d, xe, hev.snoc h51 hk1b hk2b (by omega) (fun q => ⟨rfl, hk4a, hk4b⟩) hd⟩ hP hS dX5_edge_110
          · skip
            rw [hQ]
            exact cx_throw (ik := 92) (ic := 96) (is := 94) (X := xIS) (text := "no more edges") hx hb hst9 hown hts (by decide) (by decide) th_X5_edge_xIS hX hP hS (hl.1.trans hml.symm) dX5_edge_54 dX5_edge_57 dX5_edge_58 dX5_edge_60 dX5_edge_63 hexc ⟨Nat.le_of_ble_eq_true rfl, Nat.le_of_ble_eq_true rfl, Nat.le_of_ble_eq_true rfl, Nat.le_of_ble_eq_true rfl⟩ hlk (Or.inr ⟨rfl, ⟨inB_lit hk1a hk1b, inB_lit hk2a hk2b, inB_lit hk3a hk3b, fun _ => inB_lit hk4a hk4b⟩, by omega⟩) (by decide) (by decide)
    · skip
      rw [hQ]
      exact cx_throw (ik := 79) (ic := 83) (is := 81) (X := xIA) (text := "no such kind") hx hb hst9 hown hts (by decide) (by decide) th_X5_edge_xIA hX hP hS (hl.1.trans hml.symm) dX5_edge_19 dX5_edge_22 dX5_edge_23 dX5_edge_25 dX5_edge_28 hexc ⟨Nat.le_of_ble_eq_true rfl, Nat.le_of_ble_eq_true rfl, Nat.le_of_ble_eq_true rfl, Nat.le_of_ble_eq_true rfl⟩ hlk (Or.inl ⟨rfl, fun q => nb_l (n := 4) (by omega) h16 q.2.2.1⟩) (by decide) (by decide)

set_option maxRecDepth 20000 in
theorem wd_X5_entry_0 : Cond.fieldLink RX5 108 "AffineHulls" "entryNode" "I" ∈ wsX5_entry := by decide +kernel
set_option maxRecDepth 20000 in
theorem in_X5_entry_X5 : ∀ w ∈ u_ws RX5 TX5 15, w ∈ wsX5_entry := by decide +kernel
set_option maxRecDepth 20000 in
theorem wd_X5_entry_2 : Cond.fieldLink RX5 111 "AffineHulls" "place" "I" ∈ wsX5_entry := by decide +kernel
set_option maxRecDepth 20000 in
theorem wd_X5_entry_3 : Cond.fieldLink RX5 104 "AffineHulls" "analysed" "Z" ∈ wsX5_entry := by decide +kernel
abbrev rm_X5_entry : Room := { frames := 7, cells := 4, slots := 24, locals := 103 }
set_option maxHeartbeats 4000000 in
set_option maxRecDepth 100000 in
theorem c_X5_entry {l : Launch} (hst9 : l.stackTraces = false) {G : cx_G} {L : List Nat} {ad : Nat → Nat} {g : Nat → va_E} (hD : cx_D L ad) {N V M ec en al pl nc : Nat} {an : Bool} {x1 : Int32} (hN : N ≤ 8) (hV1 : 1 ≤ V) (hV : V ≤ 4) (hM : M = N * (V + 1)) (hM2 : M ≤ 40) (hm : ∀ j : Nat, lbX N V M j → j ∈ L) (c_o : g 0 = .inr (5, [.int (nI V), .ref (ad 1), .ref (ad 4), .int (nI ec), .int (nI en), .ref (ad 5), .ref (ad 6), .int (nI al), .int (if an = true then 1 else 0), .int (nI pl), .ref (ad 2), .ref (ad 7), .int (nI nc), .ref (ad 180), .ref (ad 3)])) (c_H : g 5 = rA (G.2 3) N (fun i => if i < N then some (ad (200 + 2 * i)) else none)) : XV l yX5_entry wsX5_entry rm_X5_entry G L ad g [.ref (ad 0), .int x1] (fun u => ∃ k1 : Nat, k1 < N ∧ x1 = nI k1 ∧ (∀ j : Nat, j ≠ 0 → u j = g j) ∧ u 0 = .inr (5, [.int (nI V), .ref (ad 1), .ref (ad 4), .int (nI ec), .int (nI k1), .ref (ad 5), .ref (ad 6), .int (nI al), .int (if false = true then 1 else 0), .int (nI k1), .ref (ad 2), .ref (ad 7), .int (nI nc), .ref (ad 180), .ref (ad 3)])) (fun E => E = xIA ∧ ¬ inB 0 N x1) 4 24 := by
  refine cx_ofXV (cc := cX5_entry) (maxL := 2) (by decide +kernel) rfl (Nat.le_of_ble_eq_true rfl) ?_
  intro p e s m args below meth c Q hQ hx hb hts hown hml hexc hlk hP hK hX hS hz hret ls hl
  have hown : s.vm.findClass RX5 = some m.cls := hown
  have hl : lv_has ls 2 [(0, .ref (ad 0)), (1, .int x1)] := hl
  have fr : ∀ j : Nat, j ≠ 0 → g j = g j := fun _ _ => rfl
  refine lv_aload_n hx hb dX5_entry_0 rfl (lv_at hl 0 rfl) ?_
  refine lv_iload_n hx hb dX5_entry_1 rfl (lv_at hl 1 rfl) ?_
  refine cx_XVv (As := [.int x1]) (rest := []) (mc := 1) (ms := 6) ⟨hx, hb, hml, hown, hts⟩ (c_X5_requireNode hst9 hD hN hV1 hV hM hM2 hm c_o c_H (x1 := x1)) (cwV 1 hts gX5_entry_X5_requireNode rfl rfl rfl (by decide +kernel) ⟨Nat.le_of_ble_eq_true rfl, Nat.le_of_ble_eq_true rfl⟩) hK hX hP hS hz (hm _ (by unfold lbX; omega)) c_o rfl ⟨Nat.le_of_ble_eq_true rfl, Nat.le_of_ble_eq_true rfl⟩ rfl hl.1 rfl (Nat.le_of_ble_eq_true rfl) dX5_entry_2 (fun E ce q9 H locs hE hP hS h1x h2x h3x => by rw [hQ]; exact cx_leave hexc hlk h1x h2x h3x (⟨hE.1, hE.2⟩) hP hS (by decide) (by decide)) (fun g1 H locs hp1 hP hS => ?_)
  obtain ⟨ehp1, k1, hk1a, hk1b, rfl⟩ := hp1
  rw [ehp1] at hP
  refine lv_aload_n hx hb dX5_entry_5 rfl (lv_at hl 0 rfl) ?_
  refine lv_iload_n hx hb dX5_entry_6 rfl (lv_at hl 1 rfl) ?_
  refine ax_put (k := 0) (v := .int (nI k1)) (fs' := [.int (nI V), .ref (ad 1), .ref (ad 4), .int (nI ec), .int (nI k1), .ref (ad 5), .ref (ad 6), .int (nI al), .int (if an = true then 1 else 0), .int (nI pl), .ref (ad 2), .ref (ad 7), .int (nI nc), .ref (ad 180), .ref (ad 3)]) hx hb hts in_X5_entry_X5 tyX5 tyX5_ok nmX5 hown hK hP hD hS (hm _ (by unfold lbX; omega)) c_o rfl 4 (by decide) (hts _ wd_X5_entry_0) (fun _ h9 => h9) rfl (ty := .int) (by decide +kernel) rfl rfl (Nat.le_of_ble_eq_true rfl) rfl dX5_entry_7 (fun H locs g2 eg2 hP hS => ?_)
  have c_H : g2 5 = rA (G.2 3) N (fun i => if i < N then some (ad (200 + 2 * i)) else none) := (cx_ne eg2 5 (by omega)).trans c_H
  have c_o : g2 0 = .inr (5, [.int (nI V), .ref (ad 1), .ref (ad 4), .int (nI ec), .int (nI k1), .ref (ad 5), .ref (ad 6), .int (nI al), .int (if an = true then 1 else 0), .int (nI pl), .ref (ad 2), .ref (ad 7), .int (nI nc), .ref (ad 180), .ref (ad 3)]) := cx_eq eg2
  have fr : ∀ j : Nat, j ≠ 0 → g2 j = g j := fun j hj => (cx_ne eg2 j (by omega)).trans (fr j hj)
  refine lv_aload_n hx hb dX5_entry_10 rfl (lv_at hl 0 rfl) ?_
  refine lv_iload_n hx hb dX5_entry_11 rfl (lv_at hl 1 rfl) ?_
  refine ax_put (k := 0) (v := .int (nI k1)) (fs' := [.int (nI V), .ref (ad 1), .ref (ad 4), .int (nI ec), .int (nI k1), .ref (ad 5), .ref (ad 6), .int (nI al), .int (if an = true then 1 else 0), .int (nI k1), .ref (ad 2), .ref (ad 7), .int (nI nc), .ref (ad 180), .ref (ad 3)]) hx hb hts in_X5_entry_X5 tyX5 tyX5_ok nmX5 hown hK hP hD hS (hm _ (by unfold lbX; omega)) c_o rfl 9 (by decide) (hts _ wd_X5_entry_2) (fun _ h9 => h9) rfl (ty := .int) (by decide +kernel) rfl rfl (Nat.le_of_ble_eq_true rfl) rfl dX5_entry_12 (fun H locs g3 eg3 hP hS => ?_)
  have c_H : g3 5 = rA (G.2 3) N (fun i => if i < N then some (ad (200 + 2 * i)) else none) := (cx_ne eg3 5 (by omega)).trans c_H
  have c_o : g3 0 = .inr (5, [.int (nI V), .ref (ad 1), .ref (ad 4), .int (nI ec), .int (nI k1), .ref (ad 5), .ref (ad 6), .int (nI al), .int (if an = true then 1 else 0), .int (nI k1), .ref (ad 2), .ref (ad 7), .int (nI nc), .ref (ad 180), .ref (ad 3)]) := cx_eq eg3
  have fr : ∀ j : Nat, j ≠ 0 → g3 j = g j := fun j hj => (cx_ne eg3 j (by omega)).trans (fr j hj)
  refine lv_aload_n hx hb dX5_entry_15 rfl (lv_at hl 0 rfl) ?_
  refine lv_iconst (v := nI 0) hx hb dX5_entry_16 (by decide) ?_
  refine ax_put (k := 0) (v := .int (nI 0)) (fs' := [.int (nI V), .ref (ad 1), .ref (ad 4), .int (nI ec), .int (nI k1), .ref (ad 5), .ref (ad 6), .int (nI al), .int (nI 0), .int (nI k1), .ref (ad 2), .ref (ad 7), .int (nI nc), .ref (ad 180), .ref (ad 3)]) hx hb hts in_X5_entry_X5 tyX5 tyX5_ok nmX5 hown hK hP hD hS (hm _ (by unfold lbX; omega)) c_o rfl 8 (by decide) (hts _ wd_X5_entry_3) (fun _ h9 => h9) rfl (ty := .boolean) (by decide +kernel) (by decide) (by decide) (Nat.le_of_ble_eq_true rfl) rfl dX5_entry_17 (fun H locs g4 eg4 hP hS => ?_)
  have c_H : g4 5 = rA (G.2 3) N (fun i => if i < N then some (ad (200 + 2 * i)) else none) := (cx_ne eg4 5 (by omega)).trans c_H
  have c_o : g4 0 = .inr (5, [.int (nI V), .ref (ad 1), .ref (ad 4), .int (nI ec), .int (nI k1), .ref (ad 5), .ref (ad 6), .int (nI al), .int (nI 0), .int (nI k1), .ref (ad 2), .ref (ad 7), .int (nI nc), .ref (ad 180), .ref (ad 3)]) := cx_eq eg4
  have fr : ∀ j : Nat, j ≠ 0 → g4 j = g j := fun j hj => (cx_ne eg4 j (by omega)).trans (fr j hj)
  exact hret g4 _ _ _ _ _ _ ⟨by decide, by decide⟩ ⟨k1, hk1b, rfl, fr, c_o⟩ hP hS dX5_entry_20

set_option maxRecDepth 20000 in
theorem wd_X5_points_0 : Cond.fieldLink RX5 57 "AffineHulls" "hulls" "[LAffineHulls$Hull;" ∈ wsX5_points := by decide +kernel
set_option maxRecDepth 20000 in
theorem in_X5_points_X5 : ∀ w ∈ u_ws RX5 TX5 15, w ∈ wsX5_points := by decide +kernel
set_option maxRecDepth 20000 in
theorem wd_X5_points_2 : Cond.fieldLink RX5 130 "AffineHulls$Hull" "pointCount" "I" ∈ wsX5_points := by decide +kernel
set_option maxRecDepth 20000 in
theorem in_X5_points_X1 : ∀ w ∈ u_ws RX1 TX1 3, w ∈ wsX5_points := by decide +kernel
abbrev rm_X5_points : Room := { frames := 7, cells := 4, slots := 24, locals := 103 }
set_option maxHeartbeats 4000000 in
set_option maxRecDepth 100000 in
theorem c_X5_points {l : Launch} (hst9 : l.stackTraces = false) {G : cx_G} {L : List Nat} {ad : Nat → Nat} {g : Nat → va_E} (hD : cx_D L ad) {N V M ec en al pl nc : Nat} {an : Bool} {x1 : Int32} {P : PS} (hN : N ≤ 8) (hV1 : 1 ≤ V) (hV : V ≤ 4) (hM : M = N * (V + 1)) (hM2 : M ≤ 40) (hm : ∀ j : Nat, lbX N V M j → j ∈ L) (c_o : g 0 = .inr (5, [.int (nI V), .ref (ad 1), .ref (ad 4), .int (nI ec), .int (nI en), .ref (ad 5), .ref (ad 6), .int (nI al), .int (if an = true then 1 else 0), .int (nI pl), .ref (ad 2), .ref (ad 7), .int (nI nc), .ref (ad 180), .ref (ad 3)])) (c_H : g 5 = rA (G.2 3) N (fun i => if i < N then some (ad (200 + 2 * i)) else none)) (xa : XA G ad g N V M P) : XI l yX5_points wsX5_points rm_X5_points G L ad g [.ref (ad 0), .int x1] (fun r u => ∃ k1 : Nat, k1 < N ∧ x1 = nI k1 ∧ an = true ∧ r = nI (P.2.2.2.1 k1) ∧ u = g) (fun E => (E = xIA ∧ ¬ (inB 0 N x1)) ∨ (E = xIS ∧ (inB 0 N x1) ∧ ¬ an = true)) 4 24 := by
  refine cx_ofXI (cc := cX5_points) (maxL := 2) (by decide +kernel) rfl (Nat.le_of_ble_eq_true rfl) ?_
  intro p e s m args below meth c Q hQ hx hb hts hown hml hexc hlk hP hK hX hS hz hret ls hl
  have hown : s.vm.findClass RX5 = some m.cls := hown
  have hl : lv_has ls 2 [(0, .ref (ad 0)), (1, .int x1)] := hl
  refine lv_aload_n hx hb dX5_points_0 rfl (lv_at hl 0 rfl) ?_
  refine lv_iload_n hx hb dX5_points_1 rfl (lv_at hl 1 rfl) ?_
  refine cx_XVv (As := [.int x1]) (rest := []) (mc := 1) (ms := 6) ⟨hx, hb, hml, hown, hts⟩ (c_X5_requireNode hst9 hD hN hV1 hV hM hM2 hm c_o c_H (x1 := x1)) (cwV 1 hts gX5_points_X5_requireNode rfl rfl rfl (by decide +kernel) ⟨Nat.le_of_ble_eq_true rfl, Nat.le_of_ble_eq_true rfl⟩) hK hX hP hS hz (hm _ (by unfold lbX; omega)) c_o rfl ⟨Nat.le_of_ble_eq_true rfl, Nat.le_of_ble_eq_true rfl⟩ rfl hl.1 rfl (Nat.le_of_ble_eq_true rfl) dX5_points_2 (fun E ce q9 H locs hE hP hS h1x h2x h3x => by rw [hQ]; exact cx_leave hexc hlk h1x h2x h3x (Or.inl hE) hP hS (by decide) (by decide)) (fun g1 H locs hp1 hP hS => ?_)
  obtain ⟨ehp1, k1, hk1a, hk1b, rfl⟩ := hp1
  rw [ehp1] at hP
  refine lv_aload_n hx hb dX5_points_5 rfl (lv_at hl 0 rfl) ?_
  refine cx_XVv (As := []) (rest := []) (mc := 1) (ms := 6) ⟨hx, hb, hml, hown, hts⟩ (c_X5_requireAnalysed hst9 hD hN hV1 hV hM hM2 hm c_o) (cwV 0 hts gX5_points_X5_requireAnalysed rfl rfl rfl (by decide +kernel) ⟨Nat.le_of_ble_eq_true rfl, Nat.le_of_ble_eq_true rfl⟩) hK hX hP hS hz (hm _ (by unfold lbX; omega)) c_o rfl ⟨Nat.le_of_ble_eq_true rfl, Nat.le_of_ble_eq_true rfl⟩ rfl hl.1 rfl (Nat.le_of_ble_eq_true rfl) dX5_points_6 (fun E ce q9 H locs hE hP hS h1x h2x h3x => by rw [hQ]; exact cx_leave hexc hlk h1x h2x h3x (Or.inr ⟨hE.1, inB_lit hk1a hk1b, hE.2⟩) hP hS (by decide) (by decide)) (fun g2 H locs hp2 hP hS => ?_)
  obtain ⟨ehp2, han⟩ := hp2
  rw [ehp2] at hP
  obtain ⟨mbn, t, kp, rs, c_h, c_m, hct, sp, hcn, hrr, hpt⟩ := xa.hull hk1b
  refine lv_aload_n hx hb dX5_points_9 rfl (lv_at hl 0 rfl) ?_
  refine ax_get (k := 0) (v := .ref (ad 5)) hx hb hts in_X5_points_X5 hown hK hP (hm _ (by unfold lbX; omega)) c_o rfl 5 (by decide) (hts _ wd_X5_points_0) (fun _ h9 => h9) rfl dX5_points_10 ?_
  refine lv_iload_n hx hb dX5_points_13 rfl (lv_at hl 1 rfl) ?_
  refine ax_aald (k := 5) (i := k1) (b := ad (200 + 2 * k1)) hx hb hK hP (hm _ (by unfold lbX; omega)) 3 rfl rfl c_H (by omega) (by omega) (if_pos (by omega)) dX5_points_14 ?_
  refine ax_get (k := 200 + 2 * k1) (v := .int (nI (P.2.2.2.1 k1))) hx hb hts in_X5_points_X1 hown hK hP (hm _ (by unfold lbX; omega)) c_h rfl 2 (by decide) (hts _ wd_X5_points_2) (fun _ h9 => h9) rfl dX5_points_15 ?_
  exact hret (nI (P.2.2.2.1 k1)) g _ _ _ _ _ _ ⟨by decide, by decide⟩ rfl ⟨k1, hk1b, rfl, han, rfl, rfl⟩ hP hS dX5_points_18

set_option maxRecDepth 20000 in
theorem wd_X5_point_0 : Cond.fieldLink RX5 57 "AffineHulls" "hulls" "[LAffineHulls$Hull;" ∈ wsX5_point := by decide +kernel
set_option maxRecDepth 20000 in
theorem in_X5_point_X5 : ∀ w ∈ u_ws RX5 TX5 15, w ∈ wsX5_point := by decide +kernel
set_option maxRecDepth 20000 in
theorem th_X5_point_xIO : ∀ w ∈ Cond.classLink RX5 133 xIO :: Cond.initialized xIO :: (vx_atS RX5 137 xIO xNm).filter goodWord, w ∈ wsX5_point := by decide +kernel
set_option maxRecDepth 20000 in
theorem wd_X5_point_3 : Cond.fieldLink RX5 130 "AffineHulls$Hull" "pointCount" "I" ∈ wsX5_point := by decide +kernel
set_option maxRecDepth 20000 in
theorem in_X5_point_X1 : ∀ w ∈ u_ws RX1 TX1 3, w ∈ wsX5_point := by decide +kernel
set_option maxRecDepth 20000 in
theorem wd_X5_point_5 : Cond.fieldLink RX5 64 "AffineHulls" "arrivals" "[LAffineHulls$Point;" ∈ wsX5_point := by decide +kernel
set_option maxRecDepth 20000 in
theorem wd_X5_point_6 : Cond.fieldLink RX5 138 "AffineHulls$Hull" "members" "[I" ∈ wsX5_point := by decide +kernel
set_option maxRecDepth 20000 in
theorem wd_X5_point_7 : Cond.fieldLink RX5 144 "AffineHulls$Point" "row" "[I" ∈ wsX5_point := by decide +kernel
set_option maxRecDepth 20000 in
theorem in_X5_point_X3 : ∀ w ∈ u_ws RX3 TX3 4, w ∈ wsX5_point := by decide +kernel
set_option maxRecDepth 20000 in
theorem wd_X5_point_9 : Cond.fieldLink RX5 141 "AffineHulls$Point" "origin" "I" ∈ wsX5_point := by decide +kernel
abbrev rm_X5_point : Room := { frames := 7, cells := 4, slots := 24, locals := 103 }
set_option maxHeartbeats 4000000 in
set_option maxRecDepth 100000 in
theorem c_X5_point {l : Launch} (hst9 : l.stackTraces = false) {G : cx_G} {L : List Nat} {ad : Nat → Nat} {g : Nat → va_E} (hD : cx_D L ad) {N V M ec en al pl nc : Nat} {an : Bool} {x1 x2 x3 : Int32} {P : PS} (hN : N ≤ 8) (hV1 : 1 ≤ V) (hV : V ≤ 4) (hM : M = N * (V + 1)) (hM2 : M ≤ 40) (hm : ∀ j : Nat, lbX N V M j → j ∈ L) (c_o : g 0 = .inr (5, [.int (nI V), .ref (ad 1), .ref (ad 4), .int (nI ec), .int (nI en), .ref (ad 5), .ref (ad 6), .int (nI al), .int (if an = true then 1 else 0), .int (nI pl), .ref (ad 2), .ref (ad 7), .int (nI nc), .ref (ad 180), .ref (ad 3)])) (c_H : g 5 = rA (G.2 3) N (fun i => if i < N then some (ad (200 + 2 * i)) else none)) (c_A : g 6 = rA (G.2 5) M (fun i => if i < M then some (ad (500 + 2 * i)) else none)) (xa : XA G ad g N V M P) : XI l yX5_point wsX5_point rm_X5_point G L ad g [.ref (ad 0), .int x1, .int x2, .int x3] (fun r u => ∃ k1 k2 k3 : Nat, k1 < N ∧ k2 < P.2.2.2.1 k1 ∧ k3 < V + 1 ∧ x1 = nI k1 ∧ x2 = nI k2 ∧ x3 = nI k3 ∧ an = true ∧ r = (if k3 = 0 then P.2.2.2.2.2 k1 k2 else nI (P.2.2.2.2.1 k1 k2 k3).val) ∧ u = g) (fun E => (E = xIA ∧ ¬ (inB 0 N x1 ∧ inB 0 (V + 1) x3)) ∨ (E = xIS ∧ (inB 0 N x1 ∧ inB 0 (V + 1) x3) ∧ ¬ an = true) ∨ (E = xIO ∧ an = true ∧ ∃ k1 k3 : Nat, k1 < N ∧ k3 < V + 1 ∧ x1 = nI k1 ∧ x3 = nI k3 ∧ ¬ inB 0 (P.2.2.2.1 k1) x2)) 4 24 := by
  refine cx_ofXI (cc := cX5_point) (maxL := 6) (by decide +kernel) rfl (Nat.le_of_ble_eq_true rfl) ?_
  intro p e s m args below meth c Q hQ hx hb hts hown hml hexc hlk hP hK hX hS hz hret ls hl
  have hown : s.vm.findClass RX5 = some m.cls := hown
  have hl : lv_has ls 6 [(0, .ref (ad 0)), (1, .int x1), (2, .int x2), (3, .int x3)] := hl
  refine lv_aload_n hx hb dX5_point_0 rfl (lv_at hl 0 rfl) ?_
  refine lv_iload_n hx hb dX5_point_1 rfl (lv_at hl 1 rfl) ?_
  refine cx_XVv (As := [.int x1]) (rest := []) (mc := 1) (ms := 6) ⟨hx, hb, hml, hown, hts⟩ (c_X5_requireNode hst9 hD hN hV1 hV hM hM2 hm c_o c_H (x1 := x1)) (cwV 1 hts gX5_point_X5_requireNode rfl rfl rfl (by decide +kernel) ⟨Nat.le_of_ble_eq_true rfl, Nat.le_of_ble_eq_true rfl⟩) hK hX hP hS hz (hm _ (by unfold lbX; omega)) c_o rfl ⟨Nat.le_of_ble_eq_true rfl, Nat.le_of_ble_eq_true rfl⟩ rfl hl.1 rfl (Nat.le_of_ble_eq_true rfl) dX5_point_2 (fun E ce q9 H locs hE hP hS h1x h2x h3x => by rw [hQ]; exact cx_leave hexc hlk h1x h2x h3x (Or.inl ⟨hE.1, fun q => hE.2 q.1⟩) hP hS (by decide) (by decide)) (fun g1 H locs hp1 hP hS => ?_)
  obtain ⟨ehp1, k1, hk1a, hk1b, rfl⟩ := hp1
  rw [ehp1] at hP
  refine lv_aload_n hx hb dX5_point_5 rfl (lv_at hl 0 rfl) ?_
  refine lv_iload_n hx hb dX5_point_6 rfl (lv_at hl 3 rfl) ?_
  refine cx_XVv (As := [.int x3]) (rest := []) (mc := 1) (ms := 6) ⟨hx, hb, hml, hown, hts⟩ (c_X5_requirePlace hst9 hD hN hV1 hV hM hM2 hm c_o (x1 := x3)) (cwV 1 hts gX5_point_X5_requirePlace rfl rfl rfl (by decide +kernel) ⟨Nat.le_of_ble_eq_true rfl, Nat.le_of_ble_eq_true rfl⟩) hK hX hP hS hz (hm _ (by unfold lbX; omega)) c_o rfl ⟨Nat.le_of_ble_eq_true rfl, Nat.le_of_ble_eq_true rfl⟩ rfl hl.1 rfl (Nat.le_of_ble_eq_true rfl) dX5_point_7 (fun E ce q9 H locs hE hP hS h1x h2x h3x => by rw [hQ]; exact cx_leave hexc hlk h1x h2x h3x (Or.inl ⟨hE.1, fun q => hE.2 q.2⟩) hP hS (by decide) (by decide)) (fun g2 H locs hp2 hP hS => ?_)
  obtain ⟨ehp2, k3, hk3a, hk3b, rfl⟩ := hp2
  rw [ehp2] at hP
  refine lv_aload_n hx hb dX5_point_10 rfl (lv_at hl 0 rfl) ?_
  refine cx_XVv (As := []) (rest := []) (mc := 1) (ms := 6) ⟨hx, hb, hml, hown, hts⟩ (c_X5_requireAnalysed hst9 hD hN hV1 hV hM hM2 hm c_o) (cwV 0 hts gX5_point_X5_requireAnalysed rfl rfl rfl (by decide +kernel) ⟨Nat.le_of_ble_eq_true rfl, Nat.le_of_ble_eq_true rfl⟩) hK hX hP hS hz (hm _ (by unfold lbX; omega)) c_o rfl ⟨Nat.le_of_ble_eq_true rfl, Nat.le_of_ble_eq_true rfl⟩ rfl hl.1 rfl (Nat.le_of_ble_eq_true rfl) dX5_point_11 (fun E ce q9 H locs hE hP hS h1x h2x h3x => by rw [hQ]; exact cx_leave hexc hlk h1x h2x h3x (Or.inr (Or.inl ⟨hE.1, ⟨inB_lit hk1a hk1b, inB_lit hk3a hk3b⟩, hE.2⟩)) hP hS (by decide) (by decide)) (fun g3 H locs hp3 hP hS => ?_)
  obtain ⟨ehp3, han⟩ := hp3
  rw [ehp3] at hP
  obtain ⟨mbn, t, kp, rs, c_h, c_m, hct, sp, hcn, hrr, hpt⟩ := xa.hull hk1b
  refine lv_aload_n hx hb dX5_point_14 rfl (lv_at hl 0 rfl) ?_
  refine ax_get (k := 0) (v := .ref (ad 5)) hx hb hts in_X5_point_X5 hown hK hP (hm _ (by unfold lbX; omega)) c_o rfl 5 (by decide) (hts _ wd_X5_point_0) (fun _ h9 => h9) rfl dX5_point_15 ?_
  refine lv_iload_n hx hb dX5_point_18 rfl (lv_at hl 1 rfl) ?_
  refine ax_aald (k := 5) (i := k1) (b := ad (200 + 2 * k1)) hx hb hK hP (hm _ (by unfold lbX; omega)) 3 rfl rfl c_H (by omega) (by omega) (if_pos (by omega)) dX5_point_19 ?_
  refine lv_astore (lv' := [(4, .ref (ad (200 + 2 * k1))), (0, .ref (ad 0)), (1, .int (nI k1)), (2, .int x2), (3, .int (nI k3))]) hx hb dX5_point_20 hl (by decide) rfl (fun ls hl => ?_)
  refine lv_iload_n hx hb dX5_point_22 rfl (lv_at hl 3 rfl) ?_
  refine lv_if_lt (x := x2) (tgt := 35) hx hb dX5_point_23 (by decide) (fun h23 => ?_) (fun h23 => ?_)
  · skip
    rw [hQ]
    exact cx_throw (ik := 133) (ic := 137) (is := 135) (X := xIO) (text := "no such point") hx hb hst9 hown hts (by decide) (by decide) th_X5_point_xIO hX hP hS (hl.1.trans hml.symm) dX5_point_35 dX5_point_38 dX5_point_39 dX5_point_41 dX5_point_44 hexc ⟨Nat.le_of_ble_eq_true rfl, Nat.le_of_ble_eq_true rfl, Nat.le_of_ble_eq_true rfl, Nat.le_of_ble_eq_true rfl⟩ hlk (Or.inr (Or.inr ⟨rfl, han, k1, k3, hk1b, hk3b, rfl, rfl, nb_0 (by omega) h23⟩)) (by decide) (by decide)
  · skip
    refine lv_iload_n hx hb dX5_point_26 rfl (lv_at hl 3 rfl) ?_
    refine lv_aload hx hb dX5_point_27 (lv_at hl 0 rfl) ?_
    refine ax_get (k := 200 + 2 * k1) (v := .int (nI (P.2.2.2.1 k1))) hx hb hts in_X5_point_X1 hown hK hP (hm _ (by unfold lbX; omega)) c_h rfl 2 (by decide) (hts _ wd_X5_point_3) (fun _ h9 => h9) rfl dX5_point_29 ?_
    refine lv_icmp_lt (x := x2) (y := nI (P.2.2.2.1 k1)) (tgt := 45) hx hb dX5_point_32 (by decide) (fun h32 => ?_) (fun h32 => ?_)
    · skip
      obtain ⟨k2, hk2a, hk2b, rfl⟩ := yb_n (n := P.2.2.2.1 k1) (by omega) h23 h32
      obtain ⟨hbM, ⟨a9, b9, c_p⟩, c_pr⟩ := hpt k2 hk2b
      refine lv_aload_n hx hb dX5_point_45 rfl (lv_at hl 1 rfl) ?_
      refine ax_get (k := 0) (v := .ref (ad 6)) hx hb hts in_X5_point_X5 hown hK hP (hm _ (by unfold lbX; omega)) c_o rfl 6 (by decide) (hts _ wd_X5_point_5) (fun _ h9 => h9) rfl dX5_point_46 ?_
      refine lv_aload hx hb dX5_point_49 (lv_at hl 0 rfl) ?_
      refine ax_get (k := 200 + 2 * k1) (v := .ref (ad (201 + 2 * k1))) hx hb hts in_X5_point_X1 hown hK hP (hm _ (by unfold lbX; omega)) c_h rfl 1 (by decide) (hts _ wd_X5_point_6) (fun _ h9 => h9) rfl dX5_point_51 ?_
      refine lv_iload_n hx hb dX5_point_54 rfl (lv_at hl 3 rfl) ?_
      refine ax_iald (k := 201 + 2 * k1) (i := k2) (v := nI (mbn k2)) hx hb hK hP (hm _ (by unfold lbX; omega)) c_m (by omega) (by omega) rfl dX5_point_55 ?_
      refine ax_aald (k := 6) (i := mbn k2) (b := ad (500 + 2 * (mbn k2))) hx hb hK hP (hm _ (by unfold lbX; omega)) 5 rfl rfl c_A (by omega) (by omega) (if_pos (by omega)) dX5_point_56 ?_
      refine lv_astore (lv' := [(5, .ref (ad (500 + 2 * (mbn k2)))), (4, .ref (ad (200 + 2 * k1))), (0, .ref (ad 0)), (1, .int (nI k1)), (2, .int (nI k2)), (3, .int (nI k3))]) hx hb dX5_point_57 hl (by decide) rfl (fun ls hl => ?_)
      refine lv_iload_n hx hb dX5_point_59 rfl (lv_at hl 5 rfl) ?_
      refine ax_ifne (a := k3) (tgt := 71) hx hb dX5_point_60 (by decide) (by omega) (fun h60 => ?_) (fun h60 => ?_)
      · skip
        refine lv_aload hx hb dX5_point_71 (lv_at hl 0 rfl) ?_
        refine ax_get (k := 500 + 2 * (mbn k2)) (v := .ref (ad (501 + 2 * mbn k2))) hx hb hts in_X5_point_X3 hown hK hP (hm _ (by unfold lbX; omega)) c_p rfl 3 (by decide) (hts _ wd_X5_point_7) (fun _ h9 => h9) rfl dX5_point_73 ?_
        refine lv_iload_n hx hb dX5_point_76 rfl (lv_at hl 5 rfl) ?_
        refine ax_iald (k := 501 + 2 * mbn k2) (i := k3) (v := nI ((vN (P.2.2.2.2.1 k1 k2)) k3)) hx hb hK hP (hm _ (by unfold lbX; omega)) c_pr (by omega) (by omega) rfl dX5_point_77 ?_
        exact hret (nI ((vN (P.2.2.2.2.1 k1 k2)) k3)) g _ _ _ _ _ _ ⟨by decide, by decide⟩ rfl ⟨k1, k2, k3, hk1b, hk2b, hk3b, rfl, rfl, rfl, han, (if_neg h60).symm, rfl⟩ hP hS dX5_point_78
      · skip
        refine lv_aload hx hb dX5_point_63 (lv_at hl 0 rfl) ?_
        refine ax_get (k := 500 + 2 * (mbn k2)) (v := .int (P.2.2.2.2.2 k1 k2)) hx hb hts in_X5_point_X3 hown hK hP (hm _ (by unfold lbX; omega)) c_p rfl 2 (by decide) (hts _ wd_X5_point_9) (fun _ h9 => h9) rfl dX5_point_65 ?_
        refine lv_goto (tgt := 78) hx hb dX5_point_68 (by decide) ?_
        exact hret (P.2.2.2.2.2 k1 k2) g _ _ _ _ _ _ ⟨by decide, by decide⟩ rfl ⟨k1, k2, k3, hk1b, hk2b, hk3b, rfl, rfl, rfl, han, (if_pos h60).symm, rfl⟩ hP hS dX5_point_78
    · skip
      rw [hQ]
      exact cx_throw (ik := 133) (ic := 137) (is := 135) (X := xIO) (text := "no such point") hx hb hst9 hown hts (by decide) (by decide) th_X5_point_xIO hX hP hS (hl.1.trans hml.symm) dX5_point_35 dX5_point_38 dX5_point_39 dX5_point_41 dX5_point_44 hexc ⟨Nat.le_of_ble_eq_true rfl, Nat.le_of_ble_eq_true rfl, Nat.le_of_ble_eq_true rfl, Nat.le_of_ble_eq_true rfl⟩ hlk (Or.inr (Or.inr ⟨rfl, han, k1, k3, hk1b, hk3b, rfl, rfl, nb_n (by omega) h32⟩)) (by decide) (by decide)

set_option maxRecDepth 20000 in
theorem wd_X5_equations_0 : Cond.fieldLink RX5 57 "AffineHulls" "hulls" "[LAffineHulls$Hull;" ∈ wsX5_equations := by decide +kernel
set_option maxRecDepth 20000 in
theorem in_X5_equations_X5 : ∀ w ∈ u_ws RX5 TX5 15, w ∈ wsX5_equations := by decide +kernel
abbrev rm_X5_equations : Room := { frames := 7, cells := 4, slots := 24, locals := 103 }
set_option maxHeartbeats 4000000 in
set_option maxRecDepth 100000 in
theorem c_X5_equations {l : Launch} (hst9 : l.stackTraces = false) {G : cx_G} {L : List Nat} {ad : Nat → Nat} {g : Nat → va_E} (hD : cx_D L ad) {N V M ec en al pl nc : Nat} {an : Bool} {x1 : Int32} {P : PS} (hN : N ≤ 8) (hV1 : 1 ≤ V) (hV : V ≤ 4) (hM : M = N * (V + 1)) (hM2 : M ≤ 40) (hm : ∀ j : Nat, lbX N V M j → j ∈ L) (c_o : g 0 = .inr (5, [.int (nI V), .ref (ad 1), .ref (ad 4), .int (nI ec), .int (nI en), .ref (ad 5), .ref (ad 6), .int (nI al), .int (if an = true then 1 else 0), .int (nI pl), .ref (ad 2), .ref (ad 7), .int (nI nc), .ref (ad 180), .ref (ad 3)])) (c_H : g 5 = rA (G.2 3) N (fun i => if i < N then some (ad (200 + 2 * i)) else none)) (xa : XA G ad g N V M P) : XI l yX5_equations wsX5_equations rm_X5_equations G L ad g [.ref (ad 0), .int x1] (fun r u => ∃ k1 : Nat, k1 < N ∧ x1 = nI k1 ∧ an = true ∧ r = nI (V + 1 - P.2.2.2.1 k1) ∧ u = g) (fun E => (E = xIA ∧ ¬ (inB 0 N x1)) ∨ (E = xIS ∧ (inB 0 N x1) ∧ ¬ an = true)) 4 24 := by
  refine cx_ofXI (cc := cX5_equations) (maxL := 2) (by decide +kernel) rfl (Nat.le_of_ble_eq_true rfl) ?_
  intro p e s m args below meth c Q hQ hx hb hts hown hml hexc hlk hP hK hX hS hz hret ls hl
  have hown : s.vm.findClass RX5 = some m.cls := hown
  have hl : lv_has ls 2 [(0, .ref (ad 0)), (1, .int x1)] := hl
  refine lv_aload_n hx hb dX5_equations_0 rfl (lv_at hl 0 rfl) ?_
  refine lv_iload_n hx hb dX5_equations_1 rfl (lv_at hl 1 rfl) ?_
  refine cx_XVv (As := [.int x1]) (rest := []) (mc := 1) (ms := 6) ⟨hx, hb, hml, hown, hts⟩ (c_X5_requireNode hst9 hD hN hV1 hV hM hM2 hm c_o c_H (x1 := x1)) (cwV 1 hts gX5_equations_X5_requireNode rfl rfl rfl (by decide +kernel) ⟨Nat.le_of_ble_eq_true rfl, Nat.le_of_ble_eq_true rfl⟩) hK hX hP hS hz (hm _ (by unfold lbX; omega)) c_o rfl ⟨Nat.le_of_ble_eq_true rfl, Nat.le_of_ble_eq_true rfl⟩ rfl hl.1 rfl (Nat.le_of_ble_eq_true rfl) dX5_equations_2 (fun E ce q9 H locs hE hP hS h1x h2x h3x => by rw [hQ]; exact cx_leave hexc hlk h1x h2x h3x (Or.inl hE) hP hS (by decide) (by decide)) (fun g1 H locs hp1 hP hS => ?_)
  obtain ⟨ehp1, k1, hk1a, hk1b, rfl⟩ := hp1
  rw [ehp1] at hP
  refine lv_aload_n hx hb dX5_equations_5 rfl (lv_at hl 0 rfl) ?_
  refine cx_XVv (As := []) (rest := []) (mc := 1) (ms := 6) ⟨hx, hb, hml, hown, hts⟩ (c_X5_requireAnalysed hst9 hD hN hV1 hV hM hM2 hm c_o) (cwV 0 hts gX5_equations_X5_requireAnalysed rfl rfl rfl (by decide +kernel) ⟨Nat.le_of_ble_eq_true rfl, Nat.le_of_ble_eq_true rfl⟩) hK hX hP hS hz (hm _ (by unfold lbX; omega)) c_o rfl ⟨Nat.le_of_ble_eq_true rfl, Nat.le_of_ble_eq_true rfl⟩ rfl hl.1 rfl (Nat.le_of_ble_eq_true rfl) dX5_equations_6 (fun E ce q9 H locs hE hP hS h1x h2x h3x => by rw [hQ]; exact cx_leave hexc hlk h1x h2x h3x (Or.inr ⟨hE.1, inB_lit hk1a hk1b, hE.2⟩) hP hS (by decide) (by decide)) (fun g2 H locs hp2 hP hS => ?_)
  obtain ⟨ehp2, han⟩ := hp2
  rw [ehp2] at hP
  obtain ⟨mbn, t, kp, rs, c_h, c_m, hct, sp, hcn, hrr, hpt⟩ := xa.hull hk1b
  refine lv_aload_n hx hb dX5_equations_9 rfl (lv_at hl 0 rfl) ?_
  refine ax_get (k := 0) (v := .ref (ad 5)) hx hb hts in_X5_equations_X5 hown hK hP (hm _ (by unfold lbX; omega)) c_o rfl 5 (by decide) (hts _ wd_X5_equations_0) (fun _ h9 => h9) rfl dX5_equations_10 ?_
  refine lv_iload_n hx hb dX5_equations_13 rfl (lv_at hl 1 rfl) ?_
  refine ax_aald (k := 5) (i := k1) (b := ad (200 + 2 * k1)) hx hb hK hP (hm _ (by unfold lbX; omega)) 3 rfl rfl c_H (by omega) (by omega) (if_pos (by omega)) dX5_equations_14 ?_
  refine cx_Vi (As := []) (rest := []) ⟨hx, hb, hml, hown, hts⟩ (c_X1_equationCount hD (n := V + 1) (h := 200 + 2 * k1) (mb := 201 + 2 * k1) (pc := P.2.2.2.1 k1) (mf := mbn) (hm _ (by unfold lbX; omega)) (hm _ (by unfold lbX; omega)) hct c_h c_m) (cwV 0 hts gX5_equations_X1_equationCount rfl rfl rfl (by decide +kernel) ⟨Nat.le_of_ble_eq_true rfl, Nat.le_of_ble_eq_true rfl⟩) hK hP hS hz (hm _ (by unfold lbX; omega)) c_h rfl ⟨Nat.le_of_ble_eq_true rfl, Nat.le_of_ble_eq_true rfl⟩ rfl hl.1 rfl (Nat.le_of_ble_eq_true rfl) dX5_equations_15 (fun r3 g3 H locs hp3 hP hS => ?_)
  obtain ⟨er3, ehp3g⟩ := hp3
  rw [ehp3g] at hP
  rw [er3]
  exact hret (nI (V + 1 - P.2.2.2.1 k1)) g _ _ _ _ _ _ ⟨by decide, by decide⟩ rfl ⟨k1, hk1b, rfl, han, rfl, rfl⟩ hP hS dX5_equations_18

set_option maxRecDepth 20000 in
theorem wd_X5_coefficient_0 : Cond.fieldLink RX5 57 "AffineHulls" "hulls" "[LAffineHulls$Hull;" ∈ wsX5_coefficient := by decide +kernel
set_option maxRecDepth 20000 in
theorem in_X5_coefficient_X5 : ∀ w ∈ u_ws RX5 TX5 15, w ∈ wsX5_coefficient := by decide +kernel
set_option maxRecDepth 20000 in
theorem th_X5_coefficient_xIO : ∀ w ∈ Cond.classLink RX5 133 xIO :: Cond.initialized xIO :: (vx_atS RX5 137 xIO xNm).filter goodWord, w ∈ wsX5_coefficient := by decide +kernel
set_option maxRecDepth 20000 in
theorem wd_X5_coefficient_3 : Cond.fieldLink RX5 153 "AffineHulls$Hull" "span" "LAffineHulls$Span;" ∈ wsX5_coefficient := by decide +kernel
set_option maxRecDepth 20000 in
theorem in_X5_coefficient_X1 : ∀ w ∈ u_ws RX1 TX1 3, w ∈ wsX5_coefficient := by decide +kernel
abbrev rm_X5_coefficient : Room := { frames := 7, cells := 4, slots := 24, locals := 103 }
set_option maxHeartbeats 4000000 in
set_option maxRecDepth 100000 in
theorem c_X5_coefficient {l : Launch} (hst9 : l.stackTraces = false) {G : cx_G} {L : List Nat} {ad : Nat → Nat} {g : Nat → va_E} (hD : cx_D L ad) {N V M ec en al pl nc : Nat} {an : Bool} {x1 x2 x3 : Int32} {P : PS} (hN : N ≤ 8) (hV1 : 1 ≤ V) (hV : V ≤ 4) (hM : M = N * (V + 1)) (hM2 : M ≤ 40) (hm : ∀ j : Nat, lbX N V M j → j ∈ L) (c_o : g 0 = .inr (5, [.int (nI V), .ref (ad 1), .ref (ad 4), .int (nI ec), .int (nI en), .ref (ad 5), .ref (ad 6), .int (nI al), .int (if an = true then 1 else 0), .int (nI pl), .ref (ad 2), .ref (ad 7), .int (nI nc), .ref (ad 180), .ref (ad 3)])) (c_H : g 5 = rA (G.2 3) N (fun i => if i < N then some (ad (200 + 2 * i)) else none)) (xa : XA G ad g N V M P) : XI l yX5_coefficient wsX5_coefficient rm_X5_coefficient G L ad g [.ref (ad 0), .int x1, .int x2, .int x3] (fun r u => ∃ k1 k2 k3 : Nat, k1 < N ∧ k2 < V + 1 - P.2.2.2.1 k1 ∧ k3 < V + 1 ∧ x1 = nI k1 ∧ x2 = nI k2 ∧ x3 = nI k3 ∧ an = true ∧ r = nI (eqF (V + 1) (P.2.2.2.2.1 k1) (P.2.2.2.1 k1) k2 k3).val ∧ u = g) (fun E => (E = xIA ∧ ¬ (inB 0 N x1 ∧ inB 0 (V + 1) x3)) ∨ (E = xIS ∧ (inB 0 N x1 ∧ inB 0 (V + 1) x3) ∧ ¬ an = true) ∨ (E = xIO ∧ an = true ∧ ∃ k1 k3 : Nat, k1 < N ∧ k3 < V + 1 ∧ x1 = nI k1 ∧ x3 = nI k3 ∧ ¬ inB 0 (V + 1 - P.2.2.2.1 k1) x2)) 4 24 := by
  refine cx_ofXI (cc := cX5_coefficient) (maxL := 5) (by decide +kernel) rfl (Nat.le_of_ble_eq_true rfl) ?_
  intro p e s m args below meth c Q hQ hx hb hts hown hml hexc hlk hP hK hX hS hz hret ls hl
  have hown : s.vm.findClass RX5 = some m.cls := hown
  have hl : lv_has ls 5 [(0, .ref (ad 0)), (1, .int x1), (2, .int x2), (3, .int x3)] := hl
  refine lv_aload_n hx hb dX5_coefficient_0 rfl (lv_at hl 0 rfl) ?_
  refine lv_iload_n hx hb dX5_coefficient_1 rfl (lv_at hl 1 rfl) ?_
  refine cx_XVv (As := [.int x1]) (rest := []) (mc := 1) (ms := 6) ⟨hx, hb, hml, hown, hts⟩ (c_X5_requireNode hst9 hD hN hV1 hV hM hM2 hm c_o c_H (x1 := x1)) (cwV 1 hts gX5_coefficient_X5_requireNode rfl rfl rfl (by decide +kernel) ⟨Nat.le_of_ble_eq_true rfl, Nat.le_of_ble_eq_true rfl⟩) hK hX hP hS hz (hm _ (by unfold lbX; omega)) c_o rfl ⟨Nat.le_of_ble_eq_true rfl, Nat.le_of_ble_eq_true rfl⟩ rfl hl.1 rfl (Nat.le_of_ble_eq_true rfl) dX5_coefficient_2 (fun E ce q9 H locs hE hP hS h1x h2x h3x => by rw [hQ]; exact cx_leave hexc hlk h1x h2x h3x (Or.inl ⟨hE.1, fun q => hE.2 q.1⟩) hP hS (by decide) (by decide)) (fun g1 H locs hp1 hP hS => ?_)
  obtain ⟨ehp1, k1, hk1a, hk1b, rfl⟩ := hp1
  rw [ehp1] at hP
  refine lv_aload_n hx hb dX5_coefficient_5 rfl (lv_at hl 0 rfl) ?_
  refine lv_iload_n hx hb dX5_coefficient_6 rfl (lv_at hl 3 rfl) ?_
  refine cx_XVv (As := [.int x3]) (rest := []) (mc := 1) (ms := 6) ⟨hx, hb, hml, hown, hts⟩ (c_X5_requirePlace hst9 hD hN hV1 hV hM hM2 hm c_o (x1 := x3)) (cwV 1 hts gX5_coefficient_X5_requirePlace rfl rfl rfl (by decide +kernel) ⟨Nat.le_of_ble_eq_true rfl, Nat.le_of_ble_eq_true rfl⟩) hK hX hP hS hz (hm _ (by unfold lbX; omega)) c_o rfl ⟨Nat.le_of_ble_eq_true rfl, Nat.le_of_ble_eq_true rfl⟩ rfl hl.1 rfl (Nat.le_of_ble_eq_true rfl) dX5_coefficient_7 (fun E ce q9 H locs hE hP hS h1x h2x h3x => by rw [hQ]; exact cx_leave hexc hlk h1x h2x h3x (Or.inl ⟨hE.1, fun q => hE.2 q.2⟩) hP hS (by decide) (by decide)) (fun g2 H locs hp2 hP hS => ?_)
  obtain ⟨ehp2, k3, hk3a, hk3b, rfl⟩ := hp2
  rw [ehp2] at hP
  refine lv_aload_n hx hb dX5_coefficient_10 rfl (lv_at hl 0 rfl) ?_
  refine cx_XVv (As := []) (rest := []) (mc := 1) (ms := 6) ⟨hx, hb, hml, hown, hts⟩ (c_X5_requireAnalysed hst9 hD hN hV1 hV hM hM2 hm c_o) (cwV 0 hts gX5_coefficient_X5_requireAnalysed rfl rfl rfl (by decide +kernel) ⟨Nat.le_of_ble_eq_true rfl, Nat.le_of_ble_eq_true rfl⟩) hK hX hP hS hz (hm _ (by unfold lbX; omega)) c_o rfl ⟨Nat.le_of_ble_eq_true rfl, Nat.le_of_ble_eq_true rfl⟩ rfl hl.1 rfl (Nat.le_of_ble_eq_true rfl) dX5_coefficient_11 (fun E ce q9 H locs hE hP hS h1x h2x h3x => by rw [hQ]; exact cx_leave hexc hlk h1x h2x h3x (Or.inr (Or.inl ⟨hE.1, ⟨inB_lit hk1a hk1b, inB_lit hk3a hk3b⟩, hE.2⟩)) hP hS (by decide) (by decide)) (fun g3 H locs hp3 hP hS => ?_)
  obtain ⟨ehp3, han⟩ := hp3
  rw [ehp3] at hP
  obtain ⟨mbn, t, kp, rs, c_h, c_m, hct, sp, hcn, hrr, hpt⟩ := xa.hull hk1b
  have c_s := sp.1
  refine lv_aload_n hx hb dX5_coefficient_14 rfl (lv_at hl 0 rfl) ?_
  refine ax_get (k := 0) (v := .ref (ad 5)) hx hb hts in_X5_coefficient_X5 hown hK hP (hm _ (by unfold lbX; omega)) c_o rfl 5 (by decide) (hts _ wd_X5_coefficient_0) (fun _ h9 => h9) rfl dX5_coefficient_15 ?_
  refine lv_iload_n hx hb dX5_coefficient_18 rfl (lv_at hl 1 rfl) ?_
  refine ax_aald (k := 5) (i := k1) (b := ad (200 + 2 * k1)) hx hb hK hP (hm _ (by unfold lbX; omega)) 3 rfl rfl c_H (by omega) (by omega) (if_pos (by omega)) dX5_coefficient_19 ?_
  refine lv_astore (lv' := [(4, .ref (ad (200 + 2 * k1))), (0, .ref (ad 0)), (1, .int (nI k1)), (2, .int x2), (3, .int (nI k3))]) hx hb dX5_coefficient_20 hl (by decide) rfl (fun ls hl => ?_)
  refine lv_iload_n hx hb dX5_coefficient_22 rfl (lv_at hl 3 rfl) ?_
  refine lv_if_lt (x := x2) (tgt := 35) hx hb dX5_coefficient_23 (by decide) (fun h23 => ?_) (fun h23 => ?_)
  · skip
    rw [hQ]
    exact cx_throw (ik := 133) (ic := 137) (is := 151) (X := xIO) (text := "no such equation") hx hb hst9 hown hts (by decide) (by decide) th_X5_coefficient_xIO hX hP hS (hl.1.trans hml.symm) dX5_coefficient_35 dX5_coefficient_38 dX5_coefficient_39 dX5_coefficient_41 dX5_coefficient_44 hexc ⟨Nat.le_of_ble_eq_true rfl, Nat.le_of_ble_eq_true rfl, Nat.le_of_ble_eq_true rfl, Nat.le_of_ble_eq_true rfl⟩ hlk (Or.inr (Or.inr ⟨rfl, han, k1, k3, hk1b, hk3b, rfl, rfl, nb_0 (by omega) h23⟩)) (by decide) (by decide)
  · skip
    refine lv_iload_n hx hb dX5_coefficient_26 rfl (lv_at hl 3 rfl) ?_
    refine lv_aload hx hb dX5_coefficient_27 (lv_at hl 0 rfl) ?_
    refine cx_Vi (As := []) (rest := [.int x2]) ⟨hx, hb, hml, hown, hts⟩ (c_X1_equationCount hD (n := V + 1) (h := 200 + 2 * k1) (mb := 201 + 2 * k1) (pc := P.2.2.2.1 k1) (mf := mbn) (hm _ (by unfold lbX; omega)) (hm _ (by unfold lbX; omega)) hct c_h c_m) (cwV 0 hts gX5_coefficient_X1_equationCount rfl rfl rfl (by decide +kernel) ⟨Nat.le_of_ble_eq_true rfl, Nat.le_of_ble_eq_true rfl⟩) hK hP hS hz (hm _ (by unfold lbX; omega)) c_h rfl ⟨Nat.le_of_ble_eq_true rfl, Nat.le_of_ble_eq_true rfl⟩ rfl hl.1 rfl (Nat.le_of_ble_eq_true rfl) dX5_coefficient_29 (fun r4 g4 H locs hp4 hP hS => ?_)
    obtain ⟨er4, ehp4g⟩ := hp4
    rw [ehp4g] at hP
    rw [er4]
    refine lv_icmp_lt (x := x2) (y := nI (V + 1 - P.2.2.2.1 k1)) (tgt := 45) hx hb dX5_coefficient_32 (by decide) (fun h32 => ?_) (fun h32 => ?_)
    · skip
      obtain ⟨k2, hk2a, hk2b, rfl⟩ := yb_n (n := V + 1 - P.2.2.2.1 k1) (by omega) h23 h32
      refine lv_aload hx hb dX5_coefficient_45 (lv_at hl 0 rfl) ?_
      refine ax_get (k := 200 + 2 * k1) (v := .ref (ad (100 + 10 * k1))) hx hb hts in_X5_coefficient_X1 hown hK hP (hm _ (by unfold lbX; omega)) c_h rfl 0 (by decide) (hts _ wd_X5_coefficient_3) (fun _ h9 => h9) rfl dX5_coefficient_47 ?_
      refine lv_aload hx hb dX5_coefficient_50 (lv_at hl 0 rfl) ?_
      refine ax_get (k := 200 + 2 * k1) (v := .ref (ad (100 + 10 * k1))) hx hb hts in_X5_coefficient_X1 hown hK hP (hm _ (by unfold lbX; omega)) c_h rfl 0 (by decide) (hts _ wd_X5_coefficient_3) (fun _ h9 => h9) rfl dX5_coefficient_52 ?_
      refine lv_iload_n hx hb dX5_coefficient_55 rfl (lv_at hl 3 rfl) ?_
      refine cx_Vi (As := [.int (nI k2)]) (rest := [.ref (ad (100 + 10 * k1))]) ⟨hx, hb, hml, hown, hts⟩ (c_X4_freePlace hD (b := 100 + 10 * k1) (n := V + 1) (t := t) (kp := kp) (rs := rs) (i := k2) (by omega) (fun j hj => hm _ (by unfold lbX; omega)) (by omega) (by omega) sp) (cwV 1 hts gX5_coefficient_X4_freePlace rfl rfl rfl (by decide +kernel) ⟨Nat.le_of_ble_eq_true rfl, Nat.le_of_ble_eq_true rfl⟩) hK hP hS hz (hm _ (by unfold lbX; omega)) c_s rfl ⟨Nat.le_of_ble_eq_true rfl, Nat.le_of_ble_eq_true rfl⟩ rfl hl.1 rfl (Nat.le_of_ble_eq_true rfl) dX5_coefficient_56 (fun r5 g5 H locs hp5 hP hS => ?_)
      obtain ⟨er5, ehp5g⟩ := hp5
      rw [ehp5g] at hP
      rw [er5]
      have hfi : k2 < V + 1 - cntT t (V + 1) := by rw [← hcn]; exact hk2b
      have hfp := (fpl_w (Nat.succ_pos V) hfi).1
      refine lv_iload_n hx hb dX5_coefficient_59 rfl (lv_at hl 4 rfl) ?_
      refine cx_Vi (As := [.int (nI (fpl t (V + 1 - 1) 1 k2)), .int (nI k3)]) (rest := []) ⟨hx, hb, hml, hown, hts⟩ (c_X4_vanishing hD (b := 100 + 10 * k1) (n := V + 1) (t := t) (kp := kp) (rs := rs) (fr := fpl t (V + 1 - 1) 1 k2) (k := k3) hfp (by omega) (fun j hj => hm _ (by unfold lbX; omega)) (by omega) (by omega) sp) (cwV 2 hts gX5_coefficient_X4_vanishing rfl rfl rfl (by decide +kernel) ⟨Nat.le_of_ble_eq_true rfl, Nat.le_of_ble_eq_true rfl⟩) hK hP hS hz (hm _ (by unfold lbX; omega)) c_s rfl ⟨Nat.le_of_ble_eq_true rfl, Nat.le_of_ble_eq_true rfl⟩ rfl hl.1 rfl (Nat.le_of_ble_eq_true rfl) dX5_coefficient_60 (fun r6 g6 H locs hp6 hP hS => ?_)
      obtain ⟨er6, ehp6g⟩ := hp6
      rw [ehp6g] at hP
      rw [er6]
      exact hret (nI ((van t kp (fpl t (V + 1 - 1) 1 k2) k3).val)) g _ _ _ _ _ _ ⟨by decide, by decide⟩ rfl ⟨k1, k2, k3, hk1b, hk2b, hk3b, rfl, rfl, rfl, han, (by rw [← eqF_of (Nat.succ_pos V) hrr hfi]; unfold eqv; rw [if_pos hk3b]), rfl⟩ hP hS dX5_coefficient_63
    · skip
      rw [hQ]
      exact cx_throw (ik := 133) (ic := 137) (is := 151) (X := xIO) (text := "no such equation") hx hb hst9 hown hts (by decide) (by decide) th_X5_coefficient_xIO hX hP hS (hl.1.trans hml.symm) dX5_coefficient_35 dX5_coefficient_38 dX5_coefficient_39 dX5_coefficient_41 dX5_coefficient_44 hexc ⟨Nat.le_of_ble_eq_true rfl, Nat.le_of_ble_eq_true rfl, Nat.le_of_ble_eq_true rfl, Nat.le_of_ble_eq_true rfl⟩ hlk (Or.inr (Or.inr ⟨rfl, han, k1, k3, hk1b, hk3b, rfl, rfl, nb_n (by omega) h32⟩)) (by decide) (by decide)

set_option maxRecDepth 20000 in
theorem wd_X5_holds_0 : Cond.fieldLink RX5 57 "AffineHulls" "hulls" "[LAffineHulls$Hull;" ∈ wsX5_holds := by decide +kernel
set_option maxRecDepth 20000 in
theorem in_X5_holds_X5 : ∀ w ∈ u_ws RX5 TX5 15, w ∈ wsX5_holds := by decide +kernel
abbrev rm_X5_holds : Room := { frames := 7, cells := 4, slots := 24, locals := 103 }
set_option maxHeartbeats 4000000 in
set_option maxRecDepth 100000 in
theorem c_X5_holds {l : Launch} (hst9 : l.stackTraces = false) {G : cx_G} {L : List Nat} {ad : Nat → Nat} {g : Nat → va_E} (hD : cx_D L ad) {N V M ec en al pl nc : Nat} {an : Bool} {x1 : Int32} {P : PS} {d : Nat → FF} (hN : N ≤ 8) (hV1 : 1 ≤ V) (hV : V ≤ 4) (hM : M = N * (V + 1)) (hM2 : M ≤ 40) (hm : ∀ j : Nat, lbX N V M j → j ∈ L) (c_o : g 0 = .inr (5, [.int (nI V), .ref (ad 1), .ref (ad 4), .int (nI ec), .int (nI en), .ref (ad 5), .ref (ad 6), .int (nI al), .int (if an = true then 1 else 0), .int (nI pl), .ref (ad 2), .ref (ad 7), .int (nI nc), .ref (ad 180), .ref (ad 3)])) (c_d : g 1 = nA G (V + 1) (vN d)) (c_H : g 5 = rA (G.2 3) N (fun i => if i < N then some (ad (200 + 2 * i)) else none)) (c_A : g 6 = rA (G.2 5) M (fun i => if i < M then some (ad (500 + 2 * i)) else none)) (hd : Zb (V + 1) d) (xa : XA G ad g N V M P) : XI l yX5_holds wsX5_holds rm_X5_holds G L ad g [.ref (ad 0), .int x1] (fun r u => ∃ k1 : Nat, k1 < N ∧ x1 = nI k1 ∧ an = true ∧ r = (if hldF (V + 1) d (P.2.2.2.2.1 k1) (P.2.2.2.1 k1) = true then 1 else 0) ∧ (∀ j : Nat, j ≠ 1 → u j = g j) ∧ u 1 = nA G (V + 1) (vN (fun _ => 0))) (fun E => (E = xIA ∧ ¬ (inB 0 N x1)) ∨ (E = xIS ∧ (inB 0 N x1) ∧ ¬ an = true)) 4 24 := by
  refine cx_ofXI (cc := cX5_holds) (maxL := 3) (by decide +kernel) rfl (Nat.le_of_ble_eq_true rfl) ?_
  intro p e s m args below meth c Q hQ hx hb hts hown hml hexc hlk hP hK hX hS hz hret ls hl
  have hown : s.vm.findClass RX5 = some m.cls := hown
  have hl : lv_has ls 3 [(0, .ref (ad 0)), (1, .int x1)] := hl
  have fr : ∀ j : Nat, j ≠ 1 → g j = g j := fun _ _ => rfl
  refine lv_aload_n hx hb dX5_holds_0 rfl (lv_at hl 0 rfl) ?_
  refine lv_iload_n hx hb dX5_holds_1 rfl (lv_at hl 1 rfl) ?_
  refine cx_XVv (As := [.int x1]) (rest := []) (mc := 1) (ms := 6) ⟨hx, hb, hml, hown, hts⟩ (c_X5_requireNode hst9 hD hN hV1 hV hM hM2 hm c_o c_H (x1 := x1)) (cwV 1 hts gX5_holds_X5_requireNode rfl rfl rfl (by decide +kernel) ⟨Nat.le_of_ble_eq_true rfl, Nat.le_of_ble_eq_true rfl⟩) hK hX hP hS hz (hm _ (by unfold lbX; omega)) c_o rfl ⟨Nat.le_of_ble_eq_true rfl, Nat.le_of_ble_eq_true rfl⟩ rfl hl.1 rfl (Nat.le_of_ble_eq_true rfl) dX5_holds_2 (fun E ce q9 H locs hE hP hS h1x h2x h3x => by rw [hQ]; exact cx_leave hexc hlk h1x h2x h3x (Or.inl hE) hP hS (by decide) (by decide)) (fun g1 H locs hp1 hP hS => ?_)
  obtain ⟨ehp1, k1, hk1a, hk1b, rfl⟩ := hp1
  rw [ehp1] at hP
  refine lv_aload_n hx hb dX5_holds_5 rfl (lv_at hl 0 rfl) ?_
  refine cx_XVv (As := []) (rest := []) (mc := 1) (ms := 6) ⟨hx, hb, hml, hown, hts⟩ (c_X5_requireAnalysed hst9 hD hN hV1 hV hM hM2 hm c_o) (cwV 0 hts gX5_holds_X5_requireAnalysed rfl rfl rfl (by decide +kernel) ⟨Nat.le_of_ble_eq_true rfl, Nat.le_of_ble_eq_true rfl⟩) hK hX hP hS hz (hm _ (by unfold lbX; omega)) c_o rfl ⟨Nat.le_of_ble_eq_true rfl, Nat.le_of_ble_eq_true rfl⟩ rfl hl.1 rfl (Nat.le_of_ble_eq_true rfl) dX5_holds_6 (fun E ce q9 H locs hE hP hS h1x h2x h3x => by rw [hQ]; exact cx_leave hexc hlk h1x h2x h3x (Or.inr ⟨hE.1, inB_lit hk1a hk1b, hE.2⟩) hP hS (by decide) (by decide)) (fun g2 H locs hp2 hP hS => ?_)
  obtain ⟨ehp2, han⟩ := hp2
  rw [ehp2] at hP
  refine lv_aload_n hx hb dX5_holds_9 rfl (lv_at hl 0 rfl) ?_
  refine lv_aload_n hx hb dX5_holds_10 rfl (lv_at hl 0 rfl) ?_
  refine ax_get (k := 0) (v := .ref (ad 5)) hx hb hts in_X5_holds_X5 hown hK hP (hm _ (by unfold lbX; omega)) c_o rfl 5 (by decide) (hts _ wd_X5_holds_0) (fun _ h9 => h9) rfl dX5_holds_11 ?_
  refine lv_iload_n hx hb dX5_holds_14 rfl (lv_at hl 1 rfl) ?_
  refine ax_aald (k := 5) (i := k1) (b := ad (200 + 2 * k1)) hx hb hK hP (hm _ (by unfold lbX; omega)) 3 rfl rfl c_H (by omega) (by omega) (if_pos (by omega)) dX5_holds_15 ?_
  refine cx_Vi (As := [.ref (ad (200 + 2 * k1))]) (rest := []) ⟨hx, hb, hml, hown, hts⟩ (c_X5_holdsAtPoints hD (node := k1) (d := d) hN hV1 hV hM hM2 hm hk1b c_o c_d c_A xa) (cwV 1 hts gX5_holds_X5_holdsAtPoints rfl rfl rfl (by decide +kernel) ⟨Nat.le_of_ble_eq_true rfl, Nat.le_of_ble_eq_true rfl⟩) hK hP hS hz (hm _ (by unfold lbX; omega)) c_o rfl ⟨Nat.le_of_ble_eq_true rfl, Nat.le_of_ble_eq_true rfl⟩ rfl hl.1 rfl (Nat.le_of_ble_eq_true rfl) dX5_holds_16 (fun r3 g3 H locs hp3 hP hS => ?_)
  obtain ⟨er3, ehp3g⟩ := hp3
  rw [ehp3g] at hP
  rw [er3]
  refine lv_istore_n (lv' := [(2, .int (if (hldF (V + 1) d (P.2.2.2.2.1 k1) (P.2.2.2.1 k1)) = true then 1 else 0)), (0, .ref (ad 0)), (1, .int (nI k1))]) hx hb dX5_holds_19 rfl hl (by decide) rfl (fun ls hl => ?_)
  refine lv_aload_n hx hb dX5_holds_20 rfl (lv_at hl 1 rfl) ?_
  refine cx_Vv (As := []) (rest := []) ⟨hx, hb, hml, hown, hts⟩ (c_X5_clearDraft hD hN hV1 hV hM hM2 hm (d := d) c_o c_d) (cwV 0 hts gX5_holds_X5_clearDraft rfl rfl rfl (by decide +kernel) ⟨Nat.le_of_ble_eq_true rfl, Nat.le_of_ble_eq_true rfl⟩) hK hP hS hz (hm _ (by unfold lbX; omega)) c_o rfl ⟨Nat.le_of_ble_eq_true rfl, Nat.le_of_ble_eq_true rfl⟩ rfl hl.1 rfl (Nat.le_of_ble_eq_true rfl) dX5_holds_21 (fun g4 H locs hp4 hP hS => ?_)
  obtain ⟨hp4a, hp4b⟩ := hp4
  have c_o : g4 0 = .inr (5, [.int (nI V), .ref (ad 1), .ref (ad 4), .int (nI ec), .int (nI en), .ref (ad 5), .ref (ad 6), .int (nI al), .int (if an = true then 1 else 0), .int (nI pl), .ref (ad 2), .ref (ad 7), .int (nI nc), .ref (ad 180), .ref (ad 3)]) := (hp4a 0 (by omega)).trans c_o
  have c_H : g4 5 = rA (G.2 3) N (fun i => if i < N then some (ad (200 + 2 * i)) else none) := (hp4a 5 (by omega)).trans c_H
  have c_A : g4 6 = rA (G.2 5) M (fun i => if i < M then some (ad (500 + 2 * i)) else none) := (hp4a 6 (by omega)).trans c_A
  have fr : ∀ j : Nat, j ≠ 1 → g4 j = g j := fun j hj => (hp4a j (by omega)).trans (fr j hj)
  have c_d := hp4b
  rw [fl0_z hd] at c_d
  refine lv_iload_n hx hb dX5_holds_24 rfl (lv_at hl 0 rfl) ?_
  exact hret (if (hldF (V + 1) d (P.2.2.2.2.1 k1) (P.2.2.2.1 k1)) = true then 1 else 0) g4 _ _ _ _ _ _ ⟨by decide, by decide⟩ (nar_z _) ⟨k1, hk1b, rfl, han, rfl, fr, c_d⟩ hP hS dX5_holds_25

set_option maxRecDepth 20000 in
theorem wd_X5_begin_0 : Cond.fieldLink RX5 29 "AffineHulls" "values" "[I" ∈ wsX5_begin := by decide +kernel
set_option maxRecDepth 20000 in
theorem in_X5_begin_X5 : ∀ w ∈ u_ws RX5 TX5 15, w ∈ wsX5_begin := by decide +kernel
set_option maxRecDepth 20000 in
theorem wd_X5_begin_2 : Cond.fieldLink RX5 108 "AffineHulls" "entryNode" "I" ∈ wsX5_begin := by decide +kernel
set_option maxRecDepth 20000 in
theorem wd_X5_begin_3 : Cond.fieldLink RX5 111 "AffineHulls" "place" "I" ∈ wsX5_begin := by decide +kernel
abbrev rm_X5_begin : Room := { frames := 7, cells := 4, slots := 24, locals := 103 }
set_option maxHeartbeats 4000000 in
set_option maxRecDepth 100000 in
theorem c_X5_begin {l : Launch} (hst9 : l.stackTraces = false) {G : cx_G} {L : List Nat} {ad : Nat → Nat} {g : Nat → va_E} (hD : cx_D L ad) {N V M ec en al pl nc : Nat} {an : Bool} {x1 x2 : Int32} {va : Nat → FF} (hN : N ≤ 8) (hV1 : 1 ≤ V) (hV : V ≤ 4) (hM : M = N * (V + 1)) (hM2 : M ≤ 40) (hm : ∀ j : Nat, lbX N V M j → j ∈ L) (c_o : g 0 = .inr (5, [.int (nI V), .ref (ad 1), .ref (ad 4), .int (nI ec), .int (nI en), .ref (ad 5), .ref (ad 6), .int (nI al), .int (if an = true then 1 else 0), .int (nI pl), .ref (ad 2), .ref (ad 7), .int (nI nc), .ref (ad 180), .ref (ad 3)])) (c_v : g 2 = nA G (V + 1) (vN va)) : XV l yX5_begin wsX5_begin rm_X5_begin G L ad g [.ref (ad 0), .int x1, .int x2] (fun u => ∃ k1 : Nat, 1 ≤ k1 ∧ k1 < V + 1 ∧ x1 = nI k1 ∧ (∀ j : Nat, (j ≠ 0 ∧ j ≠ 2) → u j = g j) ∧ u 0 = .inr (5, [.int (nI V), .ref (ad 1), .ref (ad 4), .int (nI ec), .int (nI en), .ref (ad 5), .ref (ad 6), .int (nI al), .int (if an = true then 1 else 0), .int (nI en), .ref (ad 2), .ref (ad 7), .int (nI nc), .ref (ad 180), .ref (ad 3)]) ∧ u 2 = nA G (V + 1) (vN (nu va k1 (fi x2.toInt)))) (fun E => E = xIA ∧ ¬ inB 1 (V + 1) x1) 4 24 := by
  refine cx_ofXV (cc := cX5_begin) (maxL := 3) (by decide +kernel) rfl (Nat.le_of_ble_eq_true rfl) ?_
  intro p e s m args below meth c Q hQ hx hb hts hown hml hexc hlk hP hK hX hS hz hret ls hl
  have hown : s.vm.findClass RX5 = some m.cls := hown
  have hl : lv_has ls 3 [(0, .ref (ad 0)), (1, .int x1), (2, .int x2)] := hl
  have fr : ∀ j : Nat, (j ≠ 0 ∧ j ≠ 2) → g j = g j := fun _ _ => rfl
  refine lv_aload_n hx hb dX5_begin_0 rfl (lv_at hl 0 rfl) ?_
  refine lv_iload_n hx hb dX5_begin_1 rfl (lv_at hl 1 rfl) ?_
  refine cx_XVv (As := [.int x1]) (rest := []) (mc := 1) (ms := 6) ⟨hx, hb, hml, hown, hts⟩ (c_X5_requireVariable hst9 hD hN hV1 hV hM hM2 hm c_o (x1 := x1)) (cwV 1 hts gX5_begin_X5_requireVariable rfl rfl rfl (by decide +kernel) ⟨Nat.le_of_ble_eq_true rfl, Nat.le_of_ble_eq_true rfl⟩) hK hX hP hS hz (hm _ (by unfold lbX; omega)) c_o rfl ⟨Nat.le_of_ble_eq_true rfl, Nat.le_of_ble_eq_true rfl⟩ rfl hl.1 rfl (Nat.le_of_ble_eq_true rfl) dX5_begin_2 (fun E ce q9 H locs hE hP hS h1x h2x h3x => by rw [hQ]; exact cx_leave hexc hlk h1x h2x h3x hE hP hS (by decide) (by decide)) (fun g1 H locs hp1 hP hS => ?_)
  obtain ⟨ehp1, k1, hk1a, hk1b, rfl⟩ := hp1
  rw [ehp1] at hP
  refine lv_aload_n hx hb dX5_begin_5 rfl (lv_at hl 0 rfl) ?_
  refine ax_get (k := 0) (v := .ref (ad 2)) hx hb hts in_X5_begin_X5 hown hK hP (hm _ (by unfold lbX; omega)) c_o rfl 10 (by decide) (hts _ wd_X5_begin_0) (fun _ h9 => h9) rfl dX5_begin_6 ?_
  refine lv_iload_n hx hb dX5_begin_9 rfl (lv_at hl 1 rfl) ?_
  refine lv_iload_n hx hb dX5_begin_10 rfl (lv_at hl 2 rfl) ?_
  refine cx_Si (As := [.int x2]) (rest := [.int (nI k1), .ref (ad 2)]) ⟨hx, hb, hml, hown, hts⟩ (c_X5_number hD (x := x2)) (va_cwS 1 hts gX5_begin_X5_number rfl rfl rfl (by decide +kernel) ⟨Nat.le_of_ble_eq_true rfl, Nat.le_of_ble_eq_true rfl⟩) hK hP hS hz ⟨Nat.le_of_ble_eq_true rfl, Nat.le_of_ble_eq_true rfl⟩ rfl hl.1 rfl (Nat.le_of_ble_eq_true rfl) dX5_begin_11 (fun r2 g2 H locs hp2 hP hS => ?_)
  obtain ⟨er2, ehp2g⟩ := hp2
  rw [ehp2g] at hP
  rw [er2]
  refine ax_iast (k := 2) (i := k1) (f' := (fun j => nI ((nu (vN va) k1 ((fi (x2).toInt).val)) j))) hx hb hK hP hD hS (hm _ (by unfold lbX; omega)) c_v (by omega) (by omega) (up_n _ _ _) dX5_begin_14 (fun H locs g3 eg3 hP hS => ?_)
  have c_o : g3 0 = .inr (5, [.int (nI V), .ref (ad 1), .ref (ad 4), .int (nI ec), .int (nI en), .ref (ad 5), .ref (ad 6), .int (nI al), .int (if an = true then 1 else 0), .int (nI pl), .ref (ad 2), .ref (ad 7), .int (nI nc), .ref (ad 180), .ref (ad 3)]) := (cx_ne eg3 0 (by omega)).trans c_o
  have c_v : g3 2 = nA G (V + 1) (nu (vN va) k1 ((fi (x2).toInt).val)) := cx_eq eg3
  have fr : ∀ j : Nat, (j ≠ 0 ∧ j ≠ 2) → g3 j = g j := fun j hj => (cx_ne eg3 j (by omega)).trans (fr j hj)
  refine lv_aload_n hx hb dX5_begin_15 rfl (lv_at hl 0 rfl) ?_
  refine lv_aload_n hx hb dX5_begin_16 rfl (lv_at hl 0 rfl) ?_
  refine ax_get (k := 0) (v := .int (nI en)) hx hb hts in_X5_begin_X5 hown hK hP (hm _ (by unfold lbX; omega)) c_o rfl 4 (by decide) (hts _ wd_X5_begin_2) (fun _ h9 => h9) rfl dX5_begin_17 ?_
  refine ax_put (k := 0) (v := .int (nI en)) (fs' := [.int (nI V), .ref (ad 1), .ref (ad 4), .int (nI ec), .int (nI en), .ref (ad 5), .ref (ad 6), .int (nI al), .int (if an = true then 1 else 0), .int (nI en), .ref (ad 2), .ref (ad 7), .int (nI nc), .ref (ad 180), .ref (ad 3)]) hx hb hts in_X5_begin_X5 tyX5 tyX5_ok nmX5 hown hK hP hD hS (hm _ (by unfold lbX; omega)) c_o rfl 9 (by decide) (hts _ wd_X5_begin_3) (fun _ h9 => h9) rfl (ty := .int) (by decide +kernel) rfl rfl (Nat.le_of_ble_eq_true rfl) rfl dX5_begin_20 (fun H locs g4 eg4 hP hS => ?_)
  have c_v : g4 2 = nA G (V + 1) (nu (vN va) k1 ((fi (x2).toInt).val)) := (cx_ne eg4 2 (by omega)).trans c_v
  have c_o : g4 0 = .inr (5, [.int (nI V), .ref (ad 1), .ref (ad 4), .int (nI ec), .int (nI en), .ref (ad 5), .ref (ad 6), .int (nI al), .int (if an = true then 1 else 0), .int (nI en), .ref (ad 2), .ref (ad 7), .int (nI nc), .ref (ad 180), .ref (ad 3)]) := cx_eq eg4
  have fr : ∀ j : Nat, (j ≠ 0 ∧ j ≠ 2) → g4 j = g j := fun j hj => (cx_ne eg4 j (by omega)).trans (fr j hj)
  exact hret g4 _ _ _ _ _ _ ⟨by decide, by decide⟩ ⟨k1, hk1a, hk1b, rfl, fr, c_o, by rw [vN_nu] at c_v; exact c_v⟩ hP hS dX5_begin_23

set_option maxRecDepth 20000 in
theorem th_X5_go_xIA : ∀ w ∈ Cond.classLink RX5 79 xIA :: Cond.initialized xIA :: (vx_atS RX5 83 xIA xNm).filter goodWord, w ∈ wsX5_go := by decide +kernel
set_option maxRecDepth 20000 in
theorem wd_X5_go_1 : Cond.fieldLink RX5 89 "AffineHulls" "edgeCount" "I" ∈ wsX5_go := by decide +kernel
set_option maxRecDepth 20000 in
theorem in_X5_go_X5 : ∀ w ∈ u_ws RX5 TX5 15, w ∈ wsX5_go := by decide +kernel
set_option maxRecDepth 20000 in
theorem wd_X5_go_3 : Cond.fieldLink RX5 43 "AffineHulls" "edges" "[LAffineHulls$Edge;" ∈ wsX5_go := by decide +kernel
set_option maxRecDepth 20000 in
theorem wd_X5_go_4 : Cond.fieldLink RX5 168 "AffineHulls$Edge" "from" "I" ∈ wsX5_go := by decide +kernel
set_option maxRecDepth 20000 in
theorem in_X5_go_X0 : ∀ w ∈ u_ws RX0 TX0 5, w ∈ wsX5_go := by decide +kernel
set_option maxRecDepth 20000 in
theorem wd_X5_go_6 : Cond.fieldLink RX5 111 "AffineHulls" "place" "I" ∈ wsX5_go := by decide +kernel
set_option maxRecDepth 20000 in
theorem wd_X5_go_7 : Cond.fieldLink RX5 29 "AffineHulls" "values" "[I" ∈ wsX5_go := by decide +kernel
set_option maxRecDepth 20000 in
theorem wd_X5_go_8 : Cond.fieldLink RX5 181 "AffineHulls$Edge" "to" "I" ∈ wsX5_go := by decide +kernel
abbrev rm_X5_go : Room := { frames := 6, cells := 4, slots := 24, locals := 82 }
set_option maxHeartbeats 4000000 in
set_option maxRecDepth 100000 in
theorem c_X5_go {l : Launch} (hst9 : l.stackTraces = false) {G : cx_G} {L : List Nat} {ad : Nat → Nat} {g : Nat → va_E} (hD : cx_D L ad) {N V M ec en al pl nc : Nat} {an : Bool} {x1 x2 : Int32} {va : Nat → FF} {ef et ek ev : Nat → Nat} {ez : Nat → Int32} {eg : Nat → Nat → FF} (hN : N ≤ 8) (hV1 : 1 ≤ V) (hV : V ≤ 4) (hM : M = N * (V + 1)) (hM2 : M ≤ 40) (hm : ∀ j : Nat, lbX N V M j → j ∈ L) (c_o : g 0 = .inr (5, [.int (nI V), .ref (ad 1), .ref (ad 4), .int (nI ec), .int (nI en), .ref (ad 5), .ref (ad 6), .int (nI al), .int (if an = true then 1 else 0), .int (nI pl), .ref (ad 2), .ref (ad 7), .int (nI nc), .ref (ad 180), .ref (ad 3)])) (c_v : g 2 = nA G (V + 1) (vN va)) (c_E : g 4 = rA (G.2 2) 20 (fun i => if i < 20 then some (ad (300 + 2 * i)) else none)) (hpl : pl < N) (hev : EV N V ec ef et ek ez ev eg) (xe : XE G ad g V ef et ek ez eg) : XI l yX5_go wsX5_go rm_X5_go G L ad g [.ref (ad 0), .int x1, .int x2] (fun r u => ∃ k1 : Nat, k1 < ec ∧ x1 = nI k1 ∧ ef k1 = pl ∧ ((r = nI 0 ∧ (opn (ek k1) (dot (eg k1) va (V + 1))) = false ∧ u = g) ∨ (r = nI 1 ∧ (opn (ek k1) (dot (eg k1) va (V + 1))) = true ∧ (∀ j : Nat, (j ≠ 0 ∧ j ≠ 2) → u j = g j) ∧ u 0 = .inr (5, [.int (nI V), .ref (ad 1), .ref (ad 4), .int (nI ec), .int (nI en), .ref (ad 5), .ref (ad 6), .int (nI al), .int (if an = true then 1 else 0), .int (nI (et k1)), .ref (ad 2), .ref (ad 7), .int (nI nc), .ref (ad 180), .ref (ad 3)]) ∧ u 2 = nA G (V + 1) (vN (stepF (V + 1) (ek k1) (ev k1) (eg k1) (fi x2.toInt) va))))) (fun E => E = xIA ∧ ¬ ∃ k : Nat, k < ec ∧ x1 = nI k ∧ ef k = pl) 4 24 := by
  refine cx_ofXI (cc := cX5_go) (maxL := 4) (by decide +kernel) rfl (Nat.le_of_ble_eq_true rfl) ?_
  intro p e s m args below meth c Q hQ hx hb hts hown hml hexc hlk hP hK hX hS hz hret ls hl
  have hown : s.vm.findClass RX5 = some m.cls := hown
  have hl : lv_has ls 4 [(0, .ref (ad 0)), (1, .int x1), (2, .int x2)] := hl
  have fr : ∀ j : Nat, (j ≠ 0 ∧ j ≠ 2) → g j = g j := fun _ _ => rfl
  have hec := hev.1
  refine lv_iload_n hx hb dX5_go_0 rfl (lv_at hl 1 rfl) ?_
  refine lv_if_lt (x := x1) (tgt := 12) hx hb dX5_go_1 (by decide) (fun h1 => ?_) (fun h1 => ?_)
  · skip
    rw [hQ]
    exact cx_throw (ik := 79) (ic := 83) (is := 166) (X := xIA) (text := "no such edge") hx hb hst9 hown hts (by decide) (by decide) th_X5_go_xIA hX hP hS (hl.1.trans hml.symm) dX5_go_12 dX5_go_15 dX5_go_16 dX5_go_18 dX5_go_21 hexc ⟨Nat.le_of_ble_eq_true rfl, Nat.le_of_ble_eq_true rfl, Nat.le_of_ble_eq_true rfl, Nat.le_of_ble_eq_true rfl⟩ hlk (⟨rfl, fun ⟨k, q1, q2, q3⟩ => nb_0 (n := ec) (by omega) h1 ⟨k, Nat.zero_le _, q1, q2⟩⟩) (by decide) (by decide)
  · skip
    refine lv_iload_n hx hb dX5_go_4 rfl (lv_at hl 1 rfl) ?_
    refine lv_aload_n hx hb dX5_go_5 rfl (lv_at hl 0 rfl) ?_
    refine ax_get (k := 0) (v := .int (nI ec)) hx hb hts in_X5_go_X5 hown hK hP (hm _ (by unfold lbX; omega)) c_o rfl 3 (by decide) (hts _ wd_X5_go_1) (fun _ h9 => h9) rfl dX5_go_6 ?_
    refine lv_icmp_lt (x := x1) (y := nI ec) (tgt := 22) hx hb dX5_go_9 (by decide) (fun h9 => ?_) (fun h9 => ?_)
    · skip
      obtain ⟨k1, hk1a, hk1b, rfl⟩ := yb_n (n := ec) (by omega) h1 h9
      have c_ed := xe.1 k1 (by omega)
      have c_ef := xe.2 k1 (by omega)
      obtain ⟨hf1, hf2, hf3, hf4⟩ := hev.2.1 k1 hk1b
      refine lv_aload_n hx hb dX5_go_22 rfl (lv_at hl 0 rfl) ?_
      refine ax_get (k := 0) (v := .ref (ad 4)) hx hb hts in_X5_go_X5 hown hK hP (hm _ (by unfold lbX; omega)) c_o rfl 2 (by decide) (hts _ wd_X5_go_3) (fun _ h9 => h9) rfl dX5_go_23 ?_
      refine lv_iload_n hx hb dX5_go_26 rfl (lv_at hl 1 rfl) ?_
      refine ax_aald (k := 4) (i := k1) (b := ad (300 + 2 * k1)) hx hb hK hP (hm _ (by unfold lbX; omega)) 2 rfl rfl c_E (by omega) (by omega) (if_pos (by omega)) dX5_go_27 ?_
      refine lv_astore_n (lv' := [(3, .ref (ad (300 + 2 * k1))), (0, .ref (ad 0)), (1, .int (nI k1)), (2, .int x2)]) hx hb dX5_go_28 rfl hl (by decide) rfl (fun ls hl => ?_)
      refine lv_aload_n hx hb dX5_go_29 rfl (lv_at hl 0 rfl) ?_
      refine ax_get (k := 300 + 2 * k1) (v := .int (nI (ef k1))) hx hb hts in_X5_go_X0 hown hK hP (hm _ (by unfold lbX; omega)) c_ed rfl 0 (by decide) (hts _ wd_X5_go_4) (fun _ h9 => h9) rfl dX5_go_30 ?_
      refine lv_aload_n hx hb dX5_go_33 rfl (lv_at hl 1 rfl) ?_
      refine ax_get (k := 0) (v := .int (nI pl)) hx hb hts in_X5_go_X5 hown hK hP (hm _ (by unfold lbX; omega)) c_o rfl 9 (by decide) (hts _ wd_X5_go_6) (fun _ h9 => h9) rfl dX5_go_34 ?_
      refine ax_iceq (a := ef k1) (b := pl) (tgt := 50) hx hb dX5_go_37 (by decide) (by omega) (by omega) (fun h37 => ?_) (fun h37 => ?_)
      · skip
        refine lv_aload_n hx hb dX5_go_50 rfl (lv_at hl 0 rfl) ?_
        refine lv_aload_n hx hb dX5_go_51 rfl (lv_at hl 1 rfl) ?_
        refine ax_get (k := 0) (v := .ref (ad 2)) hx hb hts in_X5_go_X5 hown hK hP (hm _ (by unfold lbX; omega)) c_o rfl 10 (by decide) (hts _ wd_X5_go_7) (fun _ h9 => h9) rfl dX5_go_52 ?_
        refine cx_Vi (As := [.ref (ad 2)]) (rest := []) ⟨hx, hb, hml, hown, hts⟩ (c_X0_isOpen hD (k := 300 + 2 * k1) (kf := 301 + 2 * k1) (b := 2) (n := V + 1) (kd := ek k1) (f := eg k1) (w := va) (hm _ (by unfold lbX; omega)) (hm _ (by unfold lbX; omega)) (hm _ (by unfold lbX; omega)) (by omega) (by omega) c_ed c_ef c_v) (cwV 1 hts gX5_go_X0_isOpen rfl rfl rfl (by decide +kernel) ⟨Nat.le_of_ble_eq_true rfl, Nat.le_of_ble_eq_true rfl⟩) hK hP hS hz (hm _ (by unfold lbX; omega)) c_ed rfl ⟨Nat.zero_le _, Nat.zero_le _⟩ rfl hl.1 rfl (Nat.le_of_ble_eq_true rfl) dX5_go_55 (fun r1 g1 H locs hp1 hP hS => ?_)
        obtain ⟨er1, ehp1g⟩ := hp1
        rw [ehp1g] at hP
        rw [er1]
        refine ax_zne (b := (opn (ek k1) (dot (eg k1) va (V + 1)))) (tgt := 63) hx hb dX5_go_58 (by decide) (fun h58 => ?_) (fun h58 => ?_)
        · skip
          refine lv_aload_n hx hb dX5_go_63 rfl (lv_at hl 0 rfl) ?_
          refine lv_aload_n hx hb dX5_go_64 rfl (lv_at hl 1 rfl) ?_
          refine ax_get (k := 0) (v := .ref (ad 2)) hx hb hts in_X5_go_X5 hown hK hP (hm _ (by unfold lbX; omega)) c_o rfl 10 (by decide) (hts _ wd_X5_go_7) (fun _ h9 => h9) rfl dX5_go_65 ?_
          refine lv_iload_n hx hb dX5_go_68 rfl (lv_at hl 3 rfl) ?_
          refine cx_Si (As := [.int x2]) (rest := [.ref (ad 2), .ref (ad (300 + 2 * k1))]) ⟨hx, hb, hml, hown, hts⟩ (c_X5_number hD (x := x2)) (va_cwS 1 hts gX5_go_X5_number rfl rfl rfl (by decide +kernel) ⟨Nat.le_of_ble_eq_true rfl, Nat.le_of_ble_eq_true rfl⟩) hK hP hS hz ⟨Nat.zero_le _, Nat.zero_le _⟩ rfl hl.1 rfl (Nat.le_of_ble_eq_true rfl) dX5_go_69 (fun r2 g2 H locs hp2 hP hS => ?_)
          obtain ⟨er2, ehp2g⟩ := hp2
          rw [ehp2g] at hP
          rw [er2]
          refine cx_Vv (As := [.ref (ad 2), .int (nI ((fi (x2).toInt).val))]) (rest := []) ⟨hx, hb, hml, hown, hts⟩ (c_X0_step hD (k := 300 + 2 * k1) (kf := 301 + 2 * k1) (b := 2) (n := V + 1) (kd := ek k1) (vr := ev k1) (f := eg k1) (w := va) (xf := fi x2.toInt) (by omega) (by omega) (hm _ (by unfold lbX; omega)) (hm _ (by unfold lbX; omega)) (hm _ (by unfold lbX; omega)) (by omega) (by omega) (fun h => ⟨(hf4 h).1, (hf4 h).2.2⟩) c_ed c_ef c_v) (cwV 2 hts gX5_go_X0_step rfl rfl rfl (by decide +kernel) ⟨Nat.le_of_ble_eq_true rfl, Nat.le_of_ble_eq_true rfl⟩) hK hP hS hz (hm _ (by unfold lbX; omega)) c_ed rfl ⟨Nat.zero_le _, Nat.zero_le _⟩ rfl hl.1 rfl (Nat.le_of_ble_eq_true rfl) dX5_go_72 (fun g3 H locs hp3 hP hS => ?_)
          obtain ⟨hp3a, hp3b⟩ := hp3
          have c_o : g3 0 = .inr (5, [.int (nI V), .ref (ad 1), .ref (ad 4), .int (nI ec), .int (nI en), .ref (ad 5), .ref (ad 6), .int (nI al), .int (if an = true then 1 else 0), .int (nI pl), .ref (ad 2), .ref (ad 7), .int (nI nc), .ref (ad 180), .ref (ad 3)]) := (hp3a 0 (by omega)).trans c_o
          have c_E : g3 4 = rA (G.2 2) 20 (fun i => if i < 20 then some (ad (300 + 2 * i)) else none) := (hp3a 4 (by omega)).trans c_E
          have c_ed : g3 (300 + 2 * k1) = .inr (0, [.int (nI (ef k1)), .int (nI (et k1)), .int (nI (ek k1)), .int (ez k1), .ref (ad (301 + 2 * k1))]) := (hp3a (300 + 2 * k1) (by omega)).trans c_ed
          have c_ef : g3 (301 + 2 * k1) = nA G (V + 1) (vN (eg k1)) := (hp3a (301 + 2 * k1) (by omega)).trans c_ef
          have fr : ∀ j : Nat, (j ≠ 0 ∧ j ≠ 2) → g3 j = g j := fun j hj => (hp3a j (by omega)).trans (fr j hj)
          have c_v := hp3b
          refine lv_aload_n hx hb dX5_go_75 rfl (lv_at hl 1 rfl) ?_
          refine lv_aload_n hx hb dX5_go_76 rfl (lv_at hl 0 rfl) ?_
          refine ax_get (k := 300 + 2 * k1) (v := .int (nI (et k1))) hx hb hts in_X5_go_X0 hown hK hP (hm _ (by unfold lbX; omega)) c_ed rfl 1 (by decide) (hts _ wd_X5_go_8) (fun _ h9 => h9) rfl dX5_go_77 ?_
          refine ax_put (k := 0) (v := .int (nI (et k1))) (fs' := [.int (nI V), .ref (ad 1), .ref (ad 4), .int (nI ec), .int (nI en), .ref (ad 5), .ref (ad 6), .int (nI al), .int (if an = true then 1 else 0), .int (nI (et k1)), .ref (ad 2), .ref (ad 7), .int (nI nc), .ref (ad 180), .ref (ad 3)]) hx hb hts in_X5_go_X5 tyX5 tyX5_ok nmX5 hown hK hP hD hS (hm _ (by unfold lbX; omega)) c_o rfl 9 (by decide) (hts _ wd_X5_go_6) (fun _ h9 => h9) rfl (ty := .int) (by decide +kernel) rfl rfl (Nat.le_of_ble_eq_true rfl) rfl dX5_go_80 (fun H locs g4 eg4 hP hS => ?_)
          have c_v : g4 2 = nA G (V + 1) (vN (stepF (V + 1) (ek k1) (ev k1) (eg k1) (fi x2.toInt) va)) := (cx_ne eg4 2 (by omega)).trans c_v
          have c_E : g4 4 = rA (G.2 2) 20 (fun i => if i < 20 then some (ad (300 + 2 * i)) else none) := (cx_ne eg4 4 (by omega)).trans c_E
          have c_ed : g4 (300 + 2 * k1) = .inr (0, [.int (nI (ef k1)), .int (nI (et k1)), .int (nI (ek k1)), .int (ez k1), .ref (ad (301 + 2 * k1))]) := (cx_ne eg4 (300 + 2 * k1) (by omega)).trans c_ed
          have c_ef : g4 (301 + 2 * k1) = nA G (V + 1) (vN (eg k1)) := (cx_ne eg4 (301 + 2 * k1) (by omega)).trans c_ef
          have c_o : g4 0 = .inr (5, [.int (nI V), .ref (ad 1), .ref (ad 4), .int (nI ec), .int (nI en), .ref (ad 5), .ref (ad 6), .int (nI al), .int (if an = true then 1 else 0), .int (nI (et k1)), .ref (ad 2), .ref (ad 7), .int (nI nc), .ref (ad 180), .ref (ad 3)]) := cx_eq eg4
          have fr : ∀ j : Nat, (j ≠ 0 ∧ j ≠ 2) → g4 j = g j := fun j hj => (cx_ne eg4 j (by omega)).trans (fr j hj)
          refine lv_iconst (v := nI 1) hx hb dX5_go_83 (by decide) ?_
          exact hret (nI 1) g4 _ _ _ _ _ _ ⟨by decide, by decide⟩ (by decide) ⟨k1, hk1b, rfl, h37, Or.inr ⟨rfl, h58, fr, c_o, c_v⟩⟩ hP hS dX5_go_84
        · skip
          refine lv_iconst (v := nI 0) hx hb dX5_go_61 (by decide) ?_
          exact hret (nI 0) g _ _ _ _ _ _ ⟨by decide, by decide⟩ (by decide) ⟨k1, hk1b, rfl, h37, Or.inl ⟨rfl, h58, rfl⟩⟩ hP hS dX5_go_62
      · skip
        rw [hQ]
        exact cx_throw (ik := 79) (ic := 83) (is := 171) (X := xIA) (text := "the run is not where the edge begins") hx hb hst9 hown hts (by decide) (by decide) th_X5_go_xIA hX hP hS (hl.1.trans hml.symm) dX5_go_40 dX5_go_43 dX5_go_44 dX5_go_46 dX5_go_49 hexc ⟨Nat.le_of_ble_eq_true rfl, Nat.le_of_ble_eq_true rfl, Nat.le_of_ble_eq_true rfl, Nat.le_of_ble_eq_true rfl⟩ hlk (⟨rfl, fun ⟨k, q1, q2, q3⟩ => h37 (by have q9 := congrArg Int32.toInt q2; rw [nI_toInt (by omega), nI_toInt (by omega)] at q9; have q8 : k1 = k := (by omega); rw [q8]; exact q3)⟩) (by decide) (by decide)
    · skip
      rw [hQ]
      exact cx_throw (ik := 79) (ic := 83) (is := 166) (X := xIA) (text := "no such edge") hx hb hst9 hown hts (by decide) (by decide) th_X5_go_xIA hX hP hS (hl.1.trans hml.symm) dX5_go_12 dX5_go_15 dX5_go_16 dX5_go_18 dX5_go_21 hexc ⟨Nat.le_of_ble_eq_true rfl, Nat.le_of_ble_eq_true rfl, Nat.le_of_ble_eq_true rfl, Nat.le_of_ble_eq_true rfl⟩ hlk (⟨rfl, fun ⟨k, q1, q2, q3⟩ => nb_n (lo := 0) (n := ec) (by omega) h9 ⟨k, Nat.zero_le _, q1, q2⟩⟩) (by decide) (by decide)

set_option maxRecDepth 20000 in
theorem wd_X5_at_0 : Cond.fieldLink RX5 29 "AffineHulls" "values" "[I" ∈ wsX5_at := by decide +kernel
set_option maxRecDepth 20000 in
theorem in_X5_at_X5 : ∀ w ∈ u_ws RX5 TX5 15, w ∈ wsX5_at := by decide +kernel
set_option maxRecDepth 20000 in
theorem wd_X5_at_2 : Cond.fieldLink RX5 111 "AffineHulls" "place" "I" ∈ wsX5_at := by decide +kernel
abbrev rm_X5_at : Room := { frames := 7, cells := 4, slots := 24, locals := 103 }
set_option maxHeartbeats 4000000 in
set_option maxRecDepth 100000 in
theorem c_X5_at {l : Launch} (hst9 : l.stackTraces = false) {G : cx_G} {L : List Nat} {ad : Nat → Nat} {g : Nat → va_E} (hD : cx_D L ad) {N V M ec en al pl nc : Nat} {an : Bool} {x1 : Int32} {va : Nat → FF} (hN : N ≤ 8) (hV1 : 1 ≤ V) (hV : V ≤ 4) (hM : M = N * (V + 1)) (hM2 : M ≤ 40) (hm : ∀ j : Nat, lbX N V M j → j ∈ L) (c_o : g 0 = .inr (5, [.int (nI V), .ref (ad 1), .ref (ad 4), .int (nI ec), .int (nI en), .ref (ad 5), .ref (ad 6), .int (nI al), .int (if an = true then 1 else 0), .int (nI pl), .ref (ad 2), .ref (ad 7), .int (nI nc), .ref (ad 180), .ref (ad 3)])) (c_v : g 2 = nA G (V + 1) (vN va)) : XI l yX5_at wsX5_at rm_X5_at G L ad g [.ref (ad 0), .int x1] (fun r u => ∃ k1 : Nat, k1 < V + 1 ∧ x1 = nI k1 ∧ r = nI (if k1 = 0 then pl else (va k1).val) ∧ u = g) (fun E => E = xIA ∧ ¬ inB 0 (V + 1) x1) 4 24 := by
  refine cx_ofXI (cc := cX5_at) (maxL := 2) (by decide +kernel) rfl (Nat.le_of_ble_eq_true rfl) ?_
  intro p e s m args below meth c Q hQ hx hb hts hown hml hexc hlk hP hK hX hS hz hret ls hl
  have hown : s.vm.findClass RX5 = some m.cls := hown
  have hl : lv_has ls 2 [(0, .ref (ad 0)), (1, .int x1)] := hl
  refine lv_aload_n hx hb dX5_at_0 rfl (lv_at hl 0 rfl) ?_
  refine lv_iload_n hx hb dX5_at_1 rfl (lv_at hl 1 rfl) ?_
  refine cx_XVv (As := [.int x1]) (rest := []) (mc := 1) (ms := 6) ⟨hx, hb, hml, hown, hts⟩ (c_X5_requirePlace hst9 hD hN hV1 hV hM hM2 hm c_o (x1 := x1)) (cwV 1 hts gX5_at_X5_requirePlace rfl rfl rfl (by decide +kernel) ⟨Nat.le_of_ble_eq_true rfl, Nat.le_of_ble_eq_true rfl⟩) hK hX hP hS hz (hm _ (by unfold lbX; omega)) c_o rfl ⟨Nat.le_of_ble_eq_true rfl, Nat.le_of_ble_eq_true rfl⟩ rfl hl.1 rfl (Nat.le_of_ble_eq_true rfl) dX5_at_2 (fun E ce q9 H locs hE hP hS h1x h2x h3x => by rw [hQ]; exact cx_leave hexc hlk h1x h2x h3x hE hP hS (by decide) (by decide)) (fun g1 H locs hp1 hP hS => ?_)
  obtain ⟨ehp1, k1, hk1a, hk1b, rfl⟩ := hp1
  rw [ehp1] at hP
  refine lv_iload_n hx hb dX5_at_5 rfl (lv_at hl 1 rfl) ?_
  refine ax_ifne (a := k1) (tgt := 16) hx hb dX5_at_6 (by decide) (by omega) (fun h6 => ?_) (fun h6 => ?_)
  · skip
    refine lv_aload_n hx hb dX5_at_16 rfl (lv_at hl 0 rfl) ?_
    refine ax_get (k := 0) (v := .ref (ad 2)) hx hb hts in_X5_at_X5 hown hK hP (hm _ (by unfold lbX; omega)) c_o rfl 10 (by decide) (hts _ wd_X5_at_0) (fun _ h9 => h9) rfl dX5_at_17 ?_
    refine lv_iload_n hx hb dX5_at_20 rfl (lv_at hl 1 rfl) ?_
    refine ax_iald (k := 2) (i := k1) (v := nI ((vN va) k1)) hx hb hK hP (hm _ (by unfold lbX; omega)) c_v (by omega) (by omega) rfl dX5_at_21 ?_
    exact hret (nI ((vN va) k1)) g _ _ _ _ _ _ ⟨by decide, by decide⟩ rfl ⟨k1, hk1b, rfl, (by rw [if_neg h6]; rfl), rfl⟩ hP hS dX5_at_22
  · skip
    refine lv_aload_n hx hb dX5_at_9 rfl (lv_at hl 0 rfl) ?_
    refine ax_get (k := 0) (v := .int (nI pl)) hx hb hts in_X5_at_X5 hown hK hP (hm _ (by unfold lbX; omega)) c_o rfl 9 (by decide) (hts _ wd_X5_at_2) (fun _ h9 => h9) rfl dX5_at_10 ?_
    refine lv_goto (tgt := 22) hx hb dX5_at_13 (by decide) ?_
    exact hret (nI pl) g _ _ _ _ _ _ ⟨by decide, by decide⟩ rfl ⟨k1, hk1b, rfl, (by rw [if_pos h6]), rfl⟩ hP hS dX5_at_22

set_option maxRecDepth 20000 in
theorem wd_X5_note_0 : Cond.fieldLink RX5 184 "AffineHulls" "noteCount" "I" ∈ wsX5_note := by decide +kernel
set_option maxRecDepth 20000 in
theorem in_X5_note_X5 : ∀ w ∈ u_ws RX5 TX5 15, w ∈ wsX5_note := by decide +kernel
set_option maxRecDepth 20000 in
theorem wd_X5_note_2 : Cond.fieldLink RX5 50 "AffineHulls" "notes" "[LAffineHulls$Note;" ∈ wsX5_note := by decide +kernel
set_option maxRecDepth 20000 in
theorem wd_X5_note_3 : Cond.fieldLink RX5 22 "AffineHulls" "draft" "[I" ∈ wsX5_note := by decide +kernel
set_option maxRecDepth 20000 in
theorem th_X5_note_xIS : ∀ w ∈ Cond.classLink RX5 92 xIS :: Cond.initialized xIS :: (vx_atS RX5 96 xIS xNm).filter goodWord, w ∈ wsX5_note := by decide +kernel
abbrev rm_X5_note : Room := { frames := 7, cells := 4, slots := 24, locals := 103 }
set_option maxHeartbeats 4000000 in
set_option maxRecDepth 100000 in
theorem c_X5_note {l : Launch} (hst9 : l.stackTraces = false) {G : cx_G} {L : List Nat} {ad : Nat → Nat} {g : Nat → va_E} (hD : cx_D L ad) {N V M ec en al pl nc : Nat} {an : Bool} {x1 : Int32} {d : Nat → FF} {nn : Nat → Nat} {ng : Nat → Nat → FF} (hN : N ≤ 8) (hV1 : 1 ≤ V) (hV : V ≤ 4) (hM : M = N * (V + 1)) (hM2 : M ≤ 40) (hm : ∀ j : Nat, lbX N V M j → j ∈ L) (c_o : g 0 = .inr (5, [.int (nI V), .ref (ad 1), .ref (ad 4), .int (nI ec), .int (nI en), .ref (ad 5), .ref (ad 6), .int (nI al), .int (if an = true then 1 else 0), .int (nI pl), .ref (ad 2), .ref (ad 7), .int (nI nc), .ref (ad 180), .ref (ad 3)])) (c_d : g 1 = nA G (V + 1) (vN d)) (c_H : g 5 = rA (G.2 3) N (fun i => if i < N then some (ad (200 + 2 * i)) else none)) (c_N : g 7 = rA (G.2 4) 24 (fun i => if i < 24 then some (ad (400 + 2 * i)) else none)) (hnc : nc ≤ 24) (hd : Zb (V + 1) d) (hng : ∀ i : Nat, Zb (V + 1) (ng i)) (xn : XN G ad g V nn ng) : XI l yX5_note wsX5_note rm_X5_note G L ad g [.ref (ad 0), .int x1] (fun r u => ∃ k1 : Nat, k1 < N ∧ x1 = nI k1 ∧ nc < 24 ∧ r = nI (nc + 1) ∧ (∀ j : Nat, (j ≠ 0 ∧ j ≠ 1 ∧ ¬ (400 ≤ j ∧ j < 448)) → u j = g j) ∧ u 0 = .inr (5, [.int (nI V), .ref (ad 1), .ref (ad 4), .int (nI ec), .int (nI en), .ref (ad 5), .ref (ad 6), .int (nI al), .int (if an = true then 1 else 0), .int (nI pl), .ref (ad 2), .ref (ad 7), .int (nI (nc + 1)), .ref (ad 180), .ref (ad 3)]) ∧ u 1 = nA G (V + 1) (vN (fun _ => 0)) ∧ XN G ad u V (nu nn nc k1) (nu ng nc d)) (fun E => (E = xIA ∧ ¬ inB 0 N x1) ∨ (E = xIS ∧ inB 0 N x1 ∧ ¬ nc < 24)) 4 24 := by
  refine cx_ofXI (cc := cX5_note) (maxL := 2) (by decide +kernel) rfl (Nat.le_of_ble_eq_true rfl) ?_
  intro p e s m args below meth c Q hQ hx hb hts hown hml hexc hlk hP hK hX hS hz hret ls hl
  have hown : s.vm.findClass RX5 = some m.cls := hown
  have hl : lv_has ls 2 [(0, .ref (ad 0)), (1, .int x1)] := hl
  have fr : ∀ j : Nat, (j ≠ 0 ∧ j ≠ 1 ∧ ¬ (400 ≤ j ∧ j < 448)) → g j = g j := fun _ _ => rfl
  refine lv_aload_n hx hb dX5_note_0 rfl (lv_at hl 0 rfl) ?_
  refine lv_iload_n hx hb dX5_note_1 rfl (lv_at hl 1 rfl) ?_
  refine cx_XVv (As := [.int x1]) (rest := []) (mc := 1) (ms := 6) ⟨hx, hb, hml, hown, hts⟩ (c_X5_requireNode hst9 hD hN hV1 hV hM hM2 hm c_o c_H (x1 := x1)) (cwV 1 hts gX5_note_X5_requireNode rfl rfl rfl (by decide +kernel) ⟨Nat.le_of_ble_eq_true rfl, Nat.le_of_ble_eq_true rfl⟩) hK hX hP hS hz (hm _ (by unfold lbX; omega)) c_o rfl ⟨Nat.le_of_ble_eq_true rfl, Nat.le_of_ble_eq_true rfl⟩ rfl hl.1 rfl (Nat.le_of_ble_eq_true rfl) dX5_note_2 (fun E ce q9 H locs hE hP hS h1x h2x h3x => by rw [hQ]; exact cx_leave hexc hlk h1x h2x h3x (Or.inl hE) hP hS (by decide) (by decide)) (fun g1 H locs hp1 hP hS => ?_)
  obtain ⟨ehp1, k1, hk1a, hk1b, rfl⟩ := hp1
  rw [ehp1] at hP
  refine lv_aload_n hx hb dX5_note_5 rfl (lv_at hl 0 rfl) ?_
  refine ax_get (k := 0) (v := .int (nI nc)) hx hb hts in_X5_note_X5 hown hK hP (hm _ (by unfold lbX; omega)) c_o rfl 12 (by decide) (hts _ wd_X5_note_0) (fun _ h9 => h9) rfl dX5_note_6 ?_
  refine lv_bipush (v := nI 24) hx hb dX5_note_9 (by decide) ?_
  refine ax_iclt (a := nc) (b := 24) (tgt := 24) hx hb dX5_note_11 (by decide) (by omega) (by omega) (fun h11 => ?_) (fun h11 => ?_)
  · skip
    have c_n := xn.1 nc (by omega)
    have c_nf := xn.2 nc (by omega)
    refine lv_aload_n hx hb dX5_note_24 rfl (lv_at hl 0 rfl) ?_
    refine ax_get (k := 0) (v := .ref (ad 7)) hx hb hts in_X5_note_X5 hown hK hP (hm _ (by unfold lbX; omega)) c_o rfl 11 (by decide) (hts _ wd_X5_note_2) (fun _ h9 => h9) rfl dX5_note_25 ?_
    refine lv_aload_n hx hb dX5_note_28 rfl (lv_at hl 0 rfl) ?_
    refine ax_get (k := 0) (v := .int (nI nc)) hx hb hts in_X5_note_X5 hown hK hP (hm _ (by unfold lbX; omega)) c_o rfl 12 (by decide) (hts _ wd_X5_note_0) (fun _ h9 => h9) rfl dX5_note_29 ?_
    refine ax_aald (k := 7) (i := nc) (b := ad (400 + 2 * nc)) hx hb hK hP (hm _ (by unfold lbX; omega)) 4 rfl rfl c_N (by omega) (by omega) (if_pos (by omega)) dX5_note_32 ?_
    refine lv_iload_n hx hb dX5_note_33 rfl (lv_at hl 1 rfl) ?_
    refine lv_aload_n hx hb dX5_note_34 rfl (lv_at hl 0 rfl) ?_
    refine ax_get (k := 0) (v := .ref (ad 1)) hx hb hts in_X5_note_X5 hown hK hP (hm _ (by unfold lbX; omega)) c_o rfl 1 (by decide) (hts _ wd_X5_note_3) (fun _ h9 => h9) rfl dX5_note_35 ?_
    refine cx_Vv (As := [.int (nI k1), .ref (ad 1)]) (rest := []) ⟨hx, hb, hml, hown, hts⟩ (c_X2_set hD (k := 400 + 2 * nc) (kf := 401 + 2 * nc) (b := 1) (n := V + 1) (v := d) (w := ng nc) (by omega) (by omega) (by omega) (hm _ (by unfold lbX; omega)) (hm _ (by unfold lbX; omega)) (hm _ (by unfold lbX; omega)) (by omega) c_n c_nf c_d) (cwV 2 hts gX5_note_X2_set rfl rfl rfl (by decide +kernel) ⟨Nat.le_of_ble_eq_true rfl, Nat.le_of_ble_eq_true rfl⟩) hK hP hS hz (hm _ (by unfold lbX; omega)) c_n rfl ⟨Nat.le_of_ble_eq_true rfl, Nat.le_of_ble_eq_true rfl⟩ rfl hl.1 rfl (Nat.le_of_ble_eq_true rfl) dX5_note_38 (fun g2 H locs hp2 hP hS => ?_)
    obtain ⟨hp2a, hp2b, hp2c⟩ := hp2
    have c_o : g2 0 = .inr (5, [.int (nI V), .ref (ad 1), .ref (ad 4), .int (nI ec), .int (nI en), .ref (ad 5), .ref (ad 6), .int (nI al), .int (if an = true then 1 else 0), .int (nI pl), .ref (ad 2), .ref (ad 7), .int (nI nc), .ref (ad 180), .ref (ad 3)]) := (hp2a 0 (by omega)).trans c_o
    have c_d : g2 1 = nA G (V + 1) (vN d) := (hp2a 1 (by omega)).trans c_d
    have c_H : g2 5 = rA (G.2 3) N (fun i => if i < N then some (ad (200 + 2 * i)) else none) := (hp2a 5 (by omega)).trans c_H
    have c_N : g2 7 = rA (G.2 4) 24 (fun i => if i < 24 then some (ad (400 + 2 * i)) else none) := (hp2a 7 (by omega)).trans c_N
    have fr : ∀ j : Nat, (j ≠ 0 ∧ j ≠ 1 ∧ ¬ (400 ≤ j ∧ j < 448)) → g2 j = g j := fun j hj => (hp2a j (by omega)).trans (fr j hj)
    rw [cpv_z hd (hng nc)] at hp2c
    have xn : XN G ad g2 V (nu nn nc k1) (nu ng nc d) := xn.set hp2a hp2b hp2c
    refine lv_aload_n hx hb dX5_note_41 rfl (lv_at hl 0 rfl) ?_
    refine lv_dup hx hb dX5_note_42 rfl ?_
    refine ax_get (k := 0) (v := .int (nI nc)) hx hb hts in_X5_note_X5 hown hK hP (hm _ (by unfold lbX; omega)) c_o rfl 12 (by decide) (hts _ wd_X5_note_0) (fun _ h9 => h9) rfl dX5_note_43 ?_
    refine lv_iconst (v := nI 1) hx hb dX5_note_46 (by decide) ?_
    refine ax_add (a := nc) (b := 1) hx hb dX5_note_47 ?_
    refine ax_put (k := 0) (v := .int (nI (nc + 1))) (fs' := [.int (nI V), .ref (ad 1), .ref (ad 4), .int (nI ec), .int (nI en), .ref (ad 5), .ref (ad 6), .int (nI al), .int (if an = true then 1 else 0), .int (nI pl), .ref (ad 2), .ref (ad 7), .int (nI (nc + 1)), .ref (ad 180), .ref (ad 3)]) hx hb hts in_X5_note_X5 tyX5 tyX5_ok nmX5 hown hK hP hD hS (hm _ (by unfold lbX; omega)) c_o rfl 12 (by decide) (hts _ wd_X5_note_0) (fun _ h9 => h9) rfl (ty := .int) (by decide +kernel) rfl rfl (Nat.le_of_ble_eq_true rfl) rfl dX5_note_48 (fun H locs g3 eg3 hP hS => ?_)
    have c_d : g3 1 = nA G (V + 1) (vN d) := (cx_ne eg3 1 (by omega)).trans c_d
    have c_H : g3 5 = rA (G.2 3) N (fun i => if i < N then some (ad (200 + 2 * i)) else none) := (cx_ne eg3 5 (by omega)).trans c_H
    have c_N : g3 7 = rA (G.2 4) 24 (fun i => if i < 24 then some (ad (400 + 2 * i)) else none) := (cx_ne eg3 7 (by omega)).trans c_N
    have xn : XN G ad g3 V (nu nn nc k1) (nu ng nc d) := xn.kept (fun j h1 h2 => cx_ne eg3 j (by first | omega | (unfold lbA; omega)))
    have c_o : g3 0 = .inr (5, [.int (nI V), .ref (ad 1), .ref (ad 4), .int (nI ec), .int (nI en), .ref (ad 5), .ref (ad 6), .int (nI al), .int (if an = true then 1 else 0), .int (nI pl), .ref (ad 2), .ref (ad 7), .int (nI (nc + 1)), .ref (ad 180), .ref (ad 3)]) := cx_eq eg3
    have fr : ∀ j : Nat, (j ≠ 0 ∧ j ≠ 1 ∧ ¬ (400 ≤ j ∧ j < 448)) → g3 j = g j := fun j hj => (cx_ne eg3 j (by omega)).trans (fr j hj)
    refine lv_aload_n hx hb dX5_note_51 rfl (lv_at hl 0 rfl) ?_
    refine cx_Vv (As := []) (rest := []) ⟨hx, hb, hml, hown, hts⟩ (c_X5_clearDraft hD hN hV1 hV hM hM2 hm (d := d) c_o c_d) (cwV 0 hts gX5_note_X5_clearDraft rfl rfl rfl (by decide +kernel) ⟨Nat.le_of_ble_eq_true rfl, Nat.le_of_ble_eq_true rfl⟩) hK hP hS hz (hm _ (by unfold lbX; omega)) c_o rfl ⟨Nat.le_of_ble_eq_true rfl, Nat.le_of_ble_eq_true rfl⟩ rfl hl.1 rfl (Nat.le_of_ble_eq_true rfl) dX5_note_52 (fun g4 H locs hp4 hP hS => ?_)
    obtain ⟨hp4a, hp4b⟩ := hp4
    have c_o : g4 0 = .inr (5, [.int (nI V), .ref (ad 1), .ref (ad 4), .int (nI ec), .int (nI en), .ref (ad 5), .ref (ad 6), .int (nI al), .int (if an = true then 1 else 0), .int (nI pl), .ref (ad 2), .ref (ad 7), .int (nI (nc + 1)), .ref (ad 180), .ref (ad 3)]) := (hp4a 0 (by omega)).trans c_o
    have c_H : g4 5 = rA (G.2 3) N (fun i => if i < N then some (ad (200 + 2 * i)) else none) := (hp4a 5 (by omega)).trans c_H
    have c_N : g4 7 = rA (G.2 4) 24 (fun i => if i < 24 then some (ad (400 + 2 * i)) else none) := (hp4a 7 (by omega)).trans c_N
    have xn : XN G ad g4 V (nu nn nc k1) (nu ng nc d) := xn.kept (fun j h1 h2 => hp4a j (by first | omega | (unfold lbA; omega)))
    have fr : ∀ j : Nat, (j ≠ 0 ∧ j ≠ 1 ∧ ¬ (400 ≤ j ∧ j < 448)) → g4 j = g j := fun j hj => (hp4a j (by omega)).trans (fr j hj)
    have c_d := hp4b
    rw [fl0_z hd] at c_d
    refine lv_aload_n hx hb dX5_note_55 rfl (lv_at hl 0 rfl) ?_
    refine ax_get (k := 0) (v := .int (nI (nc + 1))) hx hb hts in_X5_note_X5 hown hK hP (hm _ (by unfold lbX; omega)) c_o rfl 12 (by decide) (hts _ wd_X5_note_0) (fun _ h9 => h9) rfl dX5_note_56 ?_
    exact hret (nI (nc + 1)) g4 _ _ _ _ _ _ ⟨by decide, by decide⟩ rfl ⟨k1, hk1b, rfl, h11, rfl, fr, c_o, c_d, xn⟩ hP hS dX5_note_59
  · skip
    rw [hQ]
    exact cx_throw (ik := 92) (ic := 96) (is := 187) (X := xIS) (text := "no more notes") hx hb hst9 hown hts (by decide) (by decide) th_X5_note_xIS hX hP hS (hl.1.trans hml.symm) dX5_note_14 dX5_note_17 dX5_note_18 dX5_note_20 dX5_note_23 hexc ⟨Nat.le_of_ble_eq_true rfl, Nat.le_of_ble_eq_true rfl, Nat.le_of_ble_eq_true rfl, Nat.le_of_ble_eq_true rfl⟩ hlk (Or.inr ⟨rfl, inB_lit hk1a hk1b, by omega⟩) (by decide) (by decide)

noncomputable def naF (w : Nat) (P : PS) (nn : Nat → Nat) (ng : Nat → Nat → FF) : Nat → (Nat → Nat) × (Nat → Nat → FF)
  | 0 => (nn, ng)
  | k + 1 => (eqnN k (csum (fun i => w - P.2.2.2.1 i) k) (naF w P nn ng k).1 (w - P.2.2.2.1 k), eqnG (eqF w (P.2.2.2.2.1 k) (P.2.2.2.1 k)) (csum (fun i => w - P.2.2.2.1 i) k) (naF w P nn ng k).2 (w - P.2.2.2.1 k))
theorem naF_z {w : Nat} {P : PS} {nn : Nat → Nat} {ng : Nat → Nat → FF} (hg : ∀ i : Nat, Zb w (ng i)) : ∀ k i : Nat, Zb w ((naF w P nn ng k).2 i)
  | 0, i => hg i
  | k + 1, i => eqnG_z (eqF_z _ _ _) (naF_z hg k) _ i
theorem csum_mono {f : Nat → Nat} {a b : Nat} (h : a ≤ b) : csum f a ≤ csum f b := by
  induction b with
  | zero => rw [show a = 0 by omega]; exact Nat.le_refl _
  | succ b ih =>
    by_cases q : a = b + 1
    · rw [q]; exact Nat.le_refl _
    · show csum f a ≤ csum f b + f b
      have := ih (by omega)
      omega

set_option maxRecDepth 20000 in
theorem wd_X5_noteAll_0 : Cond.fieldLink RX5 57 "AffineHulls" "hulls" "[LAffineHulls$Hull;" ∈ wsX5_noteAll := by decide +kernel
set_option maxRecDepth 20000 in
theorem in_X5_noteAll_X5 : ∀ w ∈ u_ws RX5 TX5 15, w ∈ wsX5_noteAll := by decide +kernel
set_option maxRecDepth 20000 in
theorem wd_X5_noteAll_2 : Cond.fieldLink RX5 184 "AffineHulls" "noteCount" "I" ∈ wsX5_noteAll := by decide +kernel
set_option maxRecDepth 20000 in
theorem th_X5_noteAll_xUO : ∀ w ∈ Cond.classLink RX5 192 xUO :: Cond.initialized xUO :: (vx_atS RX5 196 xUO xNm).filter goodWord, w ∈ wsX5_noteAll := by decide +kernel
abbrev rm_X5_noteAll : Room := { frames := 7, cells := 4, slots := 24, locals := 129 }
set_option maxHeartbeats 4000000 in
set_option maxRecDepth 100000 in
theorem c_X5_noteAll {l : Launch} (hst9 : l.stackTraces = false) {G : cx_G} {L : List Nat} {ad : Nat → Nat} {g : Nat → va_E} (hD : cx_D L ad) {N V M ec en al pl nc : Nat} {an : Bool} {P : PS} {wk : Nat → FF} {nn : Nat → Nat} {ng : Nat → Nat → FF} (hN : N ≤ 8) (hV1 : 1 ≤ V) (hV : V ≤ 4) (hM : M = N * (V + 1)) (hM2 : M ≤ 40) (hm : ∀ j : Nat, lbX N V M j → j ∈ L) (c_o : g 0 = .inr (5, [.int (nI V), .ref (ad 1), .ref (ad 4), .int (nI ec), .int (nI en), .ref (ad 5), .ref (ad 6), .int (nI al), .int (if an = true then 1 else 0), .int (nI pl), .ref (ad 2), .ref (ad 7), .int (nI nc), .ref (ad 180), .ref (ad 3)])) (c_w : g 3 = nA G (V + 1) (vN wk)) (c_H : g 5 = rA (G.2 3) N (fun i => if i < N then some (ad (200 + 2 * i)) else none)) (c_N : g 7 = rA (G.2 4) 24 (fun i => if i < 24 then some (ad (400 + 2 * i)) else none)) (hwk : Zb (V + 1) wk) (hng : ∀ i : Nat, Zb (V + 1) (ng i)) (xn : XN G ad g V nn ng) (xa : XA G ad g N V M P) : XI l yX5_noteAll wsX5_noteAll rm_X5_noteAll G L ad g [.ref (ad 0)] (fun r u => an = true ∧ csum (fun i => V + 1 - P.2.2.2.1 i) N ≤ 24 ∧ r = nI (csum (fun i => V + 1 - P.2.2.2.1 i) N) ∧ (∀ j : Nat, (j ≠ 0 ∧ j ≠ 3 ∧ ¬ (400 ≤ j ∧ j < 448)) → u j = g j) ∧ u 0 = .inr (5, [.int (nI V), .ref (ad 1), .ref (ad 4), .int (nI ec), .int (nI en), .ref (ad 5), .ref (ad 6), .int (nI al), .int (if an = true then 1 else 0), .int (nI pl), .ref (ad 2), .ref (ad 7), .int (nI (csum (fun i => V + 1 - P.2.2.2.1 i) N)), .ref (ad 180), .ref (ad 3)]) ∧ (∃ wk2 : Nat → FF, Zb (V + 1) wk2 ∧ u 3 = nA G (V + 1) (vN wk2)) ∧ XN G ad u V (naF (V + 1) P nn ng N).1 (naF (V + 1) P nn ng N).2) (fun E => (E = xIS ∧ ¬ an = true) ∨ (E = xUO ∧ an = true ∧ ¬ csum (fun i => V + 1 - P.2.2.2.1 i) N ≤ 24)) 4 24 := by
  refine cx_ofXI (cc := cX5_noteAll) (maxL := 3) (by decide +kernel) rfl (Nat.le_of_ble_eq_true rfl) ?_
  intro p e s m args below meth c Q hQ hx hb hts hown hml hexc hlk hP hK hX hS hz hret ls hl
  have hown : s.vm.findClass RX5 = some m.cls := hown
  have hl : lv_has ls 3 [(0, .ref (ad 0))] := hl
  have fr : ∀ j : Nat, (j ≠ 0 ∧ j ≠ 3 ∧ ¬ (400 ≤ j ∧ j < 448)) → g j = g j := fun _ _ => rfl
  refine lv_aload_n hx hb dX5_noteAll_0 rfl (lv_at hl 0 rfl) ?_
  refine cx_XVv (As := []) (rest := []) (mc := 1) (ms := 6) ⟨hx, hb, hml, hown, hts⟩ (c_X5_requireAnalysed hst9 hD hN hV1 hV hM hM2 hm c_o) (cwV 0 hts gX5_noteAll_X5_requireAnalysed rfl rfl rfl (by decide +kernel) ⟨Nat.le_of_ble_eq_true rfl, Nat.le_of_ble_eq_true rfl⟩) hK hX hP hS hz (hm _ (by unfold lbX; omega)) c_o rfl ⟨Nat.le_of_ble_eq_true rfl, Nat.le_of_ble_eq_true rfl⟩ rfl hl.1 rfl (Nat.le_of_ble_eq_true rfl) dX5_noteAll_1 (fun E ce q9 H locs hE hP hS h1x h2x h3x => by rw [hQ]; exact cx_leave hexc hlk h1x h2x h3x (Or.inl ⟨hE.1, hE.2⟩) hP hS (by decide) (by decide)) (fun g1 H locs hp1 hP hS => ?_)
  obtain ⟨ehp1, han⟩ := hp1
  rw [ehp1] at hP
  refine lv_iconst (v := nI 0) hx hb dX5_noteAll_4 (by decide) ?_
  refine lv_istore_n (lv' := [(1, .int (nI 0)), (0, .ref (ad 0))]) hx hb dX5_noteAll_5 rfl hl (by decide) rfl (fun ls hl => ?_)
  refine lv_iconst (v := nI 0) hx hb dX5_noteAll_6 (by decide) ?_
  refine lv_istore_n (lv' := [(2, .int (nI 0)), (1, .int (nI 0)), (0, .ref (ad 0))]) hx hb dX5_noteAll_7 rfl hl (by decide) rfl (fun ls hl => ?_)
  have LP8 : ∀ (fu : Nat) (k : Nat), (k ≤ N) → (N - k) < fu → ∀ (H : Heap) (locs : List Loc) (ls : Array Slot), va_P G.1 vwCl (wl L ad g) H → va_S (cx_A L ad s.heap.size) s.heap H locs → lv_has ls 3 [(2, .int (nI k)), (1, .int (nI (csum (fun i => V + 1 - P.2.2.2.1 i) k))), (0, .ref (ad 0))] → W p l e rm_X5_noteAll s m args below meth c H locs 1 6 Q (F0 m 8 ls []) := by
    intro fu
    induction fu with
    | zero => intro k hkn hfu; exact absurd hfu (Nat.not_lt_zero _)
    | succ fu ih8 =>
      intro k hkn hfu8 H locs ls hP hS hl
      refine lv_iload_n hx hb dX5_noteAll_8 rfl (lv_at hl 0 rfl) ?_
      refine lv_aload_n hx hb dX5_noteAll_9 rfl (lv_at hl 2 rfl) ?_
      refine ax_get (k := 0) (v := .ref (ad 5)) hx hb hts in_X5_noteAll_X5 hown hK hP (hm _ (by unfold lbX; omega)) c_o rfl 5 (by decide) (hts _ wd_X5_noteAll_0) (fun _ h9 => h9) rfl dX5_noteAll_10 ?_
      refine ax_alen (k := 5) (n := N) hx hb hK hP (hm _ (by unfold lbX; omega)) 3 rfl c_H rfl dX5_noteAll_13 ?_
      refine ax_icge (a := k) (b := N) (tgt := 35) hx hb dX5_noteAll_14 (by decide) (by omega) (by omega) (fun h14 => ?_) (fun h14 => ?_)
      · skip
        have ek : N = k := by omega
        subst ek
        have hcs := csum_le (f := (fun i => V + 1 - P.2.2.2.1 i)) (c := V + 1) (n := N) (fun i _ => Nat.sub_le _ _)
        have hcs2 : N * (V + 1) ≤ 8 * 5 := Nat.mul_le_mul (by omega) (by omega)
        refine lv_iload_n hx hb dX5_noteAll_35 rfl (lv_at hl 1 rfl) ?_
        refine lv_bipush (v := nI 24) hx hb dX5_noteAll_36 (by decide) ?_
        refine ax_icle (a := csum (fun i => V + 1 - P.2.2.2.1 i) N) (b := 24) (tgt := 51) hx hb dX5_noteAll_38 (by decide) (by omega) (by omega) (fun h38 => ?_) (fun h38 => ?_)
        · skip
          refine lv_aload_n hx hb dX5_noteAll_51 rfl (lv_at hl 2 rfl) ?_
          refine lv_iconst (v := nI 0) hx hb dX5_noteAll_52 (by decide) ?_
          refine ax_put (k := 0) (v := .int (nI 0)) (fs' := [.int (nI V), .ref (ad 1), .ref (ad 4), .int (nI ec), .int (nI en), .ref (ad 5), .ref (ad 6), .int (nI al), .int (if an = true then 1 else 0), .int (nI pl), .ref (ad 2), .ref (ad 7), .int (nI 0), .ref (ad 180), .ref (ad 3)]) hx hb hts in_X5_noteAll_X5 tyX5 tyX5_ok nmX5 hown hK hP hD hS (hm _ (by unfold lbX; omega)) c_o rfl 12 (by decide) (hts _ wd_X5_noteAll_2) (fun _ h9 => h9) rfl (ty := .int) (by decide +kernel) rfl rfl (Nat.le_of_ble_eq_true rfl) rfl dX5_noteAll_53 (fun H locs g3 eg3 hP hS => ?_)
          have c_w : g3 3 = nA G (V + 1) (vN wk) := (cx_ne eg3 3 (by omega)).trans c_w
          have c_H : g3 5 = rA (G.2 3) N (fun i => if i < N then some (ad (200 + 2 * i)) else none) := (cx_ne eg3 5 (by omega)).trans c_H
          have c_N : g3 7 = rA (G.2 4) 24 (fun i => if i < 24 then some (ad (400 + 2 * i)) else none) := (cx_ne eg3 7 (by omega)).trans c_N
          have xn : XN G ad g3 V nn ng := xn.kept (fun j h1 h2 => cx_ne eg3 j (by first | omega | (unfold lbA; omega)))
          have xa : XA G ad g3 N V M P := xa.kept hN hV (fun j hj => cx_ne eg3 j (by unfold lbA at hj; omega))
          have c_o : g3 0 = .inr (5, [.int (nI V), .ref (ad 1), .ref (ad 4), .int (nI ec), .int (nI en), .ref (ad 5), .ref (ad 6), .int (nI al), .int (if an = true then 1 else 0), .int (nI pl), .ref (ad 2), .ref (ad 7), .int (nI 0), .ref (ad 180), .ref (ad 3)]) := cx_eq eg3
          have fr : ∀ j : Nat, (j ≠ 0 ∧ j ≠ 3 ∧ ¬ (400 ≤ j ∧ j < 448)) → g3 j = g j := fun j hj => (cx_ne eg3 j (by omega)).trans (fr j hj)
          refine lv_iconst (v := nI 0) hx hb dX5_noteAll_56 (by decide) ?_
          refine lv_istore_n (lv' := [(2, .int (nI 0)), (1, .int (nI (csum (fun i => V + 1 - P.2.2.2.1 i) N))), (0, .ref (ad 0))]) hx hb dX5_noteAll_57 rfl hl (by decide) rfl (fun ls hl => ?_)
          have LP58 : ∀ (fu : Nat) (k2 : Nat) (wk2 : Nat → FF), (k2 ≤ N) → (Zb (V + 1) wk2) → (N - k2) < fu → ∀ (ga4 : Nat → va_E) (H : Heap) (locs : List Loc) (ls : Array Slot), (ga4 0 = .inr (5, [.int (nI V), .ref (ad 1), .ref (ad 4), .int (nI ec), .int (nI en), .ref (ad 5), .ref (ad 6), .int (nI al), .int (if an = true then 1 else 0), .int (nI pl), .ref (ad 2), .ref (ad 7), .int (nI (csum (fun i => V + 1 - P.2.2.2.1 i) k2)), .ref (ad 180), .ref (ad 3)])) → (ga4 3 = nA G (V + 1) (vN wk2)) → (ga4 5 = rA (G.2 3) N (fun i => if i < N then some (ad (200 + 2 * i)) else none)) → (ga4 7 = rA (G.2 4) 24 (fun i => if i < 24 then some (ad (400 + 2 * i)) else none)) → (XN G ad ga4 V ((naF (V + 1) P nn ng k2).1) ((naF (V + 1) P nn ng k2).2)) → (XA G ad ga4 N V M P) → (∀ j : Nat, (j ≠ 0 ∧ j ≠ 3 ∧ ¬ (400 ≤ j ∧ j < 448)) → ga4 j = g j) → va_P G.1 vwCl (wl L ad ga4) H → va_S (cx_A L ad s.heap.size) s.heap H locs → lv_has ls 3 [(2, .int (nI k2)), (0, .ref (ad 0))] → W p l e rm_X5_noteAll s m args below meth c H locs 1 6 Q (F0 m 58 ls []) := by
            intro fu
            induction fu with
            | zero => intro k2 wk2 hkn2 zw2 hfu; exact absurd hfu (Nat.not_lt_zero _)
            | succ fu ih58 =>
              intro k2 wk2 hkn2 zw2 hfu58 ga4 H locs ls c_o c_w c_H c_N xn xa fr hP hS hl
              refine lv_iload_n hx hb dX5_noteAll_58 rfl (lv_at hl 0 rfl) ?_
              refine lv_aload_n hx hb dX5_noteAll_59 rfl (lv_at hl 1 rfl) ?_
              refine ax_get (k := 0) (v := .ref (ad 5)) hx hb hts in_X5_noteAll_X5 hown hK hP (hm _ (by unfold lbX; omega)) c_o rfl 5 (by decide) (hts _ wd_X5_noteAll_0) (fun _ h9 => h9) rfl dX5_noteAll_60 ?_
              refine ax_alen (k := 5) (n := N) hx hb hK hP (hm _ (by unfold lbX; omega)) 3 rfl c_H rfl dX5_noteAll_63 ?_
              refine ax_icge (a := k2) (b := N) (tgt := 78) hx hb dX5_noteAll_64 (by decide) (by omega) (by omega) (fun h64 => ?_) (fun h64 => ?_)
              · skip
                refine lv_aload_n hx hb dX5_noteAll_78 rfl (lv_at hl 1 rfl) ?_
                refine ax_get (k := 0) (v := .int (nI (csum (fun i => V + 1 - P.2.2.2.1 i) k2))) hx hb hts in_X5_noteAll_X5 hown hK hP (hm _ (by unfold lbX; omega)) c_o rfl 12 (by decide) (hts _ wd_X5_noteAll_2) (fun _ h9 => h9) rfl dX5_noteAll_79 ?_
                exact hret (nI (csum (fun i => V + 1 - P.2.2.2.1 i) k2)) ga4 _ _ _ _ _ _ ⟨by decide, by decide⟩ rfl (by have ek : N = k2 := (by omega); subst ek; exact ⟨han, by omega, rfl, fr, c_o, ⟨wk2, zw2, c_w⟩, xn⟩) hP hS dX5_noteAll_82
              · skip
                refine lv_aload_n hx hb dX5_noteAll_67 rfl (lv_at hl 1 rfl) ?_
                refine lv_iload_n hx hb dX5_noteAll_68 rfl (lv_at hl 0 rfl) ?_
                have hcm : csum (fun i => V + 1 - P.2.2.2.1 i) (k2 + 1) ≤ csum (fun i => V + 1 - P.2.2.2.1 i) N := csum_mono (by omega)
                have hcm2 : csum (fun i => V + 1 - P.2.2.2.1 i) (k2 + 1) = csum (fun i => V + 1 - P.2.2.2.1 i) k2 + (V + 1 - P.2.2.2.1 k2) := rfl
                refine cx_Vv (As := [.int (nI k2)]) (rest := []) ⟨hx, hb, hml, hown, hts⟩ (c_X5_noteEquations hD (node := k2) (nc := csum (fun i => V + 1 - P.2.2.2.1 i) k2) (wk := wk2) (nn := (naF (V + 1) P nn ng k2).1) (ng := (naF (V + 1) P nn ng k2).2) hN hV1 hV hM hM2 hm (by omega) zw2 (by omega) (naF_z hng k2) c_o c_w c_H c_N xa xn) (cwV 1 hts gX5_noteAll_X5_noteEquations rfl rfl rfl (by decide +kernel) ⟨Nat.le_of_ble_eq_true rfl, Nat.le_of_ble_eq_true rfl⟩) hK hP hS hz (hm _ (by unfold lbX; omega)) c_o rfl ⟨Nat.le_of_ble_eq_true rfl, Nat.le_of_ble_eq_true rfl⟩ rfl hl.1 rfl (Nat.le_of_ble_eq_true rfl) dX5_noteAll_69 (fun g5 H locs hp5 hP hS => ?_)
                obtain ⟨hp5a, hp5o, ⟨wk3, zw3, hp5w⟩, hp5x⟩ := hp5
                have c_H : g5 5 = rA (G.2 3) N (fun i => if i < N then some (ad (200 + 2 * i)) else none) := (hp5a 5 (by omega)).trans c_H
                have c_N : g5 7 = rA (G.2 4) 24 (fun i => if i < 24 then some (ad (400 + 2 * i)) else none) := (hp5a 7 (by omega)).trans c_N
                have xa : XA G ad g5 N V M P := xa.kept hN hV (fun j hj => hp5a j (by unfold lbA at hj; omega))
                have fr : ∀ j : Nat, (j ≠ 0 ∧ j ≠ 3 ∧ ¬ (400 ≤ j ∧ j < 448)) → g5 j = g j := fun j hj => (hp5a j (by omega)).trans (fr j hj)
                have c_o := hp5o
                have c_w := hp5w
                have xn : XN G ad g5 V (naF (V + 1) P nn ng (k2 + 1)).1 (naF (V + 1) P nn ng (k2 + 1)).2 := hp5x
                refine lv_iinc (v := nI (k2 + 1)) (lv' := [(2, .int (nI (k2 + 1))), (0, .ref (ad 0))]) hx hb dX5_noteAll_72 hl (k := 0) rfl (nI_1 _) (by decide) rfl (fun ls hl => ?_)
                refine lv_goto (tgt := 58) hx hb dX5_noteAll_75 (by decide) ?_
                exact ih58 (k2 + 1) wk3 h64 zw3 (by omega) g5 _ _ _ c_o c_w c_H c_N xn xa fr hP hS (lv_sub hl [0, 1] rfl)
          exact LP58 ((N - 0) + 1) 0 wk (Nat.zero_le _) hwk (Nat.lt_succ_self _) g3 _ _ _ c_o c_w c_H c_N xn xa fr hP hS (lv_sub hl [0, 2] rfl)
        · skip
          rw [hQ]
          exact cx_throw (ik := 192) (ic := 196) (is := 194) (X := xUO) (text := "too many equations") hx hb hst9 hown hts (by decide) (by decide) th_X5_noteAll_xUO hX hP hS (hl.1.trans hml.symm) dX5_noteAll_41 dX5_noteAll_44 dX5_noteAll_45 dX5_noteAll_47 dX5_noteAll_50 hexc ⟨Nat.le_of_ble_eq_true rfl, Nat.le_of_ble_eq_true rfl, Nat.le_of_ble_eq_true rfl, Nat.le_of_ble_eq_true rfl⟩ hlk (Or.inr ⟨rfl, han, by omega⟩) (by decide) (by decide)
      · skip
        obtain ⟨mbn, t, kp, rs, c_h, c_m, hct, sp, hcn, hrr, hpt⟩ := xa.hull h14
        have hcs := csum_le (f := (fun i => V + 1 - P.2.2.2.1 i)) (c := V + 1) (n := k) (fun i _ => Nat.sub_le _ _)
        have hcs2 : k * (V + 1) ≤ 8 * 5 := Nat.mul_le_mul (by omega) (by omega)
        refine lv_iload_n hx hb dX5_noteAll_17 rfl (lv_at hl 1 rfl) ?_
        refine lv_aload_n hx hb dX5_noteAll_18 rfl (lv_at hl 2 rfl) ?_
        refine ax_get (k := 0) (v := .ref (ad 5)) hx hb hts in_X5_noteAll_X5 hown hK hP (hm _ (by unfold lbX; omega)) c_o rfl 5 (by decide) (hts _ wd_X5_noteAll_0) (fun _ h9 => h9) rfl dX5_noteAll_19 ?_
        refine lv_iload_n hx hb dX5_noteAll_22 rfl (lv_at hl 0 rfl) ?_
        refine ax_aald (k := 5) (i := k) (b := ad (200 + 2 * k)) hx hb hK hP (hm _ (by unfold lbX; omega)) 3 rfl rfl c_H (by omega) (by omega) (if_pos (by omega)) dX5_noteAll_23 ?_
        refine cx_Vi (As := []) (rest := [.int (nI (csum (fun i => V + 1 - P.2.2.2.1 i) k))]) ⟨hx, hb, hml, hown, hts⟩ (c_X1_equationCount hD (n := V + 1) (h := 200 + 2 * k) (mb := 201 + 2 * k) (pc := P.2.2.2.1 k) (mf := mbn) (hm _ (by unfold lbX; omega)) (hm _ (by unfold lbX; omega)) hct c_h c_m) (cwV 0 hts gX5_noteAll_X1_equationCount rfl rfl rfl (by decide +kernel) ⟨Nat.le_of_ble_eq_true rfl, Nat.le_of_ble_eq_true rfl⟩) hK hP hS hz (hm _ (by unfold lbX; omega)) c_h rfl ⟨Nat.le_of_ble_eq_true rfl, Nat.le_of_ble_eq_true rfl⟩ rfl hl.1 rfl (Nat.le_of_ble_eq_true rfl) dX5_noteAll_24 (fun r6 g6 H locs hp6 hP hS => ?_)
        obtain ⟨er6, ehp6g⟩ := hp6
        rw [ehp6g] at hP
        rw [er6]
        refine ax_add (a := csum (fun i => V + 1 - P.2.2.2.1 i) k) (b := V + 1 - P.2.2.2.1 k) hx hb dX5_noteAll_27 ?_
        refine lv_istore_n (lv' := [(1, .int (nI (csum (fun i => V + 1 - P.2.2.2.1 i) k + (V + 1 - P.2.2.2.1 k)))), (2, .int (nI k)), (0, .ref (ad 0))]) hx hb dX5_noteAll_28 rfl hl (by decide) rfl (fun ls hl => ?_)
        refine lv_iinc (v := nI (k + 1)) (lv' := [(2, .int (nI (k + 1))), (1, .int (nI (csum (fun i => V + 1 - P.2.2.2.1 i) k + (V + 1 - P.2.2.2.1 k)))), (0, .ref (ad 0))]) hx hb dX5_noteAll_29 hl (k := 1) rfl (nI_1 _) (by decide) rfl (fun ls hl => ?_)
        refine lv_goto (tgt := 8) hx hb dX5_noteAll_32 (by decide) ?_
        exact ih8 (k + 1) h14 (by omega) _ _ _ hP hS (lv_sub hl [0, 1, 2] rfl)
  exact LP8 ((N - 0) + 1) 0 (Nat.zero_le _) (Nat.lt_succ_self _) _ _ _ hP hS (lv_sub hl [0, 1, 2] rfl)
