/-! THE TWO BIG CONSTRUCTORS -/
def clN (mx : Nat) (x : Int32) : Nat := if x.toInt < 1 then 1 else if (mx : Int) < x.toInt then mx else x.toInt.toNat
theorem clN_r {mx : Nat} {x : Int32} (h : 1 ≤ mx) : 1 ≤ clN mx x ∧ clN mx x ≤ mx := by
  unfold clN
  split
  · omega
  · split <;> omega
theorem cl_1 {mx : Nat} {x : Int32} (h : ¬ nI 1 ≤ x) : nI 1 = nI (clN mx x) := by
  rw [Int32.le_iff_toInt_le, nI_toInt (by omega)] at h
  unfold clN
  rw [if_pos (by omega)]
theorem cl_m {mx : Nat} {x : Int32} (hm : 1 ≤ mx ∧ mx < 1000) (h1 : nI 1 ≤ x) (h : ¬ x ≤ nI mx) : nI mx = nI (clN mx x) := by
  rw [Int32.le_iff_toInt_le, nI_toInt (by omega)] at h h1
  unfold clN
  rw [if_neg (by omega), if_pos (by omega)]
theorem cl_x {mx : Nat} {x : Int32} (hm : 1 ≤ mx ∧ mx < 1000) (h1 : nI 1 ≤ x) (h : x ≤ nI mx) : x = nI (clN mx x) := by
  rw [Int32.le_iff_toInt_le, nI_toInt (by omega)] at h h1
  refine i32_eq (by have := (clN_r (mx := mx) (x := x) hm.1).2; omega) ?_
  unfold clN
  rw [if_neg (by omega), if_neg (by omega)]
  omega
theorem mm_cl {mx : Nat} (x : Int32) (hm : 1 ≤ mx ∧ mx < 1000) : (if nI 1 < (if x < nI mx then x else nI mx) then (if x < nI mx then x else nI mx) else nI 1) = nI (clN mx x) := by
  by_cases h : x < nI mx
  · rw [if_pos h]
    have h2 : x ≤ nI mx := Int32.le_of_lt h
    by_cases h1 : nI 1 < x
    · rw [if_pos h1]
      exact cl_x hm (Int32.le_of_lt h1) h2
    · rw [if_neg h1]
      by_cases h3 : nI 1 ≤ x
      · have e : nI 1 = x := Int32.le_antisymm h3 (Int32.not_lt.mp h1)
        rw [e]
        exact cl_x hm h3 h2
      · exact cl_1 h3
  · rw [if_neg h]
    have h4 : nI mx ≤ x := Int32.not_lt.mp h
    have h5 : nI 1 ≤ nI mx := (nI_leI (by omega) (by omega)).mpr hm.1
    have h6 : nI 1 ≤ x := Int32.le_trans h5 h4
    by_cases h7 : x ≤ nI mx
    · have e : x = nI mx := Int32.le_antisymm h7 h4
      have e2 := cl_x hm h6 h7
      by_cases h1 : nI 1 < nI mx
      · rw [if_pos h1, ← e2, e]
      · rw [if_neg h1, ← e2, e]
        exact Int32.le_antisymm h5 (Int32.not_lt.mp h1)
    · have e2 := cl_m hm h6 h7
      by_cases h1 : nI 1 < nI mx
      · rw [if_pos h1]
        exact e2
      · rw [if_neg h1, ← e2]
        exact Int32.le_antisymm h5 (Int32.not_lt.mp h1)
theorem nu_fam (F : Nat → Nat) (k : Nat) : nu (fun i => if i < k then some (F i) else none) k (some (F k)) = fun i => if i < k + 1 then some (F i) else none := by
  funext i
  by_cases h : i = k
  · subst h
    rw [nu_s, if_pos (Nat.lt_succ_self i)]
  · rw [nu_n h]
    by_cases h2 : i < k
    · rw [if_pos h2, if_pos (by omega)]
    · rw [if_neg h2, if_neg (by omega)]
theorem fam_s {pr : Nat → Prop} {k : Nat} (h : ∀ i : Nat, i < k → pr i) (hk : pr k) : ∀ i : Nat, i < k + 1 → pr i := fun i hi => by
  by_cases e : i = k
  · rw [e]; exact hk
  · exact h i (by omega)

def ADX (ad : Nat → Nat) (sz N V M na : Nat) (hB : Nat → Nat) : Prop := (ad 1 = sz) ∧ (ad 3 = sz + 1) ∧ (ad 2 = sz + 2) ∧ (ad 180 = sz + 3) ∧ (ad 181 = sz + 4) ∧ (∀ i : Nat, i < V + 1 → ad (184 + i) = sz + 5 + i) ∧ (ad 182 = sz + 5 + (V + 1)) ∧ (ad 183 = sz + 6 + (V + 1)) ∧ (ad 4 = sz + 7 + (V + 1)) ∧ (∀ i : Nat, i < 20 → ad (300 + 2 * i) = sz + 8 + (V + 1) + 2 * i ∧ ad (301 + 2 * i) = sz + 9 + (V + 1) + 2 * i) ∧ (ad 7 = sz + 48 + (V + 1)) ∧ (∀ i : Nat, i < 24 → ad (400 + 2 * i) = sz + 49 + (V + 1) + 2 * i ∧ ad (401 + 2 * i) = sz + 50 + (V + 1) + 2 * i) ∧ (ad 5 = sz + 97 + (V + 1)) ∧ (hB 0 = sz + 98 + (V + 1)) ∧ (∀ i : Nat, i < N → hB (i + 1) = hB i + (V + 1 + 6)) ∧ (∀ i : Nat, i < N → ad (200 + 2 * i) = hB i ∧ ad (100 + 10 * i) = hB i + 1 ∧ ad (100 + 10 * i + 1) = hB i + 2 ∧ (∀ j : Nat, j < V + 1 → ad (100 + 10 * i + 4 + j) = hB i + 3 + j) ∧ ad (100 + 10 * i + 2) = hB i + 3 + (V + 1) ∧ ad (100 + 10 * i + 3) = hB i + 4 + (V + 1) ∧ ad (201 + 2 * i) = hB i + 5 + (V + 1)) ∧ (ad 6 = hB N) ∧ (∀ i : Nat, i < M → ad (500 + 2 * i) = hB N + 1 + 2 * i ∧ ad (501 + 2 * i) = hB N + 2 + 2 * i) ∧ (hB N + 1 + 2 * M = sz + na)
theorem ADX.k1 {ad : Nat → Nat} {sz N V M na : Nat} {hB : Nat → Nat} (h : ADX ad sz N V M na hB) : ad 1 = sz := h.1
theorem ADX.k3 {ad : Nat → Nat} {sz N V M na : Nat} {hB : Nat → Nat} (h : ADX ad sz N V M na hB) : ad 3 = sz + 1 := h.2.1
theorem ADX.k2 {ad : Nat → Nat} {sz N V M na : Nat} {hB : Nat → Nat} (h : ADX ad sz N V M na hB) : ad 2 = sz + 2 := h.2.2.1
theorem ADX.k180 {ad : Nat → Nat} {sz N V M na : Nat} {hB : Nat → Nat} (h : ADX ad sz N V M na hB) : ad 180 = sz + 3 := h.2.2.2.1
theorem ADX.k181 {ad : Nat → Nat} {sz N V M na : Nat} {hB : Nat → Nat} (h : ADX ad sz N V M na hB) : ad 181 = sz + 4 := h.2.2.2.2.1
theorem ADX.kr {ad : Nat → Nat} {sz N V M na : Nat} {hB : Nat → Nat} (h : ADX ad sz N V M na hB) : ∀ i : Nat, i < V + 1 → ad (184 + i) = sz + 5 + i := h.2.2.2.2.2.1
theorem ADX.k182 {ad : Nat → Nat} {sz N V M na : Nat} {hB : Nat → Nat} (h : ADX ad sz N V M na hB) : ad 182 = sz + 5 + (V + 1) := h.2.2.2.2.2.2.1
theorem ADX.k183 {ad : Nat → Nat} {sz N V M na : Nat} {hB : Nat → Nat} (h : ADX ad sz N V M na hB) : ad 183 = sz + 6 + (V + 1) := h.2.2.2.2.2.2.2.1
theorem ADX.k4 {ad : Nat → Nat} {sz N V M na : Nat} {hB : Nat → Nat} (h : ADX ad sz N V M na hB) : ad 4 = sz + 7 + (V + 1) := h.2.2.2.2.2.2.2.2.1
theorem ADX.kE {ad : Nat → Nat} {sz N V M na : Nat} {hB : Nat → Nat} (h : ADX ad sz N V M na hB) : ∀ i : Nat, i < 20 → ad (300 + 2 * i) = sz + 8 + (V + 1) + 2 * i ∧ ad (301 + 2 * i) = sz + 9 + (V + 1) + 2 * i := h.2.2.2.2.2.2.2.2.2.1
theorem ADX.k7 {ad : Nat → Nat} {sz N V M na : Nat} {hB : Nat → Nat} (h : ADX ad sz N V M na hB) : ad 7 = sz + 48 + (V + 1) := h.2.2.2.2.2.2.2.2.2.2.1
theorem ADX.kN {ad : Nat → Nat} {sz N V M na : Nat} {hB : Nat → Nat} (h : ADX ad sz N V M na hB) : ∀ i : Nat, i < 24 → ad (400 + 2 * i) = sz + 49 + (V + 1) + 2 * i ∧ ad (401 + 2 * i) = sz + 50 + (V + 1) + 2 * i := h.2.2.2.2.2.2.2.2.2.2.2.1
theorem ADX.k5 {ad : Nat → Nat} {sz N V M na : Nat} {hB : Nat → Nat} (h : ADX ad sz N V M na hB) : ad 5 = sz + 97 + (V + 1) := h.2.2.2.2.2.2.2.2.2.2.2.2.1
theorem ADX.B0 {ad : Nat → Nat} {sz N V M na : Nat} {hB : Nat → Nat} (h : ADX ad sz N V M na hB) : hB 0 = sz + 98 + (V + 1) := h.2.2.2.2.2.2.2.2.2.2.2.2.2.1
theorem ADX.Bs {ad : Nat → Nat} {sz N V M na : Nat} {hB : Nat → Nat} (h : ADX ad sz N V M na hB) : ∀ i : Nat, i < N → hB (i + 1) = hB i + (V + 1 + 6) := h.2.2.2.2.2.2.2.2.2.2.2.2.2.2.1
theorem ADX.kH {ad : Nat → Nat} {sz N V M na : Nat} {hB : Nat → Nat} (h : ADX ad sz N V M na hB) : ∀ i : Nat, i < N → ad (200 + 2 * i) = hB i ∧ ad (100 + 10 * i) = hB i + 1 ∧ ad (100 + 10 * i + 1) = hB i + 2 ∧ (∀ j : Nat, j < V + 1 → ad (100 + 10 * i + 4 + j) = hB i + 3 + j) ∧ ad (100 + 10 * i + 2) = hB i + 3 + (V + 1) ∧ ad (100 + 10 * i + 3) = hB i + 4 + (V + 1) ∧ ad (201 + 2 * i) = hB i + 5 + (V + 1) := h.2.2.2.2.2.2.2.2.2.2.2.2.2.2.2.1
theorem ADX.k6 {ad : Nat → Nat} {sz N V M na : Nat} {hB : Nat → Nat} (h : ADX ad sz N V M na hB) : ad 6 = hB N := h.2.2.2.2.2.2.2.2.2.2.2.2.2.2.2.2.1
theorem ADX.kP {ad : Nat → Nat} {sz N V M na : Nat} {hB : Nat → Nat} (h : ADX ad sz N V M na hB) : ∀ i : Nat, i < M → ad (500 + 2 * i) = hB N + 1 + 2 * i ∧ ad (501 + 2 * i) = hB N + 2 + 2 * i := h.2.2.2.2.2.2.2.2.2.2.2.2.2.2.2.2.2.1
theorem ADX.na {ad : Nat → Nat} {sz N V M na : Nat} {hB : Nat → Nat} (h : ADX ad sz N V M na hB) : hB N + 1 + 2 * M = sz + na := h.2.2.2.2.2.2.2.2.2.2.2.2.2.2.2.2.2.2

set_option maxRecDepth 20000 in
theorem wd_X5_init_0 : Cond.methodLink RX5 1 objectInit ∈ wsX5_init := by decide +kernel
set_option maxRecDepth 20000 in
theorem wd_X5_init_1 : Cond.instanceMethod objectInit ∈ wsX5_init := by decide +kernel
set_option maxRecDepth 20000 in
theorem wd_X5_init_2 : Cond.code objectInit ⟨#[0xb1]⟩ 1 none ∈ wsX5_init := by decide +kernel
set_option maxRecDepth 20000 in
theorem wd_X5_init_3 : Cond.methodLink RX5 9 Lib.Math.min.name ∈ wsX5_init := by decide +kernel
set_option maxRecDepth 20000 in
theorem wd_X5_init_4 : Cond.static Lib.Math.min.name ∈ wsX5_init := by decide +kernel
set_option maxRecDepth 20000 in
theorem wd_X5_init_5 : Cond.initialized "java/lang/Math" ∈ wsX5_init := by decide +kernel
set_option maxRecDepth 20000 in
theorem wd_X5_init_6 : Cond.code Lib.Math.min.name Lib.Math.min.code 2 (some .int) ∈ wsX5_init := by decide +kernel
set_option maxRecDepth 20000 in
theorem wd_X5_init_7 : Cond.methodLink RX5 15 Lib.Math.max.name ∈ wsX5_init := by decide +kernel
set_option maxRecDepth 20000 in
theorem wd_X5_init_8 : Cond.static Lib.Math.max.name ∈ wsX5_init := by decide +kernel
set_option maxRecDepth 20000 in
theorem wd_X5_init_9 : Cond.code Lib.Math.max.name Lib.Math.max.code 2 (some .int) ∈ wsX5_init := by decide +kernel
set_option maxRecDepth 20000 in
theorem wd_X5_init_10 : Cond.fieldLink RX5 18 "AffineHulls" "variables" "I" ∈ wsX5_init := by decide +kernel
set_option maxRecDepth 20000 in
theorem in_X5_init_X5 : ∀ w ∈ u_ws RX5 TX5 15, w ∈ wsX5_init := by decide +kernel
set_option maxRecDepth 20000 in
theorem wd_X5_init_12 : Cond.arrayClass .int ∈ wsX5_init := by decide +kernel
set_option maxRecDepth 20000 in
theorem wd_X5_init_13 : Cond.fieldLink RX5 22 "AffineHulls" "draft" "[I" ∈ wsX5_init := by decide +kernel
set_option maxRecDepth 20000 in
theorem wd_X5_init_14 : Cond.fieldLink RX5 26 "AffineHulls" "work" "[I" ∈ wsX5_init := by decide +kernel
set_option maxRecDepth 20000 in
theorem wd_X5_init_15 : Cond.fieldLink RX5 29 "AffineHulls" "values" "[I" ∈ wsX5_init := by decide +kernel
set_option maxRecDepth 20000 in
theorem in_X5_init_X4 : ∀ w ∈ u_ws RX4 TX4 3, w ∈ wsX5_init := by decide +kernel
set_option maxRecDepth 20000 in
theorem wd_X5_init_17 : Cond.classLink RX5 32 RX4 ∈ wsX5_init := by decide +kernel
set_option maxRecDepth 20000 in
theorem wd_X5_init_18 : Cond.instantiable RX4 3 ∈ wsX5_init := by decide +kernel
set_option maxRecDepth 20000 in
theorem wd_X5_init_19 : Cond.initialized RX4 ∈ wsX5_init := by decide +kernel
set_option maxRecDepth 20000 in
theorem wd_X5_init_20 : Cond.methodLink RX5 34 yX4_init ∈ wsX5_init := by decide +kernel
set_option maxRecDepth 20000 in
theorem wd_X5_init_21 : Cond.instanceMethod yX4_init ∈ wsX5_init := by decide +kernel
set_option maxRecDepth 20000 in
theorem wd_X5_init_22 : Cond.fieldLink RX5 37 "AffineHulls" "noteSpan" "LAffineHulls$Span;" ∈ wsX5_init := by decide +kernel
set_option maxRecDepth 20000 in
theorem wd_X5_init_23 : Cond.classLink RX5 41 RX0 ∈ wsX5_init := by decide +kernel
set_option maxRecDepth 20000 in
theorem wd_X5_init_24 : Cond.fieldLink RX5 43 "AffineHulls" "edges" "[LAffineHulls$Edge;" ∈ wsX5_init := by decide +kernel
set_option maxRecDepth 20000 in
theorem wd_X5_init_25 : Cond.classLink RX5 48 RX2 ∈ wsX5_init := by decide +kernel
set_option maxRecDepth 20000 in
theorem wd_X5_init_26 : Cond.fieldLink RX5 50 "AffineHulls" "notes" "[LAffineHulls$Note;" ∈ wsX5_init := by decide +kernel
set_option maxRecDepth 20000 in
theorem wd_X5_init_27 : Cond.classLink RX5 55 RX1 ∈ wsX5_init := by decide +kernel
set_option maxRecDepth 20000 in
theorem wd_X5_init_28 : Cond.fieldLink RX5 57 "AffineHulls" "hulls" "[LAffineHulls$Hull;" ∈ wsX5_init := by decide +kernel
set_option maxRecDepth 20000 in
theorem wd_X5_init_29 : Cond.classLink RX5 62 RX3 ∈ wsX5_init := by decide +kernel
set_option maxRecDepth 20000 in
theorem wd_X5_init_30 : Cond.fieldLink RX5 64 "AffineHulls" "arrivals" "[LAffineHulls$Point;" ∈ wsX5_init := by decide +kernel
set_option maxRecDepth 20000 in
theorem in_X5_init_X3 : ∀ w ∈ u_ws RX3 TX3 4, w ∈ wsX5_init := by decide +kernel
set_option maxRecDepth 20000 in
theorem wd_X5_init_32 : Cond.instantiable RX3 4 ∈ wsX5_init := by decide +kernel
set_option maxRecDepth 20000 in
theorem wd_X5_init_33 : Cond.initialized RX3 ∈ wsX5_init := by decide +kernel
set_option maxRecDepth 20000 in
theorem wd_X5_init_34 : Cond.methodLink RX5 68 yX3_init ∈ wsX5_init := by decide +kernel
set_option maxRecDepth 20000 in
theorem wd_X5_init_35 : Cond.instanceMethod yX3_init ∈ wsX5_init := by decide +kernel
set_option maxRecDepth 20000 in
theorem in_X5_init_X1 : ∀ w ∈ u_ws RX1 TX1 3, w ∈ wsX5_init := by decide +kernel
set_option maxRecDepth 20000 in
theorem wd_X5_init_37 : Cond.instantiable RX1 3 ∈ wsX5_init := by decide +kernel
set_option maxRecDepth 20000 in
theorem wd_X5_init_38 : Cond.initialized RX1 ∈ wsX5_init := by decide +kernel
set_option maxRecDepth 20000 in
theorem wd_X5_init_39 : Cond.methodLink RX5 61 yX1_init ∈ wsX5_init := by decide +kernel
set_option maxRecDepth 20000 in
theorem wd_X5_init_40 : Cond.instanceMethod yX1_init ∈ wsX5_init := by decide +kernel
set_option maxRecDepth 20000 in
theorem in_X5_init_X2 : ∀ w ∈ u_ws RX2 TX2 2, w ∈ wsX5_init := by decide +kernel
set_option maxRecDepth 20000 in
theorem wd_X5_init_42 : Cond.instantiable RX2 2 ∈ wsX5_init := by decide +kernel
set_option maxRecDepth 20000 in
theorem wd_X5_init_43 : Cond.initialized RX2 ∈ wsX5_init := by decide +kernel
set_option maxRecDepth 20000 in
theorem wd_X5_init_44 : Cond.methodLink RX5 54 yX2_init ∈ wsX5_init := by decide +kernel
set_option maxRecDepth 20000 in
theorem wd_X5_init_45 : Cond.instanceMethod yX2_init ∈ wsX5_init := by decide +kernel
set_option maxRecDepth 20000 in
theorem in_X5_init_X0 : ∀ w ∈ u_ws RX0 TX0 5, w ∈ wsX5_init := by decide +kernel
set_option maxRecDepth 20000 in
theorem wd_X5_init_47 : Cond.instantiable RX0 5 ∈ wsX5_init := by decide +kernel
set_option maxRecDepth 20000 in
theorem wd_X5_init_48 : Cond.initialized RX0 ∈ wsX5_init := by decide +kernel
set_option maxRecDepth 20000 in
theorem wd_X5_init_49 : Cond.methodLink RX5 47 yX0_init ∈ wsX5_init := by decide +kernel
set_option maxRecDepth 20000 in
theorem wd_X5_init_50 : Cond.instanceMethod yX0_init ∈ wsX5_init := by decide +kernel
