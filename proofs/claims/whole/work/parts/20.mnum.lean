/-! THE MODEL, its numbers: mod, inverse -/
def lbM (j : Nat) : Bool := [1000, 1003, 1005, 1006, 1007, 1008, 1009, 1012, 1013, 1014, 1016, 1017, 1018, 1019, 1021, 1023, 1024, 1026, 1027, 1028].contains j
theorem i64_bm {z : Int} (h1 : -9223372036854775808 ≤ z) (h2 : z < 9223372036854775808) : z.bmod (2 ^ 64) = z := by
  rw [Int.bmod_eq_of_le]
  · simpa using h1
  · simpa using h2
theorem i64_rng (x : Int64) : -9223372036854775808 ≤ x.toInt ∧ x.toInt < 9223372036854775808 := by
  have h1 := Int64.le_toInt x
  have h2 := Int64.toInt_lt x
  omega
theorem i64_rem (x : Int64) : (x - x / 65521 * 65521).toInt = x.toInt.tmod 65521 := by
  have e : (65521 : Int64).toInt = 65521 := by decide
  have r := i64_rng x
  have hd : 65521 * x.toInt.tdiv 65521 + x.toInt.tmod 65521 = x.toInt := Int.mul_tdiv_add_tmod x.toInt 65521
  have h1 : x.toInt.tmod 65521 < 65521 := Int.tmod_lt_of_pos _ (by decide)
  have h2 : -65521 < x.toInt.tmod 65521 := by
    have := Int.tmod_lt_of_pos (-x.toInt) (b := 65521) (by decide)
    rw [Int.neg_tmod] at this
    omega
  have hq : (x / 65521).toInt = x.toInt.tdiv 65521 := by
    rw [Int64.toInt_div, e]
    exact i64_bm (by omega) (by omega)
  rcases Int.lt_or_le x.toInt 0 with h | h
  · have h3 : x.toInt.tmod 65521 ≤ 0 := by
      have h9 : (0 : Int) ≤ (-x.toInt).tmod 65521 := Int.tmod_nonneg _ (by omega)
      rw [Int.neg_tmod] at h9
      omega
    rw [Int64.toInt_sub, Int64.toInt_mul, hq, e, i64_bm (z := x.toInt.tdiv 65521 * 65521) (by omega) (by omega), i64_bm (by omega) (by omega)]
    omega
  · have h3 : 0 ≤ x.toInt.tmod 65521 := Int.tmod_nonneg _ h
    rw [Int64.toInt_sub, Int64.toInt_mul, hq, e, i64_bm (z := x.toInt.tdiv 65521 * 65521) (by omega) (by omega), i64_bm (by omega) (by omega)]
    omega
theorem i64_32 {y : Int64} {n : Nat} (hn : n < 2147483648) (h : y.toInt = n) : y.toInt32 = nI n := by
  apply i32_eq hn
  rw [Int64.toInt_toInt32, h]
  exact i32_bm (by omega) (by omega)
theorem lm_1 {x r : Int64} {q : Int32} (er : r = x - x / 65521 * 65521) (eq : q = lg_cmp r (lN 0)) (h : 0 ≤ q) : r.toInt32 = nI (fi x.toInt).val := by
  rw [eq, lg_cmp_ge, Int64.le_iff_toInt_le, lN_toInt (by decide)] at h
  refine i64_32 (by have := (fi x.toInt).isLt; omega) ?_
  have hr : r.toInt = x.toInt.tmod 65521 := by rw [er, i64_rem]
  have hd : 65521 * x.toInt.tdiv 65521 + x.toInt.tmod 65521 = x.toInt := Int.mul_tdiv_add_tmod x.toInt 65521
  have h1 : x.toInt.tmod 65521 < 65521 := Int.tmod_lt_of_pos _ (by decide)
  rw [fi_val]
  omega
theorem lm_2 {x r : Int64} {q : Int32} (er : r = x - x / 65521 * 65521) (eq : q = lg_cmp r (lN 0)) (h : ¬ 0 ≤ q) : (r + 65521).toInt32 = nI (fi x.toInt).val := by
  rw [eq, lg_cmp_ge, Int64.le_iff_toInt_le, lN_toInt (by decide)] at h
  refine i64_32 (by have := (fi x.toInt).isLt; omega) ?_
  have hr : r.toInt = x.toInt.tmod 65521 := by rw [er, i64_rem]
  have hd : 65521 * x.toInt.tdiv 65521 + x.toInt.tmod 65521 = x.toInt := Int.mul_tdiv_add_tmod x.toInt 65521
  have h2 : -65521 < x.toInt.tmod 65521 := by
    have := Int.tmod_lt_of_pos (-x.toInt) (b := 65521) (by decide)
    rw [Int.neg_tmod] at this
    omega
  have e : (65521 : Int64).toInt = 65521 := by decide
  rw [Int64.toInt_add, e, i64_bm (by omega) (by omega), fi_val]
  omega
theorem ln_fi {A : Nat} (h : A < 4611686018427387904) : fi (lN A).toInt = ff A := by
  rw [pk_lT (by omega), fi_nat]
theorem ln_sub {A B : Nat} (hA : A < 4611686018427387904) (hB : B < 4611686018427387904) : fi (lN A - lN B).toInt = ff A - ff B := by
  rw [Int64.toInt_sub, pk_lT (by omega), pk_lT (by omega), i64_bm (by omega) (by omega), fi_sub, fi_nat, fi_nat]
theorem i2l_fi (x : Int32) : x.toInt64.toInt = x.toInt := Int32.toInt_toInt64 x

set_option maxRecDepth 20000 in
theorem wd_X6_mod_0 : Cond.constantLong RX6 77 (65521) ∈ wsX6_mod := by decide +kernel
abbrev rm_X6_mod : Room := { frames := 0, cells := 0, slots := 0, locals := 0 }
set_option maxHeartbeats 4000000 in
set_option maxRecDepth 100000 in
theorem c_X6_mod {l : Launch} {G : cx_G} {L : List Nat} {ad : Nat → Nat} {g : Nat → va_E} (hD : cx_D L ad) {x : Int64} : MI l yX6_mod wsX6_mod rm_X6_mod G L ad g [.long x] (fun r u => r = nI (fi x.toInt).val ∧ u = g) := by
  refine cx_ofI (cc := cX6_mod) (maxL := 4) (by decide +kernel) rfl (Nat.le_of_ble_eq_true rfl) ?_
  intro p e s m args below meth c Q hx hb hts hown hml hP hK hS hz hret ls hl
  have hown : s.vm.findClass RX6 = some m.cls := hown
  have hl : lv_has ls 4 [(0, .long x)] := hl
  refine lv_lload_n hx hb dX6_mod_0 rfl (lv_at hl 0 rfl) ?_
  refine lv_ldc2 (v := 65521) hx hb hown (hts _ wd_X6_mod_0) dX6_mod_1 ?_
  refine lv_lrem hx hb dX6_mod_4 (by decide) ?_
  refine lv_topl (fun r er => ?_)
  refine lv_lstore_n (lv' := [(2, .long r), (0, .long x)]) hx hb dX6_mod_5 rfl hl (by decide) rfl (fun ls hl => ?_)
  refine lv_lload_n hx hb dX6_mod_6 rfl (lv_at hl 0 rfl) ?_
  refine lv_lconst (v := lN 0) hx hb dX6_mod_7 rfl ?_
  refine W.lcmp hx hb dX6_mod_8 ?_
  refine lv_topi (fun q eq => ?_)
  refine lv_if_ge (x := q) (tgt := 20) hx hb dX6_mod_9 (by decide) (fun h9 => ?_) (fun h9 => ?_)
  · skip
    refine lv_lload_n hx hb dX6_mod_20 rfl (lv_at hl 0 rfl) ?_
    refine lv_l2i (v := r.toInt32) hx hb dX6_mod_21 rfl ?_
    exact hret r.toInt32 g _ _ _ _ rfl ⟨lm_1 er eq h9, rfl⟩ hP hS dX6_mod_22
  · skip
    refine lv_lload_n hx hb dX6_mod_12 rfl (lv_at hl 0 rfl) ?_
    refine lv_ldc2 (v := 65521) hx hb hown (hts _ wd_X6_mod_0) dX6_mod_13 ?_
    refine lv_ladd hx hb dX6_mod_16 ?_
    refine lv_goto (tgt := 21) hx hb dX6_mod_17 (by decide) ?_
    refine lv_l2i (v := (r + 65521).toInt32) hx hb dX6_mod_21 rfl ?_
    exact hret ((r + 65521).toInt32) g _ _ _ _ rfl ⟨lm_2 er eq h9, rfl⟩ hP hS dX6_mod_22

/-- 65521 is prime -/
theorem pr_65521 {a b : Nat} (h : a * b = 65521) (h1 : a ≠ 1) : ¬ a < 65521 := by
  intro h2
  have h0 : a ≠ 0 := fun z => by rw [z, Nat.zero_mul] at h; cases h
  have e : ff a * ff b = 0 := by rw [← ff_mul, h]; rfl
  have ha : ff a ≠ 0 := fun z => by
    have z2 := congrArg Fin.val z
    rw [ff_val, Nat.mod_eq_of_lt h2] at z2
    exact h0 z2
  have hi := finv_ok _ ha
  have hb : ff b = 0 := by
    have e2 : finv (ff a) * (ff a * ff b) = 0 := by rw [e]; grind
    grind
  have hb2 := congrArg Fin.val hb
  rw [ff_val] at hb2
  have hb3 : b % 65521 = 0 := hb2
  have hb4 : b ≤ 65521 := by
    rw [← h]
    exact Nat.le_mul_of_pos_left b (by omega)
  have hb5 : b ≠ 0 := fun z => by rw [z, Nat.mul_zero] at h; cases h
  have hb6 : b = 65521 := by omega
  rw [hb6] at h
  omega
def EU (a : FF) (x y : Int64) (pp qq : Nat) : Prop := ∃ A B : Nat, ((x.toInt = A ∧ y.toInt = -(B : Int)) ∨ (x.toInt = -(A : Int) ∧ y.toInt = B)) ∧ A * qq + B * pp = 65521 ∧ 0 < pp ∧ pp < 65521 ∧ qq ≤ 65521 ∧ fi x.toInt * a = ff pp ∧ fi y.toInt * a = ff qq
theorem EU.start {a : FF} (ha : a ≠ 0) : EU a (lN 1) (lN 0) a.val 65521 := by
  have h1 : (lN 1).toInt = 1 := by decide
  have h0 : (lN 0).toInt = 0 := by decide
  refine ⟨1, 0, Or.inl ⟨h1, h0⟩, by omega, Nat.pos_of_ne_zero (fun z => ha (Fin.ext z)), a.isLt, Nat.le_refl _, ?_, ?_⟩
  · rw [h1, ff_of]
    show fi 1 * a = a
    have e : fi 1 = 1 := by decide
    rw [e]
    grind
  · rw [h0]
    have e : fi 0 = 0 := by decide
    have e2 : ff 65521 = 0 := by decide
    rw [e, e2]
    grind
theorem EU.step {a : FF} {x y : Int64} {pp qq : Nat} (h : EU a x y pp qq) (hp : pp ≠ 1) : EU a (y - lN (qq / pp) * x) x (qq % pp) pp := by
  obtain ⟨A, B, hs, hm, h0, h1, h2, h3, h4⟩ := h
  have hd := Nat.div_add_mod qq pp
  have hr := Nat.mod_lt qq h0
  generalize hdd : qq / pp = dd at *
  generalize hrr : qq % pp = rr at *
  have hm2 : (B + dd * A) * pp + A * rr = 65521 := by
    rw [← hm, ← hd]
    grind
  have hb1 : B + dd * A ≤ 65521 := Nat.le_trans (Nat.le_mul_of_pos_right _ h0) (by omega)
  have hb2 : dd ≤ 65521 := by rw [← hdd]; exact Nat.le_trans (Nat.div_le_self _ _) h2
  have hr0 : 0 < rr := by
    rcases Nat.eq_zero_or_pos rr with z | z
    · exfalso
      rw [z, Nat.mul_zero, Nat.add_zero, Nat.mul_comm] at hm2
      exact pr_65521 hm2 hp h1
    · exact z
  have ed : (lN dd).toInt = dd := pk_lT (by omega)
  have c1 : ((B + dd * A : Nat) : Int) = (B : Int) + (dd : Int) * (A : Int) := by push_cast; rfl
  have hA : dd * A ≤ 65521 := by omega
  have cA : ((dd * A : Nat) : Int) = (dd : Int) * (A : Int) := by push_cast; rfl
  have ez : (y - lN dd * x).toInt = y.toInt - dd * x.toInt := by
    rw [Int64.toInt_sub, Int64.toInt_mul, ed]
    rcases hs with ⟨e1, e2⟩ | ⟨e1, e2⟩
    · rw [e1, e2, ← cA, i64_bm (z := ((dd * A : Nat) : Int)) (by omega) (by omega)]
      exact i64_bm (by omega) (by omega)
    · have e3 : (dd : Int) * -(A : Int) = -((dd * A : Nat) : Int) := by rw [cA, Int.mul_neg]
      rw [e1, e2, e3, i64_bm (z := -((dd * A : Nat) : Int)) (by omega) (by omega)]
      exact i64_bm (by omega) (by omega)
  refine ⟨B + dd * A, A, ?_, hm2, hr0, Nat.lt_trans hr h1, Nat.le_of_lt h1, ?_, h3⟩
  · rw [ez]
    rcases hs with ⟨e1, e2⟩ | ⟨e1, e2⟩
    · refine Or.inr ⟨?_, e1⟩
      rw [e1, e2, c1]
      omega
    · refine Or.inl ⟨?_, e1⟩
      have e3 : (dd : Int) * -(A : Int) = -((dd : Int) * (A : Int)) := Int.mul_neg _ _
      rw [e1, e2, c1, e3]
      omega
  · rw [ez, fi_sub, fi_mul, fi_nat]
    have e5 : ff qq = ff pp * ff dd + ff rr := by rw [← ff_mul, ← ff_add, hd]
    grind
theorem EU.done {a : FF} {x y : Int64} {pp qq : Nat} (h : EU a x y pp qq) (hp : pp = 1) (ha : a ≠ 0) : fi x.toInt = finv a := by
  obtain ⟨A, B, -, -, -, -, -, h3, -⟩ := h
  have hi := finv_ok a ha
  have e : ff 1 = 1 := by decide
  rw [hp, e] at h3
  grind

set_option maxRecDepth 20000 in
theorem wd_X6_inverse_0 : Cond.constant RX6 79 (65521) ∈ wsX6_inverse := by decide +kernel
abbrev rm_X6_inverse : Room := { frames := 1, cells := 0, slots := 0, locals := 23 }
set_option maxHeartbeats 4000000 in
set_option maxRecDepth 100000 in
theorem c_X6_inverse {l : Launch} {G : cx_G} {L : List Nat} {ad : Nat → Nat} {g : Nat → va_E} (hD : cx_D L ad) {av : FF} (ha : av ≠ 0) : MI l yX6_inverse wsX6_inverse rm_X6_inverse G L ad g [.int (nI av.val)] (fun r u => r = nI (finv av).val ∧ u = g) := by
  refine cx_ofI (cc := cX6_inverse) (maxL := 11) (by decide +kernel) rfl (Nat.le_of_ble_eq_true rfl) ?_
  intro p e s m args below meth c Q hx hb hts hown hml hP hK hS hz hret ls hl
  have hown : s.vm.findClass RX6 = some m.cls := hown
  have hl : lv_has ls 11 [(0, .int (nI av.val))] := hl
  refine lv_lconst (v := lN 1) hx hb dX6_inverse_0 rfl ?_
  refine lv_lstore_n (lv' := [(1, .long (lN 1)), (0, .int (nI av.val))]) hx hb dX6_inverse_1 rfl hl (by decide) rfl (fun ls hl => ?_)
  refine lv_lconst (v := lN 0) hx hb dX6_inverse_2 rfl ?_
  refine lv_lstore_n (lv' := [(3, .long (lN 0)), (1, .long (lN 1)), (0, .int (nI av.val))]) hx hb dX6_inverse_3 rfl hl (by decide) rfl (fun ls hl => ?_)
  refine lv_iload_n hx hb dX6_inverse_4 rfl (lv_at hl 2 rfl) ?_
  refine lv_istore (lv' := [(5, .int (nI av.val)), (3, .long (lN 0)), (1, .long (lN 1)), (0, .int (nI av.val))]) hx hb dX6_inverse_5 hl (by decide) rfl (fun ls hl => ?_)
  refine lv_ldc (v := 65521) hx hb hown (hts _ wd_X6_inverse_0) dX6_inverse_7 ?_
  rw [show (65521 : Int32) = nI 65521 from by decide]
  refine lv_istore (lv' := [(6, .int (nI 65521)), (5, .int (nI av.val)), (3, .long (lN 0)), (1, .long (lN 1)), (0, .int (nI av.val))]) hx hb dX6_inverse_9 hl (by decide) rfl (fun ls hl => ?_)
  have LP11 : ∀ (fu : Nat) (x : Int64) (y : Int64) (pp : Nat) (qq : Nat), (EU av x y pp qq) → pp < fu → ∀ (ls : Array Slot), lv_has ls 11 [(5, .int (nI pp)), (6, .int (nI qq)), (3, .long y), (1, .long x), (0, .int (nI av.val))] → W p l e rm_X6_inverse s m args below meth c s.heap [] 0 0 Q (F0 m 11 ls []) := by
    intro fu
    induction fu with
    | zero => intro x y pp qq heu hfu; exact absurd hfu (Nat.not_lt_zero _)
    | succ fu ih11 =>
      intro x y pp qq heu hfu11 ls hl
      obtain ⟨-, -, -, -, hp0, hp1, hq1, -, -⟩ := id heu
      have hdq := Nat.div_le_self qq pp
      refine lv_iload hx hb dX6_inverse_11 (lv_at hl 0 rfl) ?_
      refine lv_iconst (v := nI 1) hx hb dX6_inverse_13 (by decide) ?_
      refine ax_iceq (a := pp) (b := 1) (tgt := 56) hx hb dX6_inverse_14 (by decide) (by omega) (by omega) (fun h14 => ?_) (fun h14 => ?_)
      · skip
        refine lv_lload_n hx hb dX6_inverse_56 rfl (lv_at hl 3 rfl) ?_
        refine cx_Si (As := [.long x]) (rest := []) ⟨hx, hb, hml, hown, hts⟩ (c_X6_mod hD (x := x)) (va_cwS 1 hts gX6_inverse_X6_mod rfl rfl rfl (by decide +kernel) ⟨Nat.le_of_ble_eq_true rfl, Nat.le_of_ble_eq_true rfl⟩) hK hP hS hz ⟨Nat.zero_le _, Nat.zero_le _⟩ rfl hl.1 rfl (Nat.le_of_ble_eq_true rfl) dX6_inverse_57 (fun r2 g2 H locs hp2 hP hS => ?_)
        obtain ⟨er2, ehp2g⟩ := hp2
        rw [ehp2g] at hP
        rw [er2]
        exact hret (nI ((fi (x).toInt).val)) g _ _ _ _ rfl ⟨by rw [heu.done h14 ha], rfl⟩ hP hS dX6_inverse_60
      · skip
        refine lv_iload hx hb dX6_inverse_17 (lv_at hl 1 rfl) ?_
        refine lv_iload hx hb dX6_inverse_19 (lv_at hl 0 rfl) ?_
        refine lv_idiv hx hb dX6_inverse_21 (nI_ne0 hp0 (by omega)) ?_
        rw [pk_div (by omega) hp0 (by omega)]
        refine lv_istore (lv' := [(7, .int (nI (qq / pp))), (5, .int (nI pp)), (6, .int (nI qq)), (3, .long y), (1, .long x), (0, .int (nI av.val))]) hx hb dX6_inverse_22 hl (by decide) rfl (fun ls hl => ?_)
        refine lv_iload hx hb dX6_inverse_24 (lv_at hl 2 rfl) ?_
        refine lv_iload hx hb dX6_inverse_26 (lv_at hl 1 rfl) ?_
        refine lv_irem hx hb dX6_inverse_28 (nI_ne0 hp0 (by omega)) ?_
        rw [pk_rem (by omega) hp0 (by omega)]
        refine lv_istore (lv' := [(8, .int (nI (qq % pp))), (7, .int (nI (qq / pp))), (5, .int (nI pp)), (6, .int (nI qq)), (3, .long y), (1, .long x), (0, .int (nI av.val))]) hx hb dX6_inverse_29 hl (by decide) rfl (fun ls hl => ?_)
        refine lv_lload_n hx hb dX6_inverse_31 rfl (lv_at hl 4 rfl) ?_
        refine lv_iload hx hb dX6_inverse_32 (lv_at hl 1 rfl) ?_
        refine ax_i2l (a := qq / pp) hx hb dX6_inverse_34 (by omega) ?_
        refine lv_lload_n hx hb dX6_inverse_35 rfl (lv_at hl 5 rfl) ?_
        refine lv_lmul hx hb dX6_inverse_36 ?_
        refine lv_lsub hx hb dX6_inverse_37 ?_
        refine lv_lstore (lv' := [(9, .long (y - ((lN (qq / pp)) * x))), (8, .int (nI (qq % pp))), (7, .int (nI (qq / pp))), (5, .int (nI pp)), (6, .int (nI qq)), (3, .long y), (1, .long x), (0, .int (nI av.val))]) hx hb dX6_inverse_38 hl (by decide) rfl (fun ls hl => ?_)
        refine lv_iload hx hb dX6_inverse_40 (lv_at hl 3 rfl) ?_
        refine lv_istore (lv' := [(6, .int (nI pp)), (9, .long (y - ((lN (qq / pp)) * x))), (8, .int (nI (qq % pp))), (7, .int (nI (qq / pp))), (5, .int (nI pp)), (3, .long y), (1, .long x), (0, .int (nI av.val))]) hx hb dX6_inverse_42 hl (by decide) rfl (fun ls hl => ?_)
        refine lv_iload hx hb dX6_inverse_44 (lv_at hl 2 rfl) ?_
        refine lv_istore (lv' := [(5, .int (nI (qq % pp))), (6, .int (nI pp)), (9, .long (y - ((lN (qq / pp)) * x))), (8, .int (nI (qq % pp))), (7, .int (nI (qq / pp))), (3, .long y), (1, .long x), (0, .int (nI av.val))]) hx hb dX6_inverse_46 hl (by decide) rfl (fun ls hl => ?_)
        refine lv_lload_n hx hb dX6_inverse_48 rfl (lv_at hl 6 rfl) ?_
        refine lv_lstore_n (lv' := [(3, .long x), (5, .int (nI (qq % pp))), (6, .int (nI pp)), (9, .long (y - ((lN (qq / pp)) * x))), (8, .int (nI (qq % pp))), (7, .int (nI (qq / pp))), (1, .long x), (0, .int (nI av.val))]) hx hb dX6_inverse_49 rfl hl (by decide) rfl (fun ls hl => ?_)
        refine lv_lload hx hb dX6_inverse_50 (lv_at hl 3 rfl) ?_
        refine lv_lstore_n (lv' := [(1, .long (y - ((lN (qq / pp)) * x))), (3, .long x), (5, .int (nI (qq % pp))), (6, .int (nI pp)), (9, .long (y - ((lN (qq / pp)) * x))), (8, .int (nI (qq % pp))), (7, .int (nI (qq / pp))), (0, .int (nI av.val))]) hx hb dX6_inverse_52 rfl hl (by decide) rfl (fun ls hl => ?_)
        refine lv_goto (tgt := 11) hx hb dX6_inverse_53 (by decide) ?_
        exact ih11 (y - lN (qq / pp) * x) x (qq % pp) pp (heu.step h14) (by have := Nat.mod_lt qq hp0; omega) _ (lv_sub hl [2, 3, 1, 0, 7] rfl)
  exact LP11 (av.val + 1) (lN 1) (lN 0) av.val 65521 (EU.start ha) (Nat.lt_succ_self _) _ (lv_sub hl [1, 0, 2, 3, 4] rfl)

set_option maxRecDepth 20000 in
theorem wd_X6_put_0 : Cond.fieldLink RX6 58 "AffineHullsModel" "table" "[I" ∈ wsX6_put := by decide +kernel
set_option maxRecDepth 20000 in
theorem in_X6_put_X6 : ∀ w ∈ u_ws RX6 TX6 29, w ∈ wsX6_put := by decide +kernel
set_option maxRecDepth 20000 in
theorem wd_X6_put_2 : Cond.fieldLink RX6 84 "AffineHullsModel" "size" "I" ∈ wsX6_put := by decide +kernel
abbrev rm_X6_put : Room := { frames := 0, cells := 0, slots := 0, locals := 0 }
set_option maxHeartbeats 4000000 in
set_option maxRecDepth 100000 in
theorem c_X6_put {l : Launch} {G : cx_G} {L : List Nat} {ad : Nat → Nat} {g : Nat → va_E} (hD : cx_D L ad) {N V th ec en al pl nc sz : Nat} {an : Bool} {k : Nat} {x : FF} {tb : Nat → FF} (hN1 : 1 ≤ N) (hN : N ≤ 8) (hV1 : 1 ≤ V) (hV : V ≤ 4) (hq : ∀ j : Nat, lbM j = true → j ∈ L) (c_o : g 1000 = .inr (6, [.int (nI N), .int (nI V), .int (nI th), .ref (ad 1003), .int (nI ec), .ref (ad 1005), .ref (ad 1006), .ref (ad 1007), .ref (ad 1008), .ref (ad 1009), .int (nI en), .int (if an = true then 1 else 0), .ref (ad 1012), .ref (ad 1013), .ref (ad 1014), .int (nI al), .ref (ad 1016), .ref (ad 1017), .ref (ad 1018), .ref (ad 1019), .int (nI pl), .ref (ad 1021), .int (nI nc), .ref (ad 1023), .ref (ad 1024), .int (nI sz), .ref (ad 1026), .ref (ad 1027), .ref (ad 1028)])) (c_T : g 1026 = nA G 150 (vN tb)) (hk : 5 * sz + k < 150) : MV l yX6_put wsX6_put rm_X6_put G L ad g [.ref (ad 1000), .int (nI k), .int (nI x.val)] (fun u => (∀ j : Nat, j ≠ 1026 → u j = g j) ∧ u 1026 = nA G 150 (vN (nu tb (5 * sz + k) x))) := by
  refine cx_ofV (cc := cX6_put) (maxL := 3) (by decide +kernel) rfl (Nat.le_of_ble_eq_true rfl) ?_
  intro p e s m args below meth c Q hx hb hts hown hml hP hK hS hz hret ls hl
  have hown : s.vm.findClass RX6 = some m.cls := hown
  have hl : lv_has ls 3 [(0, .ref (ad 1000)), (1, .int (nI k)), (2, .int (nI x.val))] := hl
  have fr : ∀ j : Nat, j ≠ 1026 → g j = g j := fun _ _ => rfl
  refine lv_aload_n hx hb dX6_put_0 rfl (lv_at hl 0 rfl) ?_
  refine ax_get (k := 1000) (v := .ref (ad 1026)) hx hb hts in_X6_put_X6 hown hK hP (hq _ (by decide)) c_o rfl 26 (by decide) (hts _ wd_X6_put_0) (fun _ h9 => h9) rfl dX6_put_1 ?_
  refine lv_iconst (v := nI 5) hx hb dX6_put_4 (by decide) ?_
  refine lv_aload_n hx hb dX6_put_5 rfl (lv_at hl 0 rfl) ?_
  refine ax_get (k := 1000) (v := .int (nI sz)) hx hb hts in_X6_put_X6 hown hK hP (hq _ (by decide)) c_o rfl 25 (by decide) (hts _ wd_X6_put_2) (fun _ h9 => h9) rfl dX6_put_6 ?_
  refine ax_mul (a := 5) (b := sz) hx hb dX6_put_9 ?_
  refine lv_iload_n hx hb dX6_put_10 rfl (lv_at hl 1 rfl) ?_
  refine ax_add (a := 5 * sz) (b := k) hx hb dX6_put_11 ?_
  refine lv_iload_n hx hb dX6_put_12 rfl (lv_at hl 2 rfl) ?_
  refine ax_iast (k := 1026) (i := 5 * sz + k) (f' := (fun j => nI ((nu (vN tb) (5 * sz + k) x.val) j))) hx hb hK hP hD hS (hq _ (by decide)) c_T (by omega) (by omega) (up_n _ _ _) dX6_put_13 (fun H locs g1 eg1 hP hS => ?_)
  have c_o : g1 1000 = .inr (6, [.int (nI N), .int (nI V), .int (nI th), .ref (ad 1003), .int (nI ec), .ref (ad 1005), .ref (ad 1006), .ref (ad 1007), .ref (ad 1008), .ref (ad 1009), .int (nI en), .int (if an = true then 1 else 0), .ref (ad 1012), .ref (ad 1013), .ref (ad 1014), .int (nI al), .ref (ad 1016), .ref (ad 1017), .ref (ad 1018), .ref (ad 1019), .int (nI pl), .ref (ad 1021), .int (nI nc), .ref (ad 1023), .ref (ad 1024), .int (nI sz), .ref (ad 1026), .ref (ad 1027), .ref (ad 1028)]) := (cx_ne eg1 1000 (by omega)).trans c_o
  have c_T : g1 1026 = nA G 150 (nu (vN tb) (5 * sz + k) x.val) := cx_eq eg1
  have fr : ∀ j : Nat, j ≠ 1026 → g1 j = g j := fun j hj => (cx_ne eg1 j (by omega)).trans (fr j hj)
  have c_T : g1 1026 = nA G 150 (vN (nu tb (5 * sz + k) x)) := by rw [← vN_nu]; exact c_T
  exact hret g1 _ _ _ _ ⟨fr, c_T⟩ hP hS dX6_put_14

def swF (tb : Nat → FF) (a b : Nat) : Nat → FF := fun j => if j / 5 = a then tb (5 * b + j % 5) else if j / 5 = b then tb (5 * a + j % 5) else tb j
theorem sw_step {r tb : Nat → FF} {a b k : Nat} (hk : k < 5) (hr : ∀ j : Nat, r j = if j % 5 < k then swF tb a b j else tb j) : ∀ j : Nat, nu (nu r (5 * a + k) (r (5 * b + k))) (5 * b + k) (r (5 * a + k)) j = if j % 5 < k + 1 then swF tb a b j else tb j := by
  intro j
  have ea : r (5 * a + k) = tb (5 * a + k) := by rw [hr, if_neg (by omega)]
  have eb : r (5 * b + k) = tb (5 * b + k) := by rw [hr, if_neg (by omega)]
  by_cases h1 : j = 5 * b + k
  · subst h1
    rw [nu_s, if_pos (by omega), ea]
    unfold swF
    have e1 : (5 * b + k) / 5 = b := by omega
    have e2 : (5 * b + k) % 5 = k := by omega
    rw [e1, e2]
    by_cases q : b = a
    · rw [if_pos q, q]
    · rw [if_neg q, if_pos rfl]
  · rw [nu_n h1]
    by_cases h2 : j = 5 * a + k
    · subst h2
      rw [nu_s, if_pos (by omega), eb]
      unfold swF
      have e1 : (5 * a + k) / 5 = a := by omega
      have e2 : (5 * a + k) % 5 = k := by omega
      rw [if_pos e1, e2]
    · rw [nu_n h2, hr]
      by_cases h3 : j % 5 < k
      · rw [if_pos h3, if_pos (by omega)]
      · rw [if_neg h3]
        by_cases h4 : j % 5 < k + 1
        · rw [if_pos h4]
          unfold swF
          rw [if_neg (by omega), if_neg (by omega)]
        · rw [if_neg h4]
theorem sw_done {r tb : Nat → FF} {a b k : Nat} (hk : 5 ≤ k) (hr : ∀ j : Nat, r j = if j % 5 < k then swF tb a b j else tb j) : r = swF tb a b := by
  funext j
  rw [hr, if_pos (by omega)]
def mnF (tb : Nat → FF) (a b : Nat) (f : FF) : Nat → FF := fun j => if j / 5 = a then tb j - f * tb (5 * b + j % 5) else tb j
theorem mn_step {r tb : Nat → FF} {a b k : Nat} {f : FF} (hk : k < 5) (hab : a ≠ b) (hr : ∀ j : Nat, r j = if j % 5 < k then mnF tb a b f j else tb j) : ∀ j : Nat, nu r (5 * a + k) (r (5 * a + k) - f * r (5 * b + k)) j = if j % 5 < k + 1 then mnF tb a b f j else tb j := by
  intro j
  have ea : r (5 * a + k) = tb (5 * a + k) := by rw [hr, if_neg (by omega)]
  have eb : r (5 * b + k) = tb (5 * b + k) := by rw [hr, if_neg (by omega)]
  by_cases h2 : j = 5 * a + k
  · subst h2
    rw [nu_s, if_pos (by omega), ea, eb]
    unfold mnF
    have e1 : (5 * a + k) / 5 = a := by omega
    have e2 : (5 * a + k) % 5 = k := by omega
    rw [if_pos e1, e2]
  · rw [nu_n h2, hr]
    by_cases h3 : j % 5 < k
    · rw [if_pos h3, if_pos (by omega)]
    · rw [if_neg h3]
      by_cases h4 : j % 5 < k + 1
      · rw [if_pos h4]
        unfold mnF
        rw [if_neg (by omega)]
      · rw [if_neg h4]
theorem mn_done {r tb : Nat → FF} {a b k : Nat} {f : FF} (hk : 5 ≤ k) (hr : ∀ j : Nat, r j = if j % 5 < k then mnF tb a b f j else tb j) : r = mnF tb a b f := by
  funext j
  rw [hr, if_pos (by omega)]
theorem h0s {F tb : Nat → FF} : ∀ j : Nat, tb j = if j % 5 < 0 then F j else tb j := fun j => by rw [if_neg (Nat.not_lt_zero _)]

set_option maxRecDepth 20000 in
theorem wd_X6_exchange_0 : Cond.fieldLink RX6 58 "AffineHullsModel" "table" "[I" ∈ wsX6_exchange := by decide +kernel
set_option maxRecDepth 20000 in
theorem in_X6_exchange_X6 : ∀ w ∈ u_ws RX6 TX6 29, w ∈ wsX6_exchange := by decide +kernel
abbrev rm_X6_exchange : Room := { frames := 0, cells := 0, slots := 0, locals := 0 }
set_option maxHeartbeats 4000000 in
set_option maxRecDepth 100000 in
theorem c_X6_exchange {l : Launch} {G : cx_G} {L : List Nat} {ad : Nat → Nat} {g : Nat → va_E} (hD : cx_D L ad) {N V th ec en al pl nc sz : Nat} {an : Bool} {a b : Nat} {tb : Nat → FF} (hN1 : 1 ≤ N) (hN : N ≤ 8) (hV1 : 1 ≤ V) (hV : V ≤ 4) (hq : ∀ j : Nat, lbM j = true → j ∈ L) (c_o : g 1000 = .inr (6, [.int (nI N), .int (nI V), .int (nI th), .ref (ad 1003), .int (nI ec), .ref (ad 1005), .ref (ad 1006), .ref (ad 1007), .ref (ad 1008), .ref (ad 1009), .int (nI en), .int (if an = true then 1 else 0), .ref (ad 1012), .ref (ad 1013), .ref (ad 1014), .int (nI al), .ref (ad 1016), .ref (ad 1017), .ref (ad 1018), .ref (ad 1019), .int (nI pl), .ref (ad 1021), .int (nI nc), .ref (ad 1023), .ref (ad 1024), .int (nI sz), .ref (ad 1026), .ref (ad 1027), .ref (ad 1028)])) (c_T : g 1026 = nA G 150 (vN tb)) (ha : 5 * a + 5 ≤ 150) (hb3 : 5 * b + 5 ≤ 150) : MV l yX6_exchange wsX6_exchange rm_X6_exchange G L ad g [.ref (ad 1000), .int (nI a), .int (nI b)] (fun u => (∀ j : Nat, j ≠ 1026 → u j = g j) ∧ u 1026 = nA G 150 (vN (swF tb a b))) := by
  refine cx_ofV (cc := cX6_exchange) (maxL := 5) (by decide +kernel) rfl (Nat.le_of_ble_eq_true rfl) ?_
  intro p e s m args below meth c Q hx hb hts hown hml hP hK hS hz hret ls hl
  have hown : s.vm.findClass RX6 = some m.cls := hown
  have hl : lv_has ls 5 [(0, .ref (ad 1000)), (1, .int (nI a)), (2, .int (nI b))] := hl
  have fr : ∀ j : Nat, j ≠ 1026 → g j = g j := fun _ _ => rfl
  refine lv_iconst (v := nI 0) hx hb dX6_exchange_0 (by decide) ?_
  refine lv_istore_n (lv' := [(3, .int (nI 0)), (0, .ref (ad 1000)), (1, .int (nI a)), (2, .int (nI b))]) hx hb dX6_exchange_1 rfl hl (by decide) rfl (fun ls hl => ?_)
  have LP2 : ∀ (fu : Nat) (k : Nat) (r : Nat → FF), (k ≤ 5) → (∀ j : Nat, r j = if j % 5 < k then swF tb a b j else tb j) → (5 - k) < fu → ∀ (ga1 : Nat → va_E) (H : Heap) (locs : List Loc) (ls : Array Slot), (ga1 1000 = .inr (6, [.int (nI N), .int (nI V), .int (nI th), .ref (ad 1003), .int (nI ec), .ref (ad 1005), .ref (ad 1006), .ref (ad 1007), .ref (ad 1008), .ref (ad 1009), .int (nI en), .int (if an = true then 1 else 0), .ref (ad 1012), .ref (ad 1013), .ref (ad 1014), .int (nI al), .ref (ad 1016), .ref (ad 1017), .ref (ad 1018), .ref (ad 1019), .int (nI pl), .ref (ad 1021), .int (nI nc), .ref (ad 1023), .ref (ad 1024), .int (nI sz), .ref (ad 1026), .ref (ad 1027), .ref (ad 1028)])) → (ga1 1026 = nA G 150 (vN r)) → (∀ j : Nat, j ≠ 1026 → ga1 j = g j) → va_P G.1 vwCl (wl L ad ga1) H → va_S (cx_A L ad s.heap.size) s.heap H locs → lv_has ls 5 [(3, .int (nI k)), (0, .ref (ad 1000)), (1, .int (nI a)), (2, .int (nI b))] → W p l e rm_X6_exchange s m args below meth c H locs 0 0 Q (F0 m 2 ls []) := by
    intro fu
    induction fu with
    | zero => intro k r hkn hr hfu; exact absurd hfu (Nat.not_lt_zero _)
    | succ fu ih2 =>
      intro k r hkn hr hfu2 ga1 H locs ls c_o c_T fr hP hS hl
      refine lv_iload_n hx hb dX6_exchange_2 rfl (lv_at hl 0 rfl) ?_
      refine lv_iconst (v := nI 5) hx hb dX6_exchange_3 (by decide) ?_
      refine ax_icge (a := k) (b := 5) (tgt := 57) hx hb dX6_exchange_4 (by decide) (by omega) (by omega) (fun h4 => ?_) (fun h4 => ?_)
      · skip
        exact hret ga1 _ _ _ _ ⟨fr, by rw [c_T, sw_done h4 hr]⟩ hP hS dX6_exchange_57
      · skip
        refine lv_aload_n hx hb dX6_exchange_7 rfl (lv_at hl 1 rfl) ?_
        refine ax_get (k := 1000) (v := .ref (ad 1026)) hx hb hts in_X6_exchange_X6 hown hK hP (hq _ (by decide)) c_o rfl 26 (by decide) (hts _ wd_X6_exchange_0) (fun _ h9 => h9) rfl dX6_exchange_8 ?_
        refine lv_iconst (v := nI 5) hx hb dX6_exchange_11 (by decide) ?_
        refine lv_iload_n hx hb dX6_exchange_12 rfl (lv_at hl 2 rfl) ?_
        refine ax_mul (a := 5) (b := a) hx hb dX6_exchange_13 ?_
        refine lv_iload_n hx hb dX6_exchange_14 rfl (lv_at hl 0 rfl) ?_
        refine ax_add (a := 5 * a) (b := k) hx hb dX6_exchange_15 ?_
        refine ax_iald (k := 1026) (i := 5 * a + k) (v := nI ((vN r) (5 * a + k))) hx hb hK hP (hq _ (by decide)) c_T (by omega) (by omega) rfl dX6_exchange_16 ?_
        refine lv_istore (lv' := [(4, .int (nI ((vN r) (5 * a + k)))), (3, .int (nI k)), (0, .ref (ad 1000)), (1, .int (nI a)), (2, .int (nI b))]) hx hb dX6_exchange_17 hl (by decide) rfl (fun ls hl => ?_)
        refine lv_aload_n hx hb dX6_exchange_19 rfl (lv_at hl 2 rfl) ?_
        refine ax_get (k := 1000) (v := .ref (ad 1026)) hx hb hts in_X6_exchange_X6 hown hK hP (hq _ (by decide)) c_o rfl 26 (by decide) (hts _ wd_X6_exchange_0) (fun _ h9 => h9) rfl dX6_exchange_20 ?_
        refine lv_iconst (v := nI 5) hx hb dX6_exchange_23 (by decide) ?_
        refine lv_iload_n hx hb dX6_exchange_24 rfl (lv_at hl 3 rfl) ?_
        refine ax_mul (a := 5) (b := a) hx hb dX6_exchange_25 ?_
        refine lv_iload_n hx hb dX6_exchange_26 rfl (lv_at hl 1 rfl) ?_
        refine ax_add (a := 5 * a) (b := k) hx hb dX6_exchange_27 ?_
        refine lv_aload_n hx hb dX6_exchange_28 rfl (lv_at hl 2 rfl) ?_
        refine ax_get (k := 1000) (v := .ref (ad 1026)) hx hb hts in_X6_exchange_X6 hown hK hP (hq _ (by decide)) c_o rfl 26 (by decide) (hts _ wd_X6_exchange_0) (fun _ h9 => h9) rfl dX6_exchange_29 ?_
        refine lv_iconst (v := nI 5) hx hb dX6_exchange_32 (by decide) ?_
        refine lv_iload_n hx hb dX6_exchange_33 rfl (lv_at hl 4 rfl) ?_
        refine ax_mul (a := 5) (b := b) hx hb dX6_exchange_34 ?_
        refine lv_iload_n hx hb dX6_exchange_35 rfl (lv_at hl 1 rfl) ?_
        refine ax_add (a := 5 * b) (b := k) hx hb dX6_exchange_36 ?_
        refine ax_iald (k := 1026) (i := 5 * b + k) (v := nI ((vN r) (5 * b + k))) hx hb hK hP (hq _ (by decide)) c_T (by omega) (by omega) rfl dX6_exchange_37 ?_
        refine ax_iast (k := 1026) (i := 5 * a + k) (f' := (fun j => nI ((nu (vN r) (5 * a + k) ((vN r) (5 * b + k))) j))) hx hb hK hP hD hS (hq _ (by decide)) c_T (by omega) (by omega) (up_n _ _ _) dX6_exchange_38 (fun H locs g2 eg2 hP hS => ?_)
        have c_o : g2 1000 = .inr (6, [.int (nI N), .int (nI V), .int (nI th), .ref (ad 1003), .int (nI ec), .ref (ad 1005), .ref (ad 1006), .ref (ad 1007), .ref (ad 1008), .ref (ad 1009), .int (nI en), .int (if an = true then 1 else 0), .ref (ad 1012), .ref (ad 1013), .ref (ad 1014), .int (nI al), .ref (ad 1016), .ref (ad 1017), .ref (ad 1018), .ref (ad 1019), .int (nI pl), .ref (ad 1021), .int (nI nc), .ref (ad 1023), .ref (ad 1024), .int (nI sz), .ref (ad 1026), .ref (ad 1027), .ref (ad 1028)]) := (cx_ne eg2 1000 (by omega)).trans c_o
        have c_T : g2 1026 = nA G 150 (nu (vN r) (5 * a + k) ((vN r) (5 * b + k))) := cx_eq eg2
        have fr : ∀ j : Nat, j ≠ 1026 → g2 j = g j := fun j hj => (cx_ne eg2 j (by omega)).trans (fr j hj)
        refine lv_aload_n hx hb dX6_exchange_39 rfl (lv_at hl 2 rfl) ?_
        refine ax_get (k := 1000) (v := .ref (ad 1026)) hx hb hts in_X6_exchange_X6 hown hK hP (hq _ (by decide)) c_o rfl 26 (by decide) (hts _ wd_X6_exchange_0) (fun _ h9 => h9) rfl dX6_exchange_40 ?_
        refine lv_iconst (v := nI 5) hx hb dX6_exchange_43 (by decide) ?_
        refine lv_iload_n hx hb dX6_exchange_44 rfl (lv_at hl 4 rfl) ?_
        refine ax_mul (a := 5) (b := b) hx hb dX6_exchange_45 ?_
        refine lv_iload_n hx hb dX6_exchange_46 rfl (lv_at hl 1 rfl) ?_
        refine ax_add (a := 5 * b) (b := k) hx hb dX6_exchange_47 ?_
        refine lv_iload hx hb dX6_exchange_48 (lv_at hl 0 rfl) ?_
        refine ax_iast (k := 1026) (i := 5 * b + k) (f' := (fun j => nI ((nu (nu (vN r) (5 * a + k) ((vN r) (5 * b + k))) (5 * b + k) ((vN r) (5 * a + k))) j))) hx hb hK hP hD hS (hq _ (by decide)) c_T (by omega) (by omega) (up_n _ _ _) dX6_exchange_50 (fun H locs g3 eg3 hP hS => ?_)
        have c_o : g3 1000 = .inr (6, [.int (nI N), .int (nI V), .int (nI th), .ref (ad 1003), .int (nI ec), .ref (ad 1005), .ref (ad 1006), .ref (ad 1007), .ref (ad 1008), .ref (ad 1009), .int (nI en), .int (if an = true then 1 else 0), .ref (ad 1012), .ref (ad 1013), .ref (ad 1014), .int (nI al), .ref (ad 1016), .ref (ad 1017), .ref (ad 1018), .ref (ad 1019), .int (nI pl), .ref (ad 1021), .int (nI nc), .ref (ad 1023), .ref (ad 1024), .int (nI sz), .ref (ad 1026), .ref (ad 1027), .ref (ad 1028)]) := (cx_ne eg3 1000 (by omega)).trans c_o
        have c_T : g3 1026 = nA G 150 (nu (nu (vN r) (5 * a + k) ((vN r) (5 * b + k))) (5 * b + k) ((vN r) (5 * a + k))) := cx_eq eg3
        have fr : ∀ j : Nat, j ≠ 1026 → g3 j = g j := fun j hj => (cx_ne eg3 j (by omega)).trans (fr j hj)
        have c_T : g3 1026 = nA G 150 (vN (nu (nu r (5 * a + k) (r (5 * b + k))) (5 * b + k) (r (5 * a + k)))) := by rw [← vN_nu]; rw [← vN_nu]; exact c_T
        refine lv_iinc (v := nI (k + 1)) (lv' := [(3, .int (nI (k + 1))), (4, .int (nI ((vN r) (5 * a + k)))), (0, .ref (ad 1000)), (1, .int (nI a)), (2, .int (nI b))]) hx hb dX6_exchange_51 hl (k := 1) rfl (nI_1 _) (by decide) rfl (fun ls hl => ?_)
        refine lv_goto (tgt := 2) hx hb dX6_exchange_54 (by decide) ?_
        exact ih2 (k + 1) (nu (nu r (5 * a + k) (r (5 * b + k))) (5 * b + k) (r (5 * a + k))) h4 (sw_step h4 hr) (by omega) g3 _ _ _ c_o c_T  fr hP hS (lv_sub hl [0, 2, 3, 4] rfl)
  exact LP2 ((5 - 0) + 1) 0 tb (Nat.zero_le _) h0s (Nat.lt_succ_self _) g _ _ _ c_o c_T  fr hP hS (lv_sub hl [0, 1, 2, 3] rfl)

set_option maxRecDepth 20000 in
theorem wd_X6_minus_0 : Cond.fieldLink RX6 58 "AffineHullsModel" "table" "[I" ∈ wsX6_minus := by decide +kernel
set_option maxRecDepth 20000 in
theorem in_X6_minus_X6 : ∀ w ∈ u_ws RX6 TX6 29, w ∈ wsX6_minus := by decide +kernel
abbrev rm_X6_minus : Room := { frames := 1, cells := 0, slots := 0, locals := 23 }
set_option maxHeartbeats 4000000 in
set_option maxRecDepth 100000 in
theorem c_X6_minus {l : Launch} {G : cx_G} {L : List Nat} {ad : Nat → Nat} {g : Nat → va_E} (hD : cx_D L ad) {N V th ec en al pl nc sz : Nat} {an : Bool} {a b : Nat} {f : FF} {tb : Nat → FF} (hN1 : 1 ≤ N) (hN : N ≤ 8) (hV1 : 1 ≤ V) (hV : V ≤ 4) (hq : ∀ j : Nat, lbM j = true → j ∈ L) (c_o : g 1000 = .inr (6, [.int (nI N), .int (nI V), .int (nI th), .ref (ad 1003), .int (nI ec), .ref (ad 1005), .ref (ad 1006), .ref (ad 1007), .ref (ad 1008), .ref (ad 1009), .int (nI en), .int (if an = true then 1 else 0), .ref (ad 1012), .ref (ad 1013), .ref (ad 1014), .int (nI al), .ref (ad 1016), .ref (ad 1017), .ref (ad 1018), .ref (ad 1019), .int (nI pl), .ref (ad 1021), .int (nI nc), .ref (ad 1023), .ref (ad 1024), .int (nI sz), .ref (ad 1026), .ref (ad 1027), .ref (ad 1028)])) (c_T : g 1026 = nA G 150 (vN tb)) (ha : 5 * a + 5 ≤ 150) (hb3 : 5 * b + 5 ≤ 150) (hab : a ≠ b) : MV l yX6_minus wsX6_minus rm_X6_minus G L ad g [.ref (ad 1000), .int (nI a), .int (nI b), .int (nI f.val)] (fun u => (∀ j : Nat, j ≠ 1026 → u j = g j) ∧ u 1026 = nA G 150 (vN (mnF tb a b f))) := by
  refine cx_ofV (cc := cX6_minus) (maxL := 5) (by decide +kernel) rfl (Nat.le_of_ble_eq_true rfl) ?_
  intro p e s m args below meth c Q hx hb hts hown hml hP hK hS hz hret ls hl
  have hown : s.vm.findClass RX6 = some m.cls := hown
  have hl : lv_has ls 5 [(0, .ref (ad 1000)), (1, .int (nI a)), (2, .int (nI b)), (3, .int (nI f.val))] := hl
  have fr : ∀ j : Nat, j ≠ 1026 → g j = g j := fun _ _ => rfl
  refine lv_iconst (v := nI 0) hx hb dX6_minus_0 (by decide) ?_
  refine lv_istore (lv' := [(4, .int (nI 0)), (0, .ref (ad 1000)), (1, .int (nI a)), (2, .int (nI b)), (3, .int (nI f.val))]) hx hb dX6_minus_1 hl (by decide) rfl (fun ls hl => ?_)
  have LP3 : ∀ (fu : Nat) (k : Nat) (r : Nat → FF), (k ≤ 5) → (∀ j : Nat, r j = if j % 5 < k then mnF tb a b f j else tb j) → (5 - k) < fu → ∀ (ga1 : Nat → va_E) (H : Heap) (locs : List Loc) (ls : Array Slot), (ga1 1000 = .inr (6, [.int (nI N), .int (nI V), .int (nI th), .ref (ad 1003), .int (nI ec), .ref (ad 1005), .ref (ad 1006), .ref (ad 1007), .ref (ad 1008), .ref (ad 1009), .int (nI en), .int (if an = true then 1 else 0), .ref (ad 1012), .ref (ad 1013), .ref (ad 1014), .int (nI al), .ref (ad 1016), .ref (ad 1017), .ref (ad 1018), .ref (ad 1019), .int (nI pl), .ref (ad 1021), .int (nI nc), .ref (ad 1023), .ref (ad 1024), .int (nI sz), .ref (ad 1026), .ref (ad 1027), .ref (ad 1028)])) → (ga1 1026 = nA G 150 (vN r)) → (∀ j : Nat, j ≠ 1026 → ga1 j = g j) → va_P G.1 vwCl (wl L ad ga1) H → va_S (cx_A L ad s.heap.size) s.heap H locs → lv_has ls 5 [(4, .int (nI k)), (0, .ref (ad 1000)), (1, .int (nI a)), (2, .int (nI b)), (3, .int (nI f.val))] → W p l e rm_X6_minus s m args below meth c H locs 0 0 Q (F0 m 3 ls []) := by
    intro fu
    induction fu with
    | zero => intro k r hkn hr hfu; exact absurd hfu (Nat.not_lt_zero _)
    | succ fu ih3 =>
      intro k r hkn hr hfu3 ga1 H locs ls c_o c_T fr hP hS hl
      refine lv_iload hx hb dX6_minus_3 (lv_at hl 0 rfl) ?_
      refine lv_iconst (v := nI 5) hx hb dX6_minus_5 (by decide) ?_
      refine ax_icge (a := k) (b := 5) (tgt := 57) hx hb dX6_minus_6 (by decide) (by omega) (by omega) (fun h6 => ?_) (fun h6 => ?_)
      · skip
        exact hret ga1 _ _ _ _ ⟨fr, by rw [c_T, mn_done h6 hr]⟩ hP hS dX6_minus_57
      · skip
        have b1 := vN_lt r (5 * a + k)
        have b2 := vN_lt r (5 * b + k)
        have bf := f.isLt
        have b3 : f.val * vN r (5 * b + k) ≤ 65521 * 65521 := mul_le3 (Nat.le_of_lt bf) (Nat.le_of_lt b2)
        refine lv_aload_n hx hb dX6_minus_9 rfl (lv_at hl 1 rfl) ?_
        refine ax_get (k := 1000) (v := .ref (ad 1026)) hx hb hts in_X6_minus_X6 hown hK hP (hq _ (by decide)) c_o rfl 26 (by decide) (hts _ wd_X6_minus_0) (fun _ h9 => h9) rfl dX6_minus_10 ?_
        refine lv_iconst (v := nI 5) hx hb dX6_minus_13 (by decide) ?_
        refine lv_iload_n hx hb dX6_minus_14 rfl (lv_at hl 2 rfl) ?_
        refine ax_mul (a := 5) (b := a) hx hb dX6_minus_15 ?_
        refine lv_iload hx hb dX6_minus_16 (lv_at hl 0 rfl) ?_
        refine ax_add (a := 5 * a) (b := k) hx hb dX6_minus_18 ?_
        refine lv_aload_n hx hb dX6_minus_19 rfl (lv_at hl 1 rfl) ?_
        refine ax_get (k := 1000) (v := .ref (ad 1026)) hx hb hts in_X6_minus_X6 hown hK hP (hq _ (by decide)) c_o rfl 26 (by decide) (hts _ wd_X6_minus_0) (fun _ h9 => h9) rfl dX6_minus_20 ?_
        refine lv_iconst (v := nI 5) hx hb dX6_minus_23 (by decide) ?_
        refine lv_iload_n hx hb dX6_minus_24 rfl (lv_at hl 2 rfl) ?_
        refine ax_mul (a := 5) (b := a) hx hb dX6_minus_25 ?_
        refine lv_iload hx hb dX6_minus_26 (lv_at hl 0 rfl) ?_
        refine ax_add (a := 5 * a) (b := k) hx hb dX6_minus_28 ?_
        refine ax_iald (k := 1026) (i := 5 * a + k) (v := nI ((vN r) (5 * a + k))) hx hb hK hP (hq _ (by decide)) c_T (by omega) (by omega) rfl dX6_minus_29 ?_
        refine ax_i2l (a := (vN r) (5 * a + k)) hx hb dX6_minus_30 (by omega) ?_
        refine lv_iload_n hx hb dX6_minus_31 rfl (lv_at hl 4 rfl) ?_
        refine ax_i2l (a := f.val) hx hb dX6_minus_32 (by omega) ?_
        refine lv_aload_n hx hb dX6_minus_33 rfl (lv_at hl 1 rfl) ?_
        refine ax_get (k := 1000) (v := .ref (ad 1026)) hx hb hts in_X6_minus_X6 hown hK hP (hq _ (by decide)) c_o rfl 26 (by decide) (hts _ wd_X6_minus_0) (fun _ h9 => h9) rfl dX6_minus_34 ?_
        refine lv_iconst (v := nI 5) hx hb dX6_minus_37 (by decide) ?_
        refine lv_iload_n hx hb dX6_minus_38 rfl (lv_at hl 3 rfl) ?_
        refine ax_mul (a := 5) (b := b) hx hb dX6_minus_39 ?_
        refine lv_iload hx hb dX6_minus_40 (lv_at hl 0 rfl) ?_
        refine ax_add (a := 5 * b) (b := k) hx hb dX6_minus_42 ?_
        refine ax_iald (k := 1026) (i := 5 * b + k) (v := nI ((vN r) (5 * b + k))) hx hb hK hP (hq _ (by decide)) c_T (by omega) (by omega) rfl dX6_minus_43 ?_
        refine ax_i2l (a := (vN r) (5 * b + k)) hx hb dX6_minus_44 (by omega) ?_
        refine ax_lmul (a := f.val) (b := (vN r) (5 * b + k)) hx hb dX6_minus_45 ?_
        refine lv_lsub hx hb dX6_minus_46 ?_
        refine cx_Si (As := [.long ((lN ((vN r) (5 * a + k))) - (lN (f.val * ((vN r) (5 * b + k)))))]) (rest := [.int (nI (5 * a + k)), .ref (ad 1026)]) ⟨hx, hb, hml, hown, hts⟩ (c_X6_mod hD (x := (lN ((vN r) (5 * a + k))) - (lN (f.val * ((vN r) (5 * b + k)))))) (va_cwS 1 hts gX6_minus_X6_mod rfl rfl rfl (by decide +kernel) ⟨Nat.le_of_ble_eq_true rfl, Nat.le_of_ble_eq_true rfl⟩) hK hP hS hz ⟨Nat.zero_le _, Nat.zero_le _⟩ rfl hl.1 rfl (Nat.le_of_ble_eq_true rfl) dX6_minus_47 (fun r2 g2 H locs hp2 hP hS => ?_)
        obtain ⟨er2, ehp2g⟩ := hp2
        rw [ehp2g] at hP
        rw [er2]
        rw [show fi ((lN ((vN r) (5 * a + k))) - (lN (f.val * ((vN r) (5 * b + k))))).toInt = r (5 * a + k) - f * r (5 * b + k) from by rw [ln_sub (by omega) (by omega), ff_mul, ff_of]; unfold vN; rw [ff_of, ff_of]]
        refine ax_iast (k := 1026) (i := 5 * a + k) (f' := (fun j => nI ((nu (vN r) (5 * a + k) ((r (5 * a + k) - f * r (5 * b + k)).val)) j))) hx hb hK hP hD hS (hq _ (by decide)) c_T (by omega) (by omega) (up_n _ _ _) dX6_minus_50 (fun H locs g3 eg3 hP hS => ?_)
        have c_o : g3 1000 = .inr (6, [.int (nI N), .int (nI V), .int (nI th), .ref (ad 1003), .int (nI ec), .ref (ad 1005), .ref (ad 1006), .ref (ad 1007), .ref (ad 1008), .ref (ad 1009), .int (nI en), .int (if an = true then 1 else 0), .ref (ad 1012), .ref (ad 1013), .ref (ad 1014), .int (nI al), .ref (ad 1016), .ref (ad 1017), .ref (ad 1018), .ref (ad 1019), .int (nI pl), .ref (ad 1021), .int (nI nc), .ref (ad 1023), .ref (ad 1024), .int (nI sz), .ref (ad 1026), .ref (ad 1027), .ref (ad 1028)]) := (cx_ne eg3 1000 (by omega)).trans c_o
        have c_T : g3 1026 = nA G 150 (nu (vN r) (5 * a + k) ((r (5 * a + k) - f * r (5 * b + k)).val)) := cx_eq eg3
        have fr : ∀ j : Nat, j ≠ 1026 → g3 j = g j := fun j hj => (cx_ne eg3 j (by omega)).trans (fr j hj)
        have c_T : g3 1026 = nA G 150 (vN (nu r (5 * a + k) (r (5 * a + k) - f * r (5 * b + k)))) := by rw [← vN_nu]; exact c_T
        refine lv_iinc (v := nI (k + 1)) (lv' := [(4, .int (nI (k + 1))), (0, .ref (ad 1000)), (1, .int (nI a)), (2, .int (nI b)), (3, .int (nI f.val))]) hx hb dX6_minus_51 hl (k := 0) rfl (nI_1 _) (by decide) rfl (fun ls hl => ?_)
        refine lv_goto (tgt := 3) hx hb dX6_minus_54 (by decide) ?_
        exact ih3 (k + 1) (nu r (5 * a + k) (r (5 * a + k) - f * r (5 * b + k))) h6 (mn_step h6 hab hr) (by omega) g3 _ _ _ c_o c_T  fr hP hS (lv_sub hl [0, 1, 2, 3, 4] rfl)
  exact LP3 ((5 - 0) + 1) 0 tb (Nat.zero_le _) h0s (Nat.lt_succ_self _) g _ _ _ c_o c_T  fr hP hS (lv_sub hl [0, 1, 2, 3, 4] rfl)

theorem mt_t {p0 : Prop} (h : p0) : tr (nI 1) p0 := Or.inl ⟨rfl, h⟩
theorem mt_f {p0 : Prop} (h : ¬ p0) : tr (nI 0) p0 := Or.inr ⟨rfl, h⟩

set_option maxRecDepth 20000 in
theorem wd_X6_isNode_0 : Cond.fieldLink RX6 67 "AffineHullsModel" "n" "I" ∈ wsX6_isNode := by decide +kernel
set_option maxRecDepth 20000 in
theorem in_X6_isNode_X6 : ∀ w ∈ u_ws RX6 TX6 29, w ∈ wsX6_isNode := by decide +kernel
abbrev rm_X6_isNode : Room := { frames := 0, cells := 0, slots := 0, locals := 0 }
set_option maxHeartbeats 4000000 in
set_option maxRecDepth 100000 in
theorem c_X6_isNode {l : Launch} {G : cx_G} {L : List Nat} {ad : Nat → Nat} {g : Nat → va_E} (hD : cx_D L ad) {N V th ec en al pl nc sz : Nat} {an : Bool} {x1 : Int32} (hN1 : 1 ≤ N) (hN : N ≤ 8) (hV1 : 1 ≤ V) (hV : V ≤ 4) (hq : ∀ j : Nat, lbM j = true → j ∈ L) (c_o : g 1000 = .inr (6, [.int (nI N), .int (nI V), .int (nI th), .ref (ad 1003), .int (nI ec), .ref (ad 1005), .ref (ad 1006), .ref (ad 1007), .ref (ad 1008), .ref (ad 1009), .int (nI en), .int (if an = true then 1 else 0), .ref (ad 1012), .ref (ad 1013), .ref (ad 1014), .int (nI al), .ref (ad 1016), .ref (ad 1017), .ref (ad 1018), .ref (ad 1019), .int (nI pl), .ref (ad 1021), .int (nI nc), .ref (ad 1023), .ref (ad 1024), .int (nI sz), .ref (ad 1026), .ref (ad 1027), .ref (ad 1028)])) : MI l yX6_isNode wsX6_isNode rm_X6_isNode G L ad g [.ref (ad 1000), .int x1] (fun r u => tr r (inB 0 N x1) ∧ u = g) := by
  refine cx_ofI (cc := cX6_isNode) (maxL := 2) (by decide +kernel) rfl (Nat.le_of_ble_eq_true rfl) ?_
  intro p e s m args below meth c Q hx hb hts hown hml hP hK hS hz hret ls hl
  have hown : s.vm.findClass RX6 = some m.cls := hown
  have hl : lv_has ls 2 [(0, .ref (ad 1000)), (1, .int x1)] := hl
  refine lv_iload_n hx hb dX6_isNode_0 rfl (lv_at hl 1 rfl) ?_
  refine lv_if_lt (x := x1) (tgt := 16) hx hb dX6_isNode_1 (by decide) (fun h1 => ?_) (fun h1 => ?_)
  · skip
    refine lv_iconst (v := nI 0) hx hb dX6_isNode_16 (by decide) ?_
    exact hret (nI 0) g _ _ _ _ (by decide) ⟨mt_f (nb_0 (by omega) h1), rfl⟩ hP hS dX6_isNode_17
  · skip
    refine lv_iload_n hx hb dX6_isNode_4 rfl (lv_at hl 1 rfl) ?_
    refine lv_aload_n hx hb dX6_isNode_5 rfl (lv_at hl 0 rfl) ?_
    refine ax_get (k := 1000) (v := .int (nI N)) hx hb hts in_X6_isNode_X6 hown hK hP (hq _ (by decide)) c_o rfl 0 (by decide) (hts _ wd_X6_isNode_0) (fun _ h9 => h9) rfl dX6_isNode_6 ?_
    refine lv_icmp_ge (x := x1) (y := nI N) (tgt := 16) hx hb dX6_isNode_9 (by decide) (fun h9 => ?_) (fun h9 => ?_)
    · skip
      refine lv_iconst (v := nI 0) hx hb dX6_isNode_16 (by decide) ?_
      exact hret (nI 0) g _ _ _ _ (by decide) ⟨mt_f (fun z => nb_n (by omega) (fun q => absurd h9 (Int32.not_le.mpr q)) z), rfl⟩ hP hS dX6_isNode_17
    · skip
      refine lv_iconst (v := nI 1) hx hb dX6_isNode_12 (by decide) ?_
      refine lv_goto (tgt := 17) hx hb dX6_isNode_13 (by decide) ?_
      exact hret (nI 1) g _ _ _ _ (by decide) ⟨mt_t (yb_n (by omega) h1 (Int32.not_le.mp h9)), rfl⟩ hP hS dX6_isNode_17
