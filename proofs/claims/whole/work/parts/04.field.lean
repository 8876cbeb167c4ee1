/-! numbers modulo 65521 -/
abbrev FF : Type := Fin 65521
def ff (n : Nat) : FF := Fin.ofNat 65521 n
def fi (z : Int) : FF := Fin.ofNat 65521 (z.emod 65521).toNat
def vN (v : Nat → FF) : Nat → Nat := fun j => (v j).val
theorem ff_val (n : Nat) : (ff n).val = n % 65521 := rfl
theorem ff_of (a : FF) : ff a.val = a := Fin.ext (Nat.mod_eq_of_lt a.isLt)
theorem vN_lt (v : Nat → FF) (j : Nat) : vN v j < 65521 := (v j).isLt
theorem vN_nu (v : Nat → FF) (k : Nat) (x : FF) : nu (vN v) k x.val = vN (nu v k x) := by
  funext j
  by_cases h : j = k <;> simp [nu, vN, h]
theorem ff_lin (a b : FF) (f : Nat) : (a.val + f * b.val) % 65521 = (a + ff f * b).val := by
  rw [Fin.val_add, Fin.val_mul, ff_val]
  rw [Nat.add_mod, Nat.mul_mod f b.val]
  simp [Nat.mod_mod, Nat.add_mod]
theorem ff_add (a b : Nat) : ff (a + b) = ff a + ff b := Fin.ext (by rw [Fin.val_add, ff_val, ff_val, ff_val, Nat.add_mod])
theorem ff_mul (a b : Nat) : ff (a * b) = ff a * ff b := Fin.ext (by rw [Fin.val_mul, ff_val, ff_val, ff_val, Nat.mul_mod])
theorem mul_le3 {a b x y : Nat} (h : a ≤ x) (h2 : b ≤ y) : a * b ≤ x * y := Nat.mul_le_mul h h2
/-- what the class's small methods do to rows: n places, others stay -/
def am (n : Nat) (v : Nat → FF) (c : FF) (w : Nat → FF) : Nat → FF := fun j => if j < n then v j + c * w j else v j
def cpv (n : Nat) (v w : Nat → FF) : Nat → FF := fun j => if j < n then v j else w j
def fl0 (n : Nat) (v : Nat → FF) : Nat → FF := fun j => if j < n then 0 else v j
def dot (v w : Nat → FF) : Nat → FF
  | 0 => 0
  | k + 1 => dot v w k + v k * w k
def dotN (v w : Nat → FF) : Nat → Nat
  | 0 => 0
  | k + 1 => dotN v w k + (v k).val * (w k).val
theorem dotN_le (v w : Nat → FF) : ∀ k : Nat, dotN v w k ≤ k * 4293001441
  | 0 => Nat.le_refl _
  | k + 1 => by
    have h := dotN_le v w k
    have h2 : (v k).val * (w k).val ≤ 65521 * 65521 := mul_le3 (Nat.le_of_lt (v k).isLt) (Nat.le_of_lt (w k).isLt)
    show dotN v w k + (v k).val * (w k).val ≤ (k + 1) * 4293001441
    omega
theorem dotN_ff (v w : Nat → FF) : ∀ k : Nat, ff (dotN v w k) = dot v w k
  | 0 => rfl
  | k + 1 => by
    show ff (dotN v w k + (v k).val * (w k).val) = dot v w k + v k * w k
    rw [ff_add, ff_mul, ff_of, ff_of, dotN_ff v w k]
theorem dotN_mod (v w : Nat → FF) (k : Nat) : dotN v w k % 65521 = (dot v w k).val := by rw [← dotN_ff, ff_val]
/-- Int32 and Int64 by their integers -/
theorem i32_rng (x : Int32) : -2147483648 ≤ x.toInt ∧ x.toInt < 2147483648 := by
  have h1 := Int32.le_toInt x
  have h2 := Int32.toInt_lt x
  omega
theorem fi_nat (n : Nat) : fi (n : Int) = ff n := by
  apply Fin.ext
  show (((n : Int) % 65521).toNat) % 65521 = n % 65521
  omega
theorem fi_add (a b : Int) : fi (a + b) = fi a + fi b := by
  unfold fi
  apply Fin.ext
  rw [Fin.val_add]
  simp only [Fin.val_ofNat]
  have h : (((a + b).emod 65521).toNat : Int) = (((a.emod 65521).toNat + (b.emod 65521).toNat : Nat) : Int) % 65521 := by
    have h1 : (0 : Int) ≤ a.emod 65521 := Int.emod_nonneg _ (by decide)
    have h2 : (0 : Int) ≤ b.emod 65521 := Int.emod_nonneg _ (by decide)
    have h3 : (0 : Int) ≤ (a + b).emod 65521 := Int.emod_nonneg _ (by decide)
    rw [Int.toNat_of_nonneg h3]
    push_cast
    rw [Int.toNat_of_nonneg h1, Int.toNat_of_nonneg h2]
    exact Int.add_emod a b 65521
  omega
theorem fi_mul (a b : Int) : fi (a * b) = fi a * fi b := by
  unfold fi
  apply Fin.ext
  rw [Fin.val_mul]
  simp only [Fin.val_ofNat]
  have h : (((a * b).emod 65521).toNat : Int) = (((a.emod 65521).toNat * (b.emod 65521).toNat : Nat) : Int) % 65521 := by
    have h1 : (0 : Int) ≤ a.emod 65521 := Int.emod_nonneg _ (by decide)
    have h2 : (0 : Int) ≤ b.emod 65521 := Int.emod_nonneg _ (by decide)
    have h3 : (0 : Int) ≤ (a * b).emod 65521 := Int.emod_nonneg _ (by decide)
    rw [Int.toNat_of_nonneg h3]
    push_cast
    rw [Int.toNat_of_nonneg h1, Int.toNat_of_nonneg h2]
    exact Int.mul_emod a b 65521
  have h5 : ((a.emod 65521).toNat % 65521) * ((b.emod 65521).toNat % 65521) % 65521 = ((a.emod 65521).toNat * (b.emod 65521).toNat) % 65521 := (Nat.mul_mod _ _ _).symm
  rw [h5]
  omega
theorem fi_neg (a : Int) : fi (-a) = - fi a := by
  have h : fi (a + -a) = 0 := by rw [Int.add_right_neg]; rfl
  rw [fi_add] at h
  grind
theorem fi_sub (a b : Int) : fi (a - b) = fi a - fi b := by
  rw [Int.sub_eq_add_neg, fi_add, fi_neg]
  grind
theorem fi_ff (a : FF) : fi (a.val : Int) = a := by rw [fi_nat, ff_of]
theorem ff_sub {a : Nat} (b : FF) (h : a = 65521 - b.val) : ff a = - b := by
  have h1 : ff (a + b.val) = 0 := by
    rw [h, Nat.sub_add_cancel (Nat.le_of_lt b.isLt)]
    rfl
  rw [ff_add, ff_of] at h1
  grind
def ff_pow (a : FF) : Nat → FF
  | 0 => 1
  | k + 1 => ff_pow a k * a
theorem ff_pow_add (a : FF) (m : Nat) : ∀ k : Nat, ff_pow a (m + k) = ff_pow a m * ff_pow a k
  | 0 => by show ff_pow a m = ff_pow a m * 1; grind
  | k + 1 => by
    show ff_pow a (m + k) * a = ff_pow a m * (ff_pow a k * a)
    rw [ff_pow_add a m k]
    grind
theorem ff_pow_mul (a b : FF) : ∀ k : Nat, ff_pow (a * b) k = ff_pow a k * ff_pow b k
  | 0 => by show (1 : FF) = 1 * 1; grind
  | k + 1 => by
    show ff_pow (a * b) k * (a * b) = ff_pow a k * a * (ff_pow b k * b)
    rw [ff_pow_mul a b k]
    grind
theorem ff_pow_sq (a : FF) (k : Nat) : ff_pow (a * a) k = ff_pow a (2 * k) := by
  rw [ff_pow_mul, Nat.two_mul, ff_pow_add]
theorem ff_pow_half (a : FF) (k : Nat) : ff_pow a k = ff_pow (a * a) (k / 2) * (if k % 2 = 1 then a else 1) := by
  rw [ff_pow_sq]
  have h : k = 2 * (k / 2) + k % 2 := by omega
  by_cases h1 : k % 2 = 1
  · rw [if_pos h1]
    have h2 : k = 2 * (k / 2) + 1 := by omega
    exact (congrArg (ff_pow a) h2).trans rfl
  · rw [if_neg h1]
    have h2 : k = 2 * (k / 2) := by omega
    have h3 : ff_pow a (2 * (k / 2)) * 1 = ff_pow a (2 * (k / 2)) := by grind
    rw [h3]
    exact congrArg (ff_pow a) h2
/-- the inverse, by a power -/
def finv (a : FF) : FF := ff_pow a 65519
theorem i32_bm {z : Int} (h1 : -2147483648 ≤ z) (h2 : z < 2147483648) : z.bmod (2 ^ 32) = z := by
  rw [Int.bmod_eq_of_le]
  · simpa using h1
  · simpa using h2
theorem i32_rem (x : Int32) : (x - x / nI 65521 * nI 65521).toInt = x.toInt.tmod 65521 := by
  have e : (nI 65521).toInt = 65521 := by decide
  have r := i32_rng x
  have hd : 65521 * x.toInt.tdiv 65521 + x.toInt.tmod 65521 = x.toInt := Int.mul_tdiv_add_tmod x.toInt 65521
  have h1 : x.toInt.tmod 65521 < 65521 := Int.tmod_lt_of_pos _ (by decide)
  have h2 : -65521 < x.toInt.tmod 65521 := by
    have := Int.tmod_lt_of_pos (-x.toInt) (b := 65521) (by decide)
    rw [Int.neg_tmod] at this
    omega
  have hq : (x / nI 65521).toInt = x.toInt.tdiv 65521 := by
    rw [Int32.toInt_div, e]
    exact i32_bm (by omega) (by omega)
  rcases Int.lt_or_le x.toInt 0 with h | h
  · have h3 : x.toInt.tmod 65521 ≤ 0 := by
      have h9 : (0 : Int) ≤ (-x.toInt).tmod 65521 := Int.tmod_nonneg _ (by omega)
      rw [Int.neg_tmod] at h9
      omega
    rw [Int32.toInt_sub, Int32.toInt_mul, hq, e, i32_bm (z := x.toInt.tdiv 65521 * 65521) (by omega) (by omega), i32_bm (by omega) (by omega)]
    omega
  · have h3 : 0 ≤ x.toInt.tmod 65521 := Int.tmod_nonneg _ h
    rw [Int32.toInt_sub, Int32.toInt_mul, hq, e, i32_bm (z := x.toInt.tdiv 65521 * 65521) (by omega) (by omega), i32_bm (by omega) (by omega)]
    omega
theorem i32_neg (x : Int32) : x < 0 ↔ x.toInt < 0 := by
  rw [Int32.lt_iff_toInt_lt]
  exact Iff.rfl
theorem i32_xor (x : Int32) : 0 ≤ x ^^^ nI 65521 ↔ 0 ≤ x.toInt := by
  have h : ∀ y : Int32, y.toInt < 0 ↔ y.toBitVec.msb = true := fun y => by
    rw [BitVec.msb_eq_toInt]
    exact decide_eq_true_iff.symm
  have h1 : (x ^^^ nI 65521).toInt < 0 ↔ x.toInt < 0 := by
    rw [h, h, Int32.toBitVec_xor, BitVec.msb_xor]
    have e : (nI 65521).toBitVec.msb = false := by decide
    rw [e, Bool.xor_false]
  rw [← Int32.not_lt, i32_neg, h1]
  omega
theorem i32_eq {x : Int32} {n : Nat} (hn : n < 2147483648) (h : x.toInt = n) : x = nI n := by
  apply Int32.toInt_inj.mp
  rw [h, nI_toInt hn]
theorem fi_val (z : Int) : ((fi z).val : Int) = z % 65521 := by
  show (((z % 65521).toNat % 65521 : Nat) : Int) = z % 65521
  omega
theorem fm_1 {x r : Int32} (er : r = x - x / nI 65521 * nI 65521) (h : 0 ≤ x ^^^ nI 65521) : r = nI (fi x.toInt).val := by
  have h1 := (i32_xor x).mp h
  refine i32_eq (by have := (fi x.toInt).isLt; omega) ?_
  rw [er, i32_rem, fi_val, Int.tmod_eq_emod_of_nonneg h1]
theorem fm_2 {x r : Int32} (er : r = x - x / nI 65521 * nI 65521) (h : r = 0) : r = nI (fi x.toInt).val := by
  refine i32_eq (by have := (fi x.toInt).isLt; omega) ?_
  have h1 : x.toInt.tmod 65521 = 0 := by rw [← i32_rem, ← er, h]; rfl
  have h2 : (65521 : Int) ∣ x.toInt := Int.dvd_of_tmod_eq_zero h1
  rw [h, fi_val, Int.emod_eq_zero_of_dvd h2]
  rfl
theorem fm_3 {x r : Int32} (er : r = x - x / nI 65521 * nI 65521) (h : ¬ 0 ≤ x ^^^ nI 65521) (h0 : ¬ r = 0) : r + nI 65521 = nI (fi x.toInt).val := by
  have h1 : x.toInt < 0 := by
    rw [i32_xor] at h
    omega
  refine i32_eq (by have := (fi x.toInt).isLt; omega) ?_
  have e : (nI 65521).toInt = 65521 := by decide
  have hr : r.toInt = x.toInt.tmod 65521 := by rw [er, i32_rem]
  have h5 : r.toInt ≠ 0 := fun z => h0 (Int32.toInt_inj.mp z)
  have h6 : (0 : Int) ≤ (-x.toInt).tmod 65521 := Int.tmod_nonneg _ (by omega)
  have h7 : (-x.toInt).tmod 65521 < 65521 := Int.tmod_lt_of_pos _ (by decide)
  rw [Int.neg_tmod] at h6 h7
  have hd : 65521 * x.toInt.tdiv 65521 + x.toInt.tmod 65521 = x.toInt := Int.mul_tdiv_add_tmod x.toInt 65521
  rw [Int32.toInt_add, e, i32_bm (by omega) (by omega), fi_val, hr]
  omega
section AZ
variable {p : Program} {l : Launch} {e : Env} {R : Room} {s : State} {m : MethodId} {args : Array Value} {below : List Frame} {meth : Method} {c : Code} {H : Heap} {locs : List Loc} {cells slots : Nat} {Q : State → Prop}
variable {cc : ByteArray} {pc : Nat} {ls : Array Slot} {rest : List Value}
theorem ax_ifle (hx : p.tables.exec = Jvm.exec) (hb : c.code = cc) {a : Nat} {off : Int} {tgt : Nat} (hdg : decode cc pc = .ok (.ifCond .le off, 3)) (ht : (pc : Int) + off = (tgt : Int)) (ha : a < 2147483648)
    (kt : a = 0 → W p l e R s m args below meth c H locs cells slots Q (F0 m tgt ls rest)) (kf : 0 < a → W p l e R s m args below meth c H locs cells slots Q (F0 m (pc + 3) ls rest)) : W p l e R s m args below meth c H locs cells slots Q (F0 m pc ls (.int (nI a) :: rest)) :=
  lv_if_le hx hb hdg ht (fun h => kt (Nat.le_zero.mp ((nI_leI (b := 0) ha (by decide)).mp h))) (fun h => kf (Nat.pos_of_ne_zero fun z => h ((nI_leI (b := 0) ha (by decide)).mpr (Nat.le_of_eq z))))
end AZ
