/-! numbers modulo 65521 -/
abbrev FF : Type := Fin 65521
def ff (n : Nat) : FF := Fin.ofNat 65521 n
def fi (z : Int) : FF := Fin.ofNat 65521 (z.emod 65521).toNat
def vN (v : Nat → FF) : Nat → Nat := fun j => (v j).val
theorem ff_val (n : Nat) : (ff n).val = n % 65521 := rfl
theorem ff_of (a : FF) : ff a.val = a := Fin.ext (Nat.mod_eq_of_lt a.isLt)
theorem vN_lt (v : Nat → FF) (j : Nat) : vN v j < 65521 := (v j).isLt
theorem vN_nu (v : Nat → FF) (k : Nat) (x : FF) : nu (vN v) k x.val = vN (nu v k x) := by
  funext j
  by_cases h : j = k <;> simp [nu, vN, h]
theorem ff_lin (a b : FF) (f : Nat) : (a.val + f * b.val) % 65521 = (a + ff f * b).val := by
  rw [Fin.val_add, Fin.val_mul, ff_val]
  rw [Nat.add_mod, Nat.mul_mod f b.val]
  simp [Nat.mod_mod, Nat.add_mod]
theorem ff_add (a b : Nat) : ff (a + b) = ff a + ff b := Fin.ext (by rw [Fin.val_add, ff_val, ff_val, ff_val, Nat.add_mod])
theorem ff_mul (a b : Nat) : ff (a * b) = ff a * ff b := Fin.ext (by rw [Fin.val_mul, ff_val, ff_val, ff_val, Nat.mul_mod])
theorem mul_le3 {a b x y : Nat} (h : a ≤ x) (h2 : b ≤ y) : a * b ≤ x * y := Nat.mul_le_mul h h2
/-- what the class's small methods do to rows: n places, others stay -/
def am (n : Nat) (v : Nat → FF) (c : FF) (w : Nat → FF) : Nat → FF := fun j => if j < n then v j + c * w j else v j
def cpv (n : Nat) (v w : Nat → FF) : Nat → FF := fun j => if j < n then v j else w j
def fl0 (n : Nat) (v : Nat → FF) : Nat → FF := fun j => if j < n then 0 else v j
def dot (v w : Nat → FF) : Nat → FF
  | 0 => 0
  | k + 1 => dot v w k + v k * w k
def dotN (v w : Nat → FF) : Nat → Nat
  | 0 => 0
  | k + 1 => dotN v w k + (v k).val * (w k).val
theorem dotN_le (v w : Nat → FF) : ∀ k : Nat, dotN v w k ≤ k * 4293001441
  | 0 => Nat.le_refl _
  | k + 1 => by
    have h := dotN_le v w k
    have h2 : (v k).val * (w k).val ≤ 65521 * 65521 := mul_le3 (Nat.le_of_lt (v k).isLt) (Nat.le_of_lt (w k).isLt)
    show dotN v w k + (v k).val * (w k).val ≤ (k + 1) * 4293001441
    omega
theorem dotN_ff (v w : Nat → FF) : ∀ k : Nat, ff (dotN v w k) = dot v w k
  | 0 => rfl
  | k + 1 => by
    show ff (dotN v w k + (v k).val * (w k).val) = dot v w k + v k * w k
    rw [ff_add, ff_mul, ff_of, ff_of, dotN_ff v w k]
theorem dotN_mod (v w : Nat → FF) (k : Nat) : dotN v w k % 65521 = (dot v w k).val := by rw [← dotN_ff, ff_val]
/-- Int32 and Int64 by their integers -/
theorem i32_rng (x : Int32) : -2147483648 ≤ x.toInt ∧ x.toInt < 2147483648 := by
  have h1 := Int32.le_toInt x
  have h2 := Int32.toInt_lt x
  omega
theorem fi_nat (n : Nat) : fi (n : Int) = ff n := by
  apply Fin.ext
  show (((n : Int) % 65521).toNat) % 65521 = n % 65521
  omega
theorem fi_add (a b : Int) : fi (a + b) = fi a + fi b := by
  unfold fi
  apply Fin.ext
  rw [Fin.val_add]
  simp only [Fin.val_ofNat]
  have h : (((a + b).emod 65521).toNat : Int) = (((a.emod 65521).toNat + (b.emod 65521).toNat : Nat) : Int) % 65521 := by
    have h1 : (0 : Int) ≤ a.emod 65521 := Int.emod_nonneg _ (by decide)
    have h2 : (0 : Int) ≤ b.emod 65521 := Int.emod_nonneg _ (by decide)
    have h3 : (0 : Int) ≤ (a + b).emod 65521 := Int.emod_nonneg _ (by decide)
    rw [Int.toNat_of_nonneg h3]
    push_cast
    rw [Int.toNat_of_nonneg h1, Int.toNat_of_nonneg h2]
    exact Int.add_emod a b 65521
  omega
theorem fi_mul (a b : Int) : fi (a * b) = fi a * fi b := by
  unfold fi
  apply Fin.ext
  rw [Fin.val_mul]
  simp only [Fin.val_ofNat]
  have h : (((a * b).emod 65521).toNat : Int) = (((a.emod 65521).toNat * (b.emod 65521).toNat : Nat) : Int) % 65521 := by
    have h1 : (0 : Int) ≤ a.emod 65521 := Int.emod_nonneg _ (by decide)
    have h2 : (0 : Int) ≤ b.emod 65521 := Int.emod_nonneg _ (by decide)
    have h3 : (0 : Int) ≤ (a * b).emod 65521 := Int.emod_nonneg _ (by decide)
    rw [Int.toNat_of_nonneg h3]
    push_cast
    rw [Int.toNat_of_nonneg h1, Int.toNat_of_nonneg h2]
    exact Int.mul_emod a b 65521
  have h5 : ((a.emod 65521).toNat % 65521) * ((b.emod 65521).toNat % 65521) % 65521 = ((a.emod 65521).toNat * (b.emod 65521).toNat) % 65521 := (Nat.mul_mod _ _ _).symm
  rw [h5]
  omega
theorem fi_neg (a : Int) : fi (-a) = - fi a := by
  have h : fi (a + -a) = 0 := by rw [Int.add_right_neg]; rfl
  rw [fi_add] at h
  grind
theorem fi_sub (a b : Int) : fi (a - b) = fi a - fi b := by
  rw [Int.sub_eq_add_neg, fi_add, fi_neg]
  grind
theorem fi_ff (a : FF) : fi (a.val : Int) = a := by rw [fi_nat, ff_of]
theorem ff_sub {a : Nat} (b : FF) (h : a = 65521 - b.val) : ff a = - b := by
  have h1 : ff (a + b.val) = 0 := by
    rw [h, Nat.sub_add_cancel (Nat.le_of_lt b.isLt)]
    rfl
  rw [ff_add, ff_of] at h1
  grind
def ff_pow (a : FF) : Nat → FF
  | 0 => 1
  | k + 1 => ff_pow a k * a
theorem ff_pow_add (a : FF) (m : Nat) : ∀ k : Nat, ff_pow a (m + k) = ff_pow a m * ff_pow a k
  | 0 => by show ff_pow a m = ff_pow a m * 1; grind
  | k + 1 => by
    show ff_pow a (m + k) * a = ff_pow a m * (ff_pow a k * a)
    rw [ff_pow_add a m k]
    grind
theorem ff_pow_mul (a b : FF) : ∀ k : Nat, ff_pow (a * b) k = ff_pow a k * ff_pow b k
  | 0 => by show (1 : FF) = 1 * 1; grind
  | k + 1 => by
    show ff_pow (a * b) k * (a * b) = ff_pow a k * a * (ff_pow b k * b)
    rw [ff_pow_mul a b k]
    grind
theorem ff_pow_sq (a : FF) (k : Nat) : ff_pow (a * a) k = ff_pow a (2 * k) := by
  rw [ff_pow_mul, Nat.two_mul, ff_pow_add]
theorem ff_pow_half (a : FF) (k : Nat) : ff_pow a k = ff_pow (a * a) (k / 2) * (if k % 2 = 1 then a else 1) := by
  rw [ff_pow_sq]
  have h : k = 2 * (k / 2) + k % 2 := by omega
  by_cases h1 : k % 2 = 1
  · rw [if_pos h1]
    have h2 : k = 2 * (k / 2) + 1 := by omega
    exact (congrArg (ff_pow a) h2).trans rfl
  · rw [if_neg h1]
    have h2 : k = 2 * (k / 2) := by omega
    have h3 : ff_pow a (2 * (k / 2)) * 1 = ff_pow a (2 * (k / 2)) := by grind
    rw [h3]
    exact congrArg (ff_pow a) h2
/-- the inverse, by a power -/
def finv (a : FF) : FF := ff_pow a 65519
