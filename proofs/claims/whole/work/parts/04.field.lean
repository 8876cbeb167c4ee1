/-! numbers modulo 65521 -/
abbrev FF : Type := Fin 65521
def ff (n : Nat) : FF := Fin.ofNat 65521 n
def fi (z : Int) : FF := Fin.ofNat 65521 (z.emod 65521).toNat
def vN (v : Nat → FF) : Nat → Nat := fun j => (v j).val
theorem ff_val (n : Nat) : (ff n).val = n % 65521 := rfl
theorem ff_of (a : FF) : ff a.val = a := Fin.ext (Nat.mod_eq_of_lt a.isLt)
theorem vN_lt (v : Nat → FF) (j : Nat) : vN v j < 65521 := (v j).isLt
theorem vN_nu (v : Nat → FF) (k : Nat) (x : FF) : nu (vN v) k x.val = vN (nu v k x) := by
  funext j
  by_cases h : j = k <;> simp [nu, vN, h]
theorem ff_lin (a b : FF) (f : Nat) : (a.val + f * b.val) % 65521 = (a + ff f * b).val := by
  rw [Fin.val_add, Fin.val_mul, ff_val]
  rw [Nat.add_mod, Nat.mul_mod f b.val]
  simp [Nat.mod_mod, Nat.add_mod]
theorem ff_add (a b : Nat) : ff (a + b) = ff a + ff b := Fin.ext (by rw [Fin.val_add, ff_val, ff_val, ff_val, Nat.add_mod])
theorem ff_mul (a b : Nat) : ff (a * b) = ff a * ff b := Fin.ext (by rw [Fin.val_mul, ff_val, ff_val, ff_val, Nat.mul_mod])
theorem mul_le3 {a b x y : Nat} (h : a ≤ x) (h2 : b ≤ y) : a * b ≤ x * y := Nat.mul_le_mul h h2
