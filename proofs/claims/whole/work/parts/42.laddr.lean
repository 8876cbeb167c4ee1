/-! THE LAW: the addresses -/
def lwH (z V i : Nat) : Nat := z + 1 + 98 + (V + 1) + i * (V + 1 + 6)
def lwN (N V M : Nat) : Nat := 98 + (V + 1) + N * (V + 1 + 6) + 1 + 2 * M
def lwR (hb w r : Nat) : Nat := if r = 0 then hb + 1 else if r = 1 then hb + 2 else if r = 2 then hb + 3 + w else if r = 3 then hb + 4 + w else hb + 3 + (r - 4)
def lwB (sz j : Nat) : Nat := if j = 1003 then sz + 0 else if j = 1005 then sz + 1 else if j = 1006 then sz + 2 else if j = 1007 then sz + 3 else if j = 1008 then sz + 4 else if j = 1009 then sz + 5 else if j = 1012 then sz + 6 else if j = 1013 then sz + 7 else if j = 1014 then sz + 8 else if j = 1016 then sz + 9 else if j = 1017 then sz + 10 else if j = 1018 then sz + 11 else if j = 1019 then sz + 12 else if j = 1021 then sz + 13 else if j = 1023 then sz + 14 else if j = 1024 then sz + 15 else if j = 1026 then sz + 16 else if j = 1027 then sz + 17 else sz + 18
def lwA (z N V M j : Nat) : Nat := if j = 0 then z else if j = 1 then z + 1 else if j = 3 then z + 2 else if j = 2 then z + 3 else if j = 4 then z + 8 + (V + 1) else if j = 5 then z + 98 + (V + 1) else if j = 6 then lwH z V N else if j = 7 then z + 49 + (V + 1) else if j < 180 then lwR (lwH z V ((j - 100) / 10)) (V + 1) ((j - 100) % 10) else if j = 180 then z + 4 else if j = 181 then z + 5 else if j = 182 then z + 6 + (V + 1) else if j = 183 then z + 7 + (V + 1) else if j < 200 then z + 6 + (j - 184) else if j < 300 then (if j % 2 = 0 then lwH z V ((j - 200) / 2) else lwH z V ((j - 201) / 2) + 5 + (V + 1)) else if j < 400 then z + 9 + (V + 1) + (j - 300) else if j < 500 then z + 50 + (V + 1) + (j - 400) else if j < 1000 then lwH z V N + 1 + (j - 500) else if j = 1000 then z + 1 + lwN N V M else if j = 1100 then z + 21 + lwN N V M else lwB (z + 2 + lwN N V M) j
section ADR
variable {z N V M : Nat}
theorem lwA_184 {i : Nat} (hi : i < V + 1) (hV : V ≤ 4) : lwA z N V M (184 + i) = z + 6 + i := by
  unfold lwA
  rw [if_neg (by omega), if_neg (by omega), if_neg (by omega), if_neg (by omega), if_neg (by omega), if_neg (by omega), if_neg (by omega), if_neg (by omega), if_neg (by omega), if_neg (by omega), if_neg (by omega), if_neg (by omega), if_neg (by omega), if_pos (by omega)]
  omega
theorem lwA_200 {i : Nat} (hi : i < 8) : lwA z N V M (200 + 2 * i) = lwH z V i := by
  unfold lwA
  rw [if_neg (by omega), if_neg (by omega), if_neg (by omega), if_neg (by omega), if_neg (by omega), if_neg (by omega), if_neg (by omega), if_neg (by omega), if_neg (by omega), if_neg (by omega), if_neg (by omega), if_neg (by omega), if_neg (by omega), if_neg (by omega), if_pos (by omega), if_pos (by omega), show (200 + 2 * i - 200) / 2 = i by omega]
theorem lwA_201 {i : Nat} (hi : i < 8) : lwA z N V M (201 + 2 * i) = lwH z V i + 5 + (V + 1) := by
  unfold lwA
  rw [if_neg (by omega), if_neg (by omega), if_neg (by omega), if_neg (by omega), if_neg (by omega), if_neg (by omega), if_neg (by omega), if_neg (by omega), if_neg (by omega), if_neg (by omega), if_neg (by omega), if_neg (by omega), if_neg (by omega), if_neg (by omega), if_pos (by omega), if_neg (by omega), show (201 + 2 * i - 201) / 2 = i by omega]
theorem lwA_300 {i : Nat} (hi : i < 100) : lwA z N V M (300 + i) = z + 9 + (V + 1) + i := by
  unfold lwA
  rw [if_neg (by omega), if_neg (by omega), if_neg (by omega), if_neg (by omega), if_neg (by omega), if_neg (by omega), if_neg (by omega), if_neg (by omega), if_neg (by omega), if_neg (by omega), if_neg (by omega), if_neg (by omega), if_neg (by omega), if_neg (by omega), if_neg (by omega), if_pos (by omega)]
  omega
theorem lwA_400 {i : Nat} (hi : i < 100) : lwA z N V M (400 + i) = z + 50 + (V + 1) + i := by
  unfold lwA
  rw [if_neg (by omega), if_neg (by omega), if_neg (by omega), if_neg (by omega), if_neg (by omega), if_neg (by omega), if_neg (by omega), if_neg (by omega), if_neg (by omega), if_neg (by omega), if_neg (by omega), if_neg (by omega), if_neg (by omega), if_neg (by omega), if_neg (by omega), if_neg (by omega), if_pos (by omega)]
  omega
theorem lwA_500 {i : Nat} (hi : i < 500) : lwA z N V M (500 + i) = lwH z V N + 1 + i := by
  unfold lwA
  rw [if_neg (by omega), if_neg (by omega), if_neg (by omega), if_neg (by omega), if_neg (by omega), if_neg (by omega), if_neg (by omega), if_neg (by omega), if_neg (by omega), if_neg (by omega), if_neg (by omega), if_neg (by omega), if_neg (by omega), if_neg (by omega), if_neg (by omega), if_neg (by omega), if_neg (by omega), if_pos (by omega)]
  omega
theorem lwA_100 {i r : Nat} (hi : i < 8) (hr : r < 10) : lwA z N V M (100 + 10 * i + r) = lwR (lwH z V i) (V + 1) r := by
  unfold lwA
  rw [if_neg (by omega), if_neg (by omega), if_neg (by omega), if_neg (by omega), if_neg (by omega), if_neg (by omega), if_neg (by omega), if_neg (by omega), if_pos (by omega), show (100 + 10 * i + r - 100) / 10 = i by omega, show (100 + 10 * i + r - 100) % 10 = r by omega]
theorem lw_adx (hN : N ≤ 8) (hV : V ≤ 4) (hM : M ≤ 40) : ADX (lwA z N V M) (z + 1) N V M (lwN N V M) (lwH z V) := by
  refine ⟨rfl, rfl, rfl, rfl, rfl, fun i hi => by rw [lwA_184 hi hV], rfl, rfl, rfl, fun i hi => ⟨by rw [lwA_300 (by omega)], by rw [show 301 + 2 * i = 300 + (1 + 2 * i) by omega, lwA_300 (by omega)]; omega⟩, rfl, fun i hi => ⟨by rw [lwA_400 (by omega)], by rw [show 401 + 2 * i = 400 + (1 + 2 * i) by omega, lwA_400 (by omega)]; omega⟩, rfl, ?_, fun i hi => ?_, fun i hi => ⟨lwA_200 (by omega), (lwA_100 (r := 0) (by omega) (by omega)).trans rfl, (lwA_100 (r := 1) (by omega) (by omega)).trans rfl, fun j hj => ?_, (lwA_100 (r := 2) (by omega) (by omega)).trans rfl, (lwA_100 (r := 3) (by omega) (by omega)).trans rfl, lwA_201 (by omega)⟩, rfl, fun i hi => ⟨lwA_500 (by omega), by rw [show 501 + 2 * i = 500 + (1 + 2 * i) by omega, lwA_500 (by omega)]; omega⟩, ?_⟩
  · unfold lwH
    omega
  · unfold lwH
    rw [Nat.succ_mul]
    omega
  · rw [show 100 + 10 * i + 4 + j = 100 + 10 * i + (4 + j) by omega, lwA_100 (by omega) (by omega)]
    unfold lwR
    rw [if_neg (by omega), if_neg (by omega), if_neg (by omega), if_neg (by omega)]
    omega
  · unfold lwH lwN
    omega
theorem lw_adm : ADM (lwA z N V M) (z + 2 + lwN N V M) := ⟨rfl, rfl, rfl, rfl, rfl, rfl, rfl, rfl, rfl, rfl, rfl, rfl, rfl, rfl, rfl, rfl, rfl, rfl, rfl⟩
end ADR
theorem clN_1 (mx : Nat) (x : Int32) (h : 1 ≤ mx) : 1 ≤ clN mx x := by
  unfold clN
  split
  · exact Nat.le_refl _
  · split
    · exact h
    · omega
theorem clN_le (mx : Nat) (x : Int32) (h : 1 ≤ mx) : clN mx x ≤ mx := by
  unfold clN
  split
  · exact h
  · split
    · exact Nat.le_refl _
    · omega
