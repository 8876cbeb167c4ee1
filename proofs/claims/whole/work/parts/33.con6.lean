/-! THE MODEL: its constructor -/
def ini6 (G : cx_G) (j : Nat) : va_E := if j = 1003 then nA G 5 (vN (fun _ => 0)) else if j = 1005 then nA G 20 (fun _ => 0) else if j = 1006 then nA G 20 (fun _ => 0) else if j = 1007 then nA G 20 (fun _ => 0) else if j = 1008 then iA G 20 (fun _ => 0) else if j = 1009 then nA G 100 (vN (fun _ => 0)) else if j = 1012 then nA G 8 (fun _ => 0) else if j = 1013 then nA G 200 (vN (fun _ => 0)) else if j = 1014 then iA G 40 (fun _ => 0) else if j = 1016 then nA G 41 (fun _ => 0) else if j = 1017 then nA G 41 (fun _ => 0) else if j = 1018 then nA G 8 (fun _ => 0) else if j = 1019 then nA G 200 (vN (fun _ => 0)) else if j = 1023 then nA G 24 (fun _ => 0) else if j = 1024 then nA G 120 (vN (fun _ => 0)) else if j = 1026 then nA G 150 (vN (fun _ => 0)) else if j = 1027 then iA G 5 (fun _ => 0) else if j = 1028 then nA G 5 (vN (fun _ => 0)) else .inl (G.2 0, 0, .inl (fun _ => 0))
theorem eg_to {G : cx_G} {g g2 : Nat → va_E} {k : Nat} {ce : va_E} (h : g2 = va_up g k ce) (hc : ce = ini6 G k := by rfl) : g2 = va_up g k (ini6 G k) := by rw [h, hc]
theorem fm_step {G : cx_G} {g g2 : Nat → va_E} {k : Nat} {D : List Nat} (h : ∀ j : Nat, j ∈ D → g j = ini6 G j) (hk : k ∉ D) (eg : g2 = va_up g k (ini6 G k)) : ∀ j : Nat, j ∈ k :: D → g2 j = ini6 G j := fun j hj => by
  by_cases e : j = k
  · rw [e]; exact cx_eq eg
  · exact (cx_ne eg j e).trans (h j ((List.mem_cons.mp hj).resolve_left e))

def ADM (ad : Nat → Nat) (sz : Nat) : Prop := ad 1003 = sz + 0 ∧ ad 1005 = sz + 1 ∧ ad 1006 = sz + 2 ∧ ad 1007 = sz + 3 ∧ ad 1008 = sz + 4 ∧ ad 1009 = sz + 5 ∧ ad 1012 = sz + 6 ∧ ad 1013 = sz + 7 ∧ ad 1014 = sz + 8 ∧ ad 1016 = sz + 9 ∧ ad 1017 = sz + 10 ∧ ad 1018 = sz + 11 ∧ ad 1019 = sz + 12 ∧ ad 1021 = sz + 13 ∧ ad 1023 = sz + 14 ∧ ad 1024 = sz + 15 ∧ ad 1026 = sz + 16 ∧ ad 1027 = sz + 17 ∧ ad 1028 = sz + 18
theorem ADM.draft {ad : Nat → Nat} {sz : Nat} (h : ADM ad sz) : ad 1003 = sz + 0 := h.1
theorem ADM.froms {ad : Nat → Nat} {sz : Nat} (h : ADM ad sz) : ad 1005 = sz + 1 := h.2.1
theorem ADM.tos {ad : Nat → Nat} {sz : Nat} (h : ADM ad sz) : ad 1006 = sz + 2 := h.2.2.1
theorem ADM.kinds {ad : Nat → Nat} {sz : Nat} (h : ADM ad sz) : ad 1007 = sz + 3 := h.2.2.2.1
theorem ADM.targets {ad : Nat → Nat} {sz : Nat} (h : ADM ad sz) : ad 1008 = sz + 4 := h.2.2.2.2.1
theorem ADM.forms {ad : Nat → Nat} {sz : Nat} (h : ADM ad sz) : ad 1009 = sz + 5 := h.2.2.2.2.2.1
theorem ADM.many {ad : Nat → Nat} {sz : Nat} (h : ADM ad sz) : ad 1012 = sz + 6 := h.2.2.2.2.2.2.1
theorem ADM.points {ad : Nat → Nat} {sz : Nat} (h : ADM ad sz) : ad 1013 = sz + 7 := h.2.2.2.2.2.2.2.1
theorem ADM.came {ad : Nat → Nat} {sz : Nat} (h : ADM ad sz) : ad 1014 = sz + 8 := h.2.2.2.2.2.2.2.2.1
theorem ADM.nodeOf {ad : Nat → Nat} {sz : Nat} (h : ADM ad sz) : ad 1016 = sz + 9 := h.2.2.2.2.2.2.2.2.2.1
theorem ADM.numberOf {ad : Nat → Nat} {sz : Nat} (h : ADM ad sz) : ad 1017 = sz + 10 := h.2.2.2.2.2.2.2.2.2.2.1
theorem ADM.rows {ad : Nat → Nat} {sz : Nat} (h : ADM ad sz) : ad 1018 = sz + 11 := h.2.2.2.2.2.2.2.2.2.2.2.1
theorem ADM.equations {ad : Nat → Nat} {sz : Nat} (h : ADM ad sz) : ad 1019 = sz + 12 := h.2.2.2.2.2.2.2.2.2.2.2.2.1
theorem ADM.values {ad : Nat → Nat} {sz : Nat} (h : ADM ad sz) : ad 1021 = sz + 13 := h.2.2.2.2.2.2.2.2.2.2.2.2.2.1
theorem ADM.noteNode {ad : Nat → Nat} {sz : Nat} (h : ADM ad sz) : ad 1023 = sz + 14 := h.2.2.2.2.2.2.2.2.2.2.2.2.2.2.1
theorem ADM.noteForm {ad : Nat → Nat} {sz : Nat} (h : ADM ad sz) : ad 1024 = sz + 15 := h.2.2.2.2.2.2.2.2.2.2.2.2.2.2.2.1
theorem ADM.table {ad : Nat → Nat} {sz : Nat} (h : ADM ad sz) : ad 1026 = sz + 16 := h.2.2.2.2.2.2.2.2.2.2.2.2.2.2.2.2.1
theorem ADM.pivots {ad : Nat → Nat} {sz : Nat} (h : ADM ad sz) : ad 1027 = sz + 17 := h.2.2.2.2.2.2.2.2.2.2.2.2.2.2.2.2.2.1
theorem ADM.row {ad : Nat → Nat} {sz : Nat} (h : ADM ad sz) : ad 1028 = sz + 18 := h.2.2.2.2.2.2.2.2.2.2.2.2.2.2.2.2.2.2
theorem va_ini : nu (nu (nu (nu (nu (vN (fun _ => 0)) 0 1) 1 0) 2 0) 3 0) 4 0 = vN (nu (fun _ => 0) 0 1) := by
  funext j
  have h0 : ∀ k : Nat, vN (fun _ => (0 : FF)) k = 0 := fun _ => rfl
  have h1 : ∀ k : Nat, vN (nu (fun _ => (0 : FF)) 0 1) k = if k = 0 then 1 else 0 := fun k => by
    unfold vN nu
    split <;> rfl
  rw [h1]
  unfold nu
  by_cases e0 : j = 0
  · simp [e0]
  · by_cases e4 : j = 4
    · simp [e4]
    · by_cases e3 : j = 3
      · simp [e3]
      · by_cases e2 : j = 2
        · simp [e2]
        · by_cases e1 : j = 1
          · simp [e1]
          · simp [e0, e1, e2, e3, e4, h0]
theorem lbM_i {j : Nat} (h : lbM j = true) : j = 1000 ∨ j = 1003 ∨ j = 1005 ∨ j = 1006 ∨ j = 1007 ∨ j = 1008 ∨ j = 1009 ∨ j = 1012 ∨ j = 1013 ∨ j = 1014 ∨ j = 1016 ∨ j = 1017 ∨ j = 1018 ∨ j = 1019 ∨ j = 1021 ∨ j = 1023 ∨ j = 1024 ∨ j = 1026 ∨ j = 1027 ∨ j = 1028 := by
  simpa [lbM] using h

set_option maxRecDepth 20000 in
theorem wd_X6_init_0 : Cond.methodLink RX6 1 objectInit ∈ wsX6_init := by decide +kernel
set_option maxRecDepth 20000 in
theorem wd_X6_init_1 : Cond.instanceMethod objectInit ∈ wsX6_init := by decide +kernel
set_option maxRecDepth 20000 in
theorem wd_X6_init_2 : Cond.code objectInit ⟨#[0xb1]⟩ 1 none ∈ wsX6_init := by decide +kernel
set_option maxRecDepth 20000 in
theorem wd_X6_init_3 : Cond.arrayClass .int ∈ wsX6_init := by decide +kernel
set_option maxRecDepth 20000 in
theorem wd_X6_init_4 : Cond.fieldLink RX6 7 "AffineHullsModel" "draft" "[I" ∈ wsX6_init := by decide +kernel
set_option maxRecDepth 20000 in
theorem in_X6_init_X6 : ∀ w ∈ u_ws RX6 TX6 29, w ∈ wsX6_init := by decide +kernel
set_option maxRecDepth 20000 in
theorem wd_X6_init_6 : Cond.fieldLink RX6 13 "AffineHullsModel" "froms" "[I" ∈ wsX6_init := by decide +kernel
set_option maxRecDepth 20000 in
theorem wd_X6_init_7 : Cond.fieldLink RX6 16 "AffineHullsModel" "tos" "[I" ∈ wsX6_init := by decide +kernel
set_option maxRecDepth 20000 in
theorem wd_X6_init_8 : Cond.fieldLink RX6 19 "AffineHullsModel" "kinds" "[I" ∈ wsX6_init := by decide +kernel
set_option maxRecDepth 20000 in
theorem wd_X6_init_9 : Cond.fieldLink RX6 22 "AffineHullsModel" "targets" "[I" ∈ wsX6_init := by decide +kernel
set_option maxRecDepth 20000 in
theorem wd_X6_init_10 : Cond.fieldLink RX6 25 "AffineHullsModel" "forms" "[I" ∈ wsX6_init := by decide +kernel
set_option maxRecDepth 20000 in
theorem wd_X6_init_11 : Cond.fieldLink RX6 28 "AffineHullsModel" "many" "[I" ∈ wsX6_init := by decide +kernel
set_option maxRecDepth 20000 in
theorem wd_X6_init_12 : Cond.fieldLink RX6 31 "AffineHullsModel" "points" "[I" ∈ wsX6_init := by decide +kernel
set_option maxRecDepth 20000 in
theorem wd_X6_init_13 : Cond.fieldLink RX6 34 "AffineHullsModel" "came" "[I" ∈ wsX6_init := by decide +kernel
set_option maxRecDepth 20000 in
theorem wd_X6_init_14 : Cond.fieldLink RX6 37 "AffineHullsModel" "nodeOf" "[I" ∈ wsX6_init := by decide +kernel
set_option maxRecDepth 20000 in
theorem wd_X6_init_15 : Cond.fieldLink RX6 40 "AffineHullsModel" "numberOf" "[I" ∈ wsX6_init := by decide +kernel
set_option maxRecDepth 20000 in
theorem wd_X6_init_16 : Cond.fieldLink RX6 43 "AffineHullsModel" "rows" "[I" ∈ wsX6_init := by decide +kernel
set_option maxRecDepth 20000 in
theorem wd_X6_init_17 : Cond.fieldLink RX6 46 "AffineHullsModel" "equations" "[I" ∈ wsX6_init := by decide +kernel
set_option maxRecDepth 20000 in
theorem wd_X6_init_18 : Cond.fieldLink RX6 49 "AffineHullsModel" "values" "[I" ∈ wsX6_init := by decide +kernel
set_option maxRecDepth 20000 in
theorem wd_X6_init_19 : Cond.fieldLink RX6 52 "AffineHullsModel" "noteNode" "[I" ∈ wsX6_init := by decide +kernel
set_option maxRecDepth 20000 in
theorem wd_X6_init_20 : Cond.fieldLink RX6 55 "AffineHullsModel" "noteForm" "[I" ∈ wsX6_init := by decide +kernel
set_option maxRecDepth 20000 in
theorem wd_X6_init_21 : Cond.fieldLink RX6 58 "AffineHullsModel" "table" "[I" ∈ wsX6_init := by decide +kernel
set_option maxRecDepth 20000 in
theorem wd_X6_init_22 : Cond.fieldLink RX6 61 "AffineHullsModel" "pivots" "[I" ∈ wsX6_init := by decide +kernel
set_option maxRecDepth 20000 in
theorem wd_X6_init_23 : Cond.fieldLink RX6 64 "AffineHullsModel" "row" "[I" ∈ wsX6_init := by decide +kernel
set_option maxRecDepth 20000 in
theorem wd_X6_init_24 : Cond.fieldLink RX6 67 "AffineHullsModel" "n" "I" ∈ wsX6_init := by decide +kernel
set_option maxRecDepth 20000 in
theorem wd_X6_init_25 : Cond.fieldLink RX6 71 "AffineHullsModel" "v" "I" ∈ wsX6_init := by decide +kernel
abbrev rm_X6_init : Room := { frames := 1, cells := 19, slots := 1080, locals := 20 }
set_option maxHeartbeats 4000000 in
set_option maxRecDepth 100000 in
theorem c_X6_init {l : Launch} {G : cx_G} {L : List Nat} {ad : Nat → Nat} {g : Nat → va_E} (hD : cx_D L ad) {sz : Nat} {x1 x2 : Int32} {N V : Nat} (hNc : N = clN 8 x1) (hVc : V = clN 4 x2) (hkM : ADM ad sz) (c_o : g 1000 = .inr (6, [.int (nI 0), .int (nI 0), .int (nI 0), .null, .int (nI 0), .null, .null, .null, .null, .null, .int (nI 0), .int (if false = true then 1 else 0), .null, .null, .null, .int (nI 0), .null, .null, .null, .null, .int (nI 0), .null, .int (nI 0), .null, .null, .int (nI 0), .null, .null, .null])) (hmL : ∀ j : Nat, j = 1000 → j ∈ L) : CV l yX6_init wsX6_init rm_X6_init G L ad g [.ref (ad 1000), .int x1, .int x2] (19) (fun u => (∀ j : Nat, lbM j = true → j ∈ u.1) ∧ (∀ j : Nat, (j < 1000 ∨ 1029 ≤ j) → u.2 j = g j) ∧ u.2 1000 = .inr (6, [.int (nI N), .int (nI V), .int (nI 0), .ref (ad 1003), .int (nI 0), .ref (ad 1005), .ref (ad 1006), .ref (ad 1007), .ref (ad 1008), .ref (ad 1009), .int (nI 0), .int (if false = true then 1 else 0), .ref (ad 1012), .ref (ad 1013), .ref (ad 1014), .int (nI 0), .ref (ad 1016), .ref (ad 1017), .ref (ad 1018), .ref (ad 1019), .int (nI 0), .ref (ad 1021), .int (nI 0), .ref (ad 1023), .ref (ad 1024), .int (nI 0), .ref (ad 1026), .ref (ad 1027), .ref (ad 1028)]) ∧ u.2 1003 = nA G 5 (vN (fun _ => 0)) ∧ u.2 1005 = nA G 20 (fun _ => 0) ∧ u.2 1006 = nA G 20 (fun _ => 0) ∧ u.2 1007 = nA G 20 (fun _ => 0) ∧ u.2 1008 = iA G 20 (fun _ => 0) ∧ u.2 1009 = nA G 100 (vN (fun _ => 0)) ∧ u.2 1012 = nA G 8 (fun _ => 0) ∧ u.2 1013 = nA G 200 (vN (fun _ => 0)) ∧ u.2 1014 = iA G 40 (fun _ => 0) ∧ u.2 1016 = nA G 41 (fun _ => 0) ∧ u.2 1017 = nA G 41 (fun _ => 0) ∧ u.2 1018 = nA G 8 (fun _ => 0) ∧ u.2 1019 = nA G 200 (vN (fun _ => 0)) ∧ u.2 1021 = nA G 5 (vN (nu (fun _ => 0) 0 1)) ∧ u.2 1023 = nA G 24 (fun _ => 0) ∧ u.2 1024 = nA G 120 (vN (fun _ => 0)) ∧ u.2 1026 = nA G 150 (vN (fun _ => 0)) ∧ u.2 1027 = iA G 5 (fun _ => 0) ∧ u.2 1028 = nA G 5 (vN (fun _ => 0))) 19 1080 sz := by
  refine cx_ofC (cc := cX6_init) (maxL := 3) (by decide +kernel) rfl rfl (Nat.le_of_ble_eq_true rfl) ?_
  intro p e s m args below meth c Q hx hb hts hown hml hin hP hK hY hS hz hH hret ls hl
  have hown : s.vm.findClass RX6 = some m.cls := hown
  have hl : lv_has ls 3 [(0, .ref (ad 1000)), (1, .int x1), (2, .int x2)] := hl
  replace hLL : ∀ j : Nat, j ∈ L → j ∈ L := fun _ h => h
  replace hA : ∀ q : Nat, cx_A L ad sz q → cx_A L ad sz q := fun _ h => h
  replace fr : ∀ j : Nat, (j < 1000 ∨ 1029 ≤ j) → g j = g j := fun _ _ => rfl
  have m_o : 1000 ∈ L := hmL 1000 rfl
  have hF : ∀ j : Nat, j ∈ ([] : List Nat) → g j = ini6 G j := fun j h => absurd h List.not_mem_nil
  have hmF : ∀ j : Nat, j ∈ ([] : List Nat) → j ∈ L := fun j h => absurd h List.not_mem_nil
  refine lv_aload_n hx hb dX6_init_0 rfl (lv_at hl 0 rfl) ?_
  refine W.objInit hx hb hown (hts _ wd_X6_init_0) (hts _ wd_X6_init_1) (hts _ wd_X6_init_2) rfl (by rw [hml]; exact hl.1) rfl dX6_init_1 (Nat.le_of_ble_eq_true rfl) (Nat.le_of_ble_eq_true rfl) ?_
  refine W.eq (g2 := F0 m 4 ls []) rfl ?_
  refine lv_aload_n hx hb dX6_init_4 rfl (lv_at hl 0 rfl) ?_
  refine lv_iconst (v := nI 5) hx hb dX6_init_5 (by decide) ?_
  have hg1 : sz ≤ s.heap.size := Nat.le_trans hz hS.1
  have hk1 : ad 1003 = s.heap.size := by have h9 := hkM.draft; omega
  refine ax_newI (k := 1003) (n := 5) (f := (fun j => nI ((vN (fun _ => 0)) j))) hx hb (hts _ wd_X6_init_3) hK hP hD hS hk1 (fun _ => nI_0) (by omega) (show 0 + 1 ≤ 19 by omega) (show 0 + 5 ≤ 1080 by omega) dX6_init_6 (fun L1 H g1 eL1 eg1 hH1 hP hD hS => ?_)
  replace c_o : g1 1000 = .inr (6, [.int (nI 0), .int (nI 0), .int (nI 0), .null, .int (nI 0), .null, .null, .null, .null, .null, .int (nI 0), .int (if false = true then 1 else 0), .null, .null, .null, .int (nI 0), .null, .null, .null, .null, .int (nI 0), .null, .int (nI 0), .null, .null, .int (nI 0), .null, .null, .null]) := (cx_ne eg1 1000 (by decide)).trans c_o
  replace hF : ∀ j : Nat, j ∈ [1003] → g1 j = ini6 G j := fm_step hF (by decide) (eg_to eg1)
  have hup : ∀ j : Nat, j ∈ L → j ∈ L1 := fun j h => by rw [eL1]; exact List.mem_append_left _ h
  replace hLL : ∀ j : Nat, j ∈ L → j ∈ L1 := fun j h => hup j (hLL j h)
  replace m_o : 1000 ∈ L1 := hup _ m_o
  replace hmF : ∀ j : Nat, j ∈ [1003] → j ∈ L1 := fun j h => (List.mem_cons.mp h).elim (fun h => by rw [eL1, h]; exact List.mem_append_right _ List.mem_cons_self) (fun h => hup j (hmF j h))
  replace fr : ∀ j : Nat, (j < 1000 ∨ 1029 ≤ j) → g1 j = g j := fun j hj => (cx_ne eg1 j (by omega)).trans (fr j hj)
  replace hA : ∀ q : Nat, cx_A L1 ad sz q → cx_A L ad sz q := fun q hq9 => hA q (cx_A.down (fun j hj => by rw [eL1] at hj; rcases List.mem_append.mp hj with h | h; exact Or.inl h; exact Or.inr (by rw [List.mem_singleton.mp h]; omega)) q hq9)
  replace hH : H.size = sz + 1 := by omega
  clear eg1 eL1 hk1 hH1 hup hg1
  refine ax_putFz (k := 1000) (v := .ref (ad 1003)) (fs' := [.int (nI 0), .int (nI 0), .int (nI 0), .ref (ad 1003), .int (nI 0), .null, .null, .null, .null, .null, .int (nI 0), .int (if false = true then 1 else 0), .null, .null, .null, .int (nI 0), .null, .null, .null, .null, .int (nI 0), .null, .int (nI 0), .null, .null, .int (nI 0), .null, .null, .null]) hx hb hts in_X6_init_X6 tyX6 tyX6_ok nmX6 hown hK hP hD hS m_o c_o rfl 3 (by decide) (hts _ wd_X6_init_4) (fun _ h9 => h9) rfl hin rfl (ty := (.array .int)) (by decide +kernel) rfl rfl (Nat.le_of_ble_eq_true rfl) rfl dX6_init_8 (fun H locs g2 eg2 hH2 hP hS => ?_)
  have hF : ∀ j : Nat, j ∈ [1003] → g2 j = ini6 G j := fun j hj => (cx_ne eg2 j (by rintro rfl; exact absurd hj (by decide))).trans (hF j hj)
  replace c_o : g2 1000 = .inr (6, [.int (nI 0), .int (nI 0), .int (nI 0), .ref (ad 1003), .int (nI 0), .null, .null, .null, .null, .null, .int (nI 0), .int (if false = true then 1 else 0), .null, .null, .null, .int (nI 0), .null, .null, .null, .null, .int (nI 0), .null, .int (nI 0), .null, .null, .int (nI 0), .null, .null, .null]) := cx_eq eg2
  replace fr : ∀ j : Nat, (j < 1000 ∨ 1029 ≤ j) → g2 j = g j := fun j hj => (cx_ne eg2 j (by omega)).trans (fr j hj)
  clear eg2
  replace hH : H.size = sz + 1 := by omega
  clear hH2
  refine lv_aload_n hx hb dX6_init_11 rfl (lv_at hl 0 rfl) ?_
  refine lv_bipush (v := nI 20) hx hb dX6_init_12 (by decide) ?_
  have hg3 : sz ≤ H.size := Nat.le_trans hz hS.1
  have hk3 : ad 1005 = H.size := by have h9 := hkM.froms; omega
  refine ax_newI (k := 1005) (n := 20) (f := (fun j => nI ((fun _ => 0) j))) hx hb (hts _ wd_X6_init_3) hK hP hD hS hk3 (fun _ => nI_0) (by omega) (show 0 + 1 + 1 ≤ 19 by omega) (show 0 + 5 + 20 ≤ 1080 by omega) dX6_init_14 (fun L3 H g3 eL3 eg3 hH3 hP hD hS => ?_)
  replace c_o : g3 1000 = .inr (6, [.int (nI 0), .int (nI 0), .int (nI 0), .ref (ad 1003), .int (nI 0), .null, .null, .null, .null, .null, .int (nI 0), .int (if false = true then 1 else 0), .null, .null, .null, .int (nI 0), .null, .null, .null, .null, .int (nI 0), .null, .int (nI 0), .null, .null, .int (nI 0), .null, .null, .null]) := (cx_ne eg3 1000 (by decide)).trans c_o
  replace hF : ∀ j : Nat, j ∈ [1005, 1003] → g3 j = ini6 G j := fm_step hF (by decide) (eg_to eg3)
  have hup : ∀ j : Nat, j ∈ L1 → j ∈ L3 := fun j h => by rw [eL3]; exact List.mem_append_left _ h
  replace hLL : ∀ j : Nat, j ∈ L → j ∈ L3 := fun j h => hup j (hLL j h)
  replace m_o : 1000 ∈ L3 := hup _ m_o
  replace hmF : ∀ j : Nat, j ∈ [1005, 1003] → j ∈ L3 := fun j h => (List.mem_cons.mp h).elim (fun h => by rw [eL3, h]; exact List.mem_append_right _ List.mem_cons_self) (fun h => hup j (hmF j h))
  replace fr : ∀ j : Nat, (j < 1000 ∨ 1029 ≤ j) → g3 j = g j := fun j hj => (cx_ne eg3 j (by omega)).trans (fr j hj)
  replace hA : ∀ q : Nat, cx_A L3 ad sz q → cx_A L ad sz q := fun q hq9 => hA q (cx_A.down (fun j hj => by rw [eL3] at hj; rcases List.mem_append.mp hj with h | h; exact Or.inl h; exact Or.inr (by rw [List.mem_singleton.mp h]; omega)) q hq9)
  replace hH : H.size = sz + 1 + 1 := by omega
  clear eg3 eL3 hk3 hH3 hup hg3
  refine ax_putFz (k := 1000) (v := .ref (ad 1005)) (fs' := [.int (nI 0), .int (nI 0), .int (nI 0), .ref (ad 1003), .int (nI 0), .ref (ad 1005), .null, .null, .null, .null, .int (nI 0), .int (if false = true then 1 else 0), .null, .null, .null, .int (nI 0), .null, .null, .null, .null, .int (nI 0), .null, .int (nI 0), .null, .null, .int (nI 0), .null, .null, .null]) hx hb hts in_X6_init_X6 tyX6 tyX6_ok nmX6 hown hK hP hD hS m_o c_o rfl 5 (by decide) (hts _ wd_X6_init_6) (fun _ h9 => h9) rfl hin rfl (ty := (.array .int)) (by decide +kernel) rfl rfl (Nat.le_of_ble_eq_true rfl) rfl dX6_init_16 (fun H locs g4 eg4 hH4 hP hS => ?_)
  have hF : ∀ j : Nat, j ∈ [1005, 1003] → g4 j = ini6 G j := fun j hj => (cx_ne eg4 j (by rintro rfl; exact absurd hj (by decide))).trans (hF j hj)
  replace c_o : g4 1000 = .inr (6, [.int (nI 0), .int (nI 0), .int (nI 0), .ref (ad 1003), .int (nI 0), .ref (ad 1005), .null, .null, .null, .null, .int (nI 0), .int (if false = true then 1 else 0), .null, .null, .null, .int (nI 0), .null, .null, .null, .null, .int (nI 0), .null, .int (nI 0), .null, .null, .int (nI 0), .null, .null, .null]) := cx_eq eg4
  replace fr : ∀ j : Nat, (j < 1000 ∨ 1029 ≤ j) → g4 j = g j := fun j hj => (cx_ne eg4 j (by omega)).trans (fr j hj)
  clear eg4
  replace hH : H.size = sz + 1 + 1 := by omega
  clear hH4
  refine lv_aload_n hx hb dX6_init_19 rfl (lv_at hl 0 rfl) ?_
  refine lv_bipush (v := nI 20) hx hb dX6_init_20 (by decide) ?_
  have hg5 : sz ≤ H.size := Nat.le_trans hz hS.1
  have hk5 : ad 1006 = H.size := by have h9 := hkM.tos; omega
  refine ax_newI (k := 1006) (n := 20) (f := (fun j => nI ((fun _ => 0) j))) hx hb (hts _ wd_X6_init_3) hK hP hD hS hk5 (fun _ => nI_0) (by omega) (show 0 + 1 + 1 + 1 ≤ 19 by omega) (show 0 + 5 + 20 + 20 ≤ 1080 by omega) dX6_init_22 (fun L5 H g5 eL5 eg5 hH5 hP hD hS => ?_)
  replace c_o : g5 1000 = .inr (6, [.int (nI 0), .int (nI 0), .int (nI 0), .ref (ad 1003), .int (nI 0), .ref (ad 1005), .null, .null, .null, .null, .int (nI 0), .int (if false = true then 1 else 0), .null, .null, .null, .int (nI 0), .null, .null, .null, .null, .int (nI 0), .null, .int (nI 0), .null, .null, .int (nI 0), .null, .null, .null]) := (cx_ne eg5 1000 (by decide)).trans c_o
  replace hF : ∀ j : Nat, j ∈ [1006, 1005, 1003] → g5 j = ini6 G j := fm_step hF (by decide) (eg_to eg5)
  have hup : ∀ j : Nat, j ∈ L3 → j ∈ L5 := fun j h => by rw [eL5]; exact List.mem_append_left _ h
  replace hLL : ∀ j : Nat, j ∈ L → j ∈ L5 := fun j h => hup j (hLL j h)
  replace m_o : 1000 ∈ L5 := hup _ m_o
  replace hmF : ∀ j : Nat, j ∈ [1006, 1005, 1003] → j ∈ L5 := fun j h => (List.mem_cons.mp h).elim (fun h => by rw [eL5, h]; exact List.mem_append_right _ List.mem_cons_self) (fun h => hup j (hmF j h))
  replace fr : ∀ j : Nat, (j < 1000 ∨ 1029 ≤ j) → g5 j = g j := fun j hj => (cx_ne eg5 j (by omega)).trans (fr j hj)
  replace hA : ∀ q : Nat, cx_A L5 ad sz q → cx_A L ad sz q := fun q hq9 => hA q (cx_A.down (fun j hj => by rw [eL5] at hj; rcases List.mem_append.mp hj with h | h; exact Or.inl h; exact Or.inr (by rw [List.mem_singleton.mp h]; omega)) q hq9)
  replace hH : H.size = sz + 1 + 1 + 1 := by omega
  clear eg5 eL5 hk5 hH5 hup hg5
  refine ax_putFz (k := 1000) (v := .ref (ad 1006)) (fs' := [.int (nI 0), .int (nI 0), .int (nI 0), .ref (ad 1003), .int (nI 0), .ref (ad 1005), .ref (ad 1006), .null, .null, .null, .int (nI 0), .int (if false = true then 1 else 0), .null, .null, .null, .int (nI 0), .null, .null, .null, .null, .int (nI 0), .null, .int (nI 0), .null, .null, .int (nI 0), .null, .null, .null]) hx hb hts in_X6_init_X6 tyX6 tyX6_ok nmX6 hown hK hP hD hS m_o c_o rfl 6 (by decide) (hts _ wd_X6_init_7) (fun _ h9 => h9) rfl hin rfl (ty := (.array .int)) (by decide +kernel) rfl rfl (Nat.le_of_ble_eq_true rfl) rfl dX6_init_24 (fun H locs g6 eg6 hH6 hP hS => ?_)
  have hF : ∀ j : Nat, j ∈ [1006, 1005, 1003] → g6 j = ini6 G j := fun j hj => (cx_ne eg6 j (by rintro rfl; exact absurd hj (by decide))).trans (hF j hj)
  replace c_o : g6 1000 = .inr (6, [.int (nI 0), .int (nI 0), .int (nI 0), .ref (ad 1003), .int (nI 0), .ref (ad 1005), .ref (ad 1006), .null, .null, .null, .int (nI 0), .int (if false = true then 1 else 0), .null, .null, .null, .int (nI 0), .null, .null, .null, .null, .int (nI 0), .null, .int (nI 0), .null, .null, .int (nI 0), .null, .null, .null]) := cx_eq eg6
  replace fr : ∀ j : Nat, (j < 1000 ∨ 1029 ≤ j) → g6 j = g j := fun j hj => (cx_ne eg6 j (by omega)).trans (fr j hj)
  clear eg6
  replace hH : H.size = sz + 1 + 1 + 1 := by omega
  clear hH6
  refine lv_aload_n hx hb dX6_init_27 rfl (lv_at hl 0 rfl) ?_
  refine lv_bipush (v := nI 20) hx hb dX6_init_28 (by decide) ?_
  have hg7 : sz ≤ H.size := Nat.le_trans hz hS.1
  have hk7 : ad 1007 = H.size := by have h9 := hkM.kinds; omega
  refine ax_newI (k := 1007) (n := 20) (f := (fun j => nI ((fun _ => 0) j))) hx hb (hts _ wd_X6_init_3) hK hP hD hS hk7 (fun _ => nI_0) (by omega) (show 0 + 1 + 1 + 1 + 1 ≤ 19 by omega) (show 0 + 5 + 20 + 20 + 20 ≤ 1080 by omega) dX6_init_30 (fun L7 H g7 eL7 eg7 hH7 hP hD hS => ?_)
  replace c_o : g7 1000 = .inr (6, [.int (nI 0), .int (nI 0), .int (nI 0), .ref (ad 1003), .int (nI 0), .ref (ad 1005), .ref (ad 1006), .null, .null, .null, .int (nI 0), .int (if false = true then 1 else 0), .null, .null, .null, .int (nI 0), .null, .null, .null, .null, .int (nI 0), .null, .int (nI 0), .null, .null, .int (nI 0), .null, .null, .null]) := (cx_ne eg7 1000 (by decide)).trans c_o
  replace hF : ∀ j : Nat, j ∈ [1007, 1006, 1005, 1003] → g7 j = ini6 G j := fm_step hF (by decide) (eg_to eg7)
  have hup : ∀ j : Nat, j ∈ L5 → j ∈ L7 := fun j h => by rw [eL7]; exact List.mem_append_left _ h
  replace hLL : ∀ j : Nat, j ∈ L → j ∈ L7 := fun j h => hup j (hLL j h)
  replace m_o : 1000 ∈ L7 := hup _ m_o
  replace hmF : ∀ j : Nat, j ∈ [1007, 1006, 1005, 1003] → j ∈ L7 := fun j h => (List.mem_cons.mp h).elim (fun h => by rw [eL7, h]; exact List.mem_append_right _ List.mem_cons_self) (fun h => hup j (hmF j h))
  replace fr : ∀ j : Nat, (j < 1000 ∨ 1029 ≤ j) → g7 j = g j := fun j hj => (cx_ne eg7 j (by omega)).trans (fr j hj)
  replace hA : ∀ q : Nat, cx_A L7 ad sz q → cx_A L ad sz q := fun q hq9 => hA q (cx_A.down (fun j hj => by rw [eL7] at hj; rcases List.mem_append.mp hj with h | h; exact Or.inl h; exact Or.inr (by rw [List.mem_singleton.mp h]; omega)) q hq9)
  replace hH : H.size = sz + 1 + 1 + 1 + 1 := by omega
  clear eg7 eL7 hk7 hH7 hup hg7
  refine ax_putFz (k := 1000) (v := .ref (ad 1007)) (fs' := [.int (nI 0), .int (nI 0), .int (nI 0), .ref (ad 1003), .int (nI 0), .ref (ad 1005), .ref (ad 1006), .ref (ad 1007), .null, .null, .int (nI 0), .int (if false = true then 1 else 0), .null, .null, .null, .int (nI 0), .null, .null, .null, .null, .int (nI 0), .null, .int (nI 0), .null, .null, .int (nI 0), .null, .null, .null]) hx hb hts in_X6_init_X6 tyX6 tyX6_ok nmX6 hown hK hP hD hS m_o c_o rfl 7 (by decide) (hts _ wd_X6_init_8) (fun _ h9 => h9) rfl hin rfl (ty := (.array .int)) (by decide +kernel) rfl rfl (Nat.le_of_ble_eq_true rfl) rfl dX6_init_32 (fun H locs g8 eg8 hH8 hP hS => ?_)
  have hF : ∀ j : Nat, j ∈ [1007, 1006, 1005, 1003] → g8 j = ini6 G j := fun j hj => (cx_ne eg8 j (by rintro rfl; exact absurd hj (by decide))).trans (hF j hj)
  replace c_o : g8 1000 = .inr (6, [.int (nI 0), .int (nI 0), .int (nI 0), .ref (ad 1003), .int (nI 0), .ref (ad 1005), .ref (ad 1006), .ref (ad 1007), .null, .null, .int (nI 0), .int (if false = true then 1 else 0), .null, .null, .null, .int (nI 0), .null, .null, .null, .null, .int (nI 0), .null, .int (nI 0), .null, .null, .int (nI 0), .null, .null, .null]) := cx_eq eg8
  replace fr : ∀ j : Nat, (j < 1000 ∨ 1029 ≤ j) → g8 j = g j := fun j hj => (cx_ne eg8 j (by omega)).trans (fr j hj)
  clear eg8
  replace hH : H.size = sz + 1 + 1 + 1 + 1 := by omega
  clear hH8
  refine lv_aload_n hx hb dX6_init_35 rfl (lv_at hl 0 rfl) ?_
  refine lv_bipush (v := nI 20) hx hb dX6_init_36 (by decide) ?_
  have hg9 : sz ≤ H.size := Nat.le_trans hz hS.1
  have hk9 : ad 1008 = H.size := by have h9 := hkM.targets; omega
  refine ax_newI (k := 1008) (n := 20) (f := (fun _ => 0)) hx hb (hts _ wd_X6_init_3) hK hP hD hS hk9 (fun _ => rfl) (by omega) (show 0 + 1 + 1 + 1 + 1 + 1 ≤ 19 by omega) (show 0 + 5 + 20 + 20 + 20 + 20 ≤ 1080 by omega) dX6_init_38 (fun L9 H g9 eL9 eg9 hH9 hP hD hS => ?_)
  replace c_o : g9 1000 = .inr (6, [.int (nI 0), .int (nI 0), .int (nI 0), .ref (ad 1003), .int (nI 0), .ref (ad 1005), .ref (ad 1006), .ref (ad 1007), .null, .null, .int (nI 0), .int (if false = true then 1 else 0), .null, .null, .null, .int (nI 0), .null, .null, .null, .null, .int (nI 0), .null, .int (nI 0), .null, .null, .int (nI 0), .null, .null, .null]) := (cx_ne eg9 1000 (by decide)).trans c_o
  replace hF : ∀ j : Nat, j ∈ [1008, 1007, 1006, 1005, 1003] → g9 j = ini6 G j := fm_step hF (by decide) (eg_to eg9)
  have hup : ∀ j : Nat, j ∈ L7 → j ∈ L9 := fun j h => by rw [eL9]; exact List.mem_append_left _ h
  replace hLL : ∀ j : Nat, j ∈ L → j ∈ L9 := fun j h => hup j (hLL j h)
  replace m_o : 1000 ∈ L9 := hup _ m_o
  replace hmF : ∀ j : Nat, j ∈ [1008, 1007, 1006, 1005, 1003] → j ∈ L9 := fun j h => (List.mem_cons.mp h).elim (fun h => by rw [eL9, h]; exact List.mem_append_right _ List.mem_cons_self) (fun h => hup j (hmF j h))
  replace fr : ∀ j : Nat, (j < 1000 ∨ 1029 ≤ j) → g9 j = g j := fun j hj => (cx_ne eg9 j (by omega)).trans (fr j hj)
  replace hA : ∀ q : Nat, cx_A L9 ad sz q → cx_A L ad sz q := fun q hq9 => hA q (cx_A.down (fun j hj => by rw [eL9] at hj; rcases List.mem_append.mp hj with h | h; exact Or.inl h; exact Or.inr (by rw [List.mem_singleton.mp h]; omega)) q hq9)
  replace hH : H.size = sz + 1 + 1 + 1 + 1 + 1 := by omega
  clear eg9 eL9 hk9 hH9 hup hg9
  refine ax_putFz (k := 1000) (v := .ref (ad 1008)) (fs' := [.int (nI 0), .int (nI 0), .int (nI 0), .ref (ad 1003), .int (nI 0), .ref (ad 1005), .ref (ad 1006), .ref (ad 1007), .ref (ad 1008), .null, .int (nI 0), .int (if false = true then 1 else 0), .null, .null, .null, .int (nI 0), .null, .null, .null, .null, .int (nI 0), .null, .int (nI 0), .null, .null, .int (nI 0), .null, .null, .null]) hx hb hts in_X6_init_X6 tyX6 tyX6_ok nmX6 hown hK hP hD hS m_o c_o rfl 8 (by decide) (hts _ wd_X6_init_9) (fun _ h9 => h9) rfl hin rfl (ty := (.array .int)) (by decide +kernel) rfl rfl (Nat.le_of_ble_eq_true rfl) rfl dX6_init_40 (fun H locs g10 eg10 hH10 hP hS => ?_)
  have hF : ∀ j : Nat, j ∈ [1008, 1007, 1006, 1005, 1003] → g10 j = ini6 G j := fun j hj => (cx_ne eg10 j (by rintro rfl; exact absurd hj (by decide))).trans (hF j hj)
  replace c_o : g10 1000 = .inr (6, [.int (nI 0), .int (nI 0), .int (nI 0), .ref (ad 1003), .int (nI 0), .ref (ad 1005), .ref (ad 1006), .ref (ad 1007), .ref (ad 1008), .null, .int (nI 0), .int (if false = true then 1 else 0), .null, .null, .null, .int (nI 0), .null, .null, .null, .null, .int (nI 0), .null, .int (nI 0), .null, .null, .int (nI 0), .null, .null, .null]) := cx_eq eg10
  replace fr : ∀ j : Nat, (j < 1000 ∨ 1029 ≤ j) → g10 j = g j := fun j hj => (cx_ne eg10 j (by omega)).trans (fr j hj)
  clear eg10
  replace hH : H.size = sz + 1 + 1 + 1 + 1 + 1 := by omega
  clear hH10
  refine lv_aload_n hx hb dX6_init_43 rfl (lv_at hl 0 rfl) ?_
  refine lv_bipush (v := nI 100) hx hb dX6_init_44 (by decide) ?_
  have hg11 : sz ≤ H.size := Nat.le_trans hz hS.1
  have hk11 : ad 1009 = H.size := by have h9 := hkM.forms; omega
  refine ax_newI (k := 1009) (n := 100) (f := (fun j => nI ((vN (fun _ => 0)) j))) hx hb (hts _ wd_X6_init_3) hK hP hD hS hk11 (fun _ => nI_0) (by omega) (show 0 + 1 + 1 + 1 + 1 + 1 + 1 ≤ 19 by omega) (show 0 + 5 + 20 + 20 + 20 + 20 + 100 ≤ 1080 by omega) dX6_init_46 (fun L11 H g11 eL11 eg11 hH11 hP hD hS => ?_)
  replace c_o : g11 1000 = .inr (6, [.int (nI 0), .int (nI 0), .int (nI 0), .ref (ad 1003), .int (nI 0), .ref (ad 1005), .ref (ad 1006), .ref (ad 1007), .ref (ad 1008), .null, .int (nI 0), .int (if false = true then 1 else 0), .null, .null, .null, .int (nI 0), .null, .null, .null, .null, .int (nI 0), .null, .int (nI 0), .null, .null, .int (nI 0), .null, .null, .null]) := (cx_ne eg11 1000 (by decide)).trans c_o
  replace hF : ∀ j : Nat, j ∈ [1009, 1008, 1007, 1006, 1005, 1003] → g11 j = ini6 G j := fm_step hF (by decide) (eg_to eg11)
  have hup : ∀ j : Nat, j ∈ L9 → j ∈ L11 := fun j h => by rw [eL11]; exact List.mem_append_left _ h
  replace hLL : ∀ j : Nat, j ∈ L → j ∈ L11 := fun j h => hup j (hLL j h)
  replace m_o : 1000 ∈ L11 := hup _ m_o
  replace hmF : ∀ j : Nat, j ∈ [1009, 1008, 1007, 1006, 1005, 1003] → j ∈ L11 := fun j h => (List.mem_cons.mp h).elim (fun h => by rw [eL11, h]; exact List.mem_append_right _ List.mem_cons_self) (fun h => hup j (hmF j h))
  replace fr : ∀ j : Nat, (j < 1000 ∨ 1029 ≤ j) → g11 j = g j := fun j hj => (cx_ne eg11 j (by omega)).trans (fr j hj)
  replace hA : ∀ q : Nat, cx_A L11 ad sz q → cx_A L ad sz q := fun q hq9 => hA q (cx_A.down (fun j hj => by rw [eL11] at hj; rcases List.mem_append.mp hj with h | h; exact Or.inl h; exact Or.inr (by rw [List.mem_singleton.mp h]; omega)) q hq9)
  replace hH : H.size = sz + 1 + 1 + 1 + 1 + 1 + 1 := by omega
  clear eg11 eL11 hk11 hH11 hup hg11
  refine ax_putFz (k := 1000) (v := .ref (ad 1009)) (fs' := [.int (nI 0), .int (nI 0), .int (nI 0), .ref (ad 1003), .int (nI 0), .ref (ad 1005), .ref (ad 1006), .ref (ad 1007), .ref (ad 1008), .ref (ad 1009), .int (nI 0), .int (if false = true then 1 else 0), .null, .null, .null, .int (nI 0), .null, .null, .null, .null, .int (nI 0), .null, .int (nI 0), .null, .null, .int (nI 0), .null, .null, .null]) hx hb hts in_X6_init_X6 tyX6 tyX6_ok nmX6 hown hK hP hD hS m_o c_o rfl 9 (by decide) (hts _ wd_X6_init_10) (fun _ h9 => h9) rfl hin rfl (ty := (.array .int)) (by decide +kernel) rfl rfl (Nat.le_of_ble_eq_true rfl) rfl dX6_init_48 (fun H locs g12 eg12 hH12 hP hS => ?_)
  have hF : ∀ j : Nat, j ∈ [1009, 1008, 1007, 1006, 1005, 1003] → g12 j = ini6 G j := fun j hj => (cx_ne eg12 j (by rintro rfl; exact absurd hj (by decide))).trans (hF j hj)
  replace c_o : g12 1000 = .inr (6, [.int (nI 0), .int (nI 0), .int (nI 0), .ref (ad 1003), .int (nI 0), .ref (ad 1005), .ref (ad 1006), .ref (ad 1007), .ref (ad 1008), .ref (ad 1009), .int (nI 0), .int (if false = true then 1 else 0), .null, .null, .null, .int (nI 0), .null, .null, .null, .null, .int (nI 0), .null, .int (nI 0), .null, .null, .int (nI 0), .null, .null, .null]) := cx_eq eg12
  replace fr : ∀ j : Nat, (j < 1000 ∨ 1029 ≤ j) → g12 j = g j := fun j hj => (cx_ne eg12 j (by omega)).trans (fr j hj)
  clear eg12
  replace hH : H.size = sz + 1 + 1 + 1 + 1 + 1 + 1 := by omega
  clear hH12
  refine lv_aload_n hx hb dX6_init_51 rfl (lv_at hl 0 rfl) ?_
  refine lv_bipush (v := nI 8) hx hb dX6_init_52 (by decide) ?_
  have hg13 : sz ≤ H.size := Nat.le_trans hz hS.1
  have hk13 : ad 1012 = H.size := by have h9 := hkM.many; omega
  refine ax_newI (k := 1012) (n := 8) (f := (fun j => nI ((fun _ => 0) j))) hx hb (hts _ wd_X6_init_3) hK hP hD hS hk13 (fun _ => nI_0) (by omega) (show 0 + 1 + 1 + 1 + 1 + 1 + 1 + 1 ≤ 19 by omega) (show 0 + 5 + 20 + 20 + 20 + 20 + 100 + 8 ≤ 1080 by omega) dX6_init_54 (fun L13 H g13 eL13 eg13 hH13 hP hD hS => ?_)
  replace c_o : g13 1000 = .inr (6, [.int (nI 0), .int (nI 0), .int (nI 0), .ref (ad 1003), .int (nI 0), .ref (ad 1005), .ref (ad 1006), .ref (ad 1007), .ref (ad 1008), .ref (ad 1009), .int (nI 0), .int (if false = true then 1 else 0), .null, .null, .null, .int (nI 0), .null, .null, .null, .null, .int (nI 0), .null, .int (nI 0), .null, .null, .int (nI 0), .null, .null, .null]) := (cx_ne eg13 1000 (by decide)).trans c_o
  replace hF : ∀ j : Nat, j ∈ [1012, 1009, 1008, 1007, 1006, 1005, 1003] → g13 j = ini6 G j := fm_step hF (by decide) (eg_to eg13)
  have hup : ∀ j : Nat, j ∈ L11 → j ∈ L13 := fun j h => by rw [eL13]; exact List.mem_append_left _ h
  replace hLL : ∀ j : Nat, j ∈ L → j ∈ L13 := fun j h => hup j (hLL j h)
  replace m_o : 1000 ∈ L13 := hup _ m_o
  replace hmF : ∀ j : Nat, j ∈ [1012, 1009, 1008, 1007, 1006, 1005, 1003] → j ∈ L13 := fun j h => (List.mem_cons.mp h).elim (fun h => by rw [eL13, h]; exact List.mem_append_right _ List.mem_cons_self) (fun h => hup j (hmF j h))
  replace fr : ∀ j : Nat, (j < 1000 ∨ 1029 ≤ j) → g13 j = g j := fun j hj => (cx_ne eg13 j (by omega)).trans (fr j hj)
  replace hA : ∀ q : Nat, cx_A L13 ad sz q → cx_A L ad sz q := fun q hq9 => hA q (cx_A.down (fun j hj => by rw [eL13] at hj; rcases List.mem_append.mp hj with h | h; exact Or.inl h; exact Or.inr (by rw [List.mem_singleton.mp h]; omega)) q hq9)
  replace hH : H.size = sz + 1 + 1 + 1 + 1 + 1 + 1 + 1 := by omega
  clear eg13 eL13 hk13 hH13 hup hg13
  refine ax_putFz (k := 1000) (v := .ref (ad 1012)) (fs' := [.int (nI 0), .int (nI 0), .int (nI 0), .ref (ad 1003), .int (nI 0), .ref (ad 1005), .ref (ad 1006), .ref (ad 1007), .ref (ad 1008), .ref (ad 1009), .int (nI 0), .int (if false = true then 1 else 0), .ref (ad 1012), .null, .null, .int (nI 0), .null, .null, .null, .null, .int (nI 0), .null, .int (nI 0), .null, .null, .int (nI 0), .null, .null, .null]) hx hb hts in_X6_init_X6 tyX6 tyX6_ok nmX6 hown hK hP hD hS m_o c_o rfl 12 (by decide) (hts _ wd_X6_init_11) (fun _ h9 => h9) rfl hin rfl (ty := (.array .int)) (by decide +kernel) rfl rfl (Nat.le_of_ble_eq_true rfl) rfl dX6_init_56 (fun H locs g14 eg14 hH14 hP hS => ?_)
  have hF : ∀ j : Nat, j ∈ [1012, 1009, 1008, 1007, 1006, 1005, 1003] → g14 j = ini6 G j := fun j hj => (cx_ne eg14 j (by rintro rfl; exact absurd hj (by decide))).trans (hF j hj)
  replace c_o : g14 1000 = .inr (6, [.int (nI 0), .int (nI 0), .int (nI 0), .ref (ad 1003), .int (nI 0), .ref (ad 1005), .ref (ad 1006), .ref (ad 1007), .ref (ad 1008), .ref (ad 1009), .int (nI 0), .int (if false = true then 1 else 0), .ref (ad 1012), .null, .null, .int (nI 0), .null, .null, .null, .null, .int (nI 0), .null, .int (nI 0), .null, .null, .int (nI 0), .null, .null, .null]) := cx_eq eg14
  replace fr : ∀ j : Nat, (j < 1000 ∨ 1029 ≤ j) → g14 j = g j := fun j hj => (cx_ne eg14 j (by omega)).trans (fr j hj)
  clear eg14
  replace hH : H.size = sz + 1 + 1 + 1 + 1 + 1 + 1 + 1 := by omega
  clear hH14
  refine lv_aload_n hx hb dX6_init_59 rfl (lv_at hl 0 rfl) ?_
  refine lv_sipush (v := nI 200) hx hb dX6_init_60 (by decide) ?_
  have hg15 : sz ≤ H.size := Nat.le_trans hz hS.1
  have hk15 : ad 1013 = H.size := by have h9 := hkM.points; omega
  refine ax_newI (k := 1013) (n := 200) (f := (fun j => nI ((vN (fun _ => 0)) j))) hx hb (hts _ wd_X6_init_3) hK hP hD hS hk15 (fun _ => nI_0) (by omega) (show 0 + 1 + 1 + 1 + 1 + 1 + 1 + 1 + 1 ≤ 19 by omega) (show 0 + 5 + 20 + 20 + 20 + 20 + 100 + 8 + 200 ≤ 1080 by omega) dX6_init_63 (fun L15 H g15 eL15 eg15 hH15 hP hD hS => ?_)
  replace c_o : g15 1000 = .inr (6, [.int (nI 0), .int (nI 0), .int (nI 0), .ref (ad 1003), .int (nI 0), .ref (ad 1005), .ref (ad 1006), .ref (ad 1007), .ref (ad 1008), .ref (ad 1009), .int (nI 0), .int (if false = true then 1 else 0), .ref (ad 1012), .null, .null, .int (nI 0), .null, .null, .null, .null, .int (nI 0), .null, .int (nI 0), .null, .null, .int (nI 0), .null, .null, .null]) := (cx_ne eg15 1000 (by decide)).trans c_o
  replace hF : ∀ j : Nat, j ∈ [1013, 1012, 1009, 1008, 1007, 1006, 1005, 1003] → g15 j = ini6 G j := fm_step hF (by decide) (eg_to eg15)
  have hup : ∀ j : Nat, j ∈ L13 → j ∈ L15 := fun j h => by rw [eL15]; exact List.mem_append_left _ h
  replace hLL : ∀ j : Nat, j ∈ L → j ∈ L15 := fun j h => hup j (hLL j h)
  replace m_o : 1000 ∈ L15 := hup _ m_o
  replace hmF : ∀ j : Nat, j ∈ [1013, 1012, 1009, 1008, 1007, 1006, 1005, 1003] → j ∈ L15 := fun j h => (List.mem_cons.mp h).elim (fun h => by rw [eL15, h]; exact List.mem_append_right _ List.mem_cons_self) (fun h => hup j (hmF j h))
  replace fr : ∀ j : Nat, (j < 1000 ∨ 1029 ≤ j) → g15 j = g j := fun j hj => (cx_ne eg15 j (by omega)).trans (fr j hj)
  replace hA : ∀ q : Nat, cx_A L15 ad sz q → cx_A L ad sz q := fun q hq9 => hA q (cx_A.down (fun j hj => by rw [eL15] at hj; rcases List.mem_append.mp hj with h | h; exact Or.inl h; exact Or.inr (by rw [List.mem_singleton.mp h]; omega)) q hq9)
  replace hH : H.size = sz + 1 + 1 + 1 + 1 + 1 + 1 + 1 + 1 := by omega
  clear eg15 eL15 hk15 hH15 hup hg15
  refine ax_putFz (k := 1000) (v := .ref (ad 1013)) (fs' := [.int (nI 0), .int (nI 0), .int (nI 0), .ref (ad 1003), .int (nI 0), .ref (ad 1005), .ref (ad 1006), .ref (ad 1007), .ref (ad 1008), .ref (ad 1009), .int (nI 0), .int (if false = true then 1 else 0), .ref (ad 1012), .ref (ad 1013), .null, .int (nI 0), .null, .null, .null, .null, .int (nI 0), .null, .int (nI 0), .null, .null, .int (nI 0), .null, .null, .null]) hx hb hts in_X6_init_X6 tyX6 tyX6_ok nmX6 hown hK hP hD hS m_o c_o rfl 13 (by decide) (hts _ wd_X6_init_12) (fun _ h9 => h9) rfl hin rfl (ty := (.array .int)) (by decide +kernel) rfl rfl (Nat.le_of_ble_eq_true rfl) rfl dX6_init_65 (fun H locs g16 eg16 hH16 hP hS => ?_)
  have hF : ∀ j : Nat, j ∈ [1013, 1012, 1009, 1008, 1007, 1006, 1005, 1003] → g16 j = ini6 G j := fun j hj => (cx_ne eg16 j (by rintro rfl; exact absurd hj (by decide))).trans (hF j hj)
  replace c_o : g16 1000 = .inr (6, [.int (nI 0), .int (nI 0), .int (nI 0), .ref (ad 1003), .int (nI 0), .ref (ad 1005), .ref (ad 1006), .ref (ad 1007), .ref (ad 1008), .ref (ad 1009), .int (nI 0), .int (if false = true then 1 else 0), .ref (ad 1012), .ref (ad 1013), .null, .int (nI 0), .null, .null, .null, .null, .int (nI 0), .null, .int (nI 0), .null, .null, .int (nI 0), .null, .null, .null]) := cx_eq eg16
  replace fr : ∀ j : Nat, (j < 1000 ∨ 1029 ≤ j) → g16 j = g j := fun j hj => (cx_ne eg16 j (by omega)).trans (fr j hj)
  clear eg16
  replace hH : H.size = sz + 1 + 1 + 1 + 1 + 1 + 1 + 1 + 1 := by omega
  clear hH16
  refine lv_aload_n hx hb dX6_init_68 rfl (lv_at hl 0 rfl) ?_
  refine lv_bipush (v := nI 40) hx hb dX6_init_69 (by decide) ?_
  have hg17 : sz ≤ H.size := Nat.le_trans hz hS.1
  have hk17 : ad 1014 = H.size := by have h9 := hkM.came; omega
  refine ax_newI (k := 1014) (n := 40) (f := (fun _ => 0)) hx hb (hts _ wd_X6_init_3) hK hP hD hS hk17 (fun _ => rfl) (by omega) (show 0 + 1 + 1 + 1 + 1 + 1 + 1 + 1 + 1 + 1 ≤ 19 by omega) (show 0 + 5 + 20 + 20 + 20 + 20 + 100 + 8 + 200 + 40 ≤ 1080 by omega) dX6_init_71 (fun L17 H g17 eL17 eg17 hH17 hP hD hS => ?_)
  replace c_o : g17 1000 = .inr (6, [.int (nI 0), .int (nI 0), .int (nI 0), .ref (ad 1003), .int (nI 0), .ref (ad 1005), .ref (ad 1006), .ref (ad 1007), .ref (ad 1008), .ref (ad 1009), .int (nI 0), .int (if false = true then 1 else 0), .ref (ad 1012), .ref (ad 1013), .null, .int (nI 0), .null, .null, .null, .null, .int (nI 0), .null, .int (nI 0), .null, .null, .int (nI 0), .null, .null, .null]) := (cx_ne eg17 1000 (by decide)).trans c_o
  replace hF : ∀ j : Nat, j ∈ [1014, 1013, 1012, 1009, 1008, 1007, 1006, 1005, 1003] → g17 j = ini6 G j := fm_step hF (by decide) (eg_to eg17)
  have hup : ∀ j : Nat, j ∈ L15 → j ∈ L17 := fun j h => by rw [eL17]; exact List.mem_append_left _ h
  replace hLL : ∀ j : Nat, j ∈ L → j ∈ L17 := fun j h => hup j (hLL j h)
  replace m_o : 1000 ∈ L17 := hup _ m_o
  replace hmF : ∀ j : Nat, j ∈ [1014, 1013, 1012, 1009, 1008, 1007, 1006, 1005, 1003] → j ∈ L17 := fun j h => (List.mem_cons.mp h).elim (fun h => by rw [eL17, h]; exact List.mem_append_right _ List.mem_cons_self) (fun h => hup j (hmF j h))
  replace fr : ∀ j : Nat, (j < 1000 ∨ 1029 ≤ j) → g17 j = g j := fun j hj => (cx_ne eg17 j (by omega)).trans (fr j hj)
  replace hA : ∀ q : Nat, cx_A L17 ad sz q → cx_A L ad sz q := fun q hq9 => hA q (cx_A.down (fun j hj => by rw [eL17] at hj; rcases List.mem_append.mp hj with h | h; exact Or.inl h; exact Or.inr (by rw [List.mem_singleton.mp h]; omega)) q hq9)
  replace hH : H.size = sz + 1 + 1 + 1 + 1 + 1 + 1 + 1 + 1 + 1 := by omega
  clear eg17 eL17 hk17 hH17 hup hg17
  refine ax_putFz (k := 1000) (v := .ref (ad 1014)) (fs' := [.int (nI 0), .int (nI 0), .int (nI 0), .ref (ad 1003), .int (nI 0), .ref (ad 1005), .ref (ad 1006), .ref (ad 1007), .ref (ad 1008), .ref (ad 1009), .int (nI 0), .int (if false = true then 1 else 0), .ref (ad 1012), .ref (ad 1013), .ref (ad 1014), .int (nI 0), .null, .null, .null, .null, .int (nI 0), .null, .int (nI 0), .null, .null, .int (nI 0), .null, .null, .null]) hx hb hts in_X6_init_X6 tyX6 tyX6_ok nmX6 hown hK hP hD hS m_o c_o rfl 14 (by decide) (hts _ wd_X6_init_13) (fun _ h9 => h9) rfl hin rfl (ty := (.array .int)) (by decide +kernel) rfl rfl (Nat.le_of_ble_eq_true rfl) rfl dX6_init_73 (fun H locs g18 eg18 hH18 hP hS => ?_)
  have hF : ∀ j : Nat, j ∈ [1014, 1013, 1012, 1009, 1008, 1007, 1006, 1005, 1003] → g18 j = ini6 G j := fun j hj => (cx_ne eg18 j (by rintro rfl; exact absurd hj (by decide))).trans (hF j hj)
  replace c_o : g18 1000 = .inr (6, [.int (nI 0), .int (nI 0), .int (nI 0), .ref (ad 1003), .int (nI 0), .ref (ad 1005), .ref (ad 1006), .ref (ad 1007), .ref (ad 1008), .ref (ad 1009), .int (nI 0), .int (if false = true then 1 else 0), .ref (ad 1012), .ref (ad 1013), .ref (ad 1014), .int (nI 0), .null, .null, .null, .null, .int (nI 0), .null, .int (nI 0), .null, .null, .int (nI 0), .null, .null, .null]) := cx_eq eg18
  replace fr : ∀ j : Nat, (j < 1000 ∨ 1029 ≤ j) → g18 j = g j := fun j hj => (cx_ne eg18 j (by omega)).trans (fr j hj)
  clear eg18
  replace hH : H.size = sz + 1 + 1 + 1 + 1 + 1 + 1 + 1 + 1 + 1 := by omega
  clear hH18
  refine lv_aload_n hx hb dX6_init_76 rfl (lv_at hl 0 rfl) ?_
  refine lv_bipush (v := nI 41) hx hb dX6_init_77 (by decide) ?_
  have hg19 : sz ≤ H.size := Nat.le_trans hz hS.1
  have hk19 : ad 1016 = H.size := by have h9 := hkM.nodeOf; omega
  refine ax_newI (k := 1016) (n := 41) (f := (fun j => nI ((fun _ => 0) j))) hx hb (hts _ wd_X6_init_3) hK hP hD hS hk19 (fun _ => nI_0) (by omega) (show 0 + 1 + 1 + 1 + 1 + 1 + 1 + 1 + 1 + 1 + 1 ≤ 19 by omega) (show 0 + 5 + 20 + 20 + 20 + 20 + 100 + 8 + 200 + 40 + 41 ≤ 1080 by omega) dX6_init_79 (fun L19 H g19 eL19 eg19 hH19 hP hD hS => ?_)
  replace c_o : g19 1000 = .inr (6, [.int (nI 0), .int (nI 0), .int (nI 0), .ref (ad 1003), .int (nI 0), .ref (ad 1005), .ref (ad 1006), .ref (ad 1007), .ref (ad 1008), .ref (ad 1009), .int (nI 0), .int (if false = true then 1 else 0), .ref (ad 1012), .ref (ad 1013), .ref (ad 1014), .int (nI 0), .null, .null, .null, .null, .int (nI 0), .null, .int (nI 0), .null, .null, .int (nI 0), .null, .null, .null]) := (cx_ne eg19 1000 (by decide)).trans c_o
  replace hF : ∀ j : Nat, j ∈ [1016, 1014, 1013, 1012, 1009, 1008, 1007, 1006, 1005, 1003] → g19 j = ini6 G j := fm_step hF (by decide) (eg_to eg19)
  have hup : ∀ j : Nat, j ∈ L17 → j ∈ L19 := fun j h => by rw [eL19]; exact List.mem_append_left _ h
  replace hLL : ∀ j : Nat, j ∈ L → j ∈ L19 := fun j h => hup j (hLL j h)
  replace m_o : 1000 ∈ L19 := hup _ m_o
  replace hmF : ∀ j : Nat, j ∈ [1016, 1014, 1013, 1012, 1009, 1008, 1007, 1006, 1005, 1003] → j ∈ L19 := fun j h => (List.mem_cons.mp h).elim (fun h => by rw [eL19, h]; exact List.mem_append_right _ List.mem_cons_self) (fun h => hup j (hmF j h))
  replace fr : ∀ j : Nat, (j < 1000 ∨ 1029 ≤ j) → g19 j = g j := fun j hj => (cx_ne eg19 j (by omega)).trans (fr j hj)
  replace hA : ∀ q : Nat, cx_A L19 ad sz q → cx_A L ad sz q := fun q hq9 => hA q (cx_A.down (fun j hj => by rw [eL19] at hj; rcases List.mem_append.mp hj with h | h; exact Or.inl h; exact Or.inr (by rw [List.mem_singleton.mp h]; omega)) q hq9)
  replace hH : H.size = sz + 1 + 1 + 1 + 1 + 1 + 1 + 1 + 1 + 1 + 1 := by omega
  clear eg19 eL19 hk19 hH19 hup hg19
  refine ax_putFz (k := 1000) (v := .ref (ad 1016)) (fs' := [.int (nI 0), .int (nI 0), .int (nI 0), .ref (ad 1003), .int (nI 0), .ref (ad 1005), .ref (ad 1006), .ref (ad 1007), .ref (ad 1008), .ref (ad 1009), .int (nI 0), .int (if false = true then 1 else 0), .ref (ad 1012), .ref (ad 1013), .ref (ad 1014), .int (nI 0), .ref (ad 1016), .null, .null, .null, .int (nI 0), .null, .int (nI 0), .null, .null, .int (nI 0), .null, .null, .null]) hx hb hts in_X6_init_X6 tyX6 tyX6_ok nmX6 hown hK hP hD hS m_o c_o rfl 16 (by decide) (hts _ wd_X6_init_14) (fun _ h9 => h9) rfl hin rfl (ty := (.array .int)) (by decide +kernel) rfl rfl (Nat.le_of_ble_eq_true rfl) rfl dX6_init_81 (fun H locs g20 eg20 hH20 hP hS => ?_)
  have hF : ∀ j : Nat, j ∈ [1016, 1014, 1013, 1012, 1009, 1008, 1007, 1006, 1005, 1003] → g20 j = ini6 G j := fun j hj => (cx_ne eg20 j (by rintro rfl; exact absurd hj (by decide))).trans (hF j hj)
  replace c_o : g20 1000 = .inr (6, [.int (nI 0), .int (nI 0), .int (nI 0), .ref (ad 1003), .int (nI 0), .ref (ad 1005), .ref (ad 1006), .ref (ad 1007), .ref (ad 1008), .ref (ad 1009), .int (nI 0), .int (if false = true then 1 else 0), .ref (ad 1012), .ref (ad 1013), .ref (ad 1014), .int (nI 0), .ref (ad 1016), .null, .null, .null, .int (nI 0), .null, .int (nI 0), .null, .null, .int (nI 0), .null, .null, .null]) := cx_eq eg20
  replace fr : ∀ j : Nat, (j < 1000 ∨ 1029 ≤ j) → g20 j = g j := fun j hj => (cx_ne eg20 j (by omega)).trans (fr j hj)
  clear eg20
  replace hH : H.size = sz + 1 + 1 + 1 + 1 + 1 + 1 + 1 + 1 + 1 + 1 := by omega
  clear hH20
  refine lv_aload_n hx hb dX6_init_84 rfl (lv_at hl 0 rfl) ?_
  refine lv_bipush (v := nI 41) hx hb dX6_init_85 (by decide) ?_
  have hg21 : sz ≤ H.size := Nat.le_trans hz hS.1
  have hk21 : ad 1017 = H.size := by have h9 := hkM.numberOf; omega
  refine ax_newI (k := 1017) (n := 41) (f := (fun j => nI ((fun _ => 0) j))) hx hb (hts _ wd_X6_init_3) hK hP hD hS hk21 (fun _ => nI_0) (by omega) (show 0 + 1 + 1 + 1 + 1 + 1 + 1 + 1 + 1 + 1 + 1 + 1 ≤ 19 by omega) (show 0 + 5 + 20 + 20 + 20 + 20 + 100 + 8 + 200 + 40 + 41 + 41 ≤ 1080 by omega) dX6_init_87 (fun L21 H g21 eL21 eg21 hH21 hP hD hS => ?_)
  replace c_o : g21 1000 = .inr (6, [.int (nI 0), .int (nI 0), .int (nI 0), .ref (ad 1003), .int (nI 0), .ref (ad 1005), .ref (ad 1006), .ref (ad 1007), .ref (ad 1008), .ref (ad 1009), .int (nI 0), .int (if false = true then 1 else 0), .ref (ad 1012), .ref (ad 1013), .ref (ad 1014), .int (nI 0), .ref (ad 1016), .null, .null, .null, .int (nI 0), .null, .int (nI 0), .null, .null, .int (nI 0), .null, .null, .null]) := (cx_ne eg21 1000 (by decide)).trans c_o
  replace hF : ∀ j : Nat, j ∈ [1017, 1016, 1014, 1013, 1012, 1009, 1008, 1007, 1006, 1005, 1003] → g21 j = ini6 G j := fm_step hF (by decide) (eg_to eg21)
  have hup : ∀ j : Nat, j ∈ L19 → j ∈ L21 := fun j h => by rw [eL21]; exact List.mem_append_left _ h
  replace hLL : ∀ j : Nat, j ∈ L → j ∈ L21 := fun j h => hup j (hLL j h)
  replace m_o : 1000 ∈ L21 := hup _ m_o
  replace hmF : ∀ j : Nat, j ∈ [1017, 1016, 1014, 1013, 1012, 1009, 1008, 1007, 1006, 1005, 1003] → j ∈ L21 := fun j h => (List.mem_cons.mp h).elim (fun h => by rw [eL21, h]; exact List.mem_append_right _ List.mem_cons_self) (fun h => hup j (hmF j h))
  replace fr : ∀ j : Nat, (j < 1000 ∨ 1029 ≤ j) → g21 j = g j := fun j hj => (cx_ne eg21 j (by omega)).trans (fr j hj)
  replace hA : ∀ q : Nat, cx_A L21 ad sz q → cx_A L ad sz q := fun q hq9 => hA q (cx_A.down (fun j hj => by rw [eL21] at hj; rcases List.mem_append.mp hj with h | h; exact Or.inl h; exact Or.inr (by rw [List.mem_singleton.mp h]; omega)) q hq9)
  replace hH : H.size = sz + 1 + 1 + 1 + 1 + 1 + 1 + 1 + 1 + 1 + 1 + 1 := by omega
  clear eg21 eL21 hk21 hH21 hup hg21
  refine ax_putFz (k := 1000) (v := .ref (ad 1017)) (fs' := [.int (nI 0), .int (nI 0), .int (nI 0), .ref (ad 1003), .int (nI 0), .ref (ad 1005), .ref (ad 1006), .ref (ad 1007), .ref (ad 1008), .ref (ad 1009), .int (nI 0), .int (if false = true then 1 else 0), .ref (ad 1012), .ref (ad 1013), .ref (ad 1014), .int (nI 0), .ref (ad 1016), .ref (ad 1017), .null, .null, .int (nI 0), .null, .int (nI 0), .null, .null, .int (nI 0), .null, .null, .null]) hx hb hts in_X6_init_X6 tyX6 tyX6_ok nmX6 hown hK hP hD hS m_o c_o rfl 17 (by decide) (hts _ wd_X6_init_15) (fun _ h9 => h9) rfl hin rfl (ty := (.array .int)) (by decide +kernel) rfl rfl (Nat.le_of_ble_eq_true rfl) rfl dX6_init_89 (fun H locs g22 eg22 hH22 hP hS => ?_)
  have hF : ∀ j : Nat, j ∈ [1017, 1016, 1014, 1013, 1012, 1009, 1008, 1007, 1006, 1005, 1003] → g22 j = ini6 G j := fun j hj => (cx_ne eg22 j (by rintro rfl; exact absurd hj (by decide))).trans (hF j hj)
  replace c_o : g22 1000 = .inr (6, [.int (nI 0), .int (nI 0), .int (nI 0), .ref (ad 1003), .int (nI 0), .ref (ad 1005), .ref (ad 1006), .ref (ad 1007), .ref (ad 1008), .ref (ad 1009), .int (nI 0), .int (if false = true then 1 else 0), .ref (ad 1012), .ref (ad 1013), .ref (ad 1014), .int (nI 0), .ref (ad 1016), .ref (ad 1017), .null, .null, .int (nI 0), .null, .int (nI 0), .null, .null, .int (nI 0), .null, .null, .null]) := cx_eq eg22
  replace fr : ∀ j : Nat, (j < 1000 ∨ 1029 ≤ j) → g22 j = g j := fun j hj => (cx_ne eg22 j (by omega)).trans (fr j hj)
  clear eg22
  replace hH : H.size = sz + 1 + 1 + 1 + 1 + 1 + 1 + 1 + 1 + 1 + 1 + 1 := by omega
  clear hH22
  refine lv_aload_n hx hb dX6_init_92 rfl (lv_at hl 0 rfl) ?_
  refine lv_bipush (v := nI 8) hx hb dX6_init_93 (by decide) ?_
  have hg23 : sz ≤ H.size := Nat.le_trans hz hS.1
  have hk23 : ad 1018 = H.size := by have h9 := hkM.rows; omega
  refine ax_newI (k := 1018) (n := 8) (f := (fun j => nI ((fun _ => 0) j))) hx hb (hts _ wd_X6_init_3) hK hP hD hS hk23 (fun _ => nI_0) (by omega) (show 0 + 1 + 1 + 1 + 1 + 1 + 1 + 1 + 1 + 1 + 1 + 1 + 1 ≤ 19 by omega) (show 0 + 5 + 20 + 20 + 20 + 20 + 100 + 8 + 200 + 40 + 41 + 41 + 8 ≤ 1080 by omega) dX6_init_95 (fun L23 H g23 eL23 eg23 hH23 hP hD hS => ?_)
  replace c_o : g23 1000 = .inr (6, [.int (nI 0), .int (nI 0), .int (nI 0), .ref (ad 1003), .int (nI 0), .ref (ad 1005), .ref (ad 1006), .ref (ad 1007), .ref (ad 1008), .ref (ad 1009), .int (nI 0), .int (if false = true then 1 else 0), .ref (ad 1012), .ref (ad 1013), .ref (ad 1014), .int (nI 0), .ref (ad 1016), .ref (ad 1017), .null, .null, .int (nI 0), .null, .int (nI 0), .null, .null, .int (nI 0), .null, .null, .null]) := (cx_ne eg23 1000 (by decide)).trans c_o
  replace hF : ∀ j : Nat, j ∈ [1018, 1017, 1016, 1014, 1013, 1012, 1009, 1008, 1007, 1006, 1005, 1003] → g23 j = ini6 G j := fm_step hF (by decide) (eg_to eg23)
  have hup : ∀ j : Nat, j ∈ L21 → j ∈ L23 := fun j h => by rw [eL23]; exact List.mem_append_left _ h
  replace hLL : ∀ j : Nat, j ∈ L → j ∈ L23 := fun j h => hup j (hLL j h)
  replace m_o : 1000 ∈ L23 := hup _ m_o
  replace hmF : ∀ j : Nat, j ∈ [1018, 1017, 1016, 1014, 1013, 1012, 1009, 1008, 1007, 1006, 1005, 1003] → j ∈ L23 := fun j h => (List.mem_cons.mp h).elim (fun h => by rw [eL23, h]; exact List.mem_append_right _ List.mem_cons_self) (fun h => hup j (hmF j h))
  replace fr : ∀ j : Nat, (j < 1000 ∨ 1029 ≤ j) → g23 j = g j := fun j hj => (cx_ne eg23 j (by omega)).trans (fr j hj)
  replace hA : ∀ q : Nat, cx_A L23 ad sz q → cx_A L ad sz q := fun q hq9 => hA q (cx_A.down (fun j hj => by rw [eL23] at hj; rcases List.mem_append.mp hj with h | h; exact Or.inl h; exact Or.inr (by rw [List.mem_singleton.mp h]; omega)) q hq9)
  replace hH : H.size = sz + 1 + 1 + 1 + 1 + 1 + 1 + 1 + 1 + 1 + 1 + 1 + 1 := by omega
  clear eg23 eL23 hk23 hH23 hup hg23
  refine ax_putFz (k := 1000) (v := .ref (ad 1018)) (fs' := [.int (nI 0), .int (nI 0), .int (nI 0), .ref (ad 1003), .int (nI 0), .ref (ad 1005), .ref (ad 1006), .ref (ad 1007), .ref (ad 1008), .ref (ad 1009), .int (nI 0), .int (if false = true then 1 else 0), .ref (ad 1012), .ref (ad 1013), .ref (ad 1014), .int (nI 0), .ref (ad 1016), .ref (ad 1017), .ref (ad 1018), .null, .int (nI 0), .null, .int (nI 0), .null, .null, .int (nI 0), .null, .null, .null]) hx hb hts in_X6_init_X6 tyX6 tyX6_ok nmX6 hown hK hP hD hS m_o c_o rfl 18 (by decide) (hts _ wd_X6_init_16) (fun _ h9 => h9) rfl hin rfl (ty := (.array .int)) (by decide +kernel) rfl rfl (Nat.le_of_ble_eq_true rfl) rfl dX6_init_97 (fun H locs g24 eg24 hH24 hP hS => ?_)
  have hF : ∀ j : Nat, j ∈ [1018, 1017, 1016, 1014, 1013, 1012, 1009, 1008, 1007, 1006, 1005, 1003] → g24 j = ini6 G j := fun j hj => (cx_ne eg24 j (by rintro rfl; exact absurd hj (by decide))).trans (hF j hj)
  replace c_o : g24 1000 = .inr (6, [.int (nI 0), .int (nI 0), .int (nI 0), .ref (ad 1003), .int (nI 0), .ref (ad 1005), .ref (ad 1006), .ref (ad 1007), .ref (ad 1008), .ref (ad 1009), .int (nI 0), .int (if false = true then 1 else 0), .ref (ad 1012), .ref (ad 1013), .ref (ad 1014), .int (nI 0), .ref (ad 1016), .ref (ad 1017), .ref (ad 1018), .null, .int (nI 0), .null, .int (nI 0), .null, .null, .int (nI 0), .null, .null, .null]) := cx_eq eg24
  replace fr : ∀ j : Nat, (j < 1000 ∨ 1029 ≤ j) → g24 j = g j := fun j hj => (cx_ne eg24 j (by omega)).trans (fr j hj)
  clear eg24
  replace hH : H.size = sz + 1 + 1 + 1 + 1 + 1 + 1 + 1 + 1 + 1 + 1 + 1 + 1 := by omega
  clear hH24
  refine lv_aload_n hx hb dX6_init_100 rfl (lv_at hl 0 rfl) ?_
  refine lv_sipush (v := nI 200) hx hb dX6_init_101 (by decide) ?_
  have hg25 : sz ≤ H.size := Nat.le_trans hz hS.1
  have hk25 : ad 1019 = H.size := by have h9 := hkM.equations; omega
  refine ax_newI (k := 1019) (n := 200) (f := (fun j => nI ((vN (fun _ => 0)) j))) hx hb (hts _ wd_X6_init_3) hK hP hD hS hk25 (fun _ => nI_0) (by omega) (show 0 + 1 + 1 + 1 + 1 + 1 + 1 + 1 + 1 + 1 + 1 + 1 + 1 + 1 ≤ 19 by omega) (show 0 + 5 + 20 + 20 + 20 + 20 + 100 + 8 + 200 + 40 + 41 + 41 + 8 + 200 ≤ 1080 by omega) dX6_init_104 (fun L25 H g25 eL25 eg25 hH25 hP hD hS => ?_)
  replace c_o : g25 1000 = .inr (6, [.int (nI 0), .int (nI 0), .int (nI 0), .ref (ad 1003), .int (nI 0), .ref (ad 1005), .ref (ad 1006), .ref (ad 1007), .ref (ad 1008), .ref (ad 1009), .int (nI 0), .int (if false = true then 1 else 0), .ref (ad 1012), .ref (ad 1013), .ref (ad 1014), .int (nI 0), .ref (ad 1016), .ref (ad 1017), .ref (ad 1018), .null, .int (nI 0), .null, .int (nI 0), .null, .null, .int (nI 0), .null, .null, .null]) := (cx_ne eg25 1000 (by decide)).trans c_o
  replace hF : ∀ j : Nat, j ∈ [1019, 1018, 1017, 1016, 1014, 1013, 1012, 1009, 1008, 1007, 1006, 1005, 1003] → g25 j = ini6 G j := fm_step hF (by decide) (eg_to eg25)
  have hup : ∀ j : Nat, j ∈ L23 → j ∈ L25 := fun j h => by rw [eL25]; exact List.mem_append_left _ h
  replace hLL : ∀ j : Nat, j ∈ L → j ∈ L25 := fun j h => hup j (hLL j h)
  replace m_o : 1000 ∈ L25 := hup _ m_o
  replace hmF : ∀ j : Nat, j ∈ [1019, 1018, 1017, 1016, 1014, 1013, 1012, 1009, 1008, 1007, 1006, 1005, 1003] → j ∈ L25 := fun j h => (List.mem_cons.mp h).elim (fun h => by rw [eL25, h]; exact List.mem_append_right _ List.mem_cons_self) (fun h => hup j (hmF j h))
  replace fr : ∀ j : Nat, (j < 1000 ∨ 1029 ≤ j) → g25 j = g j := fun j hj => (cx_ne eg25 j (by omega)).trans (fr j hj)
  replace hA : ∀ q : Nat, cx_A L25 ad sz q → cx_A L ad sz q := fun q hq9 => hA q (cx_A.down (fun j hj => by rw [eL25] at hj; rcases List.mem_append.mp hj with h | h; exact Or.inl h; exact Or.inr (by rw [List.mem_singleton.mp h]; omega)) q hq9)
  replace hH : H.size = sz + 1 + 1 + 1 + 1 + 1 + 1 + 1 + 1 + 1 + 1 + 1 + 1 + 1 := by omega
  clear eg25 eL25 hk25 hH25 hup hg25
  refine ax_putFz (k := 1000) (v := .ref (ad 1019)) (fs' := [.int (nI 0), .int (nI 0), .int (nI 0), .ref (ad 1003), .int (nI 0), .ref (ad 1005), .ref (ad 1006), .ref (ad 1007), .ref (ad 1008), .ref (ad 1009), .int (nI 0), .int (if false = true then 1 else 0), .ref (ad 1012), .ref (ad 1013), .ref (ad 1014), .int (nI 0), .ref (ad 1016), .ref (ad 1017), .ref (ad 1018), .ref (ad 1019), .int (nI 0), .null, .int (nI 0), .null, .null, .int (nI 0), .null, .null, .null]) hx hb hts in_X6_init_X6 tyX6 tyX6_ok nmX6 hown hK hP hD hS m_o c_o rfl 19 (by decide) (hts _ wd_X6_init_17) (fun _ h9 => h9) rfl hin rfl (ty := (.array .int)) (by decide +kernel) rfl rfl (Nat.le_of_ble_eq_true rfl) rfl dX6_init_106 (fun H locs g26 eg26 hH26 hP hS => ?_)
  have hF : ∀ j : Nat, j ∈ [1019, 1018, 1017, 1016, 1014, 1013, 1012, 1009, 1008, 1007, 1006, 1005, 1003] → g26 j = ini6 G j := fun j hj => (cx_ne eg26 j (by rintro rfl; exact absurd hj (by decide))).trans (hF j hj)
  replace c_o : g26 1000 = .inr (6, [.int (nI 0), .int (nI 0), .int (nI 0), .ref (ad 1003), .int (nI 0), .ref (ad 1005), .ref (ad 1006), .ref (ad 1007), .ref (ad 1008), .ref (ad 1009), .int (nI 0), .int (if false = true then 1 else 0), .ref (ad 1012), .ref (ad 1013), .ref (ad 1014), .int (nI 0), .ref (ad 1016), .ref (ad 1017), .ref (ad 1018), .ref (ad 1019), .int (nI 0), .null, .int (nI 0), .null, .null, .int (nI 0), .null, .null, .null]) := cx_eq eg26
  replace fr : ∀ j : Nat, (j < 1000 ∨ 1029 ≤ j) → g26 j = g j := fun j hj => (cx_ne eg26 j (by omega)).trans (fr j hj)
  clear eg26
  replace hH : H.size = sz + 1 + 1 + 1 + 1 + 1 + 1 + 1 + 1 + 1 + 1 + 1 + 1 + 1 := by omega
  clear hH26
  refine lv_aload_n hx hb dX6_init_109 rfl (lv_at hl 0 rfl) ?_
  refine lv_iconst (v := nI 5) hx hb dX6_init_110 (by decide) ?_
  have hg27 : sz ≤ H.size := Nat.le_trans hz hS.1
  have hk27 : ad 1021 = H.size := by have h9 := hkM.values; omega
  refine ax_newI (k := 1021) (n := 5) (f := (fun j => nI ((vN (fun _ => 0)) j))) hx hb (hts _ wd_X6_init_3) hK hP hD hS hk27 (fun _ => nI_0) (by omega) (show 0 + 1 + 1 + 1 + 1 + 1 + 1 + 1 + 1 + 1 + 1 + 1 + 1 + 1 + 1 ≤ 19 by omega) (show 0 + 5 + 20 + 20 + 20 + 20 + 100 + 8 + 200 + 40 + 41 + 41 + 8 + 200 + 5 ≤ 1080 by omega) dX6_init_111 (fun L27 H g27 eL27 eg27 hH27 hP hD hS => ?_)
  replace c_o : g27 1000 = .inr (6, [.int (nI 0), .int (nI 0), .int (nI 0), .ref (ad 1003), .int (nI 0), .ref (ad 1005), .ref (ad 1006), .ref (ad 1007), .ref (ad 1008), .ref (ad 1009), .int (nI 0), .int (if false = true then 1 else 0), .ref (ad 1012), .ref (ad 1013), .ref (ad 1014), .int (nI 0), .ref (ad 1016), .ref (ad 1017), .ref (ad 1018), .ref (ad 1019), .int (nI 0), .null, .int (nI 0), .null, .null, .int (nI 0), .null, .null, .null]) := (cx_ne eg27 1000 (by decide)).trans c_o
  have hF : ∀ j : Nat, j ∈ [1019, 1018, 1017, 1016, 1014, 1013, 1012, 1009, 1008, 1007, 1006, 1005, 1003] → g27 j = ini6 G j := fun j hj => (cx_ne eg27 j (by rintro rfl; exact absurd hj (by decide))).trans (hF j hj)
  replace c_q21 : g27 1021 = nA G 5 (vN (fun _ => 0)) := cx_eq eg27
  replace fr : ∀ j : Nat, (j < 1000 ∨ 1029 ≤ j) → g27 j = g j := fun j hj => (cx_ne eg27 j (by omega)).trans (fr j hj)
  have hup : ∀ j : Nat, j ∈ L25 → j ∈ L27 := fun j h => by rw [eL27]; exact List.mem_append_left _ h
  replace hLL : ∀ j : Nat, j ∈ L → j ∈ L27 := fun j h => hup j (hLL j h)
  replace m_o : 1000 ∈ L27 := hup _ m_o
  replace hmF : ∀ j : Nat, j ∈ [1019, 1018, 1017, 1016, 1014, 1013, 1012, 1009, 1008, 1007, 1006, 1005, 1003] → j ∈ L27 := fun j a0 => hup _ (hmF j a0)
  have m_q21 : 1021 ∈ L27 := by rw [eL27]; exact List.mem_append_right _ List.mem_cons_self
  replace hA : ∀ q : Nat, cx_A L27 ad sz q → cx_A L ad sz q := fun q hq9 => hA q (cx_A.down (fun j hj => by rw [eL27] at hj; rcases List.mem_append.mp hj with h | h; exact Or.inl h; exact Or.inr (by rw [List.mem_singleton.mp h]; omega)) q hq9)
  replace hH : H.size = sz + 1 + 1 + 1 + 1 + 1 + 1 + 1 + 1 + 1 + 1 + 1 + 1 + 1 + 1 := by omega
  clear eg27 eL27 hk27 hH27 hup hg27
  refine lv_dup hx hb dX6_init_113 rfl ?_
  refine lv_iconst (v := nI 0) hx hb dX6_init_114 (by decide) ?_
  refine lv_iconst (v := nI 1) hx hb dX6_init_115 (by decide) ?_
  refine ax_iastz (k := 1021) (i := 0) (f' := (fun j => nI ((nu (vN (fun _ => 0)) 0 1) j))) hx hb hK hP hD hS m_q21 c_q21 (by omega) (by omega) (up_n _ _ _) dX6_init_116 (fun H locs g28 eg28 hH28 hP hS => ?_)
  replace c_o : g28 1000 = .inr (6, [.int (nI 0), .int (nI 0), .int (nI 0), .ref (ad 1003), .int (nI 0), .ref (ad 1005), .ref (ad 1006), .ref (ad 1007), .ref (ad 1008), .ref (ad 1009), .int (nI 0), .int (if false = true then 1 else 0), .ref (ad 1012), .ref (ad 1013), .ref (ad 1014), .int (nI 0), .ref (ad 1016), .ref (ad 1017), .ref (ad 1018), .ref (ad 1019), .int (nI 0), .null, .int (nI 0), .null, .null, .int (nI 0), .null, .null, .null]) := (cx_ne eg28 1000 (by decide)).trans c_o
  have hF : ∀ j : Nat, j ∈ [1019, 1018, 1017, 1016, 1014, 1013, 1012, 1009, 1008, 1007, 1006, 1005, 1003] → g28 j = ini6 G j := fun j hj => (cx_ne eg28 j (by rintro rfl; exact absurd hj (by decide))).trans (hF j hj)
  replace c_q21 : g28 1021 = nA G 5 (nu (vN (fun _ => 0)) 0 1) := cx_eq eg28
  replace fr : ∀ j : Nat, (j < 1000 ∨ 1029 ≤ j) → g28 j = g j := fun j hj => (cx_ne eg28 j (by omega)).trans (fr j hj)
  clear eg28
  replace hH : H.size = sz + 1 + 1 + 1 + 1 + 1 + 1 + 1 + 1 + 1 + 1 + 1 + 1 + 1 + 1 := by omega
  clear hH28
  refine lv_dup hx hb dX6_init_117 rfl ?_
  refine lv_iconst (v := nI 1) hx hb dX6_init_118 (by decide) ?_
  refine lv_iconst (v := nI 0) hx hb dX6_init_119 (by decide) ?_
  refine ax_iastz (k := 1021) (i := 1) (f' := (fun j => nI ((nu (nu (vN (fun _ => 0)) 0 1) 1 0) j))) hx hb hK hP hD hS m_q21 c_q21 (by omega) (by omega) (up_n _ _ _) dX6_init_120 (fun H locs g29 eg29 hH29 hP hS => ?_)
  replace c_o : g29 1000 = .inr (6, [.int (nI 0), .int (nI 0), .int (nI 0), .ref (ad 1003), .int (nI 0), .ref (ad 1005), .ref (ad 1006), .ref (ad 1007), .ref (ad 1008), .ref (ad 1009), .int (nI 0), .int (if false = true then 1 else 0), .ref (ad 1012), .ref (ad 1013), .ref (ad 1014), .int (nI 0), .ref (ad 1016), .ref (ad 1017), .ref (ad 1018), .ref (ad 1019), .int (nI 0), .null, .int (nI 0), .null, .null, .int (nI 0), .null, .null, .null]) := (cx_ne eg29 1000 (by decide)).trans c_o
  have hF : ∀ j : Nat, j ∈ [1019, 1018, 1017, 1016, 1014, 1013, 1012, 1009, 1008, 1007, 1006, 1005, 1003] → g29 j = ini6 G j := fun j hj => (cx_ne eg29 j (by rintro rfl; exact absurd hj (by decide))).trans (hF j hj)
  replace c_q21 : g29 1021 = nA G 5 (nu (nu (vN (fun _ => 0)) 0 1) 1 0) := cx_eq eg29
  replace fr : ∀ j : Nat, (j < 1000 ∨ 1029 ≤ j) → g29 j = g j := fun j hj => (cx_ne eg29 j (by omega)).trans (fr j hj)
  clear eg29
  replace hH : H.size = sz + 1 + 1 + 1 + 1 + 1 + 1 + 1 + 1 + 1 + 1 + 1 + 1 + 1 + 1 := by omega
  clear hH29
  refine lv_dup hx hb dX6_init_121 rfl ?_
  refine lv_iconst (v := nI 2) hx hb dX6_init_122 (by decide) ?_
  refine lv_iconst (v := nI 0) hx hb dX6_init_123 (by decide) ?_
  refine ax_iastz (k := 1021) (i := 2) (f' := (fun j => nI ((nu (nu (nu (vN (fun _ => 0)) 0 1) 1 0) 2 0) j))) hx hb hK hP hD hS m_q21 c_q21 (by omega) (by omega) (up_n _ _ _) dX6_init_124 (fun H locs g30 eg30 hH30 hP hS => ?_)
  replace c_o : g30 1000 = .inr (6, [.int (nI 0), .int (nI 0), .int (nI 0), .ref (ad 1003), .int (nI 0), .ref (ad 1005), .ref (ad 1006), .ref (ad 1007), .ref (ad 1008), .ref (ad 1009), .int (nI 0), .int (if false = true then 1 else 0), .ref (ad 1012), .ref (ad 1013), .ref (ad 1014), .int (nI 0), .ref (ad 1016), .ref (ad 1017), .ref (ad 1018), .ref (ad 1019), .int (nI 0), .null, .int (nI 0), .null, .null, .int (nI 0), .null, .null, .null]) := (cx_ne eg30 1000 (by decide)).trans c_o
  have hF : ∀ j : Nat, j ∈ [1019, 1018, 1017, 1016, 1014, 1013, 1012, 1009, 1008, 1007, 1006, 1005, 1003] → g30 j = ini6 G j := fun j hj => (cx_ne eg30 j (by rintro rfl; exact absurd hj (by decide))).trans (hF j hj)
  replace c_q21 : g30 1021 = nA G 5 (nu (nu (nu (vN (fun _ => 0)) 0 1) 1 0) 2 0) := cx_eq eg30
  replace fr : ∀ j : Nat, (j < 1000 ∨ 1029 ≤ j) → g30 j = g j := fun j hj => (cx_ne eg30 j (by omega)).trans (fr j hj)
  clear eg30
  replace hH : H.size = sz + 1 + 1 + 1 + 1 + 1 + 1 + 1 + 1 + 1 + 1 + 1 + 1 + 1 + 1 := by omega
  clear hH30
  refine lv_dup hx hb dX6_init_125 rfl ?_
  refine lv_iconst (v := nI 3) hx hb dX6_init_126 (by decide) ?_
  refine lv_iconst (v := nI 0) hx hb dX6_init_127 (by decide) ?_
  refine ax_iastz (k := 1021) (i := 3) (f' := (fun j => nI ((nu (nu (nu (nu (vN (fun _ => 0)) 0 1) 1 0) 2 0) 3 0) j))) hx hb hK hP hD hS m_q21 c_q21 (by omega) (by omega) (up_n _ _ _) dX6_init_128 (fun H locs g31 eg31 hH31 hP hS => ?_)
  replace c_o : g31 1000 = .inr (6, [.int (nI 0), .int (nI 0), .int (nI 0), .ref (ad 1003), .int (nI 0), .ref (ad 1005), .ref (ad 1006), .ref (ad 1007), .ref (ad 1008), .ref (ad 1009), .int (nI 0), .int (if false = true then 1 else 0), .ref (ad 1012), .ref (ad 1013), .ref (ad 1014), .int (nI 0), .ref (ad 1016), .ref (ad 1017), .ref (ad 1018), .ref (ad 1019), .int (nI 0), .null, .int (nI 0), .null, .null, .int (nI 0), .null, .null, .null]) := (cx_ne eg31 1000 (by decide)).trans c_o
  have hF : ∀ j : Nat, j ∈ [1019, 1018, 1017, 1016, 1014, 1013, 1012, 1009, 1008, 1007, 1006, 1005, 1003] → g31 j = ini6 G j := fun j hj => (cx_ne eg31 j (by rintro rfl; exact absurd hj (by decide))).trans (hF j hj)
  replace c_q21 : g31 1021 = nA G 5 (nu (nu (nu (nu (vN (fun _ => 0)) 0 1) 1 0) 2 0) 3 0) := cx_eq eg31
  replace fr : ∀ j : Nat, (j < 1000 ∨ 1029 ≤ j) → g31 j = g j := fun j hj => (cx_ne eg31 j (by omega)).trans (fr j hj)
  clear eg31
  replace hH : H.size = sz + 1 + 1 + 1 + 1 + 1 + 1 + 1 + 1 + 1 + 1 + 1 + 1 + 1 + 1 := by omega
  clear hH31
  refine lv_dup hx hb dX6_init_129 rfl ?_
  refine lv_iconst (v := nI 4) hx hb dX6_init_130 (by decide) ?_
  refine lv_iconst (v := nI 0) hx hb dX6_init_131 (by decide) ?_
  refine ax_iastz (k := 1021) (i := 4) (f' := (fun j => nI ((nu (nu (nu (nu (nu (vN (fun _ => 0)) 0 1) 1 0) 2 0) 3 0) 4 0) j))) hx hb hK hP hD hS m_q21 c_q21 (by omega) (by omega) (up_n _ _ _) dX6_init_132 (fun H locs g32 eg32 hH32 hP hS => ?_)
  replace c_o : g32 1000 = .inr (6, [.int (nI 0), .int (nI 0), .int (nI 0), .ref (ad 1003), .int (nI 0), .ref (ad 1005), .ref (ad 1006), .ref (ad 1007), .ref (ad 1008), .ref (ad 1009), .int (nI 0), .int (if false = true then 1 else 0), .ref (ad 1012), .ref (ad 1013), .ref (ad 1014), .int (nI 0), .ref (ad 1016), .ref (ad 1017), .ref (ad 1018), .ref (ad 1019), .int (nI 0), .null, .int (nI 0), .null, .null, .int (nI 0), .null, .null, .null]) := (cx_ne eg32 1000 (by decide)).trans c_o
  have hF : ∀ j : Nat, j ∈ [1019, 1018, 1017, 1016, 1014, 1013, 1012, 1009, 1008, 1007, 1006, 1005, 1003] → g32 j = ini6 G j := fun j hj => (cx_ne eg32 j (by rintro rfl; exact absurd hj (by decide))).trans (hF j hj)
  replace c_q21 : g32 1021 = nA G 5 (nu (nu (nu (nu (nu (vN (fun _ => 0)) 0 1) 1 0) 2 0) 3 0) 4 0) := cx_eq eg32
  replace fr : ∀ j : Nat, (j < 1000 ∨ 1029 ≤ j) → g32 j = g j := fun j hj => (cx_ne eg32 j (by omega)).trans (fr j hj)
  clear eg32
  replace hH : H.size = sz + 1 + 1 + 1 + 1 + 1 + 1 + 1 + 1 + 1 + 1 + 1 + 1 + 1 + 1 := by omega
  clear hH32
  replace c_q21 : g32 1021 = nA G 5 (vN (nu (fun _ => 0) 0 1)) := c_q21.trans (congrArg (nA G 5) va_ini)
  refine ax_putFz (k := 1000) (v := .ref (ad 1021)) (fs' := [.int (nI 0), .int (nI 0), .int (nI 0), .ref (ad 1003), .int (nI 0), .ref (ad 1005), .ref (ad 1006), .ref (ad 1007), .ref (ad 1008), .ref (ad 1009), .int (nI 0), .int (if false = true then 1 else 0), .ref (ad 1012), .ref (ad 1013), .ref (ad 1014), .int (nI 0), .ref (ad 1016), .ref (ad 1017), .ref (ad 1018), .ref (ad 1019), .int (nI 0), .ref (ad 1021), .int (nI 0), .null, .null, .int (nI 0), .null, .null, .null]) hx hb hts in_X6_init_X6 tyX6 tyX6_ok nmX6 hown hK hP hD hS m_o c_o rfl 21 (by decide) (hts _ wd_X6_init_18) (fun _ h9 => h9) rfl hin rfl (ty := (.array .int)) (by decide +kernel) rfl rfl (Nat.le_of_ble_eq_true rfl) rfl dX6_init_133 (fun H locs g33 eg33 hH33 hP hS => ?_)
  replace c_q21 : g33 1021 = nA G 5 (vN (nu (fun _ => 0) 0 1)) := (cx_ne eg33 1021 (by decide)).trans c_q21
  have hF : ∀ j : Nat, j ∈ [1019, 1018, 1017, 1016, 1014, 1013, 1012, 1009, 1008, 1007, 1006, 1005, 1003] → g33 j = ini6 G j := fun j hj => (cx_ne eg33 j (by rintro rfl; exact absurd hj (by decide))).trans (hF j hj)
  replace c_o : g33 1000 = .inr (6, [.int (nI 0), .int (nI 0), .int (nI 0), .ref (ad 1003), .int (nI 0), .ref (ad 1005), .ref (ad 1006), .ref (ad 1007), .ref (ad 1008), .ref (ad 1009), .int (nI 0), .int (if false = true then 1 else 0), .ref (ad 1012), .ref (ad 1013), .ref (ad 1014), .int (nI 0), .ref (ad 1016), .ref (ad 1017), .ref (ad 1018), .ref (ad 1019), .int (nI 0), .ref (ad 1021), .int (nI 0), .null, .null, .int (nI 0), .null, .null, .null]) := cx_eq eg33
  replace fr : ∀ j : Nat, (j < 1000 ∨ 1029 ≤ j) → g33 j = g j := fun j hj => (cx_ne eg33 j (by omega)).trans (fr j hj)
  clear eg33
  replace hH : H.size = sz + 1 + 1 + 1 + 1 + 1 + 1 + 1 + 1 + 1 + 1 + 1 + 1 + 1 + 1 := by omega
  clear hH33
  refine lv_aload_n hx hb dX6_init_136 rfl (lv_at hl 0 rfl) ?_
  refine lv_bipush (v := nI 24) hx hb dX6_init_137 (by decide) ?_
  have hg34 : sz ≤ H.size := Nat.le_trans hz hS.1
  have hk34 : ad 1023 = H.size := by have h9 := hkM.noteNode; omega
  refine ax_newI (k := 1023) (n := 24) (f := (fun j => nI ((fun _ => 0) j))) hx hb (hts _ wd_X6_init_3) hK hP hD hS hk34 (fun _ => nI_0) (by omega) (show 0 + 1 + 1 + 1 + 1 + 1 + 1 + 1 + 1 + 1 + 1 + 1 + 1 + 1 + 1 + 1 ≤ 19 by omega) (show 0 + 5 + 20 + 20 + 20 + 20 + 100 + 8 + 200 + 40 + 41 + 41 + 8 + 200 + 5 + 24 ≤ 1080 by omega) dX6_init_139 (fun L34 H g34 eL34 eg34 hH34 hP hD hS => ?_)
  replace c_o : g34 1000 = .inr (6, [.int (nI 0), .int (nI 0), .int (nI 0), .ref (ad 1003), .int (nI 0), .ref (ad 1005), .ref (ad 1006), .ref (ad 1007), .ref (ad 1008), .ref (ad 1009), .int (nI 0), .int (if false = true then 1 else 0), .ref (ad 1012), .ref (ad 1013), .ref (ad 1014), .int (nI 0), .ref (ad 1016), .ref (ad 1017), .ref (ad 1018), .ref (ad 1019), .int (nI 0), .ref (ad 1021), .int (nI 0), .null, .null, .int (nI 0), .null, .null, .null]) := (cx_ne eg34 1000 (by decide)).trans c_o
  replace c_q21 : g34 1021 = nA G 5 (vN (nu (fun _ => 0) 0 1)) := (cx_ne eg34 1021 (by decide)).trans c_q21
  replace hF : ∀ j : Nat, j ∈ [1023, 1019, 1018, 1017, 1016, 1014, 1013, 1012, 1009, 1008, 1007, 1006, 1005, 1003] → g34 j = ini6 G j := fm_step hF (by decide) (eg_to eg34)
  have hup : ∀ j : Nat, j ∈ L27 → j ∈ L34 := fun j h => by rw [eL34]; exact List.mem_append_left _ h
  replace hLL : ∀ j : Nat, j ∈ L → j ∈ L34 := fun j h => hup j (hLL j h)
  replace m_o : 1000 ∈ L34 := hup _ m_o
  replace m_q21 : 1021 ∈ L34 := hup _ m_q21
  replace hmF : ∀ j : Nat, j ∈ [1023, 1019, 1018, 1017, 1016, 1014, 1013, 1012, 1009, 1008, 1007, 1006, 1005, 1003] → j ∈ L34 := fun j h => (List.mem_cons.mp h).elim (fun h => by rw [eL34, h]; exact List.mem_append_right _ List.mem_cons_self) (fun h => hup j (hmF j h))
  replace fr : ∀ j : Nat, (j < 1000 ∨ 1029 ≤ j) → g34 j = g j := fun j hj => (cx_ne eg34 j (by omega)).trans (fr j hj)
  replace hA : ∀ q : Nat, cx_A L34 ad sz q → cx_A L ad sz q := fun q hq9 => hA q (cx_A.down (fun j hj => by rw [eL34] at hj; rcases List.mem_append.mp hj with h | h; exact Or.inl h; exact Or.inr (by rw [List.mem_singleton.mp h]; omega)) q hq9)
  replace hH : H.size = sz + 1 + 1 + 1 + 1 + 1 + 1 + 1 + 1 + 1 + 1 + 1 + 1 + 1 + 1 + 1 := by omega
  clear eg34 eL34 hk34 hH34 hup hg34
  refine ax_putFz (k := 1000) (v := .ref (ad 1023)) (fs' := [.int (nI 0), .int (nI 0), .int (nI 0), .ref (ad 1003), .int (nI 0), .ref (ad 1005), .ref (ad 1006), .ref (ad 1007), .ref (ad 1008), .ref (ad 1009), .int (nI 0), .int (if false = true then 1 else 0), .ref (ad 1012), .ref (ad 1013), .ref (ad 1014), .int (nI 0), .ref (ad 1016), .ref (ad 1017), .ref (ad 1018), .ref (ad 1019), .int (nI 0), .ref (ad 1021), .int (nI 0), .ref (ad 1023), .null, .int (nI 0), .null, .null, .null]) hx hb hts in_X6_init_X6 tyX6 tyX6_ok nmX6 hown hK hP hD hS m_o c_o rfl 23 (by decide) (hts _ wd_X6_init_19) (fun _ h9 => h9) rfl hin rfl (ty := (.array .int)) (by decide +kernel) rfl rfl (Nat.le_of_ble_eq_true rfl) rfl dX6_init_141 (fun H locs g35 eg35 hH35 hP hS => ?_)
  replace c_q21 : g35 1021 = nA G 5 (vN (nu (fun _ => 0) 0 1)) := (cx_ne eg35 1021 (by decide)).trans c_q21
  have hF : ∀ j : Nat, j ∈ [1023, 1019, 1018, 1017, 1016, 1014, 1013, 1012, 1009, 1008, 1007, 1006, 1005, 1003] → g35 j = ini6 G j := fun j hj => (cx_ne eg35 j (by rintro rfl; exact absurd hj (by decide))).trans (hF j hj)
  replace c_o : g35 1000 = .inr (6, [.int (nI 0), .int (nI 0), .int (nI 0), .ref (ad 1003), .int (nI 0), .ref (ad 1005), .ref (ad 1006), .ref (ad 1007), .ref (ad 1008), .ref (ad 1009), .int (nI 0), .int (if false = true then 1 else 0), .ref (ad 1012), .ref (ad 1013), .ref (ad 1014), .int (nI 0), .ref (ad 1016), .ref (ad 1017), .ref (ad 1018), .ref (ad 1019), .int (nI 0), .ref (ad 1021), .int (nI 0), .ref (ad 1023), .null, .int (nI 0), .null, .null, .null]) := cx_eq eg35
  replace fr : ∀ j : Nat, (j < 1000 ∨ 1029 ≤ j) → g35 j = g j := fun j hj => (cx_ne eg35 j (by omega)).trans (fr j hj)
  clear eg35
  replace hH : H.size = sz + 1 + 1 + 1 + 1 + 1 + 1 + 1 + 1 + 1 + 1 + 1 + 1 + 1 + 1 + 1 := by omega
  clear hH35
  refine lv_aload_n hx hb dX6_init_144 rfl (lv_at hl 0 rfl) ?_
  refine lv_bipush (v := nI 120) hx hb dX6_init_145 (by decide) ?_
  have hg36 : sz ≤ H.size := Nat.le_trans hz hS.1
  have hk36 : ad 1024 = H.size := by have h9 := hkM.noteForm; omega
  refine ax_newI (k := 1024) (n := 120) (f := (fun j => nI ((vN (fun _ => 0)) j))) hx hb (hts _ wd_X6_init_3) hK hP hD hS hk36 (fun _ => nI_0) (by omega) (show 0 + 1 + 1 + 1 + 1 + 1 + 1 + 1 + 1 + 1 + 1 + 1 + 1 + 1 + 1 + 1 + 1 ≤ 19 by omega) (show 0 + 5 + 20 + 20 + 20 + 20 + 100 + 8 + 200 + 40 + 41 + 41 + 8 + 200 + 5 + 24 + 120 ≤ 1080 by omega) dX6_init_147 (fun L36 H g36 eL36 eg36 hH36 hP hD hS => ?_)
  replace c_o : g36 1000 = .inr (6, [.int (nI 0), .int (nI 0), .int (nI 0), .ref (ad 1003), .int (nI 0), .ref (ad 1005), .ref (ad 1006), .ref (ad 1007), .ref (ad 1008), .ref (ad 1009), .int (nI 0), .int (if false = true then 1 else 0), .ref (ad 1012), .ref (ad 1013), .ref (ad 1014), .int (nI 0), .ref (ad 1016), .ref (ad 1017), .ref (ad 1018), .ref (ad 1019), .int (nI 0), .ref (ad 1021), .int (nI 0), .ref (ad 1023), .null, .int (nI 0), .null, .null, .null]) := (cx_ne eg36 1000 (by decide)).trans c_o
  replace c_q21 : g36 1021 = nA G 5 (vN (nu (fun _ => 0) 0 1)) := (cx_ne eg36 1021 (by decide)).trans c_q21
  replace hF : ∀ j : Nat, j ∈ [1024, 1023, 1019, 1018, 1017, 1016, 1014, 1013, 1012, 1009, 1008, 1007, 1006, 1005, 1003] → g36 j = ini6 G j := fm_step hF (by decide) (eg_to eg36)
  have hup : ∀ j : Nat, j ∈ L34 → j ∈ L36 := fun j h => by rw [eL36]; exact List.mem_append_left _ h
  replace hLL : ∀ j : Nat, j ∈ L → j ∈ L36 := fun j h => hup j (hLL j h)
  replace m_o : 1000 ∈ L36 := hup _ m_o
  replace m_q21 : 1021 ∈ L36 := hup _ m_q21
  replace hmF : ∀ j : Nat, j ∈ [1024, 1023, 1019, 1018, 1017, 1016, 1014, 1013, 1012, 1009, 1008, 1007, 1006, 1005, 1003] → j ∈ L36 := fun j h => (List.mem_cons.mp h).elim (fun h => by rw [eL36, h]; exact List.mem_append_right _ List.mem_cons_self) (fun h => hup j (hmF j h))
  replace fr : ∀ j : Nat, (j < 1000 ∨ 1029 ≤ j) → g36 j = g j := fun j hj => (cx_ne eg36 j (by omega)).trans (fr j hj)
  replace hA : ∀ q : Nat, cx_A L36 ad sz q → cx_A L ad sz q := fun q hq9 => hA q (cx_A.down (fun j hj => by rw [eL36] at hj; rcases List.mem_append.mp hj with h | h; exact Or.inl h; exact Or.inr (by rw [List.mem_singleton.mp h]; omega)) q hq9)
  replace hH : H.size = sz + 1 + 1 + 1 + 1 + 1 + 1 + 1 + 1 + 1 + 1 + 1 + 1 + 1 + 1 + 1 + 1 := by omega
  clear eg36 eL36 hk36 hH36 hup hg36
  refine ax_putFz (k := 1000) (v := .ref (ad 1024)) (fs' := [.int (nI 0), .int (nI 0), .int (nI 0), .ref (ad 1003), .int (nI 0), .ref (ad 1005), .ref (ad 1006), .ref (ad 1007), .ref (ad 1008), .ref (ad 1009), .int (nI 0), .int (if false = true then 1 else 0), .ref (ad 1012), .ref (ad 1013), .ref (ad 1014), .int (nI 0), .ref (ad 1016), .ref (ad 1017), .ref (ad 1018), .ref (ad 1019), .int (nI 0), .ref (ad 1021), .int (nI 0), .ref (ad 1023), .ref (ad 1024), .int (nI 0), .null, .null, .null]) hx hb hts in_X6_init_X6 tyX6 tyX6_ok nmX6 hown hK hP hD hS m_o c_o rfl 24 (by decide) (hts _ wd_X6_init_20) (fun _ h9 => h9) rfl hin rfl (ty := (.array .int)) (by decide +kernel) rfl rfl (Nat.le_of_ble_eq_true rfl) rfl dX6_init_149 (fun H locs g37 eg37 hH37 hP hS => ?_)
  replace c_q21 : g37 1021 = nA G 5 (vN (nu (fun _ => 0) 0 1)) := (cx_ne eg37 1021 (by decide)).trans c_q21
  have hF : ∀ j : Nat, j ∈ [1024, 1023, 1019, 1018, 1017, 1016, 1014, 1013, 1012, 1009, 1008, 1007, 1006, 1005, 1003] → g37 j = ini6 G j := fun j hj => (cx_ne eg37 j (by rintro rfl; exact absurd hj (by decide))).trans (hF j hj)
  replace c_o : g37 1000 = .inr (6, [.int (nI 0), .int (nI 0), .int (nI 0), .ref (ad 1003), .int (nI 0), .ref (ad 1005), .ref (ad 1006), .ref (ad 1007), .ref (ad 1008), .ref (ad 1009), .int (nI 0), .int (if false = true then 1 else 0), .ref (ad 1012), .ref (ad 1013), .ref (ad 1014), .int (nI 0), .ref (ad 1016), .ref (ad 1017), .ref (ad 1018), .ref (ad 1019), .int (nI 0), .ref (ad 1021), .int (nI 0), .ref (ad 1023), .ref (ad 1024), .int (nI 0), .null, .null, .null]) := cx_eq eg37
  replace fr : ∀ j : Nat, (j < 1000 ∨ 1029 ≤ j) → g37 j = g j := fun j hj => (cx_ne eg37 j (by omega)).trans (fr j hj)
  clear eg37
  replace hH : H.size = sz + 1 + 1 + 1 + 1 + 1 + 1 + 1 + 1 + 1 + 1 + 1 + 1 + 1 + 1 + 1 + 1 := by omega
  clear hH37
  refine lv_aload_n hx hb dX6_init_152 rfl (lv_at hl 0 rfl) ?_
  refine lv_sipush (v := nI 150) hx hb dX6_init_153 (by decide) ?_
  have hg38 : sz ≤ H.size := Nat.le_trans hz hS.1
  have hk38 : ad 1026 = H.size := by have h9 := hkM.table; omega
  refine ax_newI (k := 1026) (n := 150) (f := (fun j => nI ((vN (fun _ => 0)) j))) hx hb (hts _ wd_X6_init_3) hK hP hD hS hk38 (fun _ => nI_0) (by omega) (show 0 + 1 + 1 + 1 + 1 + 1 + 1 + 1 + 1 + 1 + 1 + 1 + 1 + 1 + 1 + 1 + 1 + 1 ≤ 19 by omega) (show 0 + 5 + 20 + 20 + 20 + 20 + 100 + 8 + 200 + 40 + 41 + 41 + 8 + 200 + 5 + 24 + 120 + 150 ≤ 1080 by omega) dX6_init_156 (fun L38 H g38 eL38 eg38 hH38 hP hD hS => ?_)
  replace c_o : g38 1000 = .inr (6, [.int (nI 0), .int (nI 0), .int (nI 0), .ref (ad 1003), .int (nI 0), .ref (ad 1005), .ref (ad 1006), .ref (ad 1007), .ref (ad 1008), .ref (ad 1009), .int (nI 0), .int (if false = true then 1 else 0), .ref (ad 1012), .ref (ad 1013), .ref (ad 1014), .int (nI 0), .ref (ad 1016), .ref (ad 1017), .ref (ad 1018), .ref (ad 1019), .int (nI 0), .ref (ad 1021), .int (nI 0), .ref (ad 1023), .ref (ad 1024), .int (nI 0), .null, .null, .null]) := (cx_ne eg38 1000 (by decide)).trans c_o
  replace c_q21 : g38 1021 = nA G 5 (vN (nu (fun _ => 0) 0 1)) := (cx_ne eg38 1021 (by decide)).trans c_q21
  replace hF : ∀ j : Nat, j ∈ [1026, 1024, 1023, 1019, 1018, 1017, 1016, 1014, 1013, 1012, 1009, 1008, 1007, 1006, 1005, 1003] → g38 j = ini6 G j := fm_step hF (by decide) (eg_to eg38)
  have hup : ∀ j : Nat, j ∈ L36 → j ∈ L38 := fun j h => by rw [eL38]; exact List.mem_append_left _ h
  replace hLL : ∀ j : Nat, j ∈ L → j ∈ L38 := fun j h => hup j (hLL j h)
  replace m_o : 1000 ∈ L38 := hup _ m_o
  replace m_q21 : 1021 ∈ L38 := hup _ m_q21
  replace hmF : ∀ j : Nat, j ∈ [1026, 1024, 1023, 1019, 1018, 1017, 1016, 1014, 1013, 1012, 1009, 1008, 1007, 1006, 1005, 1003] → j ∈ L38 := fun j h => (List.mem_cons.mp h).elim (fun h => by rw [eL38, h]; exact List.mem_append_right _ List.mem_cons_self) (fun h => hup j (hmF j h))
  replace fr : ∀ j : Nat, (j < 1000 ∨ 1029 ≤ j) → g38 j = g j := fun j hj => (cx_ne eg38 j (by omega)).trans (fr j hj)
  replace hA : ∀ q : Nat, cx_A L38 ad sz q → cx_A L ad sz q := fun q hq9 => hA q (cx_A.down (fun j hj => by rw [eL38] at hj; rcases List.mem_append.mp hj with h | h; exact Or.inl h; exact Or.inr (by rw [List.mem_singleton.mp h]; omega)) q hq9)
  replace hH : H.size = sz + 1 + 1 + 1 + 1 + 1 + 1 + 1 + 1 + 1 + 1 + 1 + 1 + 1 + 1 + 1 + 1 + 1 := by omega
  clear eg38 eL38 hk38 hH38 hup hg38
  refine ax_putFz (k := 1000) (v := .ref (ad 1026)) (fs' := [.int (nI 0), .int (nI 0), .int (nI 0), .ref (ad 1003), .int (nI 0), .ref (ad 1005), .ref (ad 1006), .ref (ad 1007), .ref (ad 1008), .ref (ad 1009), .int (nI 0), .int (if false = true then 1 else 0), .ref (ad 1012), .ref (ad 1013), .ref (ad 1014), .int (nI 0), .ref (ad 1016), .ref (ad 1017), .ref (ad 1018), .ref (ad 1019), .int (nI 0), .ref (ad 1021), .int (nI 0), .ref (ad 1023), .ref (ad 1024), .int (nI 0), .ref (ad 1026), .null, .null]) hx hb hts in_X6_init_X6 tyX6 tyX6_ok nmX6 hown hK hP hD hS m_o c_o rfl 26 (by decide) (hts _ wd_X6_init_21) (fun _ h9 => h9) rfl hin rfl (ty := (.array .int)) (by decide +kernel) rfl rfl (Nat.le_of_ble_eq_true rfl) rfl dX6_init_158 (fun H locs g39 eg39 hH39 hP hS => ?_)
  replace c_q21 : g39 1021 = nA G 5 (vN (nu (fun _ => 0) 0 1)) := (cx_ne eg39 1021 (by decide)).trans c_q21
  have hF : ∀ j : Nat, j ∈ [1026, 1024, 1023, 1019, 1018, 1017, 1016, 1014, 1013, 1012, 1009, 1008, 1007, 1006, 1005, 1003] → g39 j = ini6 G j := fun j hj => (cx_ne eg39 j (by rintro rfl; exact absurd hj (by decide))).trans (hF j hj)
  replace c_o : g39 1000 = .inr (6, [.int (nI 0), .int (nI 0), .int (nI 0), .ref (ad 1003), .int (nI 0), .ref (ad 1005), .ref (ad 1006), .ref (ad 1007), .ref (ad 1008), .ref (ad 1009), .int (nI 0), .int (if false = true then 1 else 0), .ref (ad 1012), .ref (ad 1013), .ref (ad 1014), .int (nI 0), .ref (ad 1016), .ref (ad 1017), .ref (ad 1018), .ref (ad 1019), .int (nI 0), .ref (ad 1021), .int (nI 0), .ref (ad 1023), .ref (ad 1024), .int (nI 0), .ref (ad 1026), .null, .null]) := cx_eq eg39
  replace fr : ∀ j : Nat, (j < 1000 ∨ 1029 ≤ j) → g39 j = g j := fun j hj => (cx_ne eg39 j (by omega)).trans (fr j hj)
  clear eg39
  replace hH : H.size = sz + 1 + 1 + 1 + 1 + 1 + 1 + 1 + 1 + 1 + 1 + 1 + 1 + 1 + 1 + 1 + 1 + 1 := by omega
  clear hH39
  refine lv_aload_n hx hb dX6_init_161 rfl (lv_at hl 0 rfl) ?_
  refine lv_iconst (v := nI 5) hx hb dX6_init_162 (by decide) ?_
  have hg40 : sz ≤ H.size := Nat.le_trans hz hS.1
  have hk40 : ad 1027 = H.size := by have h9 := hkM.pivots; omega
  refine ax_newI (k := 1027) (n := 5) (f := (fun _ => 0)) hx hb (hts _ wd_X6_init_3) hK hP hD hS hk40 (fun _ => rfl) (by omega) (show 0 + 1 + 1 + 1 + 1 + 1 + 1 + 1 + 1 + 1 + 1 + 1 + 1 + 1 + 1 + 1 + 1 + 1 + 1 ≤ 19 by omega) (show 0 + 5 + 20 + 20 + 20 + 20 + 100 + 8 + 200 + 40 + 41 + 41 + 8 + 200 + 5 + 24 + 120 + 150 + 5 ≤ 1080 by omega) dX6_init_163 (fun L40 H g40 eL40 eg40 hH40 hP hD hS => ?_)
  replace c_o : g40 1000 = .inr (6, [.int (nI 0), .int (nI 0), .int (nI 0), .ref (ad 1003), .int (nI 0), .ref (ad 1005), .ref (ad 1006), .ref (ad 1007), .ref (ad 1008), .ref (ad 1009), .int (nI 0), .int (if false = true then 1 else 0), .ref (ad 1012), .ref (ad 1013), .ref (ad 1014), .int (nI 0), .ref (ad 1016), .ref (ad 1017), .ref (ad 1018), .ref (ad 1019), .int (nI 0), .ref (ad 1021), .int (nI 0), .ref (ad 1023), .ref (ad 1024), .int (nI 0), .ref (ad 1026), .null, .null]) := (cx_ne eg40 1000 (by decide)).trans c_o
  replace c_q21 : g40 1021 = nA G 5 (vN (nu (fun _ => 0) 0 1)) := (cx_ne eg40 1021 (by decide)).trans c_q21
  replace hF : ∀ j : Nat, j ∈ [1027, 1026, 1024, 1023, 1019, 1018, 1017, 1016, 1014, 1013, 1012, 1009, 1008, 1007, 1006, 1005, 1003] → g40 j = ini6 G j := fm_step hF (by decide) (eg_to eg40)
  have hup : ∀ j : Nat, j ∈ L38 → j ∈ L40 := fun j h => by rw [eL40]; exact List.mem_append_left _ h
  replace hLL : ∀ j : Nat, j ∈ L → j ∈ L40 := fun j h => hup j (hLL j h)
  replace m_o : 1000 ∈ L40 := hup _ m_o
  replace m_q21 : 1021 ∈ L40 := hup _ m_q21
  replace hmF : ∀ j : Nat, j ∈ [1027, 1026, 1024, 1023, 1019, 1018, 1017, 1016, 1014, 1013, 1012, 1009, 1008, 1007, 1006, 1005, 1003] → j ∈ L40 := fun j h => (List.mem_cons.mp h).elim (fun h => by rw [eL40, h]; exact List.mem_append_right _ List.mem_cons_self) (fun h => hup j (hmF j h))
  replace fr : ∀ j : Nat, (j < 1000 ∨ 1029 ≤ j) → g40 j = g j := fun j hj => (cx_ne eg40 j (by omega)).trans (fr j hj)
  replace hA : ∀ q : Nat, cx_A L40 ad sz q → cx_A L ad sz q := fun q hq9 => hA q (cx_A.down (fun j hj => by rw [eL40] at hj; rcases List.mem_append.mp hj with h | h; exact Or.inl h; exact Or.inr (by rw [List.mem_singleton.mp h]; omega)) q hq9)
  replace hH : H.size = sz + 1 + 1 + 1 + 1 + 1 + 1 + 1 + 1 + 1 + 1 + 1 + 1 + 1 + 1 + 1 + 1 + 1 + 1 := by omega
  clear eg40 eL40 hk40 hH40 hup hg40
  refine ax_putFz (k := 1000) (v := .ref (ad 1027)) (fs' := [.int (nI 0), .int (nI 0), .int (nI 0), .ref (ad 1003), .int (nI 0), .ref (ad 1005), .ref (ad 1006), .ref (ad 1007), .ref (ad 1008), .ref (ad 1009), .int (nI 0), .int (if false = true then 1 else 0), .ref (ad 1012), .ref (ad 1013), .ref (ad 1014), .int (nI 0), .ref (ad 1016), .ref (ad 1017), .ref (ad 1018), .ref (ad 1019), .int (nI 0), .ref (ad 1021), .int (nI 0), .ref (ad 1023), .ref (ad 1024), .int (nI 0), .ref (ad 1026), .ref (ad 1027), .null]) hx hb hts in_X6_init_X6 tyX6 tyX6_ok nmX6 hown hK hP hD hS m_o c_o rfl 27 (by decide) (hts _ wd_X6_init_22) (fun _ h9 => h9) rfl hin rfl (ty := (.array .int)) (by decide +kernel) rfl rfl (Nat.le_of_ble_eq_true rfl) rfl dX6_init_165 (fun H locs g41 eg41 hH41 hP hS => ?_)
  replace c_q21 : g41 1021 = nA G 5 (vN (nu (fun _ => 0) 0 1)) := (cx_ne eg41 1021 (by decide)).trans c_q21
  have hF : ∀ j : Nat, j ∈ [1027, 1026, 1024, 1023, 1019, 1018, 1017, 1016, 1014, 1013, 1012, 1009, 1008, 1007, 1006, 1005, 1003] → g41 j = ini6 G j := fun j hj => (cx_ne eg41 j (by rintro rfl; exact absurd hj (by decide))).trans (hF j hj)
  replace c_o : g41 1000 = .inr (6, [.int (nI 0), .int (nI 0), .int (nI 0), .ref (ad 1003), .int (nI 0), .ref (ad 1005), .ref (ad 1006), .ref (ad 1007), .ref (ad 1008), .ref (ad 1009), .int (nI 0), .int (if false = true then 1 else 0), .ref (ad 1012), .ref (ad 1013), .ref (ad 1014), .int (nI 0), .ref (ad 1016), .ref (ad 1017), .ref (ad 1018), .ref (ad 1019), .int (nI 0), .ref (ad 1021), .int (nI 0), .ref (ad 1023), .ref (ad 1024), .int (nI 0), .ref (ad 1026), .ref (ad 1027), .null]) := cx_eq eg41
  replace fr : ∀ j : Nat, (j < 1000 ∨ 1029 ≤ j) → g41 j = g j := fun j hj => (cx_ne eg41 j (by omega)).trans (fr j hj)
  clear eg41
  replace hH : H.size = sz + 1 + 1 + 1 + 1 + 1 + 1 + 1 + 1 + 1 + 1 + 1 + 1 + 1 + 1 + 1 + 1 + 1 + 1 := by omega
  clear hH41
  refine lv_aload_n hx hb dX6_init_168 rfl (lv_at hl 0 rfl) ?_
  refine lv_iconst (v := nI 5) hx hb dX6_init_169 (by decide) ?_
  have hg42 : sz ≤ H.size := Nat.le_trans hz hS.1
  have hk42 : ad 1028 = H.size := by have h9 := hkM.row; omega
  refine ax_newI (k := 1028) (n := 5) (f := (fun j => nI ((vN (fun _ => 0)) j))) hx hb (hts _ wd_X6_init_3) hK hP hD hS hk42 (fun _ => nI_0) (by omega) (show 0 + 1 + 1 + 1 + 1 + 1 + 1 + 1 + 1 + 1 + 1 + 1 + 1 + 1 + 1 + 1 + 1 + 1 + 1 + 1 ≤ 19 by omega) (show 0 + 5 + 20 + 20 + 20 + 20 + 100 + 8 + 200 + 40 + 41 + 41 + 8 + 200 + 5 + 24 + 120 + 150 + 5 + 5 ≤ 1080 by omega) dX6_init_170 (fun L42 H g42 eL42 eg42 hH42 hP hD hS => ?_)
  replace c_o : g42 1000 = .inr (6, [.int (nI 0), .int (nI 0), .int (nI 0), .ref (ad 1003), .int (nI 0), .ref (ad 1005), .ref (ad 1006), .ref (ad 1007), .ref (ad 1008), .ref (ad 1009), .int (nI 0), .int (if false = true then 1 else 0), .ref (ad 1012), .ref (ad 1013), .ref (ad 1014), .int (nI 0), .ref (ad 1016), .ref (ad 1017), .ref (ad 1018), .ref (ad 1019), .int (nI 0), .ref (ad 1021), .int (nI 0), .ref (ad 1023), .ref (ad 1024), .int (nI 0), .ref (ad 1026), .ref (ad 1027), .null]) := (cx_ne eg42 1000 (by decide)).trans c_o
  replace c_q21 : g42 1021 = nA G 5 (vN (nu (fun _ => 0) 0 1)) := (cx_ne eg42 1021 (by decide)).trans c_q21
  replace hF : ∀ j : Nat, j ∈ [1028, 1027, 1026, 1024, 1023, 1019, 1018, 1017, 1016, 1014, 1013, 1012, 1009, 1008, 1007, 1006, 1005, 1003] → g42 j = ini6 G j := fm_step hF (by decide) (eg_to eg42)
  have hup : ∀ j : Nat, j ∈ L40 → j ∈ L42 := fun j h => by rw [eL42]; exact List.mem_append_left _ h
  replace hLL : ∀ j : Nat, j ∈ L → j ∈ L42 := fun j h => hup j (hLL j h)
  replace m_o : 1000 ∈ L42 := hup _ m_o
  replace m_q21 : 1021 ∈ L42 := hup _ m_q21
  replace hmF : ∀ j : Nat, j ∈ [1028, 1027, 1026, 1024, 1023, 1019, 1018, 1017, 1016, 1014, 1013, 1012, 1009, 1008, 1007, 1006, 1005, 1003] → j ∈ L42 := fun j h => (List.mem_cons.mp h).elim (fun h => by rw [eL42, h]; exact List.mem_append_right _ List.mem_cons_self) (fun h => hup j (hmF j h))
  replace fr : ∀ j : Nat, (j < 1000 ∨ 1029 ≤ j) → g42 j = g j := fun j hj => (cx_ne eg42 j (by omega)).trans (fr j hj)
  replace hA : ∀ q : Nat, cx_A L42 ad sz q → cx_A L ad sz q := fun q hq9 => hA q (cx_A.down (fun j hj => by rw [eL42] at hj; rcases List.mem_append.mp hj with h | h; exact Or.inl h; exact Or.inr (by rw [List.mem_singleton.mp h]; omega)) q hq9)
  replace hH : H.size = sz + 1 + 1 + 1 + 1 + 1 + 1 + 1 + 1 + 1 + 1 + 1 + 1 + 1 + 1 + 1 + 1 + 1 + 1 + 1 := by omega
  clear eg42 eL42 hk42 hH42 hup hg42
  refine ax_putFz (k := 1000) (v := .ref (ad 1028)) (fs' := [.int (nI 0), .int (nI 0), .int (nI 0), .ref (ad 1003), .int (nI 0), .ref (ad 1005), .ref (ad 1006), .ref (ad 1007), .ref (ad 1008), .ref (ad 1009), .int (nI 0), .int (if false = true then 1 else 0), .ref (ad 1012), .ref (ad 1013), .ref (ad 1014), .int (nI 0), .ref (ad 1016), .ref (ad 1017), .ref (ad 1018), .ref (ad 1019), .int (nI 0), .ref (ad 1021), .int (nI 0), .ref (ad 1023), .ref (ad 1024), .int (nI 0), .ref (ad 1026), .ref (ad 1027), .ref (ad 1028)]) hx hb hts in_X6_init_X6 tyX6 tyX6_ok nmX6 hown hK hP hD hS m_o c_o rfl 28 (by decide) (hts _ wd_X6_init_23) (fun _ h9 => h9) rfl hin rfl (ty := (.array .int)) (by decide +kernel) rfl rfl (Nat.le_of_ble_eq_true rfl) rfl dX6_init_172 (fun H locs g43 eg43 hH43 hP hS => ?_)
  replace c_q21 : g43 1021 = nA G 5 (vN (nu (fun _ => 0) 0 1)) := (cx_ne eg43 1021 (by decide)).trans c_q21
  have hF : ∀ j : Nat, j ∈ [1028, 1027, 1026, 1024, 1023, 1019, 1018, 1017, 1016, 1014, 1013, 1012, 1009, 1008, 1007, 1006, 1005, 1003] → g43 j = ini6 G j := fun j hj => (cx_ne eg43 j (by rintro rfl; exact absurd hj (by decide))).trans (hF j hj)
  replace c_o : g43 1000 = .inr (6, [.int (nI 0), .int (nI 0), .int (nI 0), .ref (ad 1003), .int (nI 0), .ref (ad 1005), .ref (ad 1006), .ref (ad 1007), .ref (ad 1008), .ref (ad 1009), .int (nI 0), .int (if false = true then 1 else 0), .ref (ad 1012), .ref (ad 1013), .ref (ad 1014), .int (nI 0), .ref (ad 1016), .ref (ad 1017), .ref (ad 1018), .ref (ad 1019), .int (nI 0), .ref (ad 1021), .int (nI 0), .ref (ad 1023), .ref (ad 1024), .int (nI 0), .ref (ad 1026), .ref (ad 1027), .ref (ad 1028)]) := cx_eq eg43
  replace fr : ∀ j : Nat, (j < 1000 ∨ 1029 ≤ j) → g43 j = g j := fun j hj => (cx_ne eg43 j (by omega)).trans (fr j hj)
  clear eg43
  replace hH : H.size = sz + 1 + 1 + 1 + 1 + 1 + 1 + 1 + 1 + 1 + 1 + 1 + 1 + 1 + 1 + 1 + 1 + 1 + 1 + 1 := by omega
  clear hH43
  refine lv_aload_n hx hb dX6_init_175 rfl (lv_at hl 0 rfl) ?_
  refine (show W p l e rm_X6_init s m args below meth c H locs (0 + 1 + 1 + 1 + 1 + 1 + 1 + 1 + 1 + 1 + 1 + 1 + 1 + 1 + 1 + 1 + 1 + 1 + 1 + 1) (0 + 5 + 20 + 20 + 20 + 20 + 100 + 8 + 200 + 40 + 41 + 41 + 8 + 200 + 5 + 24 + 120 + 150 + 5 + 5) Q (F0 m 197 ls [.int (nI N), .ref (ad 1000)]) → W p l e rm_X6_init s m args below meth c H locs (0 + 1 + 1 + 1 + 1 + 1 + 1 + 1 + 1 + 1 + 1 + 1 + 1 + 1 + 1 + 1 + 1 + 1 + 1 + 1) (0 + 5 + 20 + 20 + 20 + 20 + 100 + 8 + 200 + 40 + 41 + 41 + 8 + 200 + 5 + 24 + 120 + 150 + 5 + 5) Q (F0 m 176 ls [.ref (ad 1000)]) from fun kk => ?_) ?_
  · skip
    refine lv_iload_n hx hb dX6_init_176 rfl (lv_at hl 1 rfl) ?_
    refine lv_iconst (v := nI 1) hx hb dX6_init_177 (by decide) ?_
    refine lv_icmp_ge (x := x1) (y := nI 1) (tgt := 185) hx hb dX6_init_178 (by decide) (fun h1 => ?_) (fun h1 => ?_)
    · refine lv_iload_n hx hb dX6_init_185 rfl (lv_at hl 1 rfl) ?_
      refine lv_bipush (v := nI 8) hx hb dX6_init_186 (by decide) ?_
      refine lv_icmp_le (x := x1) (y := nI 8) (tgt := 196) hx hb dX6_init_188 (by decide) (fun h2 => ?_) (fun h2 => ?_)
      · refine lv_iload_n hx hb dX6_init_196 rfl (lv_at hl 1 rfl) ?_
        rw [show x1 = nI (clN 8 x1) from cl_x (by decide) h1 h2, ← hNc]
        exact kk
      · refine lv_bipush (v := nI 8) hx hb dX6_init_191 (by decide) ?_
        refine lv_goto (tgt := 197) hx hb dX6_init_193 (by decide) ?_
        rw [show nI 8 = nI (clN 8 x1) from cl_m (by decide) h1 h2, ← hNc]
        exact kk
    · refine lv_iconst (v := nI 1) hx hb dX6_init_181 (by decide) ?_
      refine lv_goto (tgt := 197) hx hb dX6_init_182 (by decide) ?_
      rw [show nI 1 = nI (clN 8 x1) from cl_1 h1, ← hNc]
      exact kk
  refine ax_putFz (k := 1000) (v := .int (nI N)) (fs' := [.int (nI N), .int (nI 0), .int (nI 0), .ref (ad 1003), .int (nI 0), .ref (ad 1005), .ref (ad 1006), .ref (ad 1007), .ref (ad 1008), .ref (ad 1009), .int (nI 0), .int (if false = true then 1 else 0), .ref (ad 1012), .ref (ad 1013), .ref (ad 1014), .int (nI 0), .ref (ad 1016), .ref (ad 1017), .ref (ad 1018), .ref (ad 1019), .int (nI 0), .ref (ad 1021), .int (nI 0), .ref (ad 1023), .ref (ad 1024), .int (nI 0), .ref (ad 1026), .ref (ad 1027), .ref (ad 1028)]) hx hb hts in_X6_init_X6 tyX6 tyX6_ok nmX6 hown hK hP hD hS m_o c_o rfl 0 (by decide) (hts _ wd_X6_init_24) (fun _ h9 => h9) rfl hin rfl (ty := .int) (by decide +kernel) rfl rfl (Nat.le_of_ble_eq_true rfl) rfl dX6_init_197 (fun H locs g44 eg44 hH44 hP hS => ?_)
  replace c_q21 : g44 1021 = nA G 5 (vN (nu (fun _ => 0) 0 1)) := (cx_ne eg44 1021 (by decide)).trans c_q21
  have hF : ∀ j : Nat, j ∈ [1028, 1027, 1026, 1024, 1023, 1019, 1018, 1017, 1016, 1014, 1013, 1012, 1009, 1008, 1007, 1006, 1005, 1003] → g44 j = ini6 G j := fun j hj => (cx_ne eg44 j (by rintro rfl; exact absurd hj (by decide))).trans (hF j hj)
  replace c_o : g44 1000 = .inr (6, [.int (nI N), .int (nI 0), .int (nI 0), .ref (ad 1003), .int (nI 0), .ref (ad 1005), .ref (ad 1006), .ref (ad 1007), .ref (ad 1008), .ref (ad 1009), .int (nI 0), .int (if false = true then 1 else 0), .ref (ad 1012), .ref (ad 1013), .ref (ad 1014), .int (nI 0), .ref (ad 1016), .ref (ad 1017), .ref (ad 1018), .ref (ad 1019), .int (nI 0), .ref (ad 1021), .int (nI 0), .ref (ad 1023), .ref (ad 1024), .int (nI 0), .ref (ad 1026), .ref (ad 1027), .ref (ad 1028)]) := cx_eq eg44
  replace fr : ∀ j : Nat, (j < 1000 ∨ 1029 ≤ j) → g44 j = g j := fun j hj => (cx_ne eg44 j (by omega)).trans (fr j hj)
  clear eg44
  replace hH : H.size = sz + 1 + 1 + 1 + 1 + 1 + 1 + 1 + 1 + 1 + 1 + 1 + 1 + 1 + 1 + 1 + 1 + 1 + 1 + 1 := by omega
  clear hH44
  refine lv_aload_n hx hb dX6_init_200 rfl (lv_at hl 0 rfl) ?_
  refine (show W p l e rm_X6_init s m args below meth c H locs (0 + 1 + 1 + 1 + 1 + 1 + 1 + 1 + 1 + 1 + 1 + 1 + 1 + 1 + 1 + 1 + 1 + 1 + 1 + 1) (0 + 5 + 20 + 20 + 20 + 20 + 100 + 8 + 200 + 40 + 41 + 41 + 8 + 200 + 5 + 24 + 120 + 150 + 5 + 5) Q (F0 m 220 ls [.int (nI V), .ref (ad 1000)]) → W p l e rm_X6_init s m args below meth c H locs (0 + 1 + 1 + 1 + 1 + 1 + 1 + 1 + 1 + 1 + 1 + 1 + 1 + 1 + 1 + 1 + 1 + 1 + 1 + 1) (0 + 5 + 20 + 20 + 20 + 20 + 100 + 8 + 200 + 40 + 41 + 41 + 8 + 200 + 5 + 24 + 120 + 150 + 5 + 5) Q (F0 m 201 ls [.ref (ad 1000)]) from fun kk => ?_) ?_
  · skip
    refine lv_iload_n hx hb dX6_init_201 rfl (lv_at hl 2 rfl) ?_
    refine lv_iconst (v := nI 1) hx hb dX6_init_202 (by decide) ?_
    refine lv_icmp_ge (x := x2) (y := nI 1) (tgt := 210) hx hb dX6_init_203 (by decide) (fun h1 => ?_) (fun h1 => ?_)
    · refine lv_iload_n hx hb dX6_init_210 rfl (lv_at hl 2 rfl) ?_
      refine lv_iconst (v := nI 4) hx hb dX6_init_211 (by decide) ?_
      refine lv_icmp_le (x := x2) (y := nI 4) (tgt := 219) hx hb dX6_init_212 (by decide) (fun h2 => ?_) (fun h2 => ?_)
      · refine lv_iload_n hx hb dX6_init_219 rfl (lv_at hl 2 rfl) ?_
        rw [show x2 = nI (clN 4 x2) from cl_x (by decide) h1 h2, ← hVc]
        exact kk
      · refine lv_iconst (v := nI 4) hx hb dX6_init_215 (by decide) ?_
        refine lv_goto (tgt := 220) hx hb dX6_init_216 (by decide) ?_
        rw [show nI 4 = nI (clN 4 x2) from cl_m (by decide) h1 h2, ← hVc]
        exact kk
    · refine lv_iconst (v := nI 1) hx hb dX6_init_206 (by decide) ?_
      refine lv_goto (tgt := 220) hx hb dX6_init_207 (by decide) ?_
      rw [show nI 1 = nI (clN 4 x2) from cl_1 h1, ← hVc]
      exact kk
  refine ax_putFz (k := 1000) (v := .int (nI V)) (fs' := [.int (nI N), .int (nI V), .int (nI 0), .ref (ad 1003), .int (nI 0), .ref (ad 1005), .ref (ad 1006), .ref (ad 1007), .ref (ad 1008), .ref (ad 1009), .int (nI 0), .int (if false = true then 1 else 0), .ref (ad 1012), .ref (ad 1013), .ref (ad 1014), .int (nI 0), .ref (ad 1016), .ref (ad 1017), .ref (ad 1018), .ref (ad 1019), .int (nI 0), .ref (ad 1021), .int (nI 0), .ref (ad 1023), .ref (ad 1024), .int (nI 0), .ref (ad 1026), .ref (ad 1027), .ref (ad 1028)]) hx hb hts in_X6_init_X6 tyX6 tyX6_ok nmX6 hown hK hP hD hS m_o c_o rfl 1 (by decide) (hts _ wd_X6_init_25) (fun _ h9 => h9) rfl hin rfl (ty := .int) (by decide +kernel) rfl rfl (Nat.le_of_ble_eq_true rfl) rfl dX6_init_220 (fun H locs g45 eg45 hH45 hP hS => ?_)
  replace c_q21 : g45 1021 = nA G 5 (vN (nu (fun _ => 0) 0 1)) := (cx_ne eg45 1021 (by decide)).trans c_q21
  have hF : ∀ j : Nat, j ∈ [1028, 1027, 1026, 1024, 1023, 1019, 1018, 1017, 1016, 1014, 1013, 1012, 1009, 1008, 1007, 1006, 1005, 1003] → g45 j = ini6 G j := fun j hj => (cx_ne eg45 j (by rintro rfl; exact absurd hj (by decide))).trans (hF j hj)
  replace c_o : g45 1000 = .inr (6, [.int (nI N), .int (nI V), .int (nI 0), .ref (ad 1003), .int (nI 0), .ref (ad 1005), .ref (ad 1006), .ref (ad 1007), .ref (ad 1008), .ref (ad 1009), .int (nI 0), .int (if false = true then 1 else 0), .ref (ad 1012), .ref (ad 1013), .ref (ad 1014), .int (nI 0), .ref (ad 1016), .ref (ad 1017), .ref (ad 1018), .ref (ad 1019), .int (nI 0), .ref (ad 1021), .int (nI 0), .ref (ad 1023), .ref (ad 1024), .int (nI 0), .ref (ad 1026), .ref (ad 1027), .ref (ad 1028)]) := cx_eq eg45
  replace fr : ∀ j : Nat, (j < 1000 ∨ 1029 ≤ j) → g45 j = g j := fun j hj => (cx_ne eg45 j (by omega)).trans (fr j hj)
  clear eg45
  replace hH : H.size = sz + 1 + 1 + 1 + 1 + 1 + 1 + 1 + 1 + 1 + 1 + 1 + 1 + 1 + 1 + 1 + 1 + 1 + 1 + 1 := by omega
  clear hH45
  exact hret L42 g45 _ _ _ _ _ _ ⟨(by omega), (by omega)⟩ ⟨fun j h => by rcases lbM_i h with rfl | rfl | rfl | rfl | rfl | rfl | rfl | rfl | rfl | rfl | rfl | rfl | rfl | rfl | rfl | rfl | rfl | rfl | rfl | rfl <;> first | exact m_o | exact m_q21 | exact hmF _ (by decide), fr, c_o, hF 1003 (by decide), hF 1005 (by decide), hF 1006 (by decide), hF 1007 (by decide), hF 1008 (by decide), hF 1009 (by decide), hF 1012 (by decide), hF 1013 (by decide), hF 1014 (by decide), hF 1016 (by decide), hF 1017 (by decide), hF 1018 (by decide), hF 1019 (by decide), c_q21, hF 1023 (by decide), hF 1024 (by decide), hF 1026 (by decide), hF 1027 (by decide), hF 1028 (by decide)⟩ hP hD (by omega) hLL hA hS dX6_init_223
