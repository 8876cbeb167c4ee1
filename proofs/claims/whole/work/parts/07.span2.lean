theorem nu_nu {α : Type} (f : Nat → α) (k : Nat) (x y : α) : nu (nu f k x) k y = nu f k y := by
  funext j
  by_cases h : j = k <;> simp [nu, h]
theorem kq_0 {n k0 : Nat} {t : Nat → Bool} {kp : Nat → Nat → FF} {fr : Nat → FF} : ∀ i : Nat, nu kp k0 fr i = if i = k0 then fr else if i < 0 ∧ t i = true then am n (kp i) (- (kp i k0)) fr else kp i := by
  intro i
  by_cases h : i = k0
  · subst h
    rw [nu_s, if_pos rfl]
  · rw [nu_n h, if_neg h, if_neg (fun z => absurd z.1 (Nat.not_lt_zero _))]
theorem kq_t {n k0 k : Nat} {t : Nat → Bool} {kp kq : Nat → Nat → FF} {fr : Nat → FF} (h : ∀ i : Nat, kq i = if i = k0 then fr else if i < k ∧ t i = true then am n (kp i) (- (kp i k0)) fr else kp i) (hk : k ≠ k0) (ht : t k = true) : ∀ i : Nat, nu kq k (am n (kq k) (- (kq k k0)) (kq k0)) i = if i = k0 then fr else if i < k + 1 ∧ t i = true then am n (kp i) (- (kp i k0)) fr else kp i := by
  intro i
  have h1 := h k
  rw [if_neg hk, if_neg (fun z => absurd z.1 (Nat.lt_irrefl k))] at h1
  have h0 := h k0
  rw [if_pos rfl] at h0
  by_cases e : i = k
  · subst e
    rw [nu_s, if_neg hk, if_pos ⟨Nat.lt_succ_self i, ht⟩, h1, h0]
  · rw [nu_n e, h i]
    by_cases e2 : i = k0
    · rw [if_pos e2, if_pos e2]
    · rw [if_neg e2, if_neg e2]
      by_cases e3 : i < k ∧ t i = true
      · rw [if_pos e3, if_pos ⟨by omega, e3.2⟩]
      · rw [if_neg e3, if_neg (fun z => e3 ⟨by omega, z.2⟩)]
theorem kq_f {n k0 k : Nat} {t : Nat → Bool} {kp kq : Nat → Nat → FF} {fr : Nat → FF} (h : ∀ i : Nat, kq i = if i = k0 then fr else if i < k ∧ t i = true then am n (kp i) (- (kp i k0)) fr else kp i) (ht : t k = false) : ∀ i : Nat, kq i = if i = k0 then fr else if i < k + 1 ∧ t i = true then am n (kp i) (- (kp i k0)) fr else kp i := by
  intro i
  rw [h i]
  by_cases e2 : i = k0
  · rw [if_pos e2, if_pos e2]
  · rw [if_neg e2, if_neg e2]
    by_cases e3 : i < k ∧ t i = true
    · rw [if_pos e3, if_pos ⟨by omega, e3.2⟩]
    · rw [if_neg e3, if_neg (fun z => by
        by_cases e : i = k
        · rw [e, ht] at z
          exact absurd z.2 (by decide)
        · exact e3 ⟨by omega, z.2⟩)]
theorem kq_e {n k0 k : Nat} {t : Nat → Bool} {kp kq : Nat → Nat → FF} {r : Nat → FF} (h : ∀ i : Nat, kq i = if i = k0 then sp_fresh n kp r k0 else if i < k ∧ t i = true then am n (kp i) (- (kp i k0)) (sp_fresh n kp r k0) else kp i) (hk : k = n) : kq = sp_kp n t kp r k0 := by
  funext i
  rw [h i, hk]
  rfl
theorem fp_t {t : Nat → Bool} {n k le : Nat} (h : k < n) (ht : t k = true) : fpl t (n - k) k le = fpl t (n - (k + 1)) (k + 1) le := by
  rw [show n - k = (n - (k + 1)) + 1 by omega]
  exact if_pos ht
theorem fp_f {t : Nat → Bool} {n k le : Nat} (h : k < n) (ht : t k = false) (hl : le ≠ 0) : fpl t (n - k) k le = fpl t (n - (k + 1)) (k + 1) (le - 1) := by
  rw [show n - k = (n - (k + 1)) + 1 by omega]
  exact (if_neg (by rw [ht]; decide)).trans (if_neg hl)
theorem fp_h {t : Nat → Bool} {n k le : Nat} (h : k < n) (ht : t k = false) (hl : le = 0) : fpl t (n - k) k le = k := by
  rw [show n - k = (n - (k + 1)) + 1 by omega]
  exact (if_neg (by rw [ht]; decide)).trans (if_pos hl)
theorem fp_e {t : Nat → Bool} {n k le : Nat} (h : n ≤ k) : fpl t (n - k) k le = 0 := by
  rw [show n - k = 0 by omega]
  rfl
theorem neg_num (v : Nat → FF) (j : Nat) : (fi (-(nI (vN v j))).toInt).val = (- v j).val := by
  have h := (v j).isLt
  have e : (-(nI (vN v j))).toInt = -((v j).val : Int) := by
    rw [Int32.toInt_neg]
    show (-(nI (v j).val).toInt).bmod (2 ^ 32) = _
    rw [nI_toInt (by omega)]
    exact i32_bm (by omega) (by omega)
  rw [e, fi_neg, fi_ff]

set_option maxRecDepth 20000 in
theorem wd_X4_add_0 : Cond.fieldLink RX4 11 "AffineHulls$Span" "kept" "[[I" ∈ wsX4_add := by decide +kernel
set_option maxRecDepth 20000 in
theorem in_X4_add_X4 : ∀ w ∈ u_ws RX4 TX4 3, w ∈ wsX4_add := by decide +kernel
set_option maxRecDepth 20000 in
theorem wd_X4_add_2 : Cond.fieldLink RX4 20 "AffineHulls$Span" "rest" "[I" ∈ wsX4_add := by decide +kernel
set_option maxRecDepth 20000 in
theorem wd_X4_add_3 : Cond.initialized RX5 ∈ wsX4_add := by decide +kernel
set_option maxRecDepth 20000 in
theorem wd_X4_add_4 : Cond.static yX5_inverse ∈ wsX4_add := by decide +kernel
set_option maxRecDepth 20000 in
theorem wd_X4_add_5 : Cond.static yX5_addMultiple ∈ wsX4_add := by decide +kernel
set_option maxRecDepth 20000 in
theorem wd_X4_add_6 : Cond.fieldLink RX4 16 "AffineHulls$Span" "taken" "[Z" ∈ wsX4_add := by decide +kernel
set_option maxRecDepth 20000 in
theorem wd_X4_add_7 : Cond.constant RX4 46 (65521) ∈ wsX4_add := by decide +kernel
abbrev rm_X4_add : Room := { frames := 3, cells := 0, slots := 0, locals := 103 }
set_option maxHeartbeats 4000000 in
set_option maxRecDepth 100000 in
theorem c_X4_add {l : Launch} {G : cx_G} {L : List Nat} {ad : Nat → Nat} {g : Nat → va_E} (hD : cx_D L ad) {b n : Nat} {t : Nat → Bool} {kp : Nat → Nat → FF} {rs : Nat → FF}  {a : Nat} {v : Nat → FF} (ha : a ∈ L) (hab : a < b ∨ b + 4 + n ≤ a) (c_a : g a = nA G n (vN v)) (hm : ∀ j : Nat, j < 4 + n → b + j ∈ L) (hn : n < 1000) (hn0 : 0 < n) (hsp : SpanAt G ad g b n t kp rs) (hnt : ∀ j : Nat, j < n → sp_red n t kp n (cpv n v rs) j ≠ 0 → t j = false) : MI l yX4_add wsX4_add rm_X4_add G L ad g [.ref (ad b), .ref (ad a)] (fun r u => ∃ (rb : Bool) (t2 : Nat → Bool) (kp2 : Nat → Nat → FF), r = (if rb = true then 1 else 0) ∧ (∀ j : Nat, (j < b ∨ b + 4 + n ≤ j) → u j = g j) ∧ SpanAt G ad u b n t2 kp2 (sp_red n t kp n (cpv n v rs)) ∧ AddR n t kp (sp_red n t kp n (cpv n v rs)) rb t2 kp2) := by
  refine cx_ofI (cc := cX4_add) (maxL := 5) (by decide +kernel) rfl (Nat.le_of_ble_eq_true rfl) ?_
  intro p e s m args below meth c Q hx hb hts hown hml hP hK hS hz hret ls hl
  have hown : s.vm.findClass RX4 = some m.cls := hown
  have hl : lv_has ls 5 [(0, .ref (ad b)), (1, .ref (ad a))] := hl
  have fr : ∀ j : Nat, (j < b ∨ b + 4 + n ≤ j) → g j = g j := fun _ _ => rfl
  obtain ⟨c_s, c_k, c_t, c_r, c_q⟩ := hsp
  refine lv_aload_n hx hb dX4_add_0 rfl (lv_at hl 0 rfl) ?_
  refine lv_aload_n hx hb dX4_add_1 rfl (lv_at hl 1 rfl) ?_
  refine cx_Vv (As := [.ref (ad a)]) (rest := []) ⟨hx, hb, hml, hown, hts⟩ (c_X4_reduce hD (b := b) (n := n) (a := a) (v := v) (rs := rs) ha hab c_a hm hn hn0 ⟨c_s, c_k, c_t, c_r, c_q⟩) (cwV 1 hts gX4_add_X4_reduce rfl rfl rfl (by decide +kernel) ⟨Nat.le_of_ble_eq_true rfl, Nat.le_of_ble_eq_true rfl⟩) hK hP hS hz (hm 0 (by omega)) c_s rfl ⟨Nat.zero_le _, Nat.zero_le _⟩ rfl hl.1 rfl (Nat.le_of_ble_eq_true rfl) dX4_add_2 (fun g1 H locs hp1 hP hS => ?_)
  obtain ⟨hp1a, hsp2⟩ := hp1
  have hsp3 := hsp2
  obtain ⟨c_s, c_k, c_t, c_r, c_q⟩ := hsp2
  have c_a : g1 a = nA G n (vN v) := (hp1a a (by omega)).trans c_a
  have fr : ∀ j : Nat, (j < b ∨ b + 4 + n ≤ j) → g1 j = g j := fun j hj => (hp1a j (by omega)).trans (fr j hj)
  obtain ⟨R, eR⟩ : ∃ R : Nat → FF, R = sp_red n t kp n (cpv n v rs) := ⟨_, rfl⟩
  rw [← eR] at c_r hsp3 hnt
  refine lv_aload_n hx hb dX4_add_5 rfl (lv_at hl 0 rfl) ?_
  refine cx_Vi (As := []) (rest := []) ⟨hx, hb, hml, hown, hts⟩ (c_X4_leadingPlace hD (b := b) (n := n) (t := t) (kp := kp) (rs := R) hm hn hn0 hsp3) (cwV 0 hts gX4_add_X4_leadingPlace rfl rfl rfl (by decide +kernel) ⟨Nat.le_of_ble_eq_true rfl, Nat.le_of_ble_eq_true rfl⟩) hK hP hS hz (hm 0 (by omega)) c_s rfl ⟨Nat.zero_le _, Nat.zero_le _⟩ rfl hl.1 rfl (Nat.le_of_ble_eq_true rfl) dX4_add_6 (fun r2 g2 H locs hp2 hP hS => ?_)
  obtain ⟨hld, ehp2g⟩ := hp2
  rw [ehp2g] at hP
  refine lv_istore_n (lv' := [(2, .int r2), (0, .ref (ad b)), (1, .ref (ad a))]) hx hb dX4_add_9 rfl hl (by decide) rfl (fun ls hl => ?_)
  refine lv_iload_n hx hb dX4_add_10 rfl (lv_at hl 0 rfl) ?_
  refine lv_if_ge (x := r2) (tgt := 16) hx hb dX4_add_11 (by decide) (fun h11 => ?_) (fun h11 => ?_)
  · skip
    obtain ⟨k0, hlead, rfl⟩ := ld_pos hld h11
    have hk0 := hlead.1
    have ht0 : t k0 = false := hnt k0 hk0 hlead.2.1
    refine lv_aload_n hx hb dX4_add_16 rfl (lv_at hl 1 rfl) ?_
    refine ax_get (k := b) (v := .ref (ad (b + 1))) hx hb hts in_X4_add_X4 hown hK hP (hm 0 (by omega)) c_s rfl 0 (by decide) (hts _ wd_X4_add_0) (fun _ h9 => h9) rfl dX4_add_17 ?_
    refine lv_iload_n hx hb dX4_add_20 rfl (lv_at hl 0 rfl) ?_
    refine ax_aald (k := b + 1) (i := k0) (b := ad (b + 4 + k0)) hx hb hK hP (hm 1 (by omega)) 6 rfl rfl c_k (by omega) (by omega) (if_pos (by omega)) dX4_add_21 ?_
    refine lv_astore_n (lv' := [(3, .ref (ad (b + 4 + k0))), (2, .int (nI k0)), (0, .ref (ad b)), (1, .ref (ad a))]) hx hb dX4_add_22 rfl hl (by decide) rfl (fun ls hl => ?_)
    refine lv_aload_n hx hb dX4_add_23 rfl (lv_at hl 0 rfl) ?_
    refine lv_iconst (v := nI 0) hx hb dX4_add_24 (by decide) ?_
    refine cx_Sv (As := [.ref (ad (b + 4 + k0)), .int (nI 0)]) (rest := []) ⟨hx, hb, hml, hown, hts⟩ (c_J7_fill_53178 hD (a := b + 4 + k0) (n := n) (v := kp k0) (by have := hm (4 + k0) (by omega); rwa [← Nat.add_assoc] at this) hn (c_q k0 hk0)) (va_cwS 2 hts gX4_add_J7_fill_53178 rfl rfl rfl (by decide +kernel) ⟨Nat.le_of_ble_eq_true rfl, Nat.le_of_ble_eq_true rfl⟩) hK hP hS hz ⟨Nat.zero_le _, Nat.zero_le _⟩ rfl hl.1 rfl (Nat.le_of_ble_eq_true rfl) dX4_add_25 (fun g3 H locs hp3 hP hS => ?_)
    obtain ⟨hp3a, hp3b⟩ := hp3
    have c_s : g3 b = .inr (4, [.ref (ad (b + 1)), .ref (ad (b + 2)), .ref (ad (b + 3))]) := (hp3a b (by omega)).trans c_s
    have c_k : g3 (b + 1) = rA (G.2 6) n (fun i => if i < n then some (ad (b + 4 + i)) else none) := (hp3a (b + 1) (by omega)).trans c_k
    have c_t : g3 (b + 2) = zA G n t := (hp3a (b + 2) (by omega)).trans c_t
    have c_r : g3 (b + 3) = nA G n (vN R) := (hp3a (b + 3) (by omega)).trans c_r
    have c_a : g3 a = nA G n (vN v) := (hp3a a (by omega)).trans c_a
    have fr : ∀ j : Nat, (j < b ∨ b + 4 + n ≤ j) → g3 j = g j := fun j hj => (hp3a j (by omega)).trans (fr j hj)
    have c_q := fam_up c_q hp3a hp3b
    refine lv_aload_n hx hb dX4_add_28 rfl (lv_at hl 0 rfl) ?_
    refine lv_aload_n hx hb dX4_add_29 rfl (lv_at hl 2 rfl) ?_
    refine ax_get (k := b) (v := .ref (ad (b + 3))) hx hb hts in_X4_add_X4 hown hK hP (hm 0 (by omega)) c_s rfl 2 (by decide) (hts _ wd_X4_add_2) (fun _ h9 => h9) rfl dX4_add_30 ?_
    refine lv_iload_n hx hb dX4_add_33 rfl (lv_at hl 1 rfl) ?_
    refine ax_iald (k := b + 3) (i := k0) (v := nI ((vN R) k0)) hx hb hK hP (hm 3 (by omega)) c_r (by omega) (by omega) rfl dX4_add_34 ?_
    refine cx_SNi (As := [.int (nI ((vN R) k0))]) (rest := [.ref (ad (b + 4 + k0))]) ⟨hx, hb, hml, hown, hts⟩ (c_X5_inverse hD (x := R k0)) ⟨va_cnB 1 hts gX4_add_X5_inverse_n38 rfl rfl rfl (hK.2 (.methodLinkNest RX4 38 yX5_inverse RX5) (by decide +kernel)) (hts _ wd_X4_add_3) (by decide +kernel) ⟨Nat.le_of_ble_eq_true rfl, Nat.le_of_ble_eq_true rfl⟩, hts _ wd_X4_add_4, trivial⟩ hK hP hS hz ⟨Nat.zero_le _, Nat.zero_le _⟩ rfl hl.1 rfl (Nat.le_of_ble_eq_true rfl) dX4_add_35 (fun r4 g4 H locs hp4 hP hS => ?_)
    obtain ⟨er4, ehp4g⟩ := hp4
    rw [ehp4g] at hP
    rw [er4]
    refine lv_aload_n hx hb dX4_add_38 rfl (lv_at hl 2 rfl) ?_
    refine ax_get (k := b) (v := .ref (ad (b + 3))) hx hb hts in_X4_add_X4 hown hK hP (hm 0 (by omega)) c_s rfl 2 (by decide) (hts _ wd_X4_add_2) (fun _ h9 => h9) rfl dX4_add_39 ?_
    refine cx_SNv (As := [.ref (ad (b + 4 + k0)), .int (nI ((finv (R k0)).val)), .ref (ad (b + 3))]) (rest := []) ⟨hx, hb, hml, hown, hts⟩ (c_X5_addMultiple hD (a := b + 4 + k0) (b := b + 3) (n := n) (f := (finv (R k0)).val) (v := fl0 n (kp k0)) (w := R) (cf := finv (R k0)) (by omega) (by have := hm (4 + k0) (by omega); rwa [← Nat.add_assoc] at this) (hm 3 (by omega)) hn (Nat.le_of_lt (finv (R k0)).isLt) (ff_of _) (by have q := c_q k0 hk0; rwa [nu_s] at q) c_r) ⟨va_cnB 3 hts gX4_add_X5_addMultiple_n42 rfl rfl rfl (hK.2 (.methodLinkNest RX4 42 yX5_addMultiple RX5) (by decide +kernel)) (hts _ wd_X4_add_3) (by decide +kernel) ⟨Nat.le_of_ble_eq_true rfl, Nat.le_of_ble_eq_true rfl⟩, hts _ wd_X4_add_5, trivial⟩ hK hP hS hz ⟨Nat.zero_le _, Nat.zero_le _⟩ rfl hl.1 rfl (Nat.le_of_ble_eq_true rfl) dX4_add_42 (fun g5 H locs hp5 hP hS => ?_)
    obtain ⟨hp5a, hp5b⟩ := hp5
    have c_s : g5 b = .inr (4, [.ref (ad (b + 1)), .ref (ad (b + 2)), .ref (ad (b + 3))]) := (hp5a b (by omega)).trans c_s
    have c_k : g5 (b + 1) = rA (G.2 6) n (fun i => if i < n then some (ad (b + 4 + i)) else none) := (hp5a (b + 1) (by omega)).trans c_k
    have c_t : g5 (b + 2) = zA G n t := (hp5a (b + 2) (by omega)).trans c_t
    have c_r : g5 (b + 3) = nA G n (vN R) := (hp5a (b + 3) (by omega)).trans c_r
    have c_a : g5 a = nA G n (vN v) := (hp5a a (by omega)).trans c_a
    have fr : ∀ j : Nat, (j < b ∨ b + 4 + n ≤ j) → g5 j = g j := fun j hj => (hp5a j (by omega)).trans (fr j hj)
    have c_q := fam_up c_q hp5a hp5b
    rw [nu_nu] at c_q
    have c_q : ∀ i : Nat, i < n → g5 (b + 4 + i) = nA G n (vN (nu kp k0 (sp_fresh n kp R k0) i)) := c_q
    refine lv_iconst (v := nI 0) hx hb dX4_add_45 (by decide) ?_
    refine lv_istore (lv' := [(4, .int (nI 0)), (3, .ref (ad (b + 4 + k0))), (2, .int (nI k0)), (0, .ref (ad b)), (1, .ref (ad a))]) hx hb dX4_add_46 hl (by decide) rfl (fun ls hl => ?_)
    have LP48 : ∀ (fu : Nat) (k : Nat) (kq : Nat → Nat → FF), (k ≤ n) → (∀ i : Nat, kq i = if i = k0 then sp_fresh n kp R k0 else if i < k ∧ t i = true then am n (kp i) (- (kp i k0)) (sp_fresh n kp R k0) else kp i) → (n - k) < fu → ∀ (ga6 : Nat → va_E) (H : Heap) (locs : List Loc) (ls : Array Slot), (ga6 b = .inr (4, [.ref (ad (b + 1)), .ref (ad (b + 2)), .ref (ad (b + 3))])) → (ga6 (b + 1) = rA (G.2 6) n (fun i => if i < n then some (ad (b + 4 + i)) else none)) → (ga6 (b + 2) = zA G n t) → (ga6 (b + 3) = nA G n (vN R)) → (∀ i : Nat, i < n → ga6 (b + 4 + i) = nA G n (vN (kq i))) → (ga6 a = nA G n (vN v)) → (∀ j : Nat, (j < b ∨ b + 4 + n ≤ j) → ga6 j = g j) → va_P G.1 vwCl (wl L ad ga6) H → va_S (cx_A L ad s.heap.size) s.heap H locs → lv_has ls 5 [(4, .int (nI k)), (3, .ref (ad (b + 4 + k0))), (2, .int (nI k0)), (0, .ref (ad b)), (1, .ref (ad a))] → W p l e rm_X4_add s m args below meth c H locs 0 0 Q (F0 m 48 ls []) := by
      intro fu
      induction fu with
      | zero => intro k kq hkn hq hfu; exact absurd hfu (Nat.not_lt_zero _)
      | succ fu ih48 =>
        intro k kq hkn hq hfu48 ga6 H locs ls c_s c_k c_t c_r c_q c_a fr hP hS hl
        refine lv_iload hx hb dX4_add_48 (lv_at hl 0 rfl) ?_
        refine lv_aload_n hx hb dX4_add_50 rfl (lv_at hl 3 rfl) ?_
        refine ax_get (k := b) (v := .ref (ad (b + 2))) hx hb hts in_X4_add_X4 hown hK hP (hm 0 (by omega)) c_s rfl 1 (by decide) (hts _ wd_X4_add_6) (fun _ h9 => h9) rfl dX4_add_51 ?_
        refine ax_alen (k := b + 2) (n := n) hx hb hK hP (hm 2 (by omega)) 1 rfl c_t rfl dX4_add_54 ?_
        refine ax_icge (a := k) (b := n) (tgt := 97) hx hb dX4_add_55 (by decide) (by omega) (by omega) (fun h55 => ?_) (fun h55 => ?_)
        · skip
          refine lv_aload_n hx hb dX4_add_97 rfl (lv_at hl 3 rfl) ?_
          refine ax_get (k := b) (v := .ref (ad (b + 2))) hx hb hts in_X4_add_X4 hown hK hP (hm 0 (by omega)) c_s rfl 1 (by decide) (hts _ wd_X4_add_6) (fun _ h9 => h9) rfl dX4_add_98 ?_
          refine lv_iload_n hx hb dX4_add_101 rfl (lv_at hl 2 rfl) ?_
          refine lv_iconst (v := nI 1) hx hb dX4_add_102 (by decide) ?_
          refine ax_zast (k := b + 2) (i := k0) (b := true) hx hb hK hP hD hS (hm 2 (by omega)) c_t (by omega) (by omega) (by decide) dX4_add_103 (fun H locs g7 eg7 hP hS => ?_)
          have c_s : g7 b = .inr (4, [.ref (ad (b + 1)), .ref (ad (b + 2)), .ref (ad (b + 3))]) := (cx_ne eg7 b (by omega)).trans c_s
          have c_k : g7 (b + 1) = rA (G.2 6) n (fun i => if i < n then some (ad (b + 4 + i)) else none) := (cx_ne eg7 (b + 1) (by omega)).trans c_k
          have c_r : g7 (b + 3) = nA G n (vN R) := (cx_ne eg7 (b + 3) (by omega)).trans c_r
          have c_q : ∀ i : Nat, i < n → g7 (b + 4 + i) = nA G n (vN (kq i)) := fun i hi => (cx_ne eg7 _ (by omega)).trans (c_q i hi)
          have c_a : g7 a = nA G n (vN v) := (cx_ne eg7 a (by omega)).trans c_a
          have c_t : g7 (b + 2) = zA G n (nu t k0 true) := cx_eq eg7
          have fr : ∀ j : Nat, (j < b ∨ b + 4 + n ≤ j) → g7 j = g j := fun j hj => (cx_ne eg7 j (by omega)).trans (fr j hj)
          refine lv_iconst (v := nI 1) hx hb dX4_add_104 (by decide) ?_
          exact hret (nI 1) g7 _ _ _ _ (by decide) (by rw [← eR]; exact ⟨true, nu t k0 true, kq, by decide, fr, ⟨c_s, c_k, c_t, c_r, c_q⟩, Or.inr ⟨k0, hlead, rfl, rfl, kq_e hq (by omega)⟩⟩) hP hS dX4_add_105
        · skip
          refine lv_aload_n hx hb dX4_add_58 rfl (lv_at hl 3 rfl) ?_
          refine ax_get (k := b) (v := .ref (ad (b + 2))) hx hb hts in_X4_add_X4 hown hK hP (hm 0 (by omega)) c_s rfl 1 (by decide) (hts _ wd_X4_add_6) (fun _ h9 => h9) rfl dX4_add_59 ?_
          refine lv_iload hx hb dX4_add_62 (lv_at hl 0 rfl) ?_
          refine ax_zald (k := b + 2) (i := k) hx hb hK hP (hm 2 (by omega)) c_t (by omega) (by omega) dX4_add_64 ?_
          refine ax_zeq (b := (t k)) (tgt := 91) hx hb dX4_add_65 (by decide) (fun h65 => ?_) (fun h65 => ?_)
          · skip
            refine lv_iinc (v := nI (k + 1)) (lv' := [(4, .int (nI (k + 1))), (3, .ref (ad (b + 4 + k0))), (2, .int (nI k0)), (0, .ref (ad b)), (1, .ref (ad a))]) hx hb dX4_add_91 hl (k := 0) rfl (nI_1 _) (by decide) rfl (fun ls hl => ?_)
            refine lv_goto (tgt := 48) hx hb dX4_add_94 (by decide) ?_
            exact ih48 (k + 1) kq h55 (kq_f hq h65) (by omega) ga6 _ _ _ c_s c_k c_t c_r c_q c_a  fr hP hS (lv_sub hl [0, 1, 2, 3, 4] rfl)
          · skip
            refine lv_aload_n hx hb dX4_add_68 rfl (lv_at hl 3 rfl) ?_
            refine ax_get (k := b) (v := .ref (ad (b + 1))) hx hb hts in_X4_add_X4 hown hK hP (hm 0 (by omega)) c_s rfl 0 (by decide) (hts _ wd_X4_add_0) (fun _ h9 => h9) rfl dX4_add_69 ?_
            refine lv_iload hx hb dX4_add_72 (lv_at hl 0 rfl) ?_
            refine ax_aald (k := b + 1) (i := k) (b := ad (b + 4 + k)) hx hb hK hP (hm 1 (by omega)) 6 rfl rfl c_k (by omega) (by omega) (if_pos (by omega)) dX4_add_74 ?_
            refine lv_ldc (v := 65521) hx hb hown (hts _ wd_X4_add_7) dX4_add_75 ?_
            rw [show (65521 : Int32) = nI 65521 from by decide]
            refine lv_aload_n hx hb dX4_add_77 rfl (lv_at hl 3 rfl) ?_
            refine ax_get (k := b) (v := .ref (ad (b + 1))) hx hb hts in_X4_add_X4 hown hK hP (hm 0 (by omega)) c_s rfl 0 (by decide) (hts _ wd_X4_add_0) (fun _ h9 => h9) rfl dX4_add_78 ?_
            refine lv_iload hx hb dX4_add_81 (lv_at hl 0 rfl) ?_
            refine ax_aald (k := b + 1) (i := k) (b := ad (b + 4 + k)) hx hb hK hP (hm 1 (by omega)) 6 rfl rfl c_k (by omega) (by omega) (if_pos (by omega)) dX4_add_83 ?_
            refine lv_iload_n hx hb dX4_add_84 rfl (lv_at hl 2 rfl) ?_
            have c_rk : ga6 (b + 4 + k) = nA G n (vN (kq k)) := c_q k (by omega)
            have b1 := vN_lt (kq k) k0
            have hkk : k ≠ k0 := fun z => by rw [z, ht0] at h65; cases h65
            refine ax_iald (k := b + 4 + k) (i := k0) (v := nI ((vN (kq k)) k0)) hx hb hK hP (by have := hm (4 + k) (by omega); rwa [← Nat.add_assoc] at this) c_rk (by omega) (by omega) rfl dX4_add_85 ?_
            refine ax_sub (a := 65521) (b := (vN (kq k)) k0) hx hb dX4_add_86 (by omega) ?_
            refine lv_aload_n hx hb dX4_add_87 rfl (lv_at hl 1 rfl) ?_
            refine cx_SNv (As := [.ref (ad (b + 4 + k)), .int (nI (65521 - ((vN (kq k)) k0))), .ref (ad (b + 4 + k0))]) (rest := []) ⟨hx, hb, hml, hown, hts⟩ (c_X5_addMultiple hD (a := b + 4 + k) (b := b + 4 + k0) (n := n) (f := 65521 - vN (kq k) k0) (v := kq k) (w := kq k0) (cf := - (kq k k0)) (by omega) (by have := hm (4 + k) (by omega); rwa [← Nat.add_assoc] at this) (by have := hm (4 + k0) (by omega); rwa [← Nat.add_assoc] at this) hn (Nat.sub_le _ _) (ff_sub (kq k k0) rfl) (c_q k (by omega)) (c_q k0 hk0)) ⟨va_cnB 3 hts gX4_add_X5_addMultiple_n42 rfl rfl rfl (hK.2 (.methodLinkNest RX4 42 yX5_addMultiple RX5) (by decide +kernel)) (hts _ wd_X4_add_3) (by decide +kernel) ⟨Nat.le_of_ble_eq_true rfl, Nat.le_of_ble_eq_true rfl⟩, hts _ wd_X4_add_5, trivial⟩ hK hP hS hz ⟨Nat.zero_le _, Nat.zero_le _⟩ rfl hl.1 rfl (Nat.le_of_ble_eq_true rfl) dX4_add_88 (fun g8 H locs hp8 hP hS => ?_)
            obtain ⟨hp8a, hp8b⟩ := hp8
            have c_s : g8 b = .inr (4, [.ref (ad (b + 1)), .ref (ad (b + 2)), .ref (ad (b + 3))]) := (hp8a b (by omega)).trans c_s
            have c_k : g8 (b + 1) = rA (G.2 6) n (fun i => if i < n then some (ad (b + 4 + i)) else none) := (hp8a (b + 1) (by omega)).trans c_k
            have c_t : g8 (b + 2) = zA G n t := (hp8a (b + 2) (by omega)).trans c_t
            have c_r : g8 (b + 3) = nA G n (vN R) := (hp8a (b + 3) (by omega)).trans c_r
            have c_a : g8 a = nA G n (vN v) := (hp8a a (by omega)).trans c_a
            have fr : ∀ j : Nat, (j < b ∨ b + 4 + n ≤ j) → g8 j = g j := fun j hj => (hp8a j (by omega)).trans (fr j hj)
            have c_q := fam_up c_q hp8a hp8b
            refine lv_iinc (v := nI (k + 1)) (lv' := [(4, .int (nI (k + 1))), (3, .ref (ad (b + 4 + k0))), (2, .int (nI k0)), (0, .ref (ad b)), (1, .ref (ad a))]) hx hb dX4_add_91 hl (k := 0) rfl (nI_1 _) (by decide) rfl (fun ls hl => ?_)
            refine lv_goto (tgt := 48) hx hb dX4_add_94 (by decide) ?_
            exact ih48 (k + 1) (nu kq k (am n (kq k) (- (kq k k0)) (kq k0))) h55 (kq_t hq hkk h65) (by omega) g8 _ _ _ c_s c_k c_t c_r c_q c_a  fr hP hS (lv_sub hl [0, 1, 2, 3, 4] rfl)
    exact LP48 ((n - 0) + 1) 0 (nu kp k0 (sp_fresh n kp R k0)) (Nat.zero_le n) kq_0 (Nat.lt_succ_self _) g5 _ _ _ c_s c_k c_t c_r c_q c_a  fr hP hS (lv_sub hl [0, 1, 2, 3, 4] rfl)
  · skip
    refine lv_iconst (v := nI 0) hx hb dX4_add_14 (by decide) ?_
    exact hret (nI 0) g1 _ _ _ _ (by decide) (by rw [← eR]; exact ⟨false, t, kp, by decide, fr, hsp3, Or.inl ⟨rfl, ld_neg hn hld h11, rfl, rfl⟩⟩) hP hS dX4_add_15

set_option maxRecDepth 20000 in
theorem wd_X4_freePlace_0 : Cond.fieldLink RX4 16 "AffineHulls$Span" "taken" "[Z" ∈ wsX4_freePlace := by decide +kernel
set_option maxRecDepth 20000 in
theorem in_X4_freePlace_X4 : ∀ w ∈ u_ws RX4 TX4 3, w ∈ wsX4_freePlace := by decide +kernel
abbrev rm_X4_freePlace : Room := { frames := 0, cells := 0, slots := 0, locals := 0 }
set_option maxHeartbeats 4000000 in
set_option maxRecDepth 100000 in
theorem c_X4_freePlace {l : Launch} {G : cx_G} {L : List Nat} {ad : Nat → Nat} {g : Nat → va_E} (hD : cx_D L ad) {b n : Nat} {t : Nat → Bool} {kp : Nat → Nat → FF} {rs : Nat → FF} {i : Nat} (hi : i < 1000) (hm : ∀ j : Nat, j < 4 + n → b + j ∈ L) (hn : n < 1000) (hn0 : 0 < n) (hsp : SpanAt G ad g b n t kp rs) : MI l yX4_freePlace wsX4_freePlace rm_X4_freePlace G L ad g [.ref (ad b), .int (nI i)] (fun r u => r = nI (fpl t (n - 1) 1 i) ∧ u = g) := by
  refine cx_ofI (cc := cX4_freePlace) (maxL := 4) (by decide +kernel) rfl (Nat.le_of_ble_eq_true rfl) ?_
  intro p e s m args below meth c Q hx hb hts hown hml hP hK hS hz hret ls hl
  have hown : s.vm.findClass RX4 = some m.cls := hown
  have hl : lv_has ls 4 [(0, .ref (ad b)), (1, .int (nI i))] := hl
  obtain ⟨c_s, c_k, c_t, c_r, c_q⟩ := hsp
  refine lv_iload_n hx hb dX4_freePlace_0 rfl (lv_at hl 1 rfl) ?_
  refine lv_istore_n (lv' := [(2, .int (nI i)), (0, .ref (ad b)), (1, .int (nI i))]) hx hb dX4_freePlace_1 rfl hl (by decide) rfl (fun ls hl => ?_)
  refine lv_iconst (v := nI 1) hx hb dX4_freePlace_2 (by decide) ?_
  refine lv_istore_n (lv' := [(3, .int (nI 1)), (2, .int (nI i)), (0, .ref (ad b)), (1, .int (nI i))]) hx hb dX4_freePlace_3 rfl hl (by decide) rfl (fun ls hl => ?_)
  have LP4 : ∀ (fu : Nat) (k : Nat) (le : Nat), (1 ≤ k) → (k ≤ n) → (le ≤ i) → (fpl t (n - k) k le = fpl t (n - 1) 1 i) → (n - k) < fu → ∀ (ls : Array Slot), lv_has ls 4 [(3, .int (nI k)), (2, .int (nI le)), (0, .ref (ad b)), (1, .int (nI i))] → W p l e rm_X4_freePlace s m args below meth c s.heap [] 0 0 Q (F0 m 4 ls []) := by
    intro fu
    induction fu with
    | zero => intro k le hk1 hkn hle hf hfu; exact absurd hfu (Nat.not_lt_zero _)
    | succ fu ih4 =>
      intro k le hk1 hkn hle hf hfu4 ls hl
      refine lv_iload_n hx hb dX4_freePlace_4 rfl (lv_at hl 0 rfl) ?_
      refine lv_aload_n hx hb dX4_freePlace_5 rfl (lv_at hl 2 rfl) ?_
      refine ax_get (k := b) (v := .ref (ad (b + 2))) hx hb hts in_X4_freePlace_X4 hown hK hP (hm 0 (by omega)) c_s rfl 1 (by decide) (hts _ wd_X4_freePlace_0) (fun _ h9 => h9) rfl dX4_freePlace_6 ?_
      refine ax_alen (k := b + 2) (n := n) hx hb hK hP (hm 2 (by omega)) 1 rfl c_t rfl dX4_freePlace_9 ?_
      refine ax_icge (a := k) (b := n) (tgt := 37) hx hb dX4_freePlace_10 (by decide) (by omega) (by omega) (fun h10 => ?_) (fun h10 => ?_)
      · skip
        refine lv_iconst (v := nI 0) hx hb dX4_freePlace_37 (by decide) ?_
        exact hret (nI 0) g _ _ _ _ rfl ⟨by rw [← hf, fp_e h10], rfl⟩ hP hS dX4_freePlace_38
      · skip
        refine lv_aload_n hx hb dX4_freePlace_13 rfl (lv_at hl 2 rfl) ?_
        refine ax_get (k := b) (v := .ref (ad (b + 2))) hx hb hts in_X4_freePlace_X4 hown hK hP (hm 0 (by omega)) c_s rfl 1 (by decide) (hts _ wd_X4_freePlace_0) (fun _ h9 => h9) rfl dX4_freePlace_14 ?_
        refine lv_iload_n hx hb dX4_freePlace_17 rfl (lv_at hl 0 rfl) ?_
        refine ax_zald (k := b + 2) (i := k) hx hb hK hP (hm 2 (by omega)) c_t (by omega) (by omega) dX4_freePlace_18 ?_
        refine ax_zne (b := (t k)) (tgt := 31) hx hb dX4_freePlace_19 (by decide) (fun h19 => ?_) (fun h19 => ?_)
        · skip
          refine lv_iinc (v := nI (k + 1)) (lv' := [(3, .int (nI (k + 1))), (2, .int (nI le)), (0, .ref (ad b)), (1, .int (nI i))]) hx hb dX4_freePlace_31 hl (k := 0) rfl (nI_1 _) (by decide) rfl (fun ls hl => ?_)
          refine lv_goto (tgt := 4) hx hb dX4_freePlace_34 (by decide) ?_
          exact ih4 (k + 1) le (by omega) (by omega) (by omega) ((fp_t h10 h19).symm.trans hf) (by omega) _ (lv_sub hl [0, 1, 2, 3] rfl)
        · skip
          refine lv_iload_n hx hb dX4_freePlace_22 rfl (lv_at hl 1 rfl) ?_
          refine ax_ifne (a := le) (tgt := 28) hx hb dX4_freePlace_23 (by decide) (by omega) (fun h23 => ?_) (fun h23 => ?_)
          · skip
            refine lv_iinc (v := nI (le - 1)) (lv' := [(2, .int (nI (le - 1))), (3, .int (nI k)), (0, .ref (ad b)), (1, .int (nI i))]) hx hb dX4_freePlace_28 hl (k := 1) rfl (sb_m1 (by omega)) (by decide) rfl (fun ls hl => ?_)
            refine lv_iinc (v := nI (k + 1)) (lv' := [(3, .int (nI (k + 1))), (2, .int (nI (le - 1))), (0, .ref (ad b)), (1, .int (nI i))]) hx hb dX4_freePlace_31 hl (k := 1) rfl (nI_1 _) (by decide) rfl (fun ls hl => ?_)
            refine lv_goto (tgt := 4) hx hb dX4_freePlace_34 (by decide) ?_
            exact ih4 (k + 1) (le - 1) (by omega) (by omega) (by omega) ((fp_f h10 h19 h23).symm.trans hf) (by omega) _ (lv_sub hl [0, 1, 2, 3] rfl)
          · skip
            refine lv_iload_n hx hb dX4_freePlace_26 rfl (lv_at hl 0 rfl) ?_
            exact hret (nI k) g _ _ _ _ rfl ⟨by rw [← hf, fp_h h10 h19 h23], rfl⟩ hP hS dX4_freePlace_27
  exact LP4 ((n - 1) + 1) 1 i (by omega) (by omega) (by omega) rfl (Nat.lt_succ_self _) _ (lv_sub hl [0, 1, 2, 3] rfl)

set_option maxRecDepth 20000 in
theorem wd_X4_vanishing_0 : Cond.fieldLink RX4 16 "AffineHulls$Span" "taken" "[Z" ∈ wsX4_vanishing := by decide +kernel
set_option maxRecDepth 20000 in
theorem in_X4_vanishing_X4 : ∀ w ∈ u_ws RX4 TX4 3, w ∈ wsX4_vanishing := by decide +kernel
set_option maxRecDepth 20000 in
theorem wd_X4_vanishing_2 : Cond.fieldLink RX4 11 "AffineHulls$Span" "kept" "[[I" ∈ wsX4_vanishing := by decide +kernel
set_option maxRecDepth 20000 in
theorem wd_X4_vanishing_3 : Cond.initialized RX5 ∈ wsX4_vanishing := by decide +kernel
set_option maxRecDepth 20000 in
theorem wd_X4_vanishing_4 : Cond.static yX5_number ∈ wsX4_vanishing := by decide +kernel
abbrev rm_X4_vanishing : Room := { frames := 2, cells := 0, slots := 0, locals := 42 }
set_option maxHeartbeats 4000000 in
set_option maxRecDepth 100000 in
theorem c_X4_vanishing {l : Launch} {G : cx_G} {L : List Nat} {ad : Nat → Nat} {g : Nat → va_E} (hD : cx_D L ad) {b n : Nat} {t : Nat → Bool} {kp : Nat → Nat → FF} {rs : Nat → FF} {fr k : Nat} (hfr : fr < n) (hk : k < n) (hm : ∀ j : Nat, j < 4 + n → b + j ∈ L) (hn : n < 1000) (hn0 : 0 < n) (hsp : SpanAt G ad g b n t kp rs) : MI l yX4_vanishing wsX4_vanishing rm_X4_vanishing G L ad g [.ref (ad b), .int (nI fr), .int (nI k)] (fun r u => r = nI (van t kp fr k).val ∧ u = g) := by
  refine cx_ofI (cc := cX4_vanishing) (maxL := 3) (by decide +kernel) rfl (Nat.le_of_ble_eq_true rfl) ?_
  intro p e s m args below meth c Q hx hb hts hown hml hP hK hS hz hret ls hl
  have hown : s.vm.findClass RX4 = some m.cls := hown
  have hl : lv_has ls 3 [(0, .ref (ad b)), (1, .int (nI fr)), (2, .int (nI k))] := hl
  obtain ⟨c_s, c_k, c_t, c_r, c_q⟩ := hsp
  refine lv_iload_n hx hb dX4_vanishing_0 rfl (lv_at hl 2 rfl) ?_
  refine lv_iload_n hx hb dX4_vanishing_1 rfl (lv_at hl 1 rfl) ?_
  refine ax_icne (a := k) (b := fr) (tgt := 7) hx hb dX4_vanishing_2 (by decide) (by omega) (by omega) (fun h2 => ?_) (fun h2 => ?_)
  · skip
    refine lv_aload_n hx hb dX4_vanishing_7 rfl (lv_at hl 0 rfl) ?_
    refine ax_get (k := b) (v := .ref (ad (b + 2))) hx hb hts in_X4_vanishing_X4 hown hK hP (hm 0 (by omega)) c_s rfl 1 (by decide) (hts _ wd_X4_vanishing_0) (fun _ h9 => h9) rfl dX4_vanishing_8 ?_
    refine lv_iload_n hx hb dX4_vanishing_11 rfl (lv_at hl 2 rfl) ?_
    refine ax_zald (k := b + 2) (i := k) hx hb hK hP (hm 2 (by omega)) c_t (by omega) (by omega) dX4_vanishing_12 ?_
    refine ax_zeq (b := (t k)) (tgt := 31) hx hb dX4_vanishing_13 (by decide) (fun h13 => ?_) (fun h13 => ?_)
    · skip
      refine lv_iconst (v := nI 0) hx hb dX4_vanishing_31 (by decide) ?_
      exact hret (nI 0) g _ _ _ _ rfl ⟨by unfold van; rw [if_neg h2, if_neg (by rw [h13]; decide)]; rfl, rfl⟩ hP hS dX4_vanishing_32
    · skip
      refine lv_aload_n hx hb dX4_vanishing_16 rfl (lv_at hl 0 rfl) ?_
      refine ax_get (k := b) (v := .ref (ad (b + 1))) hx hb hts in_X4_vanishing_X4 hown hK hP (hm 0 (by omega)) c_s rfl 0 (by decide) (hts _ wd_X4_vanishing_2) (fun _ h9 => h9) rfl dX4_vanishing_17 ?_
      refine lv_iload_n hx hb dX4_vanishing_20 rfl (lv_at hl 2 rfl) ?_
      refine ax_aald (k := b + 1) (i := k) (b := ad (b + 4 + k)) hx hb hK hP (hm 1 (by omega)) 6 rfl rfl c_k (by omega) (by omega) (if_pos (by omega)) dX4_vanishing_21 ?_
      refine lv_iload_n hx hb dX4_vanishing_22 rfl (lv_at hl 1 rfl) ?_
      have c_rk : g (b + 4 + k) = nA G n (vN (kp k)) := c_q k hk
      refine ax_iald (k := b + 4 + k) (i := fr) (v := nI ((vN (kp k)) fr)) hx hb hK hP (by have := hm (4 + k) (by omega); rwa [← Nat.add_assoc] at this) c_rk (by omega) (by omega) rfl dX4_vanishing_23 ?_
      refine lv_ineg hx hb dX4_vanishing_24 ?_
      refine cx_SNi (As := [.int (-(nI (vN (kp k) fr)))]) (rest := []) ⟨hx, hb, hml, hown, hts⟩ (c_X5_number hD (x := -(nI (vN (kp k) fr)))) ⟨va_cnB 1 hts gX4_vanishing_X5_number_n51 rfl rfl rfl (hK.2 (.methodLinkNest RX4 51 yX5_number RX5) (by decide +kernel)) (hts _ wd_X4_vanishing_3) (by decide +kernel) ⟨Nat.le_of_ble_eq_true rfl, Nat.le_of_ble_eq_true rfl⟩, hts _ wd_X4_vanishing_4, trivial⟩ hK hP hS hz ⟨Nat.zero_le _, Nat.zero_le _⟩ rfl hl.1 rfl (Nat.le_of_ble_eq_true rfl) dX4_vanishing_25 (fun r1 g1 H locs hp1 hP hS => ?_)
      obtain ⟨er1, ehp1g⟩ := hp1
      rw [ehp1g] at hP
      rw [er1]
      rw [neg_num]
      refine lv_goto (tgt := 32) hx hb dX4_vanishing_28 (by decide) ?_
      exact hret (nI ((- kp k fr).val)) g _ _ _ _ rfl ⟨by unfold van; rw [if_neg h2, if_pos h13], rfl⟩ hP hS dX4_vanishing_32
  · skip
    refine lv_iconst (v := nI 1) hx hb dX4_vanishing_5 (by decide) ?_
    exact hret (nI 1) g _ _ _ _ rfl ⟨by unfold van; rw [if_pos h2]; rfl, rfl⟩ hP hS dX4_vanishing_6

set_option maxRecDepth 20000 in
theorem wd_X1_clear_0 : Cond.fieldLink RX1 12 "AffineHulls$Hull" "span" "LAffineHulls$Span;" ∈ wsX1_clear := by decide +kernel
set_option maxRecDepth 20000 in
theorem in_X1_clear_X1 : ∀ w ∈ u_ws RX1 TX1 3, w ∈ wsX1_clear := by decide +kernel
set_option maxRecDepth 20000 in
theorem wd_X1_clear_2 : Cond.fieldLink RX1 25 "AffineHulls$Hull" "pointCount" "I" ∈ wsX1_clear := by decide +kernel
abbrev rm_X1_clear : Room := { frames := 1, cells := 0, slots := 0, locals := 21 }
set_option maxHeartbeats 4000000 in
set_option maxRecDepth 100000 in
theorem c_X1_clear {l : Launch} {G : cx_G} {L : List Nat} {ad : Nat → Nat} {g : Nat → va_E} (hD : cx_D L ad) {b n : Nat} {t : Nat → Bool} {kp : Nat → Nat → FF} {rs : Nat → FF} {h mb pc : Nat} (hh : h ∈ L) (hhb : h < b ∨ b + 4 + n ≤ h) (c_o : g h = .inr (1, [.ref (ad b), .ref (ad mb), .int (nI pc)])) (hm : ∀ j : Nat, j < 4 + n → b + j ∈ L) (hn : n < 1000) (hn0 : 0 < n) (hsp : SpanAt G ad g b n t kp rs) : MV l yX1_clear wsX1_clear rm_X1_clear G L ad g [.ref (ad h)] (fun u => (∀ j : Nat, (j ≠ b + 2 ∧ j ≠ h) → u j = g j) ∧ u h = .inr (1, [.ref (ad b), .ref (ad mb), .int (nI 0)]) ∧ ∃ t2 : Nat → Bool, (∀ j : Nat, j < n → t2 j = false) ∧ SpanAt G ad u b n t2 kp rs) := by
  refine cx_ofV (cc := cX1_clear) (maxL := 1) (by decide +kernel) rfl (Nat.le_of_ble_eq_true rfl) ?_
  intro p e s m args below meth c Q hx hb hts hown hml hP hK hS hz hret ls hl
  have hown : s.vm.findClass RX1 = some m.cls := hown
  have hl : lv_has ls 1 [(0, .ref (ad h))] := hl
  have fr : ∀ j : Nat, (j ≠ b + 2 ∧ j ≠ h) → g j = g j := fun _ _ => rfl
  have c_s := hsp.1
  refine lv_aload_n hx hb dX1_clear_0 rfl (lv_at hl 0 rfl) ?_
  refine ax_get (k := h) (v := .ref (ad b)) hx hb hts in_X1_clear_X1 hown hK hP hh c_o rfl 0 (by decide) (hts _ wd_X1_clear_0) (fun _ h9 => h9) rfl dX1_clear_1 ?_
  refine cx_Vv (As := []) (rest := []) ⟨hx, hb, hml, hown, hts⟩ (c_X4_clear hD (b := b) (n := n) (t := t) (kp := kp) (rs := rs) hm hn hn0 hsp) (cwV 0 hts gX1_clear_X4_clear rfl rfl rfl (by decide +kernel) ⟨Nat.le_of_ble_eq_true rfl, Nat.le_of_ble_eq_true rfl⟩) hK hP hS hz (hm 0 (by omega)) c_s rfl ⟨Nat.zero_le _, Nat.zero_le _⟩ rfl hl.1 rfl (Nat.le_of_ble_eq_true rfl) dX1_clear_4 (fun g1 H locs hp1 hP hS => ?_)
  obtain ⟨hp1a, t2, ht2, hsp2⟩ := hp1
  have c_o : g1 h = .inr (1, [.ref (ad b), .ref (ad mb), .int (nI pc)]) := (hp1a h (by omega)).trans c_o
  have fr : ∀ j : Nat, (j ≠ b + 2 ∧ j ≠ h) → g1 j = g j := fun j hj => (hp1a j (by omega)).trans (fr j hj)
  have c_s := hsp2.1
  refine lv_aload_n hx hb dX1_clear_7 rfl (lv_at hl 0 rfl) ?_
  refine lv_iconst (v := nI 0) hx hb dX1_clear_8 (by decide) ?_
  refine ax_put (k := h) (v := .int (nI 0)) (fs' := [.ref (ad b), .ref (ad mb), .int (nI 0)]) hx hb hts in_X1_clear_X1 tyX1 tyX1_ok nmX1 hown hK hP hD hS hh c_o rfl 2 (by decide) (hts _ wd_X1_clear_2) (fun _ h9 => h9) rfl (ty := .int) (by decide +kernel) rfl rfl (Nat.le_of_ble_eq_true rfl) rfl dX1_clear_9 (fun H locs g2 eg2 hP hS => ?_)
  have c_s : g2 b = .inr (4, [.ref (ad (b + 1)), .ref (ad (b + 2)), .ref (ad (b + 3))]) := (cx_ne eg2 b (by omega)).trans c_s
  have c_o : g2 h = .inr (1, [.ref (ad b), .ref (ad mb), .int (nI 0)]) := cx_eq eg2
  have fr : ∀ j : Nat, (j ≠ b + 2 ∧ j ≠ h) → g2 j = g j := fun j hj => (cx_ne eg2 j (by omega)).trans (fr j hj)
  exact hret g2 _ _ _ _ ⟨fr, c_o, t2, ht2, hsp2.kept (fun j h1 h2 => cx_ne eg2 j (by omega))⟩ hP hS dX1_clear_12

set_option maxRecDepth 20000 in
theorem wd_X1_equationCount_0 : Cond.fieldLink RX1 18 "AffineHulls$Hull" "members" "[I" ∈ wsX1_equationCount := by decide +kernel
set_option maxRecDepth 20000 in
theorem in_X1_equationCount_X1 : ∀ w ∈ u_ws RX1 TX1 3, w ∈ wsX1_equationCount := by decide +kernel
set_option maxRecDepth 20000 in
theorem wd_X1_equationCount_2 : Cond.fieldLink RX1 25 "AffineHulls$Hull" "pointCount" "I" ∈ wsX1_equationCount := by decide +kernel
abbrev rm_X1_equationCount : Room := { frames := 0, cells := 0, slots := 0, locals := 0 }
set_option maxHeartbeats 4000000 in
set_option maxRecDepth 100000 in
theorem c_X1_equationCount {l : Launch} {G : cx_G} {L : List Nat} {ad : Nat → Nat} {g : Nat → va_E} (hD : cx_D L ad) {b n h mb pc : Nat} {mf : Nat → Nat} (hh : h ∈ L) (hmb : mb ∈ L) (hpc : pc ≤ n) (c_o : g h = .inr (1, [.ref (ad b), .ref (ad mb), .int (nI pc)])) (c_m : g mb = nA G n mf) : MI l yX1_equationCount wsX1_equationCount rm_X1_equationCount G L ad g [.ref (ad h)] (fun r u => r = nI (n - pc) ∧ u = g) := by
  refine cx_ofI (cc := cX1_equationCount) (maxL := 1) (by decide +kernel) rfl (Nat.le_of_ble_eq_true rfl) ?_
  intro p e s m args below meth c Q hx hb hts hown hml hP hK hS hz hret ls hl
  have hown : s.vm.findClass RX1 = some m.cls := hown
  have hl : lv_has ls 1 [(0, .ref (ad h))] := hl
  refine lv_aload_n hx hb dX1_equationCount_0 rfl (lv_at hl 0 rfl) ?_
  refine ax_get (k := h) (v := .ref (ad mb)) hx hb hts in_X1_equationCount_X1 hown hK hP hh c_o rfl 1 (by decide) (hts _ wd_X1_equationCount_0) (fun _ h9 => h9) rfl dX1_equationCount_1 ?_
  refine ax_alen (k := mb) (n := n) hx hb hK hP hmb 0 rfl c_m rfl dX1_equationCount_4 ?_
  refine lv_aload_n hx hb dX1_equationCount_5 rfl (lv_at hl 0 rfl) ?_
  refine ax_get (k := h) (v := .int (nI pc)) hx hb hts in_X1_equationCount_X1 hown hK hP hh c_o rfl 2 (by decide) (hts _ wd_X1_equationCount_2) (fun _ h9 => h9) rfl dX1_equationCount_6 ?_
  refine ax_sub (a := n) (b := pc) hx hb dX1_equationCount_9 (by omega) ?_
  exact hret (nI (n - pc)) g _ _ _ _ rfl ⟨rfl, rfl⟩ hP hS dX1_equationCount_10
