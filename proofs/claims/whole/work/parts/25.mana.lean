/-! THE MODEL: equations read off, the analysis -/
theorem RK.pz_neg {V sz : Nat} {tb tb2 : Nat → FF} {pz : Nat → Int32} {t : Nat → Bool} {pv : Nat → Nat} (h : RK V sz tb tb2 pz t pv) (hsz : sz ≤ 30) {k : Nat} (hk : k < V + 1) (hn : pz k < 0) : t k = false := by
  cases q : t k
  · rfl
  · obtain ⟨e1, e2⟩ := (h.2 k hk).1 q
    rw [e1] at hn
    exact absurd hn (nI_pos (by omega))
theorem RK.pz_pos {V sz : Nat} {tb tb2 : Nat → FF} {pz : Nat → Int32} {t : Nat → Bool} {pv : Nat → Nat} (h : RK V sz tb tb2 pz t pv) {k : Nat} (hk : k < V + 1) (hn : ¬ pz k < 0) : t k = true ∧ pz k = nI (pv k) ∧ pv k < sz := by
  cases q : t k
  · rw [(h.2 k hk).2 q] at hn
    exact absurd (by decide) hn
  · exact ⟨rfl, (h.2 k hk).1 q⟩
theorem ng_fi (a : FF) : fi ((-(nI a.val)).toInt64).toInt = -a := by
  have h := a.isLt
  rw [i2l_fi, Int32.toInt_neg, nI_toInt (by omega), i32_bm (by omega) (by omega), fi_neg, fi_ff]
def ldF (V x : Nat) : Nat := if V < x then 0 else x
theorem ldF_lt {V x : Nat} : ldF V x < V + 1 := by unfold ldF; split <;> omega
def evF (V : Nat) (t : Nat → Bool) (kp : Nat → Nat → FF) (ld : Nat) : Nat → FF := fun k => if k < V + 1 then van t kp ld k else 0
theorem ev_1 {V ld k : Nat} {t : Nat → Bool} {kp : Nat → Nat → FF} (hl : ld < V + 1) (h : k = ld) : evF V t kp ld k = 1 := by
  unfold evF van
  rw [if_pos (by omega), if_pos h]
theorem ev_a {V ld k : Nat} {t : Nat → Bool} {kp : Nat → Nat → FF} (h : V < k) : evF V t kp ld k = 0 := by
  unfold evF
  rw [if_neg (by omega)]
theorem ev_b {V ld k : Nat} {t : Nat → Bool} {kp : Nat → Nat → FF} (h : k ≤ V) (h1 : k ≠ ld) (ht : t k = false) : evF V t kp ld k = 0 := by
  unfold evF van
  rw [if_pos (by omega), if_neg h1, ht, if_neg (by decide)]
theorem ev_n {V ld k : Nat} {t : Nat → Bool} {kp : Nat → Nat → FF} (h : k ≤ V) (h1 : k ≠ ld) (ht : t k = true) : evF V t kp ld k = -(kp k ld) := by
  unfold evF van
  rw [if_pos (by omega), if_neg h1, if_pos ht]
theorem fpl_s (t : Nat → Bool) (fu k i : Nat) : fpl t (fu + 1) k i = if t k = true then fpl t fu (k + 1) i else if i = 0 then k else fpl t fu (k + 1) (i - 1) := rfl
theorem cntF_s (t : Nat → Bool) (fu k : Nat) : cntF t (fu + 1) k = (if t k = true then 0 else 1) + cntF t fu (k + 1) := rfl
theorem fpl_at {t : Nat → Bool} : ∀ a fu k : Nat, a < fu → t (k + a) = false → fpl t fu k (cntF t a k) = k + a
  | 0, 0, _, h, _ => absurd h (Nat.not_lt_zero 0)
  | 0, fu + 1, k, _, ht => by
    have ht2 : t k = false := ht
    have e : cntF t 0 k = 0 := rfl
    rw [e, fpl_s, if_neg (by rw [ht2]; decide), if_pos rfl]
    rfl
  | a + 1, 0, _, h, _ => absurd h (Nat.not_lt_zero _)
  | a + 1, fu + 1, k, h, ht => by
    have ih := fpl_at (t := t) a fu (k + 1) (by omega) (by rw [show k + 1 + a = k + (a + 1) by omega]; exact ht)
    have e2 := cntF_s t a k
    rw [fpl_s]
    by_cases q : t k = true
    · rw [if_pos q] at e2
      rw [if_pos q, e2, Nat.zero_add, ih]
      omega
    · rw [if_neg q] at e2
      rw [if_neg q, if_neg (by omega), e2, show 1 + cntF t a (k + 1) - 1 = cntF t a (k + 1) by omega, ih]
      omega
/-- how many rows are read before step x -/
def RKC (V : Nat) (t : Nat → Bool) (x rk : Nat) : Prop := (x ≤ V + 1 → rk + cntT t x + 1 = x + cntT t 1) ∧ (x = V + 2 → rk + cntT t (V + 1) = V + 1)
theorem RKC.start {V : Nat} {t : Nat → Bool} : RKC V t 1 0 := ⟨fun _ => by omega, fun h => by omega⟩
theorem cntT_s (t : Nat → Bool) (k : Nat) : cntT t (k + 1) = cntT t k + (if t k = true then 1 else 0) := rfl
theorem RKC.stepT {V x rk : Nat} {t : Nat → Bool} (h : RKC V t x rk) (h1 : 1 ≤ x) (hx : x ≤ V + 1) (ht : t (ldF V x) = true) : RKC V t (x + 1) rk := by
  have h0 := h.1 hx
  unfold ldF at ht
  refine ⟨fun q => ?_, fun q => ?_⟩
  · rw [if_neg (by omega)] at ht
    rw [cntT_s, if_pos ht]
    omega
  · have e : x = V + 1 := by omega
    subst e
    rw [if_pos (by omega)] at ht
    have e1 : cntT t 1 = 0 + (if t 0 = true then 1 else 0) := rfl
    rw [if_pos ht] at e1
    omega
theorem RKC.stepF {V x rk : Nat} {t : Nat → Bool} (h : RKC V t x rk) (h1 : 1 ≤ x) (hx : x ≤ V + 1) (ht : t (ldF V x) = false) : RKC V t (x + 1) (rk + 1) := by
  have h0 := h.1 hx
  unfold ldF at ht
  refine ⟨fun q => ?_, fun q => ?_⟩
  · rw [if_neg (by omega)] at ht
    rw [cntT_s, ht, if_neg (by decide)]
    omega
  · have e : x = V + 1 := by omega
    subst e
    rw [if_pos (by omega)] at ht
    have e1 : cntT t 1 = 0 + (if t 0 = true then 1 else 0) := rfl
    rw [ht, if_neg (by decide)] at e1
    omega
theorem RKC.at {V x rk : Nat} {t : Nat → Bool} (h : RKC V t x rk) (h1 : 1 ≤ x) (hx : x ≤ V + 1) (ht : t (ldF V x) = false) : rk < V + 1 ∧ fpl t V 1 rk = ldF V x := by
  have h0 := h.1 hx
  have hc1 := cntT_le t 1
  have hF := cntF_T t (x - 1) 1
  rw [show 1 + (x - 1) = x by omega] at hF
  have erk : cntF t (x - 1) 1 = rk := by omega
  unfold ldF at ht ⊢
  by_cases q : V < x
  · rw [if_pos q] at ht ⊢
    have e : x = V + 1 := by omega
    subst e
    have e1 : cntT t 1 = 0 + (if t 0 = true then 1 else 0) := rfl
    rw [ht, if_neg (by decide)] at e1
    exact ⟨by omega, fpl_out t V 1 rk (by rw [← erk]; exact Nat.le_refl _)⟩
  · rw [if_neg q] at ht ⊢
    have e2 := fpl_at (t := t) (x - 1) V 1 (by omega) (by rw [show 1 + (x - 1) = x by omega]; exact ht)
    rw [erk] at e2
    exact ⟨by omega, by omega⟩
def EQI (node : Nat) (q : Nat → Nat → FF) (eq0 : Nat → FF) (rk : Nat) (eq : Nat → FF) : Prop := (∀ i k : Nat, i < rk → k < 5 → eq (25 * node + 5 * i + k) = q i k) ∧ ∀ j : Nat, (j < 25 * node ∨ 25 * node + 25 ≤ j) → eq j = eq0 j
theorem EQI.start {node : Nat} {q : Nat → Nat → FF} {eq0 : Nat → FF} : EQI node q eq0 0 eq0 := ⟨fun i k h => absurd h (Nat.not_lt_zero i), fun _ _ => rfl⟩
theorem EQI.push {node rk : Nat} {q : Nat → Nat → FF} {eq0 eq y v : Nat → FF} (h : EQI node q eq0 rk eq) (hof : OF (25 * node + 5 * rk) eq v 5 y) (hrk : rk < 5) (hv : ∀ k : Nat, k < 5 → v k = q rk k) : EQI node q eq0 (rk + 1) y := by
  refine ⟨fun i k hi hk => ?_, fun j hj => ?_⟩
  · by_cases e : i = rk
    · rw [e, hof.inn hk, hv k hk]
    · rw [hof.out (by omega)]
      exact h.1 i k (by omega) hk
  · rw [hof.out (by omega)]
    exact h.2 j hj
/-- rows and equations of the first nodes -/
def QE (V : Nat) (P : PS) (rz : Nat → Nat) (eq : Nat → FF) (n : Nat) : Prop := ∀ i : Nat, i < n → rz i = V + 1 - P.2.2.2.1 i ∧ ∀ a k : Nat, a < V + 1 - P.2.2.2.1 i → k < 5 → eq (25 * i + 5 * a + k) = eqF (V + 1) (P.2.2.2.2.1 i) (P.2.2.2.1 i) a k
theorem QE.push {V node : Nat} {P : PS} {rz rz2 : Nat → Nat} {eq eq2 : Nat → FF} (h : QE V P rz eq node) (hV : V ≤ 4) (h1 : rz2 node = V + 1 - P.2.2.2.1 node) (h2 : ∀ i : Nat, i ≠ node → rz2 i = rz i) (h3 : EQI node (eqF (V + 1) (P.2.2.2.2.1 node) (P.2.2.2.1 node)) eq (V + 1 - P.2.2.2.1 node) eq2) : QE V P rz2 eq2 (node + 1) := fun i hi => by
  by_cases e : i = node
  · subst e
    exact ⟨h1, fun a k ha hk => h3.1 a k ha hk⟩
  · obtain ⟨q1, q2⟩ := h i (by omega)
    refine ⟨(h2 i e).trans q1, fun a k ha hk => ?_⟩
    rw [h3.2 _ (by omega)]
    exact q2 a k ha hk
theorem EQI.cg {node rk rk2 : Nat} {q q2 : Nat → Nat → FF} {eq0 eq : Nat → FF} (h : EQI node q eq0 rk eq) (e : rk2 = rk) (hq : ∀ i : Nat, i < rk → q i = q2 i) : EQI node q2 eq0 rk2 eq := by
  subst e
  exact ⟨fun i k hi hk => by rw [← hq i hi]; exact h.1 i k hi hk, h.2⟩
theorem fpt_0 {i : Nat} : fpt i 0 = 1 := nu_s _ _ _
theorem fpt_i {i k : Nat} (h : k = i) : fpt i k = 1 := by
  unfold fpt
  by_cases e : k = 0
  · rw [e, nu_s]
  · rw [nu_n e, h, nu_s]
theorem fpt_n {i k : Nat} (h0 : k ≠ 0) (h : k ≠ i) : fpt i k = 0 := by
  unfold fpt
  rw [nu_n h0, nu_n h]
theorem QP.ps0 {N : Nat} {mn : Nat → Nat} {pq : Nat → FF} {cm : Nat → Int32} {nd nx : Nat → Nat} (h : ∀ i : Nat, i < N → mn i = 0) : QP N PS0 mn pq cm nd nx :=
  ⟨h, fun i j k _ hj => absurd hj (Nat.not_lt_zero j), fun i j _ hj => absurd hj (Nat.not_lt_zero j), fun k hk => absurd hk (Nat.not_lt_zero k)⟩
theorem clr_step {r mn : Nat → Nat} {k : Nat} (hr : ∀ j : Nat, r j = if j < k then 0 else mn j) : ∀ j : Nat, nu r k 0 j = if j < k + 1 then 0 else mn j := by
  intro j
  by_cases h : j = k
  · subst h
    rw [nu_s, if_pos (Nat.lt_succ_self j)]
  · rw [nu_n h, hr j]
    by_cases h2 : j < k
    · rw [if_pos h2, if_pos (by omega)]
    · rw [if_neg h2, if_neg (by omega)]
theorem wk_pass {w : Nat} {ef et ek ev : Nat → Nat} {eg : Nat → Nat → FF} {k ei : Nat} {P : PS} (h : ef ei = (workF w ef et ek ev eg k ei P).2.1 k) : passF w et ek ev eg k ei (workF w ef et ek ev eg k ei P) (if ek ei = 2 then 2 else 1) = workF w ef et ek ev eg k (ei + 1) P := by
  by_cases q : ek ei = 2
  · rw [if_pos q, wk_2 h q]
    rfl
  · rw [if_neg q, wk_1 h q]
    rfl

set_option maxRecDepth 20000 in
theorem wd_X6_readEquations_0 : Cond.fieldLink RX6 43 "AffineHullsModel" "rows" "[I" ∈ wsX6_readEquations := by decide +kernel
set_option maxRecDepth 20000 in
theorem in_X6_readEquations_X6 : ∀ w ∈ u_ws RX6 TX6 29, w ∈ wsX6_readEquations := by decide +kernel
set_option maxRecDepth 20000 in
theorem wd_X6_readEquations_2 : Cond.fieldLink RX6 71 "AffineHullsModel" "v" "I" ∈ wsX6_readEquations := by decide +kernel
set_option maxRecDepth 20000 in
theorem wd_X6_readEquations_3 : Cond.fieldLink RX6 61 "AffineHullsModel" "pivots" "[I" ∈ wsX6_readEquations := by decide +kernel
set_option maxRecDepth 20000 in
theorem wd_X6_readEquations_4 : Cond.fieldLink RX6 46 "AffineHullsModel" "equations" "[I" ∈ wsX6_readEquations := by decide +kernel
set_option maxRecDepth 20000 in
theorem wd_X6_readEquations_5 : Cond.fieldLink RX6 58 "AffineHullsModel" "table" "[I" ∈ wsX6_readEquations := by decide +kernel
abbrev rm_X6_readEquations : Room := { frames := 3, cells := 0, slots := 0, locals := 79 }
set_option maxHeartbeats 4000000 in
set_option maxRecDepth 100000 in
theorem c_X6_readEquations {l : Launch} {G : cx_G} {L : List Nat} {ad : Nat → Nat} {g : Nat → va_E} (hD : cx_D L ad) {N V th ec en al pl nc sz : Nat} {an : Bool} {node : Nat} {P : PS} {rw0 : Nat → Nat} {eq0 : Nat → FF} (hN1 : 1 ≤ N) (hN : N ≤ 8) (hV1 : 1 ≤ V) (hV : V ≤ 4) (hq : ∀ j : Nat, lbM j = true → j ∈ L) (c_o : g 1000 = .inr (6, [.int (nI N), .int (nI V), .int (nI th), .ref (ad 1003), .int (nI ec), .ref (ad 1005), .ref (ad 1006), .ref (ad 1007), .ref (ad 1008), .ref (ad 1009), .int (nI en), .int (if an = true then 1 else 0), .ref (ad 1012), .ref (ad 1013), .ref (ad 1014), .int (nI al), .ref (ad 1016), .ref (ad 1017), .ref (ad 1018), .ref (ad 1019), .int (nI pl), .ref (ad 1021), .int (nI nc), .ref (ad 1023), .ref (ad 1024), .int (nI sz), .ref (ad 1026), .ref (ad 1027), .ref (ad 1028)])) (c_W : g 1018 = nA G 8 rw0) (c_E : g 1019 = nA G 200 (vN eq0)) (hnode : node < N) (xq : QA G g N V P) : MV l yX6_readEquations wsX6_readEquations rm_X6_readEquations G L ad g [.ref (ad 1000), .int (nI node)] (fun u => (∀ j : Nat, (j ≠ 1000 ∧ j ≠ 1018 ∧ j ≠ 1019 ∧ j ≠ 1026 ∧ j ≠ 1027) → u j = g j) ∧ (∃ sz2 : Nat, u 1000 = .inr (6, [.int (nI N), .int (nI V), .int (nI th), .ref (ad 1003), .int (nI ec), .ref (ad 1005), .ref (ad 1006), .ref (ad 1007), .ref (ad 1008), .ref (ad 1009), .int (nI en), .int (if an = true then 1 else 0), .ref (ad 1012), .ref (ad 1013), .ref (ad 1014), .int (nI al), .ref (ad 1016), .ref (ad 1017), .ref (ad 1018), .ref (ad 1019), .int (nI pl), .ref (ad 1021), .int (nI nc), .ref (ad 1023), .ref (ad 1024), .int (nI sz2), .ref (ad 1026), .ref (ad 1027), .ref (ad 1028)])) ∧ QA G u N V P ∧ ∃ (rz : Nat → Nat) (eq : Nat → FF), u 1018 = nA G 8 rz ∧ u 1019 = nA G 200 (vN eq) ∧ rz node = V + 1 - P.2.2.2.1 node ∧ (∀ i : Nat, i ≠ node → rz i = rw0 i) ∧ EQI node (eqF (V + 1) (P.2.2.2.2.1 node) (P.2.2.2.1 node)) eq0 (V + 1 - P.2.2.2.1 node) eq) := by
  refine cx_ofV (cc := cX6_readEquations) (maxL := 6) (by decide +kernel) rfl (Nat.le_of_ble_eq_true rfl) ?_
  intro p e s m args below meth c Q hx hb hts hown hml hP hK hS hz hret ls hl
  have hown : s.vm.findClass RX6 = some m.cls := hown
  have hl : lv_has ls 6 [(0, .ref (ad 1000)), (1, .int (nI node))] := hl
  have fr : ∀ j : Nat, (j ≠ 1000 ∧ j ≠ 1018 ∧ j ≠ 1019 ∧ j ≠ 1026 ∧ j ≠ 1027) → g j = g j := fun _ _ => rfl
  obtain ⟨mn, pq, cm, nd, nx, tb, pz0, c_M, c_Q, c_C, c_D, c_X, c_T, c_P, hqp, hpv⟩ := id xq
  have hmn : mn node ≤ 5 := by have := hpv.cnt hnode; have := hqp.1 node hnode; omega
  have hmc := hqp.1 node hnode
  refine lv_aload_n hx hb dX6_readEquations_0 rfl (lv_at hl 0 rfl) ?_
  refine lv_iload_n hx hb dX6_readEquations_1 rfl (lv_at hl 1 rfl) ?_
  refine cx_Vv (As := [.int (nI node)]) (rest := []) ⟨hx, hb, hml, hown, hts⟩ (c_X6_layPoints hD hN1 hN hV1 hV hq (node := node) (mn := mn) (pq := pq) (tb := tb) c_o c_M c_Q c_T (by omega) hmn) (cwV 1 hts gX6_readEquations_X6_layPoints rfl rfl rfl (by decide +kernel) ⟨Nat.le_of_ble_eq_true rfl, Nat.le_of_ble_eq_true rfl⟩) hK hP hS hz (hq _ (by decide)) c_o rfl ⟨Nat.zero_le _, Nat.zero_le _⟩ rfl hl.1 rfl (Nat.le_of_ble_eq_true rfl) dX6_readEquations_2 (fun g1 H locs hp1 hP hS => ?_)
  obtain ⟨hp1a, hp1o, tb2, hp1T, hly⟩ := hp1
  have c_W : g1 1018 = nA G 8 rw0 := (hp1a 1018 (by omega)).trans c_W
  have c_E : g1 1019 = nA G 200 (vN eq0) := (hp1a 1019 (by omega)).trans c_E
  have c_M : g1 1012 = nA G 8 mn := (hp1a 1012 (by omega)).trans c_M
  have c_Q : g1 1013 = nA G 200 (vN pq) := (hp1a 1013 (by omega)).trans c_Q
  have c_C : g1 1014 = iA G 40 cm := (hp1a 1014 (by omega)).trans c_C
  have c_D : g1 1016 = nA G 41 nd := (hp1a 1016 (by omega)).trans c_D
  have c_X : g1 1017 = nA G 41 nx := (hp1a 1017 (by omega)).trans c_X
  have c_P : g1 1027 = iA G 5 pz0 := (hp1a 1027 (by omega)).trans c_P
  have fr : ∀ j : Nat, (j ≠ 1000 ∧ j ≠ 1018 ∧ j ≠ 1019 ∧ j ≠ 1026 ∧ j ≠ 1027) → g1 j = g j := fun j hj => (hp1a j (by first | omega | (unfold lbQ at hj; omega))).trans (fr j hj)
  have c_o := hp1o
  have c_T := hp1T
  refine lv_aload_n hx hb dX6_readEquations_5 rfl (lv_at hl 0 rfl) ?_
  refine cx_Vi (As := []) (rest := []) ⟨hx, hb, hml, hown, hts⟩ (c_X6_rank hD hN1 hN hV1 hV hq (tb := tb2) c_o c_T c_P (by omega)) (cwV 0 hts gX6_readEquations_X6_rank rfl rfl rfl (by decide +kernel) ⟨Nat.le_of_ble_eq_true rfl, Nat.le_of_ble_eq_true rfl⟩) hK hP hS hz (hq _ (by decide)) c_o rfl ⟨Nat.zero_le _, Nat.zero_le _⟩ rfl hl.1 rfl (Nat.le_of_ble_eq_true rfl) dX6_readEquations_6 (fun r2 g2 H locs hp2 hP hS => ?_)
  obtain ⟨hp2a, tb3, pz, t, pv, hrk, e_r2, hp2T, hp2P⟩ := hp2
  have c_o : g2 1000 = .inr (6, [.int (nI N), .int (nI V), .int (nI th), .ref (ad 1003), .int (nI ec), .ref (ad 1005), .ref (ad 1006), .ref (ad 1007), .ref (ad 1008), .ref (ad 1009), .int (nI en), .int (if an = true then 1 else 0), .ref (ad 1012), .ref (ad 1013), .ref (ad 1014), .int (nI al), .ref (ad 1016), .ref (ad 1017), .ref (ad 1018), .ref (ad 1019), .int (nI pl), .ref (ad 1021), .int (nI nc), .ref (ad 1023), .ref (ad 1024), .int (nI (mn node)), .ref (ad 1026), .ref (ad 1027), .ref (ad 1028)]) := (hp2a 1000 (by omega)).trans c_o
  have c_W : g2 1018 = nA G 8 rw0 := (hp2a 1018 (by omega)).trans c_W
  have c_E : g2 1019 = nA G 200 (vN eq0) := (hp2a 1019 (by omega)).trans c_E
  have c_M : g2 1012 = nA G 8 mn := (hp2a 1012 (by omega)).trans c_M
  have c_Q : g2 1013 = nA G 200 (vN pq) := (hp2a 1013 (by omega)).trans c_Q
  have c_C : g2 1014 = iA G 40 cm := (hp2a 1014 (by omega)).trans c_C
  have c_D : g2 1016 = nA G 41 nd := (hp2a 1016 (by omega)).trans c_D
  have c_X : g2 1017 = nA G 41 nx := (hp2a 1017 (by omega)).trans c_X
  have fr : ∀ j : Nat, (j ≠ 1000 ∧ j ≠ 1018 ∧ j ≠ 1019 ∧ j ≠ 1026 ∧ j ≠ 1027) → g2 j = g j := fun j hj => (hp2a j (by first | omega | (unfold lbQ at hj; omega))).trans (fr j hj)
  have c_T := hp2T
  have c_P := hp2P
  rw [e_r2]
  have hct := cntT_le t (V + 1)
  have hrr := hrk.1.ex (hqp.tab0 hnode hly hV)
  have hcn := hpv.cntT hnode hrr
  refine lv_pop hx hb dX6_readEquations_9 rfl ?_
  refine lv_aload_n hx hb dX6_readEquations_10 rfl (lv_at hl 0 rfl) ?_
  refine ax_get (k := 1000) (v := .ref (ad 1018)) hx hb hts in_X6_readEquations_X6 hown hK hP (hq _ (by decide)) c_o rfl 18 (by decide) (hts _ wd_X6_readEquations_0) (fun _ h9 => h9) rfl dX6_readEquations_11 ?_
  refine lv_iload_n hx hb dX6_readEquations_14 rfl (lv_at hl 1 rfl) ?_
  refine lv_iconst (v := nI 0) hx hb dX6_readEquations_15 (by decide) ?_
  refine ax_iast (k := 1018) (i := node) (f' := (fun j => nI ((nu rw0 node 0) j))) hx hb hK hP hD hS (hq _ (by decide)) c_W (by omega) (by omega) (up_n _ _ _) dX6_readEquations_16 (fun H locs g3 eg3 hP hS => ?_)
  have c_o : g3 1000 = .inr (6, [.int (nI N), .int (nI V), .int (nI th), .ref (ad 1003), .int (nI ec), .ref (ad 1005), .ref (ad 1006), .ref (ad 1007), .ref (ad 1008), .ref (ad 1009), .int (nI en), .int (if an = true then 1 else 0), .ref (ad 1012), .ref (ad 1013), .ref (ad 1014), .int (nI al), .ref (ad 1016), .ref (ad 1017), .ref (ad 1018), .ref (ad 1019), .int (nI pl), .ref (ad 1021), .int (nI nc), .ref (ad 1023), .ref (ad 1024), .int (nI (mn node)), .ref (ad 1026), .ref (ad 1027), .ref (ad 1028)]) := (cx_ne eg3 1000 (by omega)).trans c_o
  have c_E : g3 1019 = nA G 200 (vN eq0) := (cx_ne eg3 1019 (by omega)).trans c_E
  have c_M : g3 1012 = nA G 8 mn := (cx_ne eg3 1012 (by omega)).trans c_M
  have c_Q : g3 1013 = nA G 200 (vN pq) := (cx_ne eg3 1013 (by omega)).trans c_Q
  have c_C : g3 1014 = iA G 40 cm := (cx_ne eg3 1014 (by omega)).trans c_C
  have c_D : g3 1016 = nA G 41 nd := (cx_ne eg3 1016 (by omega)).trans c_D
  have c_X : g3 1017 = nA G 41 nx := (cx_ne eg3 1017 (by omega)).trans c_X
  have c_T : g3 1026 = nA G 150 (vN tb3) := (cx_ne eg3 1026 (by omega)).trans c_T
  have c_P : g3 1027 = iA G 5 pz := (cx_ne eg3 1027 (by omega)).trans c_P
  have c_W : g3 1018 = nA G 8 (nu rw0 node 0) := cx_eq eg3
  have fr : ∀ j : Nat, (j ≠ 1000 ∧ j ≠ 1018 ∧ j ≠ 1019 ∧ j ≠ 1026 ∧ j ≠ 1027) → g3 j = g j := fun j hj => (cx_ne eg3 j (by omega)).trans (fr j hj)
  refine lv_iconst (v := nI 1) hx hb dX6_readEquations_17 (by decide) ?_
  refine lv_istore_n (lv' := [(2, .int (nI 1)), (0, .ref (ad 1000)), (1, .int (nI node))]) hx hb dX6_readEquations_18 rfl hl (by decide) rfl (fun ls hl => ?_)
  have LP19 : ∀ (fu : Nat) (x : Nat) (rk : Nat) (eq : Nat → FF) (rz : Nat → Nat), (1 ≤ x) → (x ≤ V + 2) → (RKC V t x rk) → (rz node = rk) → (∀ i : Nat, i ≠ node → rz i = rw0 i) → (EQI node (eqv (V + 1) t (fun k => rw5 tb3 (pv k))) eq0 rk eq) → (V + 2 - x) < fu → ∀ (ga4 : Nat → va_E) (H : Heap) (locs : List Loc) (ls : Array Slot), (ga4 1000 = .inr (6, [.int (nI N), .int (nI V), .int (nI th), .ref (ad 1003), .int (nI ec), .ref (ad 1005), .ref (ad 1006), .ref (ad 1007), .ref (ad 1008), .ref (ad 1009), .int (nI en), .int (if an = true then 1 else 0), .ref (ad 1012), .ref (ad 1013), .ref (ad 1014), .int (nI al), .ref (ad 1016), .ref (ad 1017), .ref (ad 1018), .ref (ad 1019), .int (nI pl), .ref (ad 1021), .int (nI nc), .ref (ad 1023), .ref (ad 1024), .int (nI (mn node)), .ref (ad 1026), .ref (ad 1027), .ref (ad 1028)])) → (ga4 1018 = nA G 8 rz) → (ga4 1019 = nA G 200 (vN eq)) → (ga4 1012 = nA G 8 mn) → (ga4 1013 = nA G 200 (vN pq)) → (ga4 1014 = iA G 40 cm) → (ga4 1016 = nA G 41 nd) → (ga4 1017 = nA G 41 nx) → (ga4 1026 = nA G 150 (vN tb3)) → (ga4 1027 = iA G 5 pz) → (∀ j : Nat, (j ≠ 1000 ∧ j ≠ 1018 ∧ j ≠ 1019 ∧ j ≠ 1026 ∧ j ≠ 1027) → ga4 j = g j) → va_P G.1 vwCl (wl L ad ga4) H → va_S (cx_A L ad s.heap.size) s.heap H locs → lv_has ls 6 [(2, .int (nI x)), (0, .ref (ad 1000)), (1, .int (nI node))] → W p l e rm_X6_readEquations s m args below meth c H locs 0 0 Q (F0 m 19 ls []) := by
    intro fu
    induction fu with
    | zero => intro x rk eq rz hx1 hx2 hrc hrz hrzo hei hfu; exact absurd hfu (Nat.not_lt_zero _)
    | succ fu ih19 =>
      intro x rk eq rz hx1 hx2 hrc hrz hrzo hei hfu19 ga4 H locs ls c_o c_W c_E c_M c_Q c_C c_D c_X c_T c_P fr hP hS hl
      refine lv_iload_n hx hb dX6_readEquations_19 rfl (lv_at hl 0 rfl) ?_
      refine lv_aload_n hx hb dX6_readEquations_20 rfl (lv_at hl 1 rfl) ?_
      refine ax_get (k := 1000) (v := .int (nI V)) hx hb hts in_X6_readEquations_X6 hown hK hP (hq _ (by decide)) c_o rfl 1 (by decide) (hts _ wd_X6_readEquations_2) (fun _ h9 => h9) rfl dX6_readEquations_21 ?_
      refine lv_iconst (v := nI 1) hx hb dX6_readEquations_24 (by decide) ?_
      refine ax_add (a := V) (b := 1) hx hb dX6_readEquations_25 ?_
      refine ax_icgt (a := x) (b := V + 1) (tgt := 162) hx hb dX6_readEquations_26 (by decide) (by omega) (by omega) (fun h26 => ?_) (fun h26 => ?_)
      · skip
        exact hret ga4 _ _ _ _ (by have ex : x = V + 2 := (by omega); have hq9 := hrc.2 ex; have e9 : V + 1 - P.2.2.2.1 node = rk := (by omega); exact ⟨fr, ⟨_, c_o⟩, ⟨mn, pq, cm, nd, nx, tb3, pz, c_M, c_Q, c_C, c_D, c_X, c_T, c_P, hqp, hpv⟩, rz, eq, c_W, c_E, by omega, hrzo, hei.cg e9 (fun i hi => eqF_of (Nat.succ_pos V) hrr (by omega))⟩) hP hS dX6_readEquations_162
      · skip
        have hld := ldF_lt (V := V) (x := x)
        have LP43 : ∀ (_ : Unit), ∀ (ls : Array Slot), lv_has ls 6 [(3, .int (nI (ldF V x))), (2, .int (nI x)), (0, .ref (ad 1000)), (1, .int (nI node))] → W p l e rm_X6_readEquations s m args below meth c H locs 0 0 Q (F0 m 43 ls []) := by
          intro _  ls hl
          refine lv_aload_n hx hb dX6_readEquations_43 rfl (lv_at hl 2 rfl) ?_
          refine ax_get (k := 1000) (v := .ref (ad 1027)) hx hb hts in_X6_readEquations_X6 hown hK hP (hq _ (by decide)) c_o rfl 27 (by decide) (hts _ wd_X6_readEquations_3) (fun _ h9 => h9) rfl dX6_readEquations_44 ?_
          refine lv_iload_n hx hb dX6_readEquations_47 rfl (lv_at hl 0 rfl) ?_
          refine ax_iald (k := 1027) (i := ldF V x) (v := pz (ldF V x)) hx hb hK hP (hq _ (by decide)) c_P (by omega) (by omega) rfl dX6_readEquations_48 ?_
          refine lv_if_ge (x := pz (ldF V x)) (tgt := 156) hx hb dX6_readEquations_49 (by decide) (fun h49 => ?_) (fun h49 => ?_)
          · skip
            have htl := (hrk.pz_pos hld (Int32.not_lt.mpr h49)).1
            refine lv_iinc (v := nI (x + 1)) (lv' := [(2, .int (nI (x + 1))), (3, .int (nI (ldF V x))), (0, .ref (ad 1000)), (1, .int (nI node))]) hx hb dX6_readEquations_156 hl (k := 1) rfl (nI_1 _) (by decide) rfl (fun ls hl => ?_)
            refine lv_goto (tgt := 19) hx hb dX6_readEquations_159 (by decide) ?_
            exact ih19 (x + 1) rk eq rz (by omega) (by omega) (hrc.stepT hx1 (by omega) htl) hrz hrzo hei (by omega) ga4 _ _ _ c_o c_W c_E c_M c_Q c_C c_D c_X c_T c_P  fr hP hS (lv_sub hl [0, 2, 3] rfl)
          · skip
            have htl := hrk.pz_neg (by omega) hld (Int32.not_le.mp h49)
            obtain ⟨hrk5, hfpl⟩ := hrc.at hx1 (by omega) htl
            refine lv_bipush (v := nI 25) hx hb dX6_readEquations_52 (by decide) ?_
            refine lv_iload_n hx hb dX6_readEquations_54 rfl (lv_at hl 3 rfl) ?_
            refine ax_mul (a := 25) (b := node) hx hb dX6_readEquations_55 ?_
            refine lv_iconst (v := nI 5) hx hb dX6_readEquations_56 (by decide) ?_
            refine lv_aload_n hx hb dX6_readEquations_57 rfl (lv_at hl 2 rfl) ?_
            refine ax_get (k := 1000) (v := .ref (ad 1018)) hx hb hts in_X6_readEquations_X6 hown hK hP (hq _ (by decide)) c_o rfl 18 (by decide) (hts _ wd_X6_readEquations_0) (fun _ h9 => h9) rfl dX6_readEquations_58 ?_
            refine lv_iload_n hx hb dX6_readEquations_61 rfl (lv_at hl 3 rfl) ?_
            refine ax_iald (k := 1018) (i := node) (v := nI (rz node)) hx hb hK hP (hq _ (by decide)) c_W (by omega) (by omega) rfl dX6_readEquations_62 ?_
            refine ax_mul (a := 5) (b := rz node) hx hb dX6_readEquations_63 ?_
            refine ax_add (a := 25 * node) (b := 5 * (rz node)) hx hb dX6_readEquations_64 ?_
            refine lv_istore (lv' := [(4, .int (nI (25 * node + (5 * (rz node))))), (3, .int (nI (ldF V x))), (2, .int (nI x)), (0, .ref (ad 1000)), (1, .int (nI node))]) hx hb dX6_readEquations_65 hl (by decide) rfl (fun ls hl => ?_)
            refine lv_iconst (v := nI 0) hx hb dX6_readEquations_67 (by decide) ?_
            refine lv_istore (lv' := [(5, .int (nI 0)), (4, .int (nI (25 * node + (5 * (rz node))))), (3, .int (nI (ldF V x))), (2, .int (nI x)), (0, .ref (ad 1000)), (1, .int (nI node))]) hx hb dX6_readEquations_68 hl (by decide) rfl (fun ls hl => ?_)
            have LP70 : ∀ (fu : Nat) (k : Nat) (y : Nat → FF), (k ≤ 5) → (OF (25 * node + 5 * rz node) eq (evF V t (fun k => rw5 tb3 (pv k)) (ldF V x)) k y) → (5 - k) < fu → ∀ (ga6 : Nat → va_E) (H : Heap) (locs : List Loc) (ls : Array Slot), (ga6 1000 = .inr (6, [.int (nI N), .int (nI V), .int (nI th), .ref (ad 1003), .int (nI ec), .ref (ad 1005), .ref (ad 1006), .ref (ad 1007), .ref (ad 1008), .ref (ad 1009), .int (nI en), .int (if an = true then 1 else 0), .ref (ad 1012), .ref (ad 1013), .ref (ad 1014), .int (nI al), .ref (ad 1016), .ref (ad 1017), .ref (ad 1018), .ref (ad 1019), .int (nI pl), .ref (ad 1021), .int (nI nc), .ref (ad 1023), .ref (ad 1024), .int (nI (mn node)), .ref (ad 1026), .ref (ad 1027), .ref (ad 1028)])) → (ga6 1018 = nA G 8 rz) → (ga6 1019 = nA G 200 (vN y)) → (ga6 1012 = nA G 8 mn) → (ga6 1013 = nA G 200 (vN pq)) → (ga6 1014 = iA G 40 cm) → (ga6 1016 = nA G 41 nd) → (ga6 1017 = nA G 41 nx) → (ga6 1026 = nA G 150 (vN tb3)) → (ga6 1027 = iA G 5 pz) → (∀ j : Nat, (j ≠ 1000 ∧ j ≠ 1018 ∧ j ≠ 1019 ∧ j ≠ 1026 ∧ j ≠ 1027) → ga6 j = g j) → va_P G.1 vwCl (wl L ad ga6) H → va_S (cx_A L ad s.heap.size) s.heap H locs → lv_has ls 6 [(5, .int (nI k)), (4, .int (nI (25 * node + 5 * rz node))), (3, .int (nI (ldF V x))), (2, .int (nI x)), (0, .ref (ad 1000)), (1, .int (nI node))] → W p l e rm_X6_readEquations s m args below meth c H locs 0 0 Q (F0 m 70 ls []) := by
              intro fu
              induction fu with
              | zero => intro k y hk5 hof hfu; exact absurd hfu (Nat.not_lt_zero _)
              | succ fu ih70 =>
                intro k y hk5 hof hfu70 ga6 H locs ls c_o c_W c_E c_M c_Q c_C c_D c_X c_T c_P fr hP hS hl
                refine lv_iload hx hb dX6_readEquations_70 (lv_at hl 0 rfl) ?_
                refine lv_iconst (v := nI 5) hx hb dX6_readEquations_72 (by decide) ?_
                refine ax_icge (a := k) (b := 5) (tgt := 146) hx hb dX6_readEquations_73 (by decide) (by omega) (by omega) (fun h73 => ?_) (fun h73 => ?_)
                · skip
                  refine lv_aload_n hx hb dX6_readEquations_146 rfl (lv_at hl 4 rfl) ?_
                  refine ax_get (k := 1000) (v := .ref (ad 1018)) hx hb hts in_X6_readEquations_X6 hown hK hP (hq _ (by decide)) c_o rfl 18 (by decide) (hts _ wd_X6_readEquations_0) (fun _ h9 => h9) rfl dX6_readEquations_147 ?_
                  refine lv_iload_n hx hb dX6_readEquations_150 rfl (lv_at hl 5 rfl) ?_
                  refine lv_dup2_11 hx hb dX6_readEquations_151 rfl rfl ?_
                  refine ax_iald (k := 1018) (i := node) (v := nI (rz node)) hx hb hK hP (hq _ (by decide)) c_W (by omega) (by omega) rfl dX6_readEquations_152 ?_
                  refine lv_iconst (v := nI 1) hx hb dX6_readEquations_153 (by decide) ?_
                  refine ax_add (a := rz node) (b := 1) hx hb dX6_readEquations_154 ?_
                  refine ax_iast (k := 1018) (i := node) (f' := (fun j => nI ((nu rz node (rz node + 1)) j))) hx hb hK hP hD hS (hq _ (by decide)) c_W (by omega) (by omega) (up_n _ _ _) dX6_readEquations_155 (fun H locs g7 eg7 hP hS => ?_)
                  have c_o : g7 1000 = .inr (6, [.int (nI N), .int (nI V), .int (nI th), .ref (ad 1003), .int (nI ec), .ref (ad 1005), .ref (ad 1006), .ref (ad 1007), .ref (ad 1008), .ref (ad 1009), .int (nI en), .int (if an = true then 1 else 0), .ref (ad 1012), .ref (ad 1013), .ref (ad 1014), .int (nI al), .ref (ad 1016), .ref (ad 1017), .ref (ad 1018), .ref (ad 1019), .int (nI pl), .ref (ad 1021), .int (nI nc), .ref (ad 1023), .ref (ad 1024), .int (nI (mn node)), .ref (ad 1026), .ref (ad 1027), .ref (ad 1028)]) := (cx_ne eg7 1000 (by omega)).trans c_o
                  have c_E : g7 1019 = nA G 200 (vN y) := (cx_ne eg7 1019 (by omega)).trans c_E
                  have c_M : g7 1012 = nA G 8 mn := (cx_ne eg7 1012 (by omega)).trans c_M
                  have c_Q : g7 1013 = nA G 200 (vN pq) := (cx_ne eg7 1013 (by omega)).trans c_Q
                  have c_C : g7 1014 = iA G 40 cm := (cx_ne eg7 1014 (by omega)).trans c_C
                  have c_D : g7 1016 = nA G 41 nd := (cx_ne eg7 1016 (by omega)).trans c_D
                  have c_X : g7 1017 = nA G 41 nx := (cx_ne eg7 1017 (by omega)).trans c_X
                  have c_T : g7 1026 = nA G 150 (vN tb3) := (cx_ne eg7 1026 (by omega)).trans c_T
                  have c_P : g7 1027 = iA G 5 pz := (cx_ne eg7 1027 (by omega)).trans c_P
                  have c_W : g7 1018 = nA G 8 (nu rz node (rz node + 1)) := cx_eq eg7
                  have fr : ∀ j : Nat, (j ≠ 1000 ∧ j ≠ 1018 ∧ j ≠ 1019 ∧ j ≠ 1026 ∧ j ≠ 1027) → g7 j = g j := fun j hj => (cx_ne eg7 j (by omega)).trans (fr j hj)
                  refine lv_iinc (v := nI (x + 1)) (lv' := [(2, .int (nI (x + 1))), (5, .int (nI k)), (4, .int (nI (25 * node + 5 * rz node))), (3, .int (nI (ldF V x))), (0, .ref (ad 1000)), (1, .int (nI node))]) hx hb dX6_readEquations_156 hl (k := 3) rfl (nI_1 _) (by decide) rfl (fun ls hl => ?_)
                  refine lv_goto (tgt := 19) hx hb dX6_readEquations_159 (by decide) ?_
                  exact ih19 (x + 1) (rk + 1) y (nu rz node (rz node + 1)) (by omega) (by omega) (hrc.stepF hx1 (by omega) htl) (by rw [nu_s, hrz]) (fun i hi => (nu_n hi).trans (hrzo i hi)) (by have e5 : k = 5 := (by omega); subst e5; rw [hrz] at hof; exact hei.push hof (by omega) (fun k hk => by unfold eqv evF; rw [show V + 1 - 1 = V from rfl, hfpl])) (by omega) g7 _ _ _ c_o c_W c_E c_M c_Q c_C c_D c_X c_T c_P  fr hP hS (lv_sub hl [0, 4, 5] rfl)
                · skip
                  refine lv_aload_n hx hb dX6_readEquations_76 rfl (lv_at hl 4 rfl) ?_
                  refine ax_get (k := 1000) (v := .ref (ad 1019)) hx hb hts in_X6_readEquations_X6 hown hK hP (hq _ (by decide)) c_o rfl 19 (by decide) (hts _ wd_X6_readEquations_4) (fun _ h9 => h9) rfl dX6_readEquations_77 ?_
                  refine lv_iload hx hb dX6_readEquations_80 (lv_at hl 1 rfl) ?_
                  refine lv_iload hx hb dX6_readEquations_82 (lv_at hl 0 rfl) ?_
                  refine ax_add (a := 25 * node + 5 * rz node) (b := k) hx hb dX6_readEquations_84 ?_
                  refine lv_iload hx hb dX6_readEquations_85 (lv_at hl 0 rfl) ?_
                  refine lv_iload_n hx hb dX6_readEquations_87 rfl (lv_at hl 2 rfl) ?_
                  refine ax_icne (a := k) (b := ldF V x) (tgt := 95) hx hb dX6_readEquations_88 (by decide) (by omega) (by omega) (fun h88 => ?_) (fun h88 => ?_)
                  · skip
                    refine lv_iload hx hb dX6_readEquations_95 (lv_at hl 0 rfl) ?_
                    refine lv_aload_n hx hb dX6_readEquations_97 rfl (lv_at hl 4 rfl) ?_
                    refine ax_get (k := 1000) (v := .int (nI V)) hx hb hts in_X6_readEquations_X6 hown hK hP (hq _ (by decide)) c_o rfl 1 (by decide) (hts _ wd_X6_readEquations_2) (fun _ h9 => h9) rfl dX6_readEquations_98 ?_
                    refine ax_icgt (a := k) (b := V) (tgt := 138) hx hb dX6_readEquations_101 (by decide) (by omega) (by omega) (fun h101 => ?_) (fun h101 => ?_)
                    · skip
                      refine lv_iconst (v := nI 0) hx hb dX6_readEquations_138 (by decide) ?_
                      refine ax_iast (k := 1019) (i := 25 * node + 5 * rz node + k) (f' := (fun j => nI ((nu (vN y) (25 * node + 5 * rz node + k) 0) j))) hx hb hK hP hD hS (hq _ (by decide)) c_E (by omega) (by omega) (up_n _ _ _) dX6_readEquations_139 (fun H locs g8 eg8 hP hS => ?_)
                      have c_o : g8 1000 = .inr (6, [.int (nI N), .int (nI V), .int (nI th), .ref (ad 1003), .int (nI ec), .ref (ad 1005), .ref (ad 1006), .ref (ad 1007), .ref (ad 1008), .ref (ad 1009), .int (nI en), .int (if an = true then 1 else 0), .ref (ad 1012), .ref (ad 1013), .ref (ad 1014), .int (nI al), .ref (ad 1016), .ref (ad 1017), .ref (ad 1018), .ref (ad 1019), .int (nI pl), .ref (ad 1021), .int (nI nc), .ref (ad 1023), .ref (ad 1024), .int (nI (mn node)), .ref (ad 1026), .ref (ad 1027), .ref (ad 1028)]) := (cx_ne eg8 1000 (by omega)).trans c_o
                      have c_W : g8 1018 = nA G 8 rz := (cx_ne eg8 1018 (by omega)).trans c_W
                      have c_M : g8 1012 = nA G 8 mn := (cx_ne eg8 1012 (by omega)).trans c_M
                      have c_Q : g8 1013 = nA G 200 (vN pq) := (cx_ne eg8 1013 (by omega)).trans c_Q
                      have c_C : g8 1014 = iA G 40 cm := (cx_ne eg8 1014 (by omega)).trans c_C
                      have c_D : g8 1016 = nA G 41 nd := (cx_ne eg8 1016 (by omega)).trans c_D
                      have c_X : g8 1017 = nA G 41 nx := (cx_ne eg8 1017 (by omega)).trans c_X
                      have c_T : g8 1026 = nA G 150 (vN tb3) := (cx_ne eg8 1026 (by omega)).trans c_T
                      have c_P : g8 1027 = iA G 5 pz := (cx_ne eg8 1027 (by omega)).trans c_P
                      have c_E : g8 1019 = nA G 200 (nu (vN y) (25 * node + 5 * rz node + k) 0) := cx_eq eg8
                      have fr : ∀ j : Nat, (j ≠ 1000 ∧ j ≠ 1018 ∧ j ≠ 1019 ∧ j ≠ 1026 ∧ j ≠ 1027) → g8 j = g j := fun j hj => (cx_ne eg8 j (by omega)).trans (fr j hj)
                      have c_E : g8 1019 = nA G 200 (vN (nu y (25 * node + 5 * rz node + k) (evF V t (fun k => rw5 tb3 (pv k)) (ldF V x) k))) := by rw [ev_a h101, ← vN_nu]; exact c_E
                      refine lv_iinc (v := nI (k + 1)) (lv' := [(5, .int (nI (k + 1))), (4, .int (nI (25 * node + 5 * rz node))), (3, .int (nI (ldF V x))), (2, .int (nI x)), (0, .ref (ad 1000)), (1, .int (nI node))]) hx hb dX6_readEquations_140 hl (k := 0) rfl (nI_1 _) (by decide) rfl (fun ls hl => ?_)
                      refine lv_goto (tgt := 70) hx hb dX6_readEquations_143 (by decide) ?_
                      exact ih70 (k + 1) (nu y (25 * node + 5 * rz node + k) (evF V t (fun k => rw5 tb3 (pv k)) (ldF V x) k)) h73 (hof.step rfl) (by omega) g8 _ _ _ c_o c_W c_E c_M c_Q c_C c_D c_X c_T c_P  fr hP hS (lv_sub hl [0, 1, 2, 3, 4, 5] rfl)
                    · skip
                      refine lv_aload_n hx hb dX6_readEquations_104 rfl (lv_at hl 4 rfl) ?_
                      refine ax_get (k := 1000) (v := .ref (ad 1027)) hx hb hts in_X6_readEquations_X6 hown hK hP (hq _ (by decide)) c_o rfl 27 (by decide) (hts _ wd_X6_readEquations_3) (fun _ h9 => h9) rfl dX6_readEquations_105 ?_
                      refine lv_iload hx hb dX6_readEquations_108 (lv_at hl 0 rfl) ?_
                      refine ax_iald (k := 1027) (i := k) (v := pz k) hx hb hK hP (hq _ (by decide)) c_P (by omega) (by omega) rfl dX6_readEquations_110 ?_
                      refine lv_if_lt (x := pz k) (tgt := 138) hx hb dX6_readEquations_111 (by decide) (fun h111 => ?_) (fun h111 => ?_)
                      · skip
                        have htk := hrk.pz_neg (by omega) (by omega) h111
                        refine lv_iconst (v := nI 0) hx hb dX6_readEquations_138 (by decide) ?_
                        refine ax_iast (k := 1019) (i := 25 * node + 5 * rz node + k) (f' := (fun j => nI ((nu (vN y) (25 * node + 5 * rz node + k) 0) j))) hx hb hK hP hD hS (hq _ (by decide)) c_E (by omega) (by omega) (up_n _ _ _) dX6_readEquations_139 (fun H locs g9 eg9 hP hS => ?_)
                        have c_o : g9 1000 = .inr (6, [.int (nI N), .int (nI V), .int (nI th), .ref (ad 1003), .int (nI ec), .ref (ad 1005), .ref (ad 1006), .ref (ad 1007), .ref (ad 1008), .ref (ad 1009), .int (nI en), .int (if an = true then 1 else 0), .ref (ad 1012), .ref (ad 1013), .ref (ad 1014), .int (nI al), .ref (ad 1016), .ref (ad 1017), .ref (ad 1018), .ref (ad 1019), .int (nI pl), .ref (ad 1021), .int (nI nc), .ref (ad 1023), .ref (ad 1024), .int (nI (mn node)), .ref (ad 1026), .ref (ad 1027), .ref (ad 1028)]) := (cx_ne eg9 1000 (by omega)).trans c_o
                        have c_W : g9 1018 = nA G 8 rz := (cx_ne eg9 1018 (by omega)).trans c_W
                        have c_M : g9 1012 = nA G 8 mn := (cx_ne eg9 1012 (by omega)).trans c_M
                        have c_Q : g9 1013 = nA G 200 (vN pq) := (cx_ne eg9 1013 (by omega)).trans c_Q
                        have c_C : g9 1014 = iA G 40 cm := (cx_ne eg9 1014 (by omega)).trans c_C
                        have c_D : g9 1016 = nA G 41 nd := (cx_ne eg9 1016 (by omega)).trans c_D
                        have c_X : g9 1017 = nA G 41 nx := (cx_ne eg9 1017 (by omega)).trans c_X
                        have c_T : g9 1026 = nA G 150 (vN tb3) := (cx_ne eg9 1026 (by omega)).trans c_T
                        have c_P : g9 1027 = iA G 5 pz := (cx_ne eg9 1027 (by omega)).trans c_P
                        have c_E : g9 1019 = nA G 200 (nu (vN y) (25 * node + 5 * rz node + k) 0) := cx_eq eg9
                        have fr : ∀ j : Nat, (j ≠ 1000 ∧ j ≠ 1018 ∧ j ≠ 1019 ∧ j ≠ 1026 ∧ j ≠ 1027) → g9 j = g j := fun j hj => (cx_ne eg9 j (by omega)).trans (fr j hj)
                        have c_E : g9 1019 = nA G 200 (vN (nu y (25 * node + 5 * rz node + k) (evF V t (fun k => rw5 tb3 (pv k)) (ldF V x) k))) := by rw [ev_b (by omega) h88 htk, ← vN_nu]; exact c_E
                        refine lv_iinc (v := nI (k + 1)) (lv' := [(5, .int (nI (k + 1))), (4, .int (nI (25 * node + 5 * rz node))), (3, .int (nI (ldF V x))), (2, .int (nI x)), (0, .ref (ad 1000)), (1, .int (nI node))]) hx hb dX6_readEquations_140 hl (k := 0) rfl (nI_1 _) (by decide) rfl (fun ls hl => ?_)
                        refine lv_goto (tgt := 70) hx hb dX6_readEquations_143 (by decide) ?_
                        exact ih70 (k + 1) (nu y (25 * node + 5 * rz node + k) (evF V t (fun k => rw5 tb3 (pv k)) (ldF V x) k)) h73 (hof.step rfl) (by omega) g9 _ _ _ c_o c_W c_E c_M c_Q c_C c_D c_X c_T c_P  fr hP hS (lv_sub hl [0, 1, 2, 3, 4, 5] rfl)
                      · skip
                        obtain ⟨htk1, htk2, htk3⟩ := hrk.pz_pos (by omega) h111
                        refine lv_aload_n hx hb dX6_readEquations_114 rfl (lv_at hl 4 rfl) ?_
                        refine ax_get (k := 1000) (v := .ref (ad 1026)) hx hb hts in_X6_readEquations_X6 hown hK hP (hq _ (by decide)) c_o rfl 26 (by decide) (hts _ wd_X6_readEquations_5) (fun _ h9 => h9) rfl dX6_readEquations_115 ?_
                        refine lv_iconst (v := nI 5) hx hb dX6_readEquations_118 (by decide) ?_
                        refine lv_aload_n hx hb dX6_readEquations_119 rfl (lv_at hl 4 rfl) ?_
                        refine ax_get (k := 1000) (v := .ref (ad 1027)) hx hb hts in_X6_readEquations_X6 hown hK hP (hq _ (by decide)) c_o rfl 27 (by decide) (hts _ wd_X6_readEquations_3) (fun _ h9 => h9) rfl dX6_readEquations_120 ?_
                        refine lv_iload hx hb dX6_readEquations_123 (lv_at hl 0 rfl) ?_
                        refine ax_iald (k := 1027) (i := k) (v := pz k) hx hb hK hP (hq _ (by decide)) c_P (by omega) (by omega) rfl dX6_readEquations_125 ?_
                        rw [htk2]
                        refine ax_mul (a := 5) (b := pv k) hx hb dX6_readEquations_126 ?_
                        refine lv_iload_n hx hb dX6_readEquations_127 rfl (lv_at hl 2 rfl) ?_
                        refine ax_add (a := 5 * (pv k)) (b := ldF V x) hx hb dX6_readEquations_128 ?_
                        refine ax_iald (k := 1026) (i := 5 * (pv k) + (ldF V x)) (v := nI ((vN tb3) (5 * (pv k) + (ldF V x)))) hx hb hK hP (hq _ (by decide)) c_T (by omega) (by omega) rfl dX6_readEquations_129 ?_
                        refine lv_ineg hx hb dX6_readEquations_130 ?_
                        refine lv_i2l (v := (-(nI ((vN tb3) (5 * (pv k) + (ldF V x))))).toInt64) hx hb dX6_readEquations_131 rfl ?_
                        refine cx_Si (As := [.long ((-(nI ((vN tb3) (5 * (pv k) + (ldF V x))))).toInt64)]) (rest := [.int (nI (25 * node + 5 * rz node + k)), .ref (ad 1019)]) ⟨hx, hb, hml, hown, hts⟩ (c_X6_mod hD (x := (-(nI ((vN tb3) (5 * (pv k) + (ldF V x))))).toInt64)) (va_cwS 1 hts gX6_readEquations_X6_mod rfl rfl rfl (by decide +kernel) ⟨Nat.le_of_ble_eq_true rfl, Nat.le_of_ble_eq_true rfl⟩) hK hP hS hz ⟨Nat.zero_le _, Nat.zero_le _⟩ rfl hl.1 rfl (Nat.le_of_ble_eq_true rfl) dX6_readEquations_132 (fun r10 g10 H locs hp10 hP hS => ?_)
                        obtain ⟨er10, ehp10g⟩ := hp10
                        rw [ehp10g] at hP
                        rw [er10]
                        rw [show fi ((-(nI ((vN tb3) (5 * (pv k) + (ldF V x))))).toInt64).toInt = -(tb3 (5 * pv k + ldF V x)) from ng_fi (tb3 (5 * pv k + ldF V x))]
                        refine lv_goto (tgt := 139) hx hb dX6_readEquations_135 (by decide) ?_
                        refine ax_iast (k := 1019) (i := 25 * node + 5 * rz node + k) (f' := (fun j => nI ((nu (vN y) (25 * node + 5 * rz node + k) ((-(tb3 (5 * pv k + ldF V x))).val)) j))) hx hb hK hP hD hS (hq _ (by decide)) c_E (by omega) (by omega) (up_n _ _ _) dX6_readEquations_139 (fun H locs g11 eg11 hP hS => ?_)
                        have c_o : g11 1000 = .inr (6, [.int (nI N), .int (nI V), .int (nI th), .ref (ad 1003), .int (nI ec), .ref (ad 1005), .ref (ad 1006), .ref (ad 1007), .ref (ad 1008), .ref (ad 1009), .int (nI en), .int (if an = true then 1 else 0), .ref (ad 1012), .ref (ad 1013), .ref (ad 1014), .int (nI al), .ref (ad 1016), .ref (ad 1017), .ref (ad 1018), .ref (ad 1019), .int (nI pl), .ref (ad 1021), .int (nI nc), .ref (ad 1023), .ref (ad 1024), .int (nI (mn node)), .ref (ad 1026), .ref (ad 1027), .ref (ad 1028)]) := (cx_ne eg11 1000 (by omega)).trans c_o
                        have c_W : g11 1018 = nA G 8 rz := (cx_ne eg11 1018 (by omega)).trans c_W
                        have c_M : g11 1012 = nA G 8 mn := (cx_ne eg11 1012 (by omega)).trans c_M
                        have c_Q : g11 1013 = nA G 200 (vN pq) := (cx_ne eg11 1013 (by omega)).trans c_Q
                        have c_C : g11 1014 = iA G 40 cm := (cx_ne eg11 1014 (by omega)).trans c_C
                        have c_D : g11 1016 = nA G 41 nd := (cx_ne eg11 1016 (by omega)).trans c_D
                        have c_X : g11 1017 = nA G 41 nx := (cx_ne eg11 1017 (by omega)).trans c_X
                        have c_T : g11 1026 = nA G 150 (vN tb3) := (cx_ne eg11 1026 (by omega)).trans c_T
                        have c_P : g11 1027 = iA G 5 pz := (cx_ne eg11 1027 (by omega)).trans c_P
                        have c_E : g11 1019 = nA G 200 (nu (vN y) (25 * node + 5 * rz node + k) ((-(tb3 (5 * pv k + ldF V x))).val)) := cx_eq eg11
                        have fr : ∀ j : Nat, (j ≠ 1000 ∧ j ≠ 1018 ∧ j ≠ 1019 ∧ j ≠ 1026 ∧ j ≠ 1027) → g11 j = g j := fun j hj => (cx_ne eg11 j (by omega)).trans (fr j hj)
                        have c_E : g11 1019 = nA G 200 (vN (nu y (25 * node + 5 * rz node + k) (evF V t (fun k => rw5 tb3 (pv k)) (ldF V x) k))) := by rw [ev_n (by omega) h88 htk1, ← vN_nu]; exact c_E
                        refine lv_iinc (v := nI (k + 1)) (lv' := [(5, .int (nI (k + 1))), (4, .int (nI (25 * node + 5 * rz node))), (3, .int (nI (ldF V x))), (2, .int (nI x)), (0, .ref (ad 1000)), (1, .int (nI node))]) hx hb dX6_readEquations_140 hl (k := 0) rfl (nI_1 _) (by decide) rfl (fun ls hl => ?_)
                        refine lv_goto (tgt := 70) hx hb dX6_readEquations_143 (by decide) ?_
                        exact ih70 (k + 1) (nu y (25 * node + 5 * rz node + k) (evF V t (fun k => rw5 tb3 (pv k)) (ldF V x) k)) h73 (hof.step rfl) (by omega) g11 _ _ _ c_o c_W c_E c_M c_Q c_C c_D c_X c_T c_P  fr hP hS (lv_sub hl [0, 1, 2, 3, 4, 5] rfl)
                  · skip
                    refine lv_iconst (v := nI 1) hx hb dX6_readEquations_91 (by decide) ?_
                    refine lv_goto (tgt := 139) hx hb dX6_readEquations_92 (by decide) ?_
                    refine ax_iast (k := 1019) (i := 25 * node + 5 * rz node + k) (f' := (fun j => nI ((nu (vN y) (25 * node + 5 * rz node + k) 1) j))) hx hb hK hP hD hS (hq _ (by decide)) c_E (by omega) (by omega) (up_n _ _ _) dX6_readEquations_139 (fun H locs g12 eg12 hP hS => ?_)
                    have c_o : g12 1000 = .inr (6, [.int (nI N), .int (nI V), .int (nI th), .ref (ad 1003), .int (nI ec), .ref (ad 1005), .ref (ad 1006), .ref (ad 1007), .ref (ad 1008), .ref (ad 1009), .int (nI en), .int (if an = true then 1 else 0), .ref (ad 1012), .ref (ad 1013), .ref (ad 1014), .int (nI al), .ref (ad 1016), .ref (ad 1017), .ref (ad 1018), .ref (ad 1019), .int (nI pl), .ref (ad 1021), .int (nI nc), .ref (ad 1023), .ref (ad 1024), .int (nI (mn node)), .ref (ad 1026), .ref (ad 1027), .ref (ad 1028)]) := (cx_ne eg12 1000 (by omega)).trans c_o
                    have c_W : g12 1018 = nA G 8 rz := (cx_ne eg12 1018 (by omega)).trans c_W
                    have c_M : g12 1012 = nA G 8 mn := (cx_ne eg12 1012 (by omega)).trans c_M
                    have c_Q : g12 1013 = nA G 200 (vN pq) := (cx_ne eg12 1013 (by omega)).trans c_Q
                    have c_C : g12 1014 = iA G 40 cm := (cx_ne eg12 1014 (by omega)).trans c_C
                    have c_D : g12 1016 = nA G 41 nd := (cx_ne eg12 1016 (by omega)).trans c_D
                    have c_X : g12 1017 = nA G 41 nx := (cx_ne eg12 1017 (by omega)).trans c_X
                    have c_T : g12 1026 = nA G 150 (vN tb3) := (cx_ne eg12 1026 (by omega)).trans c_T
                    have c_P : g12 1027 = iA G 5 pz := (cx_ne eg12 1027 (by omega)).trans c_P
                    have c_E : g12 1019 = nA G 200 (nu (vN y) (25 * node + 5 * rz node + k) 1) := cx_eq eg12
                    have fr : ∀ j : Nat, (j ≠ 1000 ∧ j ≠ 1018 ∧ j ≠ 1019 ∧ j ≠ 1026 ∧ j ≠ 1027) → g12 j = g j := fun j hj => (cx_ne eg12 j (by omega)).trans (fr j hj)
                    have c_E : g12 1019 = nA G 200 (vN (nu y (25 * node + 5 * rz node + k) (evF V t (fun k => rw5 tb3 (pv k)) (ldF V x) k))) := by rw [ev_1 hld h88, ← vN_nu]; exact c_E
                    refine lv_iinc (v := nI (k + 1)) (lv' := [(5, .int (nI (k + 1))), (4, .int (nI (25 * node + 5 * rz node))), (3, .int (nI (ldF V x))), (2, .int (nI x)), (0, .ref (ad 1000)), (1, .int (nI node))]) hx hb dX6_readEquations_140 hl (k := 0) rfl (nI_1 _) (by decide) rfl (fun ls hl => ?_)
                    refine lv_goto (tgt := 70) hx hb dX6_readEquations_143 (by decide) ?_
                    exact ih70 (k + 1) (nu y (25 * node + 5 * rz node + k) (evF V t (fun k => rw5 tb3 (pv k)) (ldF V x) k)) h73 (hof.step rfl) (by omega) g12 _ _ _ c_o c_W c_E c_M c_Q c_C c_D c_X c_T c_P  fr hP hS (lv_sub hl [0, 1, 2, 3, 4, 5] rfl)
            exact LP70 ((5 - 0) + 1) 0 eq (Nat.zero_le _) OF.start (Nat.lt_succ_self _) ga4 _ _ _ c_o c_W c_E c_M c_Q c_C c_D c_X c_T c_P  fr hP hS (lv_sub hl [0, 1, 2, 3, 4, 5] rfl)
        refine lv_iload_n hx hb dX6_readEquations_29 rfl (lv_at hl 0 rfl) ?_
        refine lv_aload_n hx hb dX6_readEquations_30 rfl (lv_at hl 1 rfl) ?_
        refine ax_get (k := 1000) (v := .int (nI V)) hx hb hts in_X6_readEquations_X6 hown hK hP (hq _ (by decide)) c_o rfl 1 (by decide) (hts _ wd_X6_readEquations_2) (fun _ h9 => h9) rfl dX6_readEquations_31 ?_
        refine ax_icle (a := x) (b := V) (tgt := 41) hx hb dX6_readEquations_34 (by decide) (by omega) (by omega) (fun h34 => ?_) (fun h34 => ?_)
        · skip
          refine lv_iload_n hx hb dX6_readEquations_41 rfl (lv_at hl 0 rfl) ?_
          rw [show nI x = nI (ldF V x) from congrArg nI (if_neg (by omega)).symm]
          refine lv_istore_n (lv' := [(3, .int (nI (ldF V x))), (2, .int (nI x)), (0, .ref (ad 1000)), (1, .int (nI node))]) hx hb dX6_readEquations_42 rfl hl (by decide) rfl (fun ls hl => ?_)
          exact LP43 ()  _ (lv_sub hl [0, 1, 2, 3] rfl)
        · skip
          refine lv_iconst (v := nI 0) hx hb dX6_readEquations_37 (by decide) ?_
          refine lv_goto (tgt := 42) hx hb dX6_readEquations_38 (by decide) ?_
          rw [show nI 0 = nI (ldF V x) from congrArg nI (if_pos h34).symm]
          refine lv_istore_n (lv' := [(3, .int (nI (ldF V x))), (2, .int (nI x)), (0, .ref (ad 1000)), (1, .int (nI node))]) hx hb dX6_readEquations_42 rfl hl (by decide) rfl (fun ls hl => ?_)
          exact LP43 ()  _ (lv_sub hl [0, 1, 2, 3] rfl)
  exact LP19 ((V + 2 - 1) + 1) 1 0 eq0 (nu rw0 node 0) (Nat.le_refl _) (by omega) RKC.start (nu_s _ _ _) (fun i hi => nu_n hi) EQI.start (Nat.lt_succ_self _) g3 _ _ _ c_o c_W c_E c_M c_Q c_C c_D c_X c_T c_P  fr hP hS (lv_sub hl [0, 1, 2] rfl)

set_option maxRecDepth 20000 in
theorem wd_X6_analyse_0 : Cond.fieldLink RX6 74 "AffineHullsModel" "thrown" "I" ∈ wsX6_analyse := by decide +kernel
set_option maxRecDepth 20000 in
theorem in_X6_analyse_X6 : ∀ w ∈ u_ws RX6 TX6 29, w ∈ wsX6_analyse := by decide +kernel
set_option maxRecDepth 20000 in
theorem wd_X6_analyse_2 : Cond.fieldLink RX6 133 "AffineHullsModel" "all" "I" ∈ wsX6_analyse := by decide +kernel
set_option maxRecDepth 20000 in
theorem wd_X6_analyse_3 : Cond.fieldLink RX6 71 "AffineHullsModel" "v" "I" ∈ wsX6_analyse := by decide +kernel
set_option maxRecDepth 20000 in
theorem wd_X6_analyse_4 : Cond.fieldLink RX6 67 "AffineHullsModel" "n" "I" ∈ wsX6_analyse := by decide +kernel
set_option maxRecDepth 20000 in
theorem wd_X6_analyse_5 : Cond.fieldLink RX6 109 "AffineHullsModel" "analysed" "Z" ∈ wsX6_analyse := by decide +kernel
set_option maxRecDepth 20000 in
theorem wd_X6_analyse_6 : Cond.fieldLink RX6 103 "AffineHullsModel" "edges" "I" ∈ wsX6_analyse := by decide +kernel
set_option maxRecDepth 20000 in
theorem wd_X6_analyse_7 : Cond.fieldLink RX6 13 "AffineHullsModel" "froms" "[I" ∈ wsX6_analyse := by decide +kernel
set_option maxRecDepth 20000 in
theorem wd_X6_analyse_8 : Cond.fieldLink RX6 37 "AffineHullsModel" "nodeOf" "[I" ∈ wsX6_analyse := by decide +kernel
set_option maxRecDepth 20000 in
theorem wd_X6_analyse_9 : Cond.fieldLink RX6 40 "AffineHullsModel" "numberOf" "[I" ∈ wsX6_analyse := by decide +kernel
set_option maxRecDepth 20000 in
theorem wd_X6_analyse_10 : Cond.fieldLink RX6 113 "AffineHullsModel" "entry" "I" ∈ wsX6_analyse := by decide +kernel
set_option maxRecDepth 20000 in
theorem wd_X6_analyse_11 : Cond.fieldLink RX6 64 "AffineHullsModel" "row" "[I" ∈ wsX6_analyse := by decide +kernel
set_option maxRecDepth 20000 in
theorem wd_X6_analyse_12 : Cond.fieldLink RX6 28 "AffineHullsModel" "many" "[I" ∈ wsX6_analyse := by decide +kernel
abbrev rm_X6_analyse : Room := { frames := 5, cells := 0, slots := 0, locals := 129 }
set_option maxHeartbeats 4000000 in
set_option maxRecDepth 100000 in
theorem c_X6_analyse {l : Launch} {G : cx_G} {L : List Nat} {ad : Nat → Nat} {g : Nat → va_E} (hD : cx_D L ad) {N V th ec en al pl nc sz : Nat} {an : Bool} {M : Nat} {P : PS} {rw0 : Nat → Nat} {eq0 : Nat → FF} {ef et ek ev : Nat → Nat} {ez : Nat → Int32} {eg : Nat → Nat → FF} {fm rr : Nat → FF} (hN1 : 1 ≤ N) (hN : N ≤ 8) (hV1 : 1 ≤ V) (hV : V ≤ 4) (hq : ∀ j : Nat, lbM j = true → j ∈ L) (hM : M = N * (V + 1)) (hen : en < N) (c_o : g 1000 = .inr (6, [.int (nI N), .int (nI V), .int (nI th), .ref (ad 1003), .int (nI ec), .ref (ad 1005), .ref (ad 1006), .ref (ad 1007), .ref (ad 1008), .ref (ad 1009), .int (nI en), .int (if an = true then 1 else 0), .ref (ad 1012), .ref (ad 1013), .ref (ad 1014), .int (nI al), .ref (ad 1016), .ref (ad 1017), .ref (ad 1018), .ref (ad 1019), .int (nI pl), .ref (ad 1021), .int (nI nc), .ref (ad 1023), .ref (ad 1024), .int (nI sz), .ref (ad 1026), .ref (ad 1027), .ref (ad 1028)])) (c_K : g 1007 = nA G 20 ek) (c_Z : g 1008 = iA G 20 ez) (c_F : g 1009 = nA G 100 (vN fm)) (c_TO : g 1006 = nA G 20 et) (c_R : g 1028 = nA G 5 (vN rr)) (c_FO : g 1005 = nA G 20 ef) (c_W : g 1018 = nA G 8 rw0) (c_E : g 1019 = nA G 200 (vN eq0)) (hzr : Zb 5 rr) (hfr : FR fm eg) (hev : EV N V ec ef et ek ez ev eg) (xq : QA G g N V P) : MI l yX6_analyse wsX6_analyse rm_X6_analyse G L ad g [.ref (ad 1000)] (fun r u => r = nI (anaF (V + 1) M en ec ef et ek ev eg).1 ∧ (∀ j : Nat, (j ≠ 1000 ∧ j ≠ 1018 ∧ j ≠ 1019 ∧ j ≠ 1028 ∧ ¬ lbQ j) → u j = g j) ∧ (∃ sz2 : Nat, u 1000 = .inr (6, [.int (nI N), .int (nI V), .int (nI 0), .ref (ad 1003), .int (nI ec), .ref (ad 1005), .ref (ad 1006), .ref (ad 1007), .ref (ad 1008), .ref (ad 1009), .int (nI en), .int (if true = true then 1 else 0), .ref (ad 1012), .ref (ad 1013), .ref (ad 1014), .int (nI ((anaF (V + 1) M en ec ef et ek ev eg).1)), .ref (ad 1016), .ref (ad 1017), .ref (ad 1018), .ref (ad 1019), .int (nI pl), .ref (ad 1021), .int (nI nc), .ref (ad 1023), .ref (ad 1024), .int (nI sz2), .ref (ad 1026), .ref (ad 1027), .ref (ad 1028)])) ∧ (∃ rr2 : Nat → FF, Zb 5 rr2 ∧ u 1028 = nA G 5 (vN rr2)) ∧ QA G u N V (anaF (V + 1) M en ec ef et ek ev eg) ∧ ∃ (rz : Nat → Nat) (eq : Nat → FF), u 1018 = nA G 8 rz ∧ u 1019 = nA G 200 (vN eq) ∧ QE V (anaF (V + 1) M en ec ef et ek ev eg) rz eq N) := by
  refine cx_ofI (cc := cX6_analyse) (maxL := 3) (by decide +kernel) rfl (Nat.le_of_ble_eq_true rfl) ?_
  intro p e s m args below meth c Q hx hb hts hown hml hP hK hS hz hret ls hl
  have hown : s.vm.findClass RX6 = some m.cls := hown
  have hl : lv_has ls 3 [(0, .ref (ad 1000))] := hl
  have fr : ∀ j : Nat, (j ≠ 1000 ∧ j ≠ 1018 ∧ j ≠ 1019 ∧ j ≠ 1028 ∧ ¬ lbQ j) → g j = g j := fun _ _ => rfl
  obtain ⟨mn, pq, cm, nd, nx, tb, pz0, c_M, c_Q, c_C, c_D, c_X, c_T, c_P, hqp, hpv⟩ := id xq
  have hec := hev.1
  refine lv_aload_n hx hb dX6_analyse_0 rfl (lv_at hl 0 rfl) ?_
  refine lv_iconst (v := nI 0) hx hb dX6_analyse_1 (by decide) ?_
  refine ax_put (k := 1000) (v := .int (nI 0)) (fs' := [.int (nI N), .int (nI V), .int (nI 0), .ref (ad 1003), .int (nI ec), .ref (ad 1005), .ref (ad 1006), .ref (ad 1007), .ref (ad 1008), .ref (ad 1009), .int (nI en), .int (if an = true then 1 else 0), .ref (ad 1012), .ref (ad 1013), .ref (ad 1014), .int (nI al), .ref (ad 1016), .ref (ad 1017), .ref (ad 1018), .ref (ad 1019), .int (nI pl), .ref (ad 1021), .int (nI nc), .ref (ad 1023), .ref (ad 1024), .int (nI sz), .ref (ad 1026), .ref (ad 1027), .ref (ad 1028)]) hx hb hts in_X6_analyse_X6 tyX6 tyX6_ok nmX6 hown hK hP hD hS (hq _ (by decide)) c_o rfl 2 (by decide) (hts _ wd_X6_analyse_0) (fun _ h9 => h9) rfl (ty := .int) (by decide +kernel) rfl rfl (Nat.le_of_ble_eq_true rfl) rfl dX6_analyse_2 (fun H locs g1 eg1 hP hS => ?_)
  have c_K : g1 1007 = nA G 20 ek := (cx_ne eg1 1007 (by omega)).trans c_K
  have c_Z : g1 1008 = iA G 20 ez := (cx_ne eg1 1008 (by omega)).trans c_Z
  have c_F : g1 1009 = nA G 100 (vN fm) := (cx_ne eg1 1009 (by omega)).trans c_F
  have c_TO : g1 1006 = nA G 20 et := (cx_ne eg1 1006 (by omega)).trans c_TO
  have c_R : g1 1028 = nA G 5 (vN rr) := (cx_ne eg1 1028 (by omega)).trans c_R
  have c_FO : g1 1005 = nA G 20 ef := (cx_ne eg1 1005 (by omega)).trans c_FO
  have c_W : g1 1018 = nA G 8 rw0 := (cx_ne eg1 1018 (by omega)).trans c_W
  have c_E : g1 1019 = nA G 200 (vN eq0) := (cx_ne eg1 1019 (by omega)).trans c_E
  have c_M : g1 1012 = nA G 8 mn := (cx_ne eg1 1012 (by omega)).trans c_M
  have c_Q : g1 1013 = nA G 200 (vN pq) := (cx_ne eg1 1013 (by omega)).trans c_Q
  have c_C : g1 1014 = iA G 40 cm := (cx_ne eg1 1014 (by omega)).trans c_C
  have c_D : g1 1016 = nA G 41 nd := (cx_ne eg1 1016 (by omega)).trans c_D
  have c_X : g1 1017 = nA G 41 nx := (cx_ne eg1 1017 (by omega)).trans c_X
  have c_T : g1 1026 = nA G 150 (vN tb) := (cx_ne eg1 1026 (by omega)).trans c_T
  have c_P : g1 1027 = iA G 5 pz0 := (cx_ne eg1 1027 (by omega)).trans c_P
  have c_o : g1 1000 = .inr (6, [.int (nI N), .int (nI V), .int (nI 0), .ref (ad 1003), .int (nI ec), .ref (ad 1005), .ref (ad 1006), .ref (ad 1007), .ref (ad 1008), .ref (ad 1009), .int (nI en), .int (if an = true then 1 else 0), .ref (ad 1012), .ref (ad 1013), .ref (ad 1014), .int (nI al), .ref (ad 1016), .ref (ad 1017), .ref (ad 1018), .ref (ad 1019), .int (nI pl), .ref (ad 1021), .int (nI nc), .ref (ad 1023), .ref (ad 1024), .int (nI sz), .ref (ad 1026), .ref (ad 1027), .ref (ad 1028)]) := cx_eq eg1
  have fr : ∀ j : Nat, (j ≠ 1000 ∧ j ≠ 1018 ∧ j ≠ 1019 ∧ j ≠ 1028 ∧ ¬ lbQ j) → g1 j = g j := fun j hj => (cx_ne eg1 j (by unfold lbQ at hj; omega)).trans (fr j hj)
  refine lv_aload_n hx hb dX6_analyse_5 rfl (lv_at hl 0 rfl) ?_
  refine lv_iconst (v := nI 0) hx hb dX6_analyse_6 (by decide) ?_
  refine ax_put (k := 1000) (v := .int (nI 0)) (fs' := [.int (nI N), .int (nI V), .int (nI 0), .ref (ad 1003), .int (nI ec), .ref (ad 1005), .ref (ad 1006), .ref (ad 1007), .ref (ad 1008), .ref (ad 1009), .int (nI en), .int (if an = true then 1 else 0), .ref (ad 1012), .ref (ad 1013), .ref (ad 1014), .int (nI 0), .ref (ad 1016), .ref (ad 1017), .ref (ad 1018), .ref (ad 1019), .int (nI pl), .ref (ad 1021), .int (nI nc), .ref (ad 1023), .ref (ad 1024), .int (nI sz), .ref (ad 1026), .ref (ad 1027), .ref (ad 1028)]) hx hb hts in_X6_analyse_X6 tyX6 tyX6_ok nmX6 hown hK hP hD hS (hq _ (by decide)) c_o rfl 15 (by decide) (hts _ wd_X6_analyse_2) (fun _ h9 => h9) rfl (ty := .int) (by decide +kernel) rfl rfl (Nat.le_of_ble_eq_true rfl) rfl dX6_analyse_7 (fun H locs g2 eg2 hP hS => ?_)
  have c_K : g2 1007 = nA G 20 ek := (cx_ne eg2 1007 (by omega)).trans c_K
  have c_Z : g2 1008 = iA G 20 ez := (cx_ne eg2 1008 (by omega)).trans c_Z
  have c_F : g2 1009 = nA G 100 (vN fm) := (cx_ne eg2 1009 (by omega)).trans c_F
  have c_TO : g2 1006 = nA G 20 et := (cx_ne eg2 1006 (by omega)).trans c_TO
  have c_R : g2 1028 = nA G 5 (vN rr) := (cx_ne eg2 1028 (by omega)).trans c_R
  have c_FO : g2 1005 = nA G 20 ef := (cx_ne eg2 1005 (by omega)).trans c_FO
  have c_W : g2 1018 = nA G 8 rw0 := (cx_ne eg2 1018 (by omega)).trans c_W
  have c_E : g2 1019 = nA G 200 (vN eq0) := (cx_ne eg2 1019 (by omega)).trans c_E
  have c_M : g2 1012 = nA G 8 mn := (cx_ne eg2 1012 (by omega)).trans c_M
  have c_Q : g2 1013 = nA G 200 (vN pq) := (cx_ne eg2 1013 (by omega)).trans c_Q
  have c_C : g2 1014 = iA G 40 cm := (cx_ne eg2 1014 (by omega)).trans c_C
  have c_D : g2 1016 = nA G 41 nd := (cx_ne eg2 1016 (by omega)).trans c_D
  have c_X : g2 1017 = nA G 41 nx := (cx_ne eg2 1017 (by omega)).trans c_X
  have c_T : g2 1026 = nA G 150 (vN tb) := (cx_ne eg2 1026 (by omega)).trans c_T
  have c_P : g2 1027 = iA G 5 pz0 := (cx_ne eg2 1027 (by omega)).trans c_P
  have c_o : g2 1000 = .inr (6, [.int (nI N), .int (nI V), .int (nI 0), .ref (ad 1003), .int (nI ec), .ref (ad 1005), .ref (ad 1006), .ref (ad 1007), .ref (ad 1008), .ref (ad 1009), .int (nI en), .int (if an = true then 1 else 0), .ref (ad 1012), .ref (ad 1013), .ref (ad 1014), .int (nI 0), .ref (ad 1016), .ref (ad 1017), .ref (ad 1018), .ref (ad 1019), .int (nI pl), .ref (ad 1021), .int (nI nc), .ref (ad 1023), .ref (ad 1024), .int (nI sz), .ref (ad 1026), .ref (ad 1027), .ref (ad 1028)]) := cx_eq eg2
  have fr : ∀ j : Nat, (j ≠ 1000 ∧ j ≠ 1018 ∧ j ≠ 1019 ∧ j ≠ 1028 ∧ ¬ lbQ j) → g2 j = g j := fun j hj => (cx_ne eg2 j (by unfold lbQ at hj; omega)).trans (fr j hj)
  refine lv_iconst (v := nI 0) hx hb dX6_analyse_10 (by decide) ?_
  refine lv_istore_n (lv' := [(1, .int (nI 0)), (0, .ref (ad 1000))]) hx hb dX6_analyse_11 rfl hl (by decide) rfl (fun ls hl => ?_)
  have LP12 : ∀ (fu : Nat) (k : Nat) (r : Nat → Nat), (k ≤ 8) → (∀ j : Nat, r j = if j < k then 0 else mn j) → (8 - k) < fu → ∀ (ga3 : Nat → va_E) (H : Heap) (locs : List Loc) (ls : Array Slot), (ga3 1000 = .inr (6, [.int (nI N), .int (nI V), .int (nI 0), .ref (ad 1003), .int (nI ec), .ref (ad 1005), .ref (ad 1006), .ref (ad 1007), .ref (ad 1008), .ref (ad 1009), .int (nI en), .int (if an = true then 1 else 0), .ref (ad 1012), .ref (ad 1013), .ref (ad 1014), .int (nI 0), .ref (ad 1016), .ref (ad 1017), .ref (ad 1018), .ref (ad 1019), .int (nI pl), .ref (ad 1021), .int (nI nc), .ref (ad 1023), .ref (ad 1024), .int (nI sz), .ref (ad 1026), .ref (ad 1027), .ref (ad 1028)])) → (ga3 1007 = nA G 20 ek) → (ga3 1008 = iA G 20 ez) → (ga3 1009 = nA G 100 (vN fm)) → (ga3 1006 = nA G 20 et) → (ga3 1028 = nA G 5 (vN rr)) → (ga3 1005 = nA G 20 ef) → (ga3 1018 = nA G 8 rw0) → (ga3 1019 = nA G 200 (vN eq0)) → (ga3 1012 = nA G 8 r) → (ga3 1013 = nA G 200 (vN pq)) → (ga3 1014 = iA G 40 cm) → (ga3 1016 = nA G 41 nd) → (ga3 1017 = nA G 41 nx) → (ga3 1026 = nA G 150 (vN tb)) → (ga3 1027 = iA G 5 pz0) → (∀ j : Nat, (j ≠ 1000 ∧ j ≠ 1018 ∧ j ≠ 1019 ∧ j ≠ 1028 ∧ ¬ lbQ j) → ga3 j = g j) → va_P G.1 vwCl (wl L ad ga3) H → va_S (cx_A L ad s.heap.size) s.heap H locs → lv_has ls 3 [(1, .int (nI k)), (0, .ref (ad 1000))] → W p l e rm_X6_analyse s m args below meth c H locs 0 0 Q (F0 m 12 ls []) := by
    intro fu
    induction fu with
    | zero => intro k r hk8 hr hfu; exact absurd hfu (Nat.not_lt_zero _)
    | succ fu ih12 =>
      intro k r hk8 hr hfu12 ga3 H locs ls c_o c_K c_Z c_F c_TO c_R c_FO c_W c_E c_M c_Q c_C c_D c_X c_T c_P fr hP hS hl
      refine lv_iload_n hx hb dX6_analyse_12 rfl (lv_at hl 0 rfl) ?_
      refine lv_bipush (v := nI 8) hx hb dX6_analyse_13 (by decide) ?_
      refine ax_icge (a := k) (b := 8) (tgt := 31) hx hb dX6_analyse_15 (by decide) (by omega) (by omega) (fun h15 => ?_) (fun h15 => ?_)
      · skip
        have xq : QA G ga3 N V PS0 := ⟨r, pq, cm, nd, nx, tb, pz0, c_M, c_Q, c_C, c_D, c_X, c_T, c_P, QP.ps0 (fun i hi => by rw [hr i, if_pos (by omega)]), PV.ps0⟩
        refine lv_iconst (v := nI 0) hx hb dX6_analyse_31 (by decide) ?_
        refine lv_istore_n (lv' := [(1, .int (nI 0)), (0, .ref (ad 1000))]) hx hb dX6_analyse_32 rfl hl (by decide) rfl (fun ls hl => ?_)
        have LP33 : ∀ (fu : Nat) (i : Nat) (rr2 : Nat → FF) (szx : Nat), (i ≤ V + 1) → (Zb 5 rr2) → (V + 1 - i) < fu → ∀ (ga4 : Nat → va_E) (H : Heap) (locs : List Loc) (ls : Array Slot), (ga4 1000 = .inr (6, [.int (nI N), .int (nI V), .int (nI 0), .ref (ad 1003), .int (nI ec), .ref (ad 1005), .ref (ad 1006), .ref (ad 1007), .ref (ad 1008), .ref (ad 1009), .int (nI en), .int (if an = true then 1 else 0), .ref (ad 1012), .ref (ad 1013), .ref (ad 1014), .int (nI ((firstF (V + 1) en i).1)), .ref (ad 1016), .ref (ad 1017), .ref (ad 1018), .ref (ad 1019), .int (nI pl), .ref (ad 1021), .int (nI nc), .ref (ad 1023), .ref (ad 1024), .int (nI szx), .ref (ad 1026), .ref (ad 1027), .ref (ad 1028)])) → (ga4 1007 = nA G 20 ek) → (ga4 1008 = iA G 20 ez) → (ga4 1009 = nA G 100 (vN fm)) → (ga4 1006 = nA G 20 et) → (ga4 1028 = nA G 5 (vN rr2)) → (ga4 1005 = nA G 20 ef) → (ga4 1018 = nA G 8 rw0) → (ga4 1019 = nA G 200 (vN eq0)) → (QA G ga4 N V (firstF (V + 1) en i)) → (∀ j : Nat, (j ≠ 1000 ∧ j ≠ 1018 ∧ j ≠ 1019 ∧ j ≠ 1028 ∧ ¬ lbQ j) → ga4 j = g j) → va_P G.1 vwCl (wl L ad ga4) H → va_S (cx_A L ad s.heap.size) s.heap H locs → lv_has ls 3 [(1, .int (nI i)), (0, .ref (ad 1000))] → W p l e rm_X6_analyse s m args below meth c H locs 0 0 Q (F0 m 33 ls []) := by
          intro fu
          induction fu with
          | zero => intro i rr2 szx hiV hz2 hfu; exact absurd hfu (Nat.not_lt_zero _)
          | succ fu ih33 =>
            intro i rr2 szx hiV hz2 hfu33 ga4 H locs ls c_o c_K c_Z c_F c_TO c_R c_FO c_W c_E xq fr hP hS hl
            refine lv_iload_n hx hb dX6_analyse_33 rfl (lv_at hl 0 rfl) ?_
            refine lv_aload_n hx hb dX6_analyse_34 rfl (lv_at hl 1 rfl) ?_
            refine ax_get (k := 1000) (v := .int (nI V)) hx hb hts in_X6_analyse_X6 hown hK hP (hq _ (by decide)) c_o rfl 1 (by decide) (hts _ wd_X6_analyse_3) (fun _ h9 => h9) rfl dX6_analyse_35 ?_
            refine ax_icgt (a := i) (b := V) (tgt := 89) hx hb dX6_analyse_38 (by decide) (by omega) (by omega) (fun h38 => ?_) (fun h38 => ?_)
            · skip
              have eiv : i = V + 1 := by omega
              subst eiv
              refine lv_iconst (v := nI 0) hx hb dX6_analyse_89 (by decide) ?_
              refine lv_istore_n (lv' := [(1, .int (nI 0)), (0, .ref (ad 1000))]) hx hb dX6_analyse_90 rfl hl (by decide) rfl (fun ls hl => ?_)
              have LP91 : ∀ (fu : Nat) (i : Nat) (Q2 : PS) (rr2 : Nat → FF) (szx : Nat), (i ≤ M) → (runF (V + 1) ec ef et ek ev eg (M - i) i Q2 = anaF (V + 1) M en ec ef et ek ev eg) → (Zb 5 rr2) → (M - i) < fu → ∀ (ga5 : Nat → va_E) (H : Heap) (locs : List Loc) (ls : Array Slot), (ga5 1000 = .inr (6, [.int (nI N), .int (nI V), .int (nI 0), .ref (ad 1003), .int (nI ec), .ref (ad 1005), .ref (ad 1006), .ref (ad 1007), .ref (ad 1008), .ref (ad 1009), .int (nI en), .int (if an = true then 1 else 0), .ref (ad 1012), .ref (ad 1013), .ref (ad 1014), .int (nI Q2.1), .ref (ad 1016), .ref (ad 1017), .ref (ad 1018), .ref (ad 1019), .int (nI pl), .ref (ad 1021), .int (nI nc), .ref (ad 1023), .ref (ad 1024), .int (nI szx), .ref (ad 1026), .ref (ad 1027), .ref (ad 1028)])) → (ga5 1007 = nA G 20 ek) → (ga5 1008 = iA G 20 ez) → (ga5 1009 = nA G 100 (vN fm)) → (ga5 1006 = nA G 20 et) → (ga5 1028 = nA G 5 (vN rr2)) → (ga5 1005 = nA G 20 ef) → (ga5 1018 = nA G 8 rw0) → (ga5 1019 = nA G 200 (vN eq0)) → (QA G ga5 N V Q2) → (∀ j : Nat, (j ≠ 1000 ∧ j ≠ 1018 ∧ j ≠ 1019 ∧ j ≠ 1028 ∧ ¬ lbQ j) → ga5 j = g j) → va_P G.1 vwCl (wl L ad ga5) H → va_S (cx_A L ad s.heap.size) s.heap H locs → lv_has ls 3 [(1, .int (nI i)), (0, .ref (ad 1000))] → W p l e rm_X6_analyse s m args below meth c H locs 0 0 Q (F0 m 91 ls []) := by
                intro fu
                induction fu with
                | zero => intro i Q2 rr2 szx hin hQ hz2 hfu; exact absurd hfu (Nat.not_lt_zero _)
                | succ fu ih91 =>
                  intro i Q2 rr2 szx hin hQ hz2 hfu91 ga5 H locs ls c_o c_K c_Z c_F c_TO c_R c_FO c_W c_E xq fr hP hS hl
                  have hpa : Q2.1 ≤ 40 ∧ Q2.1 ≤ M := by obtain ⟨_, _, _, _, _, _, _, _, _, _, _, _, _, _, _, q⟩ := id xq; rw [hM]; exact ⟨q.all40 hN hV, q.all⟩
                  have hM40 : M ≤ 8 * 5 := by rw [hM]; exact Nat.mul_le_mul hN (by omega)
                  refine lv_iload_n hx hb dX6_analyse_91 rfl (lv_at hl 0 rfl) ?_
                  refine lv_aload_n hx hb dX6_analyse_92 rfl (lv_at hl 1 rfl) ?_
                  refine ax_get (k := 1000) (v := .int (nI Q2.1)) hx hb hts in_X6_analyse_X6 hown hK hP (hq _ (by decide)) c_o rfl 15 (by decide) (hts _ wd_X6_analyse_2) (fun _ h9 => h9) rfl dX6_analyse_93 ?_
                  refine ax_icge (a := i) (b := Q2.1) (tgt := 153) hx hb dX6_analyse_96 (by decide) (by omega) (by omega) (fun h96 => ?_) (fun h96 => ?_)
                  · skip
                    have eQ := (run_end (Or.inr h96)).symm.trans hQ
                    subst eQ
                    refine lv_iconst (v := nI 0) hx hb dX6_analyse_153 (by decide) ?_
                    refine lv_istore_n (lv' := [(1, .int (nI 0)), (0, .ref (ad 1000))]) hx hb dX6_analyse_154 rfl hl (by decide) rfl (fun ls hl => ?_)
                    have LP155 : ∀ (fu : Nat) (k : Nat) (rz : Nat → Nat) (eq : Nat → FF) (szz : Nat), (k ≤ N) → (QE V (anaF (V + 1) M en ec ef et ek ev eg) rz eq k) → (N - k) < fu → ∀ (ga6 : Nat → va_E) (H : Heap) (locs : List Loc) (ls : Array Slot), (ga6 1000 = .inr (6, [.int (nI N), .int (nI V), .int (nI 0), .ref (ad 1003), .int (nI ec), .ref (ad 1005), .ref (ad 1006), .ref (ad 1007), .ref (ad 1008), .ref (ad 1009), .int (nI en), .int (if an = true then 1 else 0), .ref (ad 1012), .ref (ad 1013), .ref (ad 1014), .int (nI ((anaF (V + 1) M en ec ef et ek ev eg).1)), .ref (ad 1016), .ref (ad 1017), .ref (ad 1018), .ref (ad 1019), .int (nI pl), .ref (ad 1021), .int (nI nc), .ref (ad 1023), .ref (ad 1024), .int (nI szz), .ref (ad 1026), .ref (ad 1027), .ref (ad 1028)])) → (ga6 1007 = nA G 20 ek) → (ga6 1008 = iA G 20 ez) → (ga6 1009 = nA G 100 (vN fm)) → (ga6 1006 = nA G 20 et) → (ga6 1028 = nA G 5 (vN rr2)) → (ga6 1005 = nA G 20 ef) → (ga6 1018 = nA G 8 rz) → (ga6 1019 = nA G 200 (vN eq)) → (QA G ga6 N V (anaF (V + 1) M en ec ef et ek ev eg)) → (∀ j : Nat, (j ≠ 1000 ∧ j ≠ 1018 ∧ j ≠ 1019 ∧ j ≠ 1028 ∧ ¬ lbQ j) → ga6 j = g j) → va_P G.1 vwCl (wl L ad ga6) H → va_S (cx_A L ad s.heap.size) s.heap H locs → lv_has ls 3 [(1, .int (nI k)), (0, .ref (ad 1000))] → W p l e rm_X6_analyse s m args below meth c H locs 0 0 Q (F0 m 155 ls []) := by
                      intro fu
                      induction fu with
                      | zero => intro k rz eq szz hkN hqe hfu; exact absurd hfu (Nat.not_lt_zero _)
                      | succ fu ih155 =>
                        intro k rz eq szz hkN hqe hfu155 ga6 H locs ls c_o c_K c_Z c_F c_TO c_R c_FO c_W c_E xq fr hP hS hl
                        refine lv_iload_n hx hb dX6_analyse_155 rfl (lv_at hl 0 rfl) ?_
                        refine lv_aload_n hx hb dX6_analyse_156 rfl (lv_at hl 1 rfl) ?_
                        refine ax_get (k := 1000) (v := .int (nI N)) hx hb hts in_X6_analyse_X6 hown hK hP (hq _ (by decide)) c_o rfl 0 (by decide) (hts _ wd_X6_analyse_4) (fun _ h9 => h9) rfl dX6_analyse_157 ?_
                        refine ax_icge (a := k) (b := N) (tgt := 174) hx hb dX6_analyse_160 (by decide) (by omega) (by omega) (fun h160 => ?_) (fun h160 => ?_)
                        · skip
                          refine lv_aload_n hx hb dX6_analyse_174 rfl (lv_at hl 1 rfl) ?_
                          refine lv_iconst (v := nI 1) hx hb dX6_analyse_175 (by decide) ?_
                          refine ax_put (k := 1000) (v := .int (nI 1)) (fs' := [.int (nI N), .int (nI V), .int (nI 0), .ref (ad 1003), .int (nI ec), .ref (ad 1005), .ref (ad 1006), .ref (ad 1007), .ref (ad 1008), .ref (ad 1009), .int (nI en), .int (nI 1), .ref (ad 1012), .ref (ad 1013), .ref (ad 1014), .int (nI ((anaF (V + 1) M en ec ef et ek ev eg).1)), .ref (ad 1016), .ref (ad 1017), .ref (ad 1018), .ref (ad 1019), .int (nI pl), .ref (ad 1021), .int (nI nc), .ref (ad 1023), .ref (ad 1024), .int (nI szz), .ref (ad 1026), .ref (ad 1027), .ref (ad 1028)]) hx hb hts in_X6_analyse_X6 tyX6 tyX6_ok nmX6 hown hK hP hD hS (hq _ (by decide)) c_o rfl 11 (by decide) (hts _ wd_X6_analyse_5) (fun _ h9 => h9) rfl (ty := .boolean) (by decide +kernel) (by decide) (by decide) (Nat.le_of_ble_eq_true rfl) rfl dX6_analyse_176 (fun H locs g7 eg7 hP hS => ?_)
                          have c_K : g7 1007 = nA G 20 ek := (cx_ne eg7 1007 (by omega)).trans c_K
                          have c_Z : g7 1008 = iA G 20 ez := (cx_ne eg7 1008 (by omega)).trans c_Z
                          have c_F : g7 1009 = nA G 100 (vN fm) := (cx_ne eg7 1009 (by omega)).trans c_F
                          have c_TO : g7 1006 = nA G 20 et := (cx_ne eg7 1006 (by omega)).trans c_TO
                          have c_R : g7 1028 = nA G 5 (vN rr2) := (cx_ne eg7 1028 (by omega)).trans c_R
                          have c_FO : g7 1005 = nA G 20 ef := (cx_ne eg7 1005 (by omega)).trans c_FO
                          have c_W : g7 1018 = nA G 8 rz := (cx_ne eg7 1018 (by omega)).trans c_W
                          have c_E : g7 1019 = nA G 200 (vN eq) := (cx_ne eg7 1019 (by omega)).trans c_E
                          have xq : QA G g7 N V (anaF (V + 1) M en ec ef et ek ev eg) := xq.kept (fun j hj => cx_ne eg7 j (by unfold lbQ at hj; omega))
                          have c_o : g7 1000 = .inr (6, [.int (nI N), .int (nI V), .int (nI 0), .ref (ad 1003), .int (nI ec), .ref (ad 1005), .ref (ad 1006), .ref (ad 1007), .ref (ad 1008), .ref (ad 1009), .int (nI en), .int (nI 1), .ref (ad 1012), .ref (ad 1013), .ref (ad 1014), .int (nI ((anaF (V + 1) M en ec ef et ek ev eg).1)), .ref (ad 1016), .ref (ad 1017), .ref (ad 1018), .ref (ad 1019), .int (nI pl), .ref (ad 1021), .int (nI nc), .ref (ad 1023), .ref (ad 1024), .int (nI szz), .ref (ad 1026), .ref (ad 1027), .ref (ad 1028)]) := cx_eq eg7
                          have fr : ∀ j : Nat, (j ≠ 1000 ∧ j ≠ 1018 ∧ j ≠ 1019 ∧ j ≠ 1028 ∧ ¬ lbQ j) → g7 j = g j := fun j hj => (cx_ne eg7 j (by unfold lbQ at hj; omega)).trans (fr j hj)
                          refine lv_aload_n hx hb dX6_analyse_179 rfl (lv_at hl 1 rfl) ?_
                          refine ax_get (k := 1000) (v := .int (nI ((anaF (V + 1) M en ec ef et ek ev eg).1))) hx hb hts in_X6_analyse_X6 hown hK hP (hq _ (by decide)) c_o rfl 15 (by decide) (hts _ wd_X6_analyse_2) (fun _ h9 => h9) rfl dX6_analyse_180 ?_
                          exact hret (nI ((anaF (V + 1) M en ec ef et ek ev eg).1)) g7 _ _ _ _ rfl (by have ek : N = k := (by omega); subst ek; exact ⟨rfl, fr, ⟨_, c_o⟩, ⟨_, hz2, c_R⟩, xq, rz, eq, c_W, c_E, hqe⟩) hP hS dX6_analyse_183
                        · skip
                          refine lv_aload_n hx hb dX6_analyse_163 rfl (lv_at hl 1 rfl) ?_
                          refine lv_iload_n hx hb dX6_analyse_164 rfl (lv_at hl 0 rfl) ?_
                          refine cx_Vv (As := [.int (nI k)]) (rest := []) ⟨hx, hb, hml, hown, hts⟩ (c_X6_readEquations hD hN1 hN hV1 hV hq (node := k) (P := anaF (V + 1) M en ec ef et ek ev eg) c_o c_W c_E h160 xq) (cwV 1 hts gX6_analyse_X6_readEquations rfl rfl rfl (by decide +kernel) ⟨Nat.le_of_ble_eq_true rfl, Nat.le_of_ble_eq_true rfl⟩) hK hP hS hz (hq _ (by decide)) c_o rfl ⟨Nat.zero_le _, Nat.zero_le _⟩ rfl hl.1 rfl (Nat.le_of_ble_eq_true rfl) dX6_analyse_165 (fun g8 H locs hp8 hP hS => ?_)
                          obtain ⟨hp8a, ⟨szn, hp8o⟩, hp8x, rz2, eq2, hp8W, hp8E, hz9, hzo9, hei9⟩ := hp8
                          have c_K : g8 1007 = nA G 20 ek := (hp8a 1007 (by omega)).trans c_K
                          have c_Z : g8 1008 = iA G 20 ez := (hp8a 1008 (by omega)).trans c_Z
                          have c_F : g8 1009 = nA G 100 (vN fm) := (hp8a 1009 (by omega)).trans c_F
                          have c_TO : g8 1006 = nA G 20 et := (hp8a 1006 (by omega)).trans c_TO
                          have c_R : g8 1028 = nA G 5 (vN rr2) := (hp8a 1028 (by omega)).trans c_R
                          have c_FO : g8 1005 = nA G 20 ef := (hp8a 1005 (by omega)).trans c_FO
                          have fr : ∀ j : Nat, (j ≠ 1000 ∧ j ≠ 1018 ∧ j ≠ 1019 ∧ j ≠ 1028 ∧ ¬ lbQ j) → g8 j = g j := fun j hj => (hp8a j (by unfold lbQ at hj; omega)).trans (fr j hj)
                          have c_o := hp8o
                          have c_W := hp8W
                          have c_E := hp8E
                          have xq := hp8x
                          refine lv_iinc (v := nI (k + 1)) (lv' := [(1, .int (nI (k + 1))), (0, .ref (ad 1000))]) hx hb dX6_analyse_168 hl (k := 0) rfl (nI_1 _) (by decide) rfl (fun ls hl => ?_)
                          refine lv_goto (tgt := 155) hx hb dX6_analyse_171 (by decide) ?_
                          exact ih155 (k + 1) rz2 eq2 szn h160 (hqe.push hV hz9 hzo9 hei9) (by omega) g8 _ _ _ c_o c_K c_Z c_F c_TO c_R c_FO c_W c_E xq fr hP hS (lv_sub hl [0, 1] rfl)
                    exact LP155 ((N - 0) + 1) 0 rw0 eq0 szx (Nat.zero_le _) (fun i hi => absurd hi (Nat.not_lt_zero i)) (Nat.lt_succ_self _) ga5 _ _ _ c_o c_K c_Z c_F c_TO c_R c_FO c_W c_E xq fr hP hS (lv_sub hl [0, 1] rfl)
                  · skip
                    refine lv_iconst (v := nI 0) hx hb dX6_analyse_99 (by decide) ?_
                    refine lv_istore_n (lv' := [(2, .int (nI 0)), (1, .int (nI i)), (0, .ref (ad 1000))]) hx hb dX6_analyse_100 rfl hl (by decide) rfl (fun ls hl => ?_)
                    have LP101 : ∀ (fu : Nat) (ei : Nat) (rr3 : Nat → FF) (szy : Nat), (ei ≤ ec) → (Zb 5 rr3) → (ec - ei) < fu → ∀ (ga9 : Nat → va_E) (H : Heap) (locs : List Loc) (ls : Array Slot), (ga9 1000 = .inr (6, [.int (nI N), .int (nI V), .int (nI 0), .ref (ad 1003), .int (nI ec), .ref (ad 1005), .ref (ad 1006), .ref (ad 1007), .ref (ad 1008), .ref (ad 1009), .int (nI en), .int (if an = true then 1 else 0), .ref (ad 1012), .ref (ad 1013), .ref (ad 1014), .int (nI ((workF (V + 1) ef et ek ev eg i ei Q2).1)), .ref (ad 1016), .ref (ad 1017), .ref (ad 1018), .ref (ad 1019), .int (nI pl), .ref (ad 1021), .int (nI nc), .ref (ad 1023), .ref (ad 1024), .int (nI szy), .ref (ad 1026), .ref (ad 1027), .ref (ad 1028)])) → (ga9 1007 = nA G 20 ek) → (ga9 1008 = iA G 20 ez) → (ga9 1009 = nA G 100 (vN fm)) → (ga9 1006 = nA G 20 et) → (ga9 1028 = nA G 5 (vN rr3)) → (ga9 1005 = nA G 20 ef) → (ga9 1018 = nA G 8 rw0) → (ga9 1019 = nA G 200 (vN eq0)) → (QA G ga9 N V (workF (V + 1) ef et ek ev eg i ei Q2)) → (∀ j : Nat, (j ≠ 1000 ∧ j ≠ 1018 ∧ j ≠ 1019 ∧ j ≠ 1028 ∧ ¬ lbQ j) → ga9 j = g j) → va_P G.1 vwCl (wl L ad ga9) H → va_S (cx_A L ad s.heap.size) s.heap H locs → lv_has ls 3 [(2, .int (nI ei)), (1, .int (nI i)), (0, .ref (ad 1000))] → W p l e rm_X6_analyse s m args below meth c H locs 0 0 Q (F0 m 101 ls []) := by
                      intro fu
                      induction fu with
                      | zero => intro ei rr3 szy hen2 hz3 hfu; exact absurd hfu (Nat.not_lt_zero _)
                      | succ fu ih101 =>
                        intro ei rr3 szy hen2 hz3 hfu101 ga9 H locs ls c_o c_K c_Z c_F c_TO c_R c_FO c_W c_E xq fr hP hS hl
                        refine lv_iload_n hx hb dX6_analyse_101 rfl (lv_at hl 0 rfl) ?_
                        refine lv_aload_n hx hb dX6_analyse_102 rfl (lv_at hl 2 rfl) ?_
                        refine ax_get (k := 1000) (v := .int (nI ec)) hx hb hts in_X6_analyse_X6 hown hK hP (hq _ (by decide)) c_o rfl 4 (by decide) (hts _ wd_X6_analyse_6) (fun _ h9 => h9) rfl dX6_analyse_103 ?_
                        refine ax_icge (a := ei) (b := ec) (tgt := 147) hx hb dX6_analyse_106 (by decide) (by omega) (by omega) (fun h106 => ?_) (fun h106 => ?_)
                        · skip
                          have eei : ec = ei := by omega
                          subst eei
                          refine lv_iinc (v := nI (i + 1)) (lv' := [(1, .int (nI (i + 1))), (2, .int (nI ec)), (0, .ref (ad 1000))]) hx hb dX6_analyse_147 hl (k := 1) rfl (nI_1 _) (by decide) rfl (fun ls hl => ?_)
                          refine lv_goto (tgt := 91) hx hb dX6_analyse_150 (by decide) ?_
                          exact ih91 (i + 1) (workF (V + 1) ef et ek ev eg i ec Q2) rr3 szy (by omega) ((run_go (by omega) h96).symm.trans hQ) hz3 (by omega) ga9 _ _ _ c_o c_K c_Z c_F c_TO c_R c_FO c_W c_E xq fr hP hS (lv_sub hl [0, 2] rfl)
                        · skip
                          obtain ⟨mn, pq, cm, nd, nx, tb, pz0, c_M, c_Q, c_C, c_D, c_X, c_T, c_P, hqp, hpv⟩ := id xq
                          have hkQ : i < (workF (V + 1) ef et ek ev eg i ei Q2).1 := Nat.lt_of_lt_of_le h96 (workF_le ei)
                          obtain ⟨enx, eny⟩ := hqp.2.2.2 i hkQ
                          obtain ⟨hf1, hf2, hf3, hf4⟩ := hev.2.1 ei h106
                          have hpn := (hpv.2.1 i hkQ).1
                          refine lv_aload_n hx hb dX6_analyse_109 rfl (lv_at hl 2 rfl) ?_
                          refine ax_get (k := 1000) (v := .ref (ad 1005)) hx hb hts in_X6_analyse_X6 hown hK hP (hq _ (by decide)) c_o rfl 5 (by decide) (hts _ wd_X6_analyse_7) (fun _ h9 => h9) rfl dX6_analyse_110 ?_
                          refine lv_iload_n hx hb dX6_analyse_113 rfl (lv_at hl 0 rfl) ?_
                          refine ax_iald (k := 1005) (i := ei) (v := nI (ef ei)) hx hb hK hP (hq _ (by decide)) c_FO (by omega) (by omega) rfl dX6_analyse_114 ?_
                          refine lv_aload_n hx hb dX6_analyse_115 rfl (lv_at hl 2 rfl) ?_
                          refine ax_get (k := 1000) (v := .ref (ad 1016)) hx hb hts in_X6_analyse_X6 hown hK hP (hq _ (by decide)) c_o rfl 16 (by decide) (hts _ wd_X6_analyse_8) (fun _ h9 => h9) rfl dX6_analyse_116 ?_
                          refine lv_iload_n hx hb dX6_analyse_119 rfl (lv_at hl 1 rfl) ?_
                          refine ax_iald (k := 1016) (i := i) (v := nI (nd i)) hx hb hK hP (hq _ (by decide)) c_D (by omega) (by omega) rfl dX6_analyse_120 ?_
                          rw [enx]
                          refine ax_icne (a := ef ei) (b := (workF (V + 1) ef et ek ev eg i ei Q2).2.1 i) (tgt := 141) hx hb dX6_analyse_121 (by decide) (by omega) (by omega) (fun h121 => ?_) (fun h121 => ?_)
                          · skip
                            have ewk := wk_no (w := V + 1) (et := et) (ek := ek) (ev := ev) (eg := eg) h121
                            rw [← ewk] at c_o xq
                            refine lv_iinc (v := nI (ei + 1)) (lv' := [(2, .int (nI (ei + 1))), (1, .int (nI i)), (0, .ref (ad 1000))]) hx hb dX6_analyse_141 hl (k := 0) rfl (nI_1 _) (by decide) rfl (fun ls hl => ?_)
                            refine lv_goto (tgt := 101) hx hb dX6_analyse_144 (by decide) ?_
                            exact ih101 (ei + 1) rr3 szy h106 hz3 (by omega) ga9 _ _ _ c_o c_K c_Z c_F c_TO c_R c_FO c_W c_E xq fr hP hS (lv_sub hl [0, 1, 2] rfl)
                          · skip
                            refine lv_aload_n hx hb dX6_analyse_124 rfl (lv_at hl 2 rfl) ?_
                            refine lv_iload_n hx hb dX6_analyse_125 rfl (lv_at hl 0 rfl) ?_
                            refine lv_aload_n hx hb dX6_analyse_126 rfl (lv_at hl 2 rfl) ?_
                            refine ax_get (k := 1000) (v := .ref (ad 1016)) hx hb hts in_X6_analyse_X6 hown hK hP (hq _ (by decide)) c_o rfl 16 (by decide) (hts _ wd_X6_analyse_8) (fun _ h9 => h9) rfl dX6_analyse_127 ?_
                            refine lv_iload_n hx hb dX6_analyse_130 rfl (lv_at hl 1 rfl) ?_
                            refine ax_iald (k := 1016) (i := i) (v := nI (nd i)) hx hb hK hP (hq _ (by decide)) c_D (by omega) (by omega) rfl dX6_analyse_131 ?_
                            rw [enx]
                            refine lv_aload_n hx hb dX6_analyse_132 rfl (lv_at hl 2 rfl) ?_
                            refine ax_get (k := 1000) (v := .ref (ad 1017)) hx hb hts in_X6_analyse_X6 hown hK hP (hq _ (by decide)) c_o rfl 17 (by decide) (hts _ wd_X6_analyse_9) (fun _ h9 => h9) rfl dX6_analyse_133 ?_
                            refine lv_iload_n hx hb dX6_analyse_136 rfl (lv_at hl 1 rfl) ?_
                            refine ax_iald (k := 1017) (i := i) (v := nI (nx i)) hx hb hK hP (hq _ (by decide)) c_X (by omega) (by omega) rfl dX6_analyse_137 ?_
                            rw [eny]
                            refine cx_Vv (As := [.int (nI ei), .int (nI ((workF (V + 1) ef et ek ev eg i ei Q2).2.1 i)), .int (nI ((workF (V + 1) ef et ek ev eg i ei Q2).2.2.1 i))]) (rest := []) ⟨hx, hb, hml, hown, hts⟩ (c_X6_pass hD hN1 hN hV1 hV hq (kq := i) (ei := ei) (nod := (workF (V + 1) ef et ek ev eg i ei Q2).2.1 i) (ix := (workF (V + 1) ef et ek ev eg i ei Q2).2.2.1 i) (P := workF (V + 1) ef et ek ev eg i ei Q2) (eg := eg) (ev := ev) (ef := ef) c_o c_K c_Z c_F c_TO c_R hkQ rfl rfl h106 hz3 hfr hev xq) (cwV 3 hts gX6_analyse_X6_pass rfl rfl rfl (by decide +kernel) ⟨Nat.le_of_ble_eq_true rfl, Nat.le_of_ble_eq_true rfl⟩) hK hP hS hz (hq _ (by decide)) c_o rfl ⟨Nat.zero_le _, Nat.zero_le _⟩ rfl hl.1 rfl (Nat.le_of_ble_eq_true rfl) dX6_analyse_138 (fun g10 H locs hp10 hP hS => ?_)
                            obtain ⟨hp10a, ⟨szn, hp10o⟩, ⟨rr4, hz4, hp10r⟩, hp10x⟩ := hp10
                            have c_K : g10 1007 = nA G 20 ek := (hp10a 1007 (by unfold lbQ; omega)).trans c_K
                            have c_Z : g10 1008 = iA G 20 ez := (hp10a 1008 (by unfold lbQ; omega)).trans c_Z
                            have c_F : g10 1009 = nA G 100 (vN fm) := (hp10a 1009 (by unfold lbQ; omega)).trans c_F
                            have c_TO : g10 1006 = nA G 20 et := (hp10a 1006 (by unfold lbQ; omega)).trans c_TO
                            have c_FO : g10 1005 = nA G 20 ef := (hp10a 1005 (by unfold lbQ; omega)).trans c_FO
                            have c_W : g10 1018 = nA G 8 rw0 := (hp10a 1018 (by unfold lbQ; omega)).trans c_W
                            have c_E : g10 1019 = nA G 200 (vN eq0) := (hp10a 1019 (by unfold lbQ; omega)).trans c_E
                            have fr : ∀ j : Nat, (j ≠ 1000 ∧ j ≠ 1018 ∧ j ≠ 1019 ∧ j ≠ 1028 ∧ ¬ lbQ j) → g10 j = g j := fun j hj => (hp10a j (by unfold lbQ at hj ⊢; omega)).trans (fr j hj)
                            rw [wk_pass h121] at hp10o hp10x
                            have c_o := hp10o
                            have c_R := hp10r
                            have xq := hp10x
                            refine lv_iinc (v := nI (ei + 1)) (lv' := [(2, .int (nI (ei + 1))), (1, .int (nI i)), (0, .ref (ad 1000))]) hx hb dX6_analyse_141 hl (k := 0) rfl (nI_1 _) (by decide) rfl (fun ls hl => ?_)
                            refine lv_goto (tgt := 101) hx hb dX6_analyse_144 (by decide) ?_
                            exact ih101 (ei + 1) rr4 szn h106 hz4 (by omega) g10 _ _ _ c_o c_K c_Z c_F c_TO c_R c_FO c_W c_E xq fr hP hS (lv_sub hl [0, 1, 2] rfl)
                    exact LP101 ((ec - 0) + 1) 0 rr2 szx (Nat.zero_le _) hz2 (Nat.lt_succ_self _) ga5 _ _ _ c_o c_K c_Z c_F c_TO c_R c_FO c_W c_E xq fr hP hS (lv_sub hl [0, 1, 2] rfl)
              exact LP91 ((M - 0) + 1) 0 (firstF (V + 1) en (V + 1)) rr2 szx (Nat.zero_le _) rfl hz2 (Nat.lt_succ_self _) ga4 _ _ _ c_o c_K c_Z c_F c_TO c_R c_FO c_W c_E xq fr hP hS (lv_sub hl [0, 1] rfl)
            · skip
              refine lv_iconst (v := nI 0) hx hb dX6_analyse_41 (by decide) ?_
              refine lv_istore_n (lv' := [(2, .int (nI 0)), (1, .int (nI i)), (0, .ref (ad 1000))]) hx hb dX6_analyse_42 rfl hl (by decide) rfl (fun ls hl => ?_)
              have LP43 : ∀ (fu : Nat) (k : Nat) (y : Nat → FF), (k ≤ 5) → (∀ j : Nat, y j = if j < k then fpt i j else rr2 j) → (5 - k) < fu → ∀ (ga11 : Nat → va_E) (H : Heap) (locs : List Loc) (ls : Array Slot), (ga11 1000 = .inr (6, [.int (nI N), .int (nI V), .int (nI 0), .ref (ad 1003), .int (nI ec), .ref (ad 1005), .ref (ad 1006), .ref (ad 1007), .ref (ad 1008), .ref (ad 1009), .int (nI en), .int (if an = true then 1 else 0), .ref (ad 1012), .ref (ad 1013), .ref (ad 1014), .int (nI ((firstF (V + 1) en i).1)), .ref (ad 1016), .ref (ad 1017), .ref (ad 1018), .ref (ad 1019), .int (nI pl), .ref (ad 1021), .int (nI nc), .ref (ad 1023), .ref (ad 1024), .int (nI szx), .ref (ad 1026), .ref (ad 1027), .ref (ad 1028)])) → (ga11 1007 = nA G 20 ek) → (ga11 1008 = iA G 20 ez) → (ga11 1009 = nA G 100 (vN fm)) → (ga11 1006 = nA G 20 et) → (ga11 1028 = nA G 5 (vN y)) → (ga11 1005 = nA G 20 ef) → (ga11 1018 = nA G 8 rw0) → (ga11 1019 = nA G 200 (vN eq0)) → (QA G ga11 N V (firstF (V + 1) en i)) → (∀ j : Nat, (j ≠ 1000 ∧ j ≠ 1018 ∧ j ≠ 1019 ∧ j ≠ 1028 ∧ ¬ lbQ j) → ga11 j = g j) → va_P G.1 vwCl (wl L ad ga11) H → va_S (cx_A L ad s.heap.size) s.heap H locs → lv_has ls 3 [(2, .int (nI k)), (1, .int (nI i)), (0, .ref (ad 1000))] → W p l e rm_X6_analyse s m args below meth c H locs 0 0 Q (F0 m 43 ls []) := by
                intro fu
                induction fu with
                | zero => intro k y hk5 hr2 hfu; exact absurd hfu (Nat.not_lt_zero _)
                | succ fu ih43 =>
                  intro k y hk5 hr2 hfu43 ga11 H locs ls c_o c_K c_Z c_F c_TO c_R c_FO c_W c_E xq fr hP hS hl
                  refine lv_iload_n hx hb dX6_analyse_43 rfl (lv_at hl 0 rfl) ?_
                  refine lv_iconst (v := nI 5) hx hb dX6_analyse_44 (by decide) ?_
                  refine ax_icge (a := k) (b := 5) (tgt := 74) hx hb dX6_analyse_45 (by decide) (by omega) (by omega) (fun h45 => ?_) (fun h45 => ?_)
                  · skip
                    rw [cp_done h45 hz2 (Zb.five (fpt_z h38) hV) hr2] at c_R
                    refine lv_aload_n hx hb dX6_analyse_74 rfl (lv_at hl 2 rfl) ?_
                    refine lv_aload_n hx hb dX6_analyse_75 rfl (lv_at hl 2 rfl) ?_
                    refine ax_get (k := 1000) (v := .int (nI en)) hx hb hts in_X6_analyse_X6 hown hK hP (hq _ (by decide)) c_o rfl 10 (by decide) (hts _ wd_X6_analyse_10) (fun _ h9 => h9) rfl dX6_analyse_76 ?_
                    refine lv_iconst (v := (-1)) hx hb dX6_analyse_79 (by decide) ?_
                    refine cx_Vv (As := [.int (nI en), .int (-1)]) (rest := []) ⟨hx, hb, hml, hown, hts⟩ (c_X6_meet hD hN1 hN hV1 hV hq (node := en) (fz := (-1)) (P := firstF (V + 1) en i) (v := fpt i) c_o c_R hen (fpt_z h38) xq) (cwV 2 hts gX6_analyse_X6_meet rfl rfl rfl (by decide +kernel) ⟨Nat.le_of_ble_eq_true rfl, Nat.le_of_ble_eq_true rfl⟩) hK hP hS hz (hq _ (by decide)) c_o rfl ⟨Nat.zero_le _, Nat.zero_le _⟩ rfl hl.1 rfl (Nat.le_of_ble_eq_true rfl) dX6_analyse_80 (fun g12 H locs hp12 hP hS => ?_)
                    obtain ⟨hp12a, ⟨szn, hp12o⟩, hp12x⟩ := hp12
                    have c_K : g12 1007 = nA G 20 ek := (hp12a 1007 (by unfold lbQ; omega)).trans c_K
                    have c_Z : g12 1008 = iA G 20 ez := (hp12a 1008 (by unfold lbQ; omega)).trans c_Z
                    have c_F : g12 1009 = nA G 100 (vN fm) := (hp12a 1009 (by unfold lbQ; omega)).trans c_F
                    have c_TO : g12 1006 = nA G 20 et := (hp12a 1006 (by unfold lbQ; omega)).trans c_TO
                    have c_R : g12 1028 = nA G 5 (vN (fpt i)) := (hp12a 1028 (by unfold lbQ; omega)).trans c_R
                    have c_FO : g12 1005 = nA G 20 ef := (hp12a 1005 (by unfold lbQ; omega)).trans c_FO
                    have c_W : g12 1018 = nA G 8 rw0 := (hp12a 1018 (by unfold lbQ; omega)).trans c_W
                    have c_E : g12 1019 = nA G 200 (vN eq0) := (hp12a 1019 (by unfold lbQ; omega)).trans c_E
                    have fr : ∀ j : Nat, (j ≠ 1000 ∧ j ≠ 1018 ∧ j ≠ 1019 ∧ j ≠ 1028 ∧ ¬ lbQ j) → g12 j = g j := fun j hj => (hp12a j (by unfold lbQ at hj ⊢; omega)).trans (fr j hj)
                    rw [show meetF (V + 1) (firstF (V + 1) en i) en (fpt i) (-1) = firstF (V + 1) en (i + 1) from rfl] at hp12o hp12x
                    have c_o := hp12o
                    have xq := hp12x
                    refine lv_iinc (v := nI (i + 1)) (lv' := [(1, .int (nI (i + 1))), (2, .int (nI k)), (0, .ref (ad 1000))]) hx hb dX6_analyse_83 hl (k := 1) rfl (nI_1 _) (by decide) rfl (fun ls hl => ?_)
                    refine lv_goto (tgt := 33) hx hb dX6_analyse_86 (by decide) ?_
                    exact ih33 (i + 1) (fpt i) szn (by omega) (Zb.five (fpt_z h38) hV) (by omega) g12 _ _ _ c_o c_K c_Z c_F c_TO c_R c_FO c_W c_E xq fr hP hS (lv_sub hl [0, 2] rfl)
                  · skip
                    refine lv_aload_n hx hb dX6_analyse_48 rfl (lv_at hl 2 rfl) ?_
                    refine ax_get (k := 1000) (v := .ref (ad 1028)) hx hb hts in_X6_analyse_X6 hown hK hP (hq _ (by decide)) c_o rfl 28 (by decide) (hts _ wd_X6_analyse_11) (fun _ h9 => h9) rfl dX6_analyse_49 ?_
                    refine lv_iload_n hx hb dX6_analyse_52 rfl (lv_at hl 0 rfl) ?_
                    refine lv_iload_n hx hb dX6_analyse_53 rfl (lv_at hl 0 rfl) ?_
                    refine ax_ifeq (a := k) (tgt := 62) hx hb dX6_analyse_54 (by decide) (by omega) (fun h54 => ?_) (fun h54 => ?_)
                    · skip
                      refine lv_iconst (v := nI 1) hx hb dX6_analyse_62 (by decide) ?_
                      refine lv_goto (tgt := 67) hx hb dX6_analyse_63 (by decide) ?_
                      refine ax_iast (k := 1028) (i := k) (f' := (fun j => nI ((nu (vN y) k 1) j))) hx hb hK hP hD hS (hq _ (by decide)) c_R (by omega) (by omega) (up_n _ _ _) dX6_analyse_67 (fun H locs g13 eg13 hP hS => ?_)
                      have c_o : g13 1000 = .inr (6, [.int (nI N), .int (nI V), .int (nI 0), .ref (ad 1003), .int (nI ec), .ref (ad 1005), .ref (ad 1006), .ref (ad 1007), .ref (ad 1008), .ref (ad 1009), .int (nI en), .int (if an = true then 1 else 0), .ref (ad 1012), .ref (ad 1013), .ref (ad 1014), .int (nI ((firstF (V + 1) en i).1)), .ref (ad 1016), .ref (ad 1017), .ref (ad 1018), .ref (ad 1019), .int (nI pl), .ref (ad 1021), .int (nI nc), .ref (ad 1023), .ref (ad 1024), .int (nI szx), .ref (ad 1026), .ref (ad 1027), .ref (ad 1028)]) := (cx_ne eg13 1000 (by omega)).trans c_o
                      have c_K : g13 1007 = nA G 20 ek := (cx_ne eg13 1007 (by omega)).trans c_K
                      have c_Z : g13 1008 = iA G 20 ez := (cx_ne eg13 1008 (by omega)).trans c_Z
                      have c_F : g13 1009 = nA G 100 (vN fm) := (cx_ne eg13 1009 (by omega)).trans c_F
                      have c_TO : g13 1006 = nA G 20 et := (cx_ne eg13 1006 (by omega)).trans c_TO
                      have c_FO : g13 1005 = nA G 20 ef := (cx_ne eg13 1005 (by omega)).trans c_FO
                      have c_W : g13 1018 = nA G 8 rw0 := (cx_ne eg13 1018 (by omega)).trans c_W
                      have c_E : g13 1019 = nA G 200 (vN eq0) := (cx_ne eg13 1019 (by omega)).trans c_E
                      have xq : QA G g13 N V (firstF (V + 1) en i) := xq.kept (fun j hj => cx_ne eg13 j (by unfold lbQ at hj; omega))
                      have c_R : g13 1028 = nA G 5 (nu (vN y) k 1) := cx_eq eg13
                      have fr : ∀ j : Nat, (j ≠ 1000 ∧ j ≠ 1018 ∧ j ≠ 1019 ∧ j ≠ 1028 ∧ ¬ lbQ j) → g13 j = g j := fun j hj => (cx_ne eg13 j (by unfold lbQ at hj; omega)).trans (fr j hj)
                      have e9 : fpt i k = 1 := (by rw [h54]; exact fpt_0)
                      have c_R : g13 1028 = nA G 5 (vN (nu y k (fpt i k))) := by rw [e9, ← vN_nu]; exact c_R
                      refine lv_iinc (v := nI (k + 1)) (lv' := [(2, .int (nI (k + 1))), (1, .int (nI i)), (0, .ref (ad 1000))]) hx hb dX6_analyse_68 hl (k := 0) rfl (nI_1 _) (by decide) rfl (fun ls hl => ?_)
                      refine lv_goto (tgt := 43) hx hb dX6_analyse_71 (by decide) ?_
                      exact ih43 (k + 1) (nu y k (fpt i k)) h45 (cp_step hr2) (by omega) g13 _ _ _ c_o c_K c_Z c_F c_TO c_R c_FO c_W c_E xq fr hP hS (lv_sub hl [0, 1, 2] rfl)
                    · skip
                      refine lv_iload_n hx hb dX6_analyse_57 rfl (lv_at hl 0 rfl) ?_
                      refine lv_iload_n hx hb dX6_analyse_58 rfl (lv_at hl 1 rfl) ?_
                      refine ax_icne (a := k) (b := i) (tgt := 66) hx hb dX6_analyse_59 (by decide) (by omega) (by omega) (fun h59 => ?_) (fun h59 => ?_)
                      · skip
                        refine lv_iconst (v := nI 0) hx hb dX6_analyse_66 (by decide) ?_
                        refine ax_iast (k := 1028) (i := k) (f' := (fun j => nI ((nu (vN y) k 0) j))) hx hb hK hP hD hS (hq _ (by decide)) c_R (by omega) (by omega) (up_n _ _ _) dX6_analyse_67 (fun H locs g14 eg14 hP hS => ?_)
                        have c_o : g14 1000 = .inr (6, [.int (nI N), .int (nI V), .int (nI 0), .ref (ad 1003), .int (nI ec), .ref (ad 1005), .ref (ad 1006), .ref (ad 1007), .ref (ad 1008), .ref (ad 1009), .int (nI en), .int (if an = true then 1 else 0), .ref (ad 1012), .ref (ad 1013), .ref (ad 1014), .int (nI ((firstF (V + 1) en i).1)), .ref (ad 1016), .ref (ad 1017), .ref (ad 1018), .ref (ad 1019), .int (nI pl), .ref (ad 1021), .int (nI nc), .ref (ad 1023), .ref (ad 1024), .int (nI szx), .ref (ad 1026), .ref (ad 1027), .ref (ad 1028)]) := (cx_ne eg14 1000 (by omega)).trans c_o
                        have c_K : g14 1007 = nA G 20 ek := (cx_ne eg14 1007 (by omega)).trans c_K
                        have c_Z : g14 1008 = iA G 20 ez := (cx_ne eg14 1008 (by omega)).trans c_Z
                        have c_F : g14 1009 = nA G 100 (vN fm) := (cx_ne eg14 1009 (by omega)).trans c_F
                        have c_TO : g14 1006 = nA G 20 et := (cx_ne eg14 1006 (by omega)).trans c_TO
                        have c_FO : g14 1005 = nA G 20 ef := (cx_ne eg14 1005 (by omega)).trans c_FO
                        have c_W : g14 1018 = nA G 8 rw0 := (cx_ne eg14 1018 (by omega)).trans c_W
                        have c_E : g14 1019 = nA G 200 (vN eq0) := (cx_ne eg14 1019 (by omega)).trans c_E
                        have xq : QA G g14 N V (firstF (V + 1) en i) := xq.kept (fun j hj => cx_ne eg14 j (by unfold lbQ at hj; omega))
                        have c_R : g14 1028 = nA G 5 (nu (vN y) k 0) := cx_eq eg14
                        have fr : ∀ j : Nat, (j ≠ 1000 ∧ j ≠ 1018 ∧ j ≠ 1019 ∧ j ≠ 1028 ∧ ¬ lbQ j) → g14 j = g j := fun j hj => (cx_ne eg14 j (by unfold lbQ at hj; omega)).trans (fr j hj)
                        have e9 : fpt i k = 0 := fpt_n h54 h59
                        have c_R : g14 1028 = nA G 5 (vN (nu y k (fpt i k))) := by rw [e9, ← vN_nu]; exact c_R
                        refine lv_iinc (v := nI (k + 1)) (lv' := [(2, .int (nI (k + 1))), (1, .int (nI i)), (0, .ref (ad 1000))]) hx hb dX6_analyse_68 hl (k := 0) rfl (nI_1 _) (by decide) rfl (fun ls hl => ?_)
                        refine lv_goto (tgt := 43) hx hb dX6_analyse_71 (by decide) ?_
                        exact ih43 (k + 1) (nu y k (fpt i k)) h45 (cp_step hr2) (by omega) g14 _ _ _ c_o c_K c_Z c_F c_TO c_R c_FO c_W c_E xq fr hP hS (lv_sub hl [0, 1, 2] rfl)
                      · skip
                        refine lv_iconst (v := nI 1) hx hb dX6_analyse_62 (by decide) ?_
                        refine lv_goto (tgt := 67) hx hb dX6_analyse_63 (by decide) ?_
                        refine ax_iast (k := 1028) (i := k) (f' := (fun j => nI ((nu (vN y) k 1) j))) hx hb hK hP hD hS (hq _ (by decide)) c_R (by omega) (by omega) (up_n _ _ _) dX6_analyse_67 (fun H locs g15 eg15 hP hS => ?_)
                        have c_o : g15 1000 = .inr (6, [.int (nI N), .int (nI V), .int (nI 0), .ref (ad 1003), .int (nI ec), .ref (ad 1005), .ref (ad 1006), .ref (ad 1007), .ref (ad 1008), .ref (ad 1009), .int (nI en), .int (if an = true then 1 else 0), .ref (ad 1012), .ref (ad 1013), .ref (ad 1014), .int (nI ((firstF (V + 1) en i).1)), .ref (ad 1016), .ref (ad 1017), .ref (ad 1018), .ref (ad 1019), .int (nI pl), .ref (ad 1021), .int (nI nc), .ref (ad 1023), .ref (ad 1024), .int (nI szx), .ref (ad 1026), .ref (ad 1027), .ref (ad 1028)]) := (cx_ne eg15 1000 (by omega)).trans c_o
                        have c_K : g15 1007 = nA G 20 ek := (cx_ne eg15 1007 (by omega)).trans c_K
                        have c_Z : g15 1008 = iA G 20 ez := (cx_ne eg15 1008 (by omega)).trans c_Z
                        have c_F : g15 1009 = nA G 100 (vN fm) := (cx_ne eg15 1009 (by omega)).trans c_F
                        have c_TO : g15 1006 = nA G 20 et := (cx_ne eg15 1006 (by omega)).trans c_TO
                        have c_FO : g15 1005 = nA G 20 ef := (cx_ne eg15 1005 (by omega)).trans c_FO
                        have c_W : g15 1018 = nA G 8 rw0 := (cx_ne eg15 1018 (by omega)).trans c_W
                        have c_E : g15 1019 = nA G 200 (vN eq0) := (cx_ne eg15 1019 (by omega)).trans c_E
                        have xq : QA G g15 N V (firstF (V + 1) en i) := xq.kept (fun j hj => cx_ne eg15 j (by unfold lbQ at hj; omega))
                        have c_R : g15 1028 = nA G 5 (nu (vN y) k 1) := cx_eq eg15
                        have fr : ∀ j : Nat, (j ≠ 1000 ∧ j ≠ 1018 ∧ j ≠ 1019 ∧ j ≠ 1028 ∧ ¬ lbQ j) → g15 j = g j := fun j hj => (cx_ne eg15 j (by unfold lbQ at hj; omega)).trans (fr j hj)
                        have e9 : fpt i k = 1 := fpt_i h59
                        have c_R : g15 1028 = nA G 5 (vN (nu y k (fpt i k))) := by rw [e9, ← vN_nu]; exact c_R
                        refine lv_iinc (v := nI (k + 1)) (lv' := [(2, .int (nI (k + 1))), (1, .int (nI i)), (0, .ref (ad 1000))]) hx hb dX6_analyse_68 hl (k := 0) rfl (nI_1 _) (by decide) rfl (fun ls hl => ?_)
                        refine lv_goto (tgt := 43) hx hb dX6_analyse_71 (by decide) ?_
                        exact ih43 (k + 1) (nu y k (fpt i k)) h45 (cp_step hr2) (by omega) g15 _ _ _ c_o c_K c_Z c_F c_TO c_R c_FO c_W c_E xq fr hP hS (lv_sub hl [0, 1, 2] rfl)
              exact LP43 ((5 - 0) + 1) 0 rr2 (Nat.zero_le _) cp_0 (Nat.lt_succ_self _) ga4 _ _ _ c_o c_K c_Z c_F c_TO c_R c_FO c_W c_E xq fr hP hS (lv_sub hl [0, 1, 2] rfl)
        exact LP33 ((V + 1 - 0) + 1) 0 rr sz (Nat.zero_le _) hzr (Nat.lt_succ_self _) ga3 _ _ _ c_o c_K c_Z c_F c_TO c_R c_FO c_W c_E xq fr hP hS (lv_sub hl [0, 1] rfl)
      · skip
        refine lv_aload_n hx hb dX6_analyse_18 rfl (lv_at hl 1 rfl) ?_
        refine ax_get (k := 1000) (v := .ref (ad 1012)) hx hb hts in_X6_analyse_X6 hown hK hP (hq _ (by decide)) c_o rfl 12 (by decide) (hts _ wd_X6_analyse_12) (fun _ h9 => h9) rfl dX6_analyse_19 ?_
        refine lv_iload_n hx hb dX6_analyse_22 rfl (lv_at hl 0 rfl) ?_
        refine lv_iconst (v := nI 0) hx hb dX6_analyse_23 (by decide) ?_
        refine ax_iast (k := 1012) (i := k) (f' := (fun j => nI ((nu r k 0) j))) hx hb hK hP hD hS (hq _ (by decide)) c_M (by omega) (by omega) (up_n _ _ _) dX6_analyse_24 (fun H locs g16 eg16 hP hS => ?_)
        have c_o : g16 1000 = .inr (6, [.int (nI N), .int (nI V), .int (nI 0), .ref (ad 1003), .int (nI ec), .ref (ad 1005), .ref (ad 1006), .ref (ad 1007), .ref (ad 1008), .ref (ad 1009), .int (nI en), .int (if an = true then 1 else 0), .ref (ad 1012), .ref (ad 1013), .ref (ad 1014), .int (nI 0), .ref (ad 1016), .ref (ad 1017), .ref (ad 1018), .ref (ad 1019), .int (nI pl), .ref (ad 1021), .int (nI nc), .ref (ad 1023), .ref (ad 1024), .int (nI sz), .ref (ad 1026), .ref (ad 1027), .ref (ad 1028)]) := (cx_ne eg16 1000 (by omega)).trans c_o
        have c_K : g16 1007 = nA G 20 ek := (cx_ne eg16 1007 (by omega)).trans c_K
        have c_Z : g16 1008 = iA G 20 ez := (cx_ne eg16 1008 (by omega)).trans c_Z
        have c_F : g16 1009 = nA G 100 (vN fm) := (cx_ne eg16 1009 (by omega)).trans c_F
        have c_TO : g16 1006 = nA G 20 et := (cx_ne eg16 1006 (by omega)).trans c_TO
        have c_R : g16 1028 = nA G 5 (vN rr) := (cx_ne eg16 1028 (by omega)).trans c_R
        have c_FO : g16 1005 = nA G 20 ef := (cx_ne eg16 1005 (by omega)).trans c_FO
        have c_W : g16 1018 = nA G 8 rw0 := (cx_ne eg16 1018 (by omega)).trans c_W
        have c_E : g16 1019 = nA G 200 (vN eq0) := (cx_ne eg16 1019 (by omega)).trans c_E
        have c_Q : g16 1013 = nA G 200 (vN pq) := (cx_ne eg16 1013 (by omega)).trans c_Q
        have c_C : g16 1014 = iA G 40 cm := (cx_ne eg16 1014 (by omega)).trans c_C
        have c_D : g16 1016 = nA G 41 nd := (cx_ne eg16 1016 (by omega)).trans c_D
        have c_X : g16 1017 = nA G 41 nx := (cx_ne eg16 1017 (by omega)).trans c_X
        have c_T : g16 1026 = nA G 150 (vN tb) := (cx_ne eg16 1026 (by omega)).trans c_T
        have c_P : g16 1027 = iA G 5 pz0 := (cx_ne eg16 1027 (by omega)).trans c_P
        have c_M : g16 1012 = nA G 8 (nu r k 0) := cx_eq eg16
        have fr : ∀ j : Nat, (j ≠ 1000 ∧ j ≠ 1018 ∧ j ≠ 1019 ∧ j ≠ 1028 ∧ ¬ lbQ j) → g16 j = g j := fun j hj => (cx_ne eg16 j (by unfold lbQ at hj; omega)).trans (fr j hj)
        refine lv_iinc (v := nI (k + 1)) (lv' := [(1, .int (nI (k + 1))), (0, .ref (ad 1000))]) hx hb dX6_analyse_25 hl (k := 0) rfl (nI_1 _) (by decide) rfl (fun ls hl => ?_)
        refine lv_goto (tgt := 12) hx hb dX6_analyse_28 (by decide) ?_
        exact ih12 (k + 1) (nu r k 0) h15 (clr_step hr) (by omega) g16 _ _ _ c_o c_K c_Z c_F c_TO c_R c_FO c_W c_E c_M c_Q c_C c_D c_X c_T c_P  fr hP hS (lv_sub hl [0, 1] rfl)
  exact LP12 ((8 - 0) + 1) 0 mn (Nat.zero_le _) (fun j => (if_neg (Nat.not_lt_zero j)).symm) (Nat.lt_succ_self _) g2 _ _ _ c_o c_K c_Z c_F c_TO c_R c_FO c_W c_E c_M c_Q c_C c_D c_X c_T c_P  fr hP hS (lv_sub hl [0, 1] rfl)
