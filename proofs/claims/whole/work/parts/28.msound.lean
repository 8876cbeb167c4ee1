/-! THE MODEL: sound -/
def SPT (V z : Nat) (tb : Nat → FF) (S : (Nat → FF) → Prop) : Prop := ∀ v : Nat → FF, InSp (V + 1) (rw5 tb) z v ↔ S v
theorem SPT.start {V : Nat} {tb : Nat → FF} : SPT V 0 tb (S00 (V + 1)) := fun v => ⟨fun ⟨_, h⟩ => h, fun h => ⟨fun _ => 0, h⟩⟩
theorem SPT.push {V z : Nat} {tb y f w : Nat → FF} {S : (Nat → FF) → Prop} (h : SPT V z tb S) (hL : Lin (V + 1) S) (hV : V ≤ 4) (hof : OF (5 * z) tb f 5 y) (hf : ∀ k : Nat, k < 5 → f k = w k) : SPT V (z + 1) y (Sad S w) := fun u => by
  have h1 : ∀ v : Nat → FF, InSp (V + 1) (rw5 y) z v ↔ S v := fun v => by
    rw [← h v]
    have hc : ∀ a : Nat, a < z → ∀ j : Nat, j < V + 1 → rw5 y a j = rw5 tb a j := fun a ha j hj => hof.out (by omega)
    exact ⟨fun q => q.cg hc, fun q => q.cg (fun a ha j hj => (hc a ha j hj).symm)⟩
  have h2 : ∀ k : Nat, k < V + 1 → rw5 y z k = w k := fun k hk => (hof.inn (by omega)).trans (hf k (by omega))
  rw [InSp.add]
  constructor
  · rintro ⟨a, ha⟩
    exact ⟨a, hL.cg ((h1 _).mp ha) (fun j hj => by rw [h2 j hj])⟩
  · rintro ⟨a, ha⟩
    exact ⟨a, (h1 _).mpr (hL.cg ha (fun j hj => by rw [h2 j hj]))⟩
theorem OF.over {ba : Nat} {u v w y z : Nat → FF} (h : OF ba u v 5 y) (h2 : OF ba y w 5 z) : OF ba u w 5 z := fun j => by
  rw [h2 j, h j]
  by_cases q : ba ≤ j ∧ j < ba + 5
  · rw [if_pos q, if_pos q]
  · rw [if_neg q, if_neg q, if_neg q]
theorem OF.put {ba k : Nat} {u v y : Nat → FF} {x : FF} (h : OF ba u v 5 y) (hk : k < 5) : OF ba u (nu v k x) 5 (nu y (ba + k) x) := fun j => by
  by_cases e : j = ba + k
  · rw [e, nu_s, if_pos (by omega), show ba + k - ba = k by omega, nu_s]
  · rw [nu_n e, h j]
    by_cases q : ba ≤ j ∧ j < ba + 5
    · rw [if_pos q, if_pos q, nu_n (by omega)]
    · rw [if_neg q, if_neg q]
/-- a note before an edge, as the model works it out -/
def bkM (kd : Nat) (f : Nat → FF) (cc0 : FF) (x : Nat) (v1 : Nat → FF) : Nat → FF := fun k => v1 k + cc0 * (if kd = 1 then f k else if k = 0 then ff x else 0)
theorem bk_eq {V kd vr x k : Nat} {f w : Nat → FF} (hz : Zb (V + 1) f) (h : kd = 1 ∨ kd = 2) (hk : k < 5) : bkM kd f (w vr) x (nu w vr 0) k = backF (V + 1) kd vr f (ff x) w k := by
  unfold bkM backF
  by_cases h1 : kd = 1
  · rw [if_pos h1, if_pos h1]
    unfold am
    by_cases q : k < V + 1
    · rw [if_pos q]
    · rw [if_neg q, hz k (by omega)]
      grind
  · rw [if_neg h1, if_neg h1, if_pos (h.resolve_left h1)]
    by_cases q : k = 0
    · rw [if_pos q, q, nu_s]
    · rw [if_neg q, nu_n q]
      grind
theorem bk_no {V kd vr : Nat} {f w : Nat → FF} {x : FF} (h1 : kd ≠ 1) (h2 : kd ≠ 2) : backF (V + 1) kd vr f x w = w := by
  unfold backF
  rw [if_neg h1, if_neg h2]
/-- the rank grows by a row just when it is not in the span -/
theorem rk_eq {n : Nat} {t t2 : Nat → Bool} {kp kp2 : Nat → Nat → FF} {S : (Nat → FF) → Prop} {b : Nat → FF} (hL : Lin n S) (h : RRf n t kp S) (h2 : RRf n t2 kp2 (Sad S b)) : cntT t2 n = cntT t n ↔ S b := by
  constructor
  · intro e
    refine Classical.byContradiction (fun hb => ?_)
    have hz : ¬ ∀ j : Nat, j < n → sp_red n t kp n b j = 0 := fun z => hb ((red_S hL h b).mp z)
    obtain ⟨k0, hl⟩ := lead_ex hz
    have h3 := RRf.add hL h b hl finv_ok
    have ht0 : t k0 = false := red_nt hL h b k0 hl.1 hl.2.1
    have hc := cntT_add ht0 (n := n)
    rw [if_pos hl.1] at hc
    have e2 := cntT_cg (h3.one h2 (hL.sad b)).1
    omega
  · intro hb
    have h3 := h2.ex (fun u => Sad_in hL hb)
    exact (cntT_cg (h.one h3 hL).1).symm
def folP (V nc : Nat) (nn : Nat → Nat) (ng : Nat → Nat → FF) (fr kd vr : Nat) (f : Nat → FF) (w : Nat → FF) (k : Nat) : Prop := ∀ x : Nat, x < k → sbF (V + 1) nc nn ng fr kd f (backF (V + 1) kd vr f (ff x) w)
theorem folP_iff {V nc : Nat} {nn : Nat → Nat} {ng : Nat → Nat → FF} {fr kd vr : Nat} {f w : Nat → FF} : folP V nc nn ng fr kd vr f w 2 ↔ sbF (V + 1) nc nn ng fr kd f (backF (V + 1) kd vr f (ff 0) w) ∧ (kd = 2 → sbF (V + 1) nc nn ng fr kd f (backF (V + 1) kd vr f (ff 1) w)) := by
  constructor
  · intro h
    exact ⟨h 0 (by omega), fun _ => h 1 (by omega)⟩
  · rintro ⟨h0, h1⟩ x hx
    by_cases e : x = 0
    · rw [e]; exact h0
    · have e1 : x = 1 := by omega
      by_cases q : kd = 2
      · rw [e1]; exact h1 q
      · have e2 : backF (V + 1) kd vr f (ff x) w = backF (V + 1) kd vr f (ff 0) w := by
          unfold backF
          by_cases q1 : kd = 1
          · rw [if_pos q1, if_pos q1]
          · rw [if_neg q1, if_neg q1, if_neg q, if_neg q]
        rw [e2]; exact h0
def okN (V nc en ec : Nat) (nn : Nat → Nat) (ng : Nat → Nat → FF) (ef et ek ev : Nat → Nat) (eg : Nat → Nat → FF) (a k : Nat) : Prop := nn a ≠ en ∧ ∀ b : Nat, b < k → et b = nn a → folP V nc nn ng (ef b) (ek b) (ev b) (eg b) (ng a) 2
theorem okN_iff {V nc en ec : Nat} {nn : Nat → Nat} {ng : Nat → Nat → FF} {ef et ek ev : Nat → Nat} {eg : Nat → Nat → FF} : (∀ a : Nat, a < nc → okN V nc en ec nn ng ef et ek ev eg a ec) ↔ soundP (V + 1) nc en ec nn ng ef et ek ev eg := by
  constructor
  · intro h
    exact ⟨fun i hi => (h i hi).1, fun b hb i hi ht => folP_iff.mp ((h i hi).2 b hb ht.symm)⟩
  · rintro ⟨h1, h2⟩ a ha
    exact ⟨h1 a ha, fun b hb ht => folP_iff.mpr (h2 b hb a ha ht.symm)⟩
theorem sb_3 {w nc kd : Nat} {nn : Nat → Nat} {ng : Nat → Nat → FF} {node : Nat} {f : Nat → FF} (h : kd = 3) : sbF w nc nn ng node kd f = Sad (nsF w nn ng node nc) f := if_pos h
theorem sb_n {w nc kd : Nat} {nn : Nat → Nat} {ng : Nat → Nat → FF} {node : Nat} {f : Nat → FF} (h : kd ≠ 3) : sbF w nc nn ng node kd f = nsF w nn ng node nc := if_neg h

theorem bk_fr {V kd vr way k i e0 : Nat} {fm nf : Nat → FF} {eg ng : Nat → Nat → FF} (hfr : FR fm eg) (hfn : FR nf ng) (hV : V ≤ 4) (hz : Zb (V + 1) (eg e0)) (h : kd = 1 ∨ kd = 2) (hk : k < 5) (hvr : vr < 5) : bkM kd (fun b => fm (5 * e0 + b)) (nf (5 * i + vr)) way (nu (fun b => nf (5 * i + b)) vr 0) k = backF (V + 1) kd vr (eg e0) (ff way) (ng i) k := by
  rw [← bk_eq hz h hk]
  unfold bkM
  have e1 : fm (5 * e0 + k) = eg e0 k := hfr e0 k hk
  have e2 : nf (5 * i + vr) = ng i vr := hfn i vr hvr
  have e3 : nu (fun b => nf (5 * i + b)) vr 0 k = nu (ng i) vr 0 k := by
    by_cases q : k = vr
    · rw [q, nu_s, nu_s]
    · rw [nu_n q, nu_n q]
      exact hfn i k hk
  rw [e2, e3]
  show _ + _ * (if kd = 1 then fm (5 * e0 + k) else _) = _
  rw [e1]

set_option maxRecDepth 20000 in
theorem wd_X6_layNotes_0 : Cond.fieldLink RX6 84 "AffineHullsModel" "size" "I" ∈ wsX6_layNotes := by decide +kernel
set_option maxRecDepth 20000 in
theorem in_X6_layNotes_X6 : ∀ w ∈ u_ws RX6 TX6 29, w ∈ wsX6_layNotes := by decide +kernel
set_option maxRecDepth 20000 in
theorem wd_X6_layNotes_2 : Cond.fieldLink RX6 151 "AffineHullsModel" "notes" "I" ∈ wsX6_layNotes := by decide +kernel
set_option maxRecDepth 20000 in
theorem wd_X6_layNotes_3 : Cond.fieldLink RX6 19 "AffineHullsModel" "kinds" "[I" ∈ wsX6_layNotes := by decide +kernel
set_option maxRecDepth 20000 in
theorem wd_X6_layNotes_4 : Cond.fieldLink RX6 25 "AffineHullsModel" "forms" "[I" ∈ wsX6_layNotes := by decide +kernel
set_option maxRecDepth 20000 in
theorem wd_X6_layNotes_5 : Cond.fieldLink RX6 52 "AffineHullsModel" "noteNode" "[I" ∈ wsX6_layNotes := by decide +kernel
set_option maxRecDepth 20000 in
theorem wd_X6_layNotes_6 : Cond.fieldLink RX6 13 "AffineHullsModel" "froms" "[I" ∈ wsX6_layNotes := by decide +kernel
set_option maxRecDepth 20000 in
theorem wd_X6_layNotes_7 : Cond.fieldLink RX6 55 "AffineHullsModel" "noteForm" "[I" ∈ wsX6_layNotes := by decide +kernel
abbrev rm_X6_layNotes : Room := { frames := 1, cells := 0, slots := 0, locals := 22 }
set_option maxHeartbeats 4000000 in
set_option maxRecDepth 100000 in
theorem c_X6_layNotes {l : Launch} {G : cx_G} {L : List Nat} {ad : Nat → Nat} {g : Nat → va_E} (hD : cx_D L ad) {N V th ec en al pl nc sz : Nat} {an : Bool} {ei : Nat} {tb : Nat → FF} {ef ek : Nat → Nat} {eg ng : Nat → Nat → FF} {fm nf : Nat → FF} {nn : Nat → Nat} (hN1 : 1 ≤ N) (hN : N ≤ 8) (hV1 : 1 ≤ V) (hV : V ≤ 4) (hq : ∀ j : Nat, lbM j = true → j ∈ L) (c_o : g 1000 = .inr (6, [.int (nI N), .int (nI V), .int (nI th), .ref (ad 1003), .int (nI ec), .ref (ad 1005), .ref (ad 1006), .ref (ad 1007), .ref (ad 1008), .ref (ad 1009), .int (nI en), .int (if an = true then 1 else 0), .ref (ad 1012), .ref (ad 1013), .ref (ad 1014), .int (nI al), .ref (ad 1016), .ref (ad 1017), .ref (ad 1018), .ref (ad 1019), .int (nI pl), .ref (ad 1021), .int (nI nc), .ref (ad 1023), .ref (ad 1024), .int (nI sz), .ref (ad 1026), .ref (ad 1027), .ref (ad 1028)])) (c_FO : g 1005 = nA G 20 ef) (c_K : g 1007 = nA G 20 ek) (c_F : g 1009 = nA G 100 (vN fm)) (c_NN : g 1023 = nA G 24 nn) (c_NF : g 1024 = nA G 120 (vN nf)) (c_T : g 1026 = nA G 150 (vN tb)) (hei : ei < ec) (hnc : nc ≤ 24) (hnn : ∀ i : Nat, i < nc → nn i < N) (hfn : FR nf ng) (hfr : FR fm eg) (hec : ec ≤ 20) (hf1 : ef ei < N) (hf3 : ek ei ≤ 4) : MV l yX6_layNotes wsX6_layNotes rm_X6_layNotes G L ad g [.ref (ad 1000), .int (nI ei)] (fun u => (∀ j : Nat, (j ≠ 1000 ∧ j ≠ 1026) → u j = g j) ∧ ∃ (z : Nat) (tb2 : Nat → FF), z ≤ 25 ∧ u 1000 = .inr (6, [.int (nI N), .int (nI V), .int (nI th), .ref (ad 1003), .int (nI ec), .ref (ad 1005), .ref (ad 1006), .ref (ad 1007), .ref (ad 1008), .ref (ad 1009), .int (nI en), .int (if an = true then 1 else 0), .ref (ad 1012), .ref (ad 1013), .ref (ad 1014), .int (nI al), .ref (ad 1016), .ref (ad 1017), .ref (ad 1018), .ref (ad 1019), .int (nI pl), .ref (ad 1021), .int (nI nc), .ref (ad 1023), .ref (ad 1024), .int (nI z), .ref (ad 1026), .ref (ad 1027), .ref (ad 1028)]) ∧ u 1026 = nA G 150 (vN tb2) ∧ SPT V z tb2 (sbF (V + 1) nc nn ng (ef ei) (ek ei) (eg ei))) := by
  refine cx_ofV (cc := cX6_layNotes) (maxL := 4) (by decide +kernel) rfl (Nat.le_of_ble_eq_true rfl) ?_
  intro p e s m args below meth c Q hx hb hts hown hml hP hK hS hz hret ls hl
  have hown : s.vm.findClass RX6 = some m.cls := hown
  have hl : lv_has ls 4 [(0, .ref (ad 1000)), (1, .int (nI ei))] := hl
  have fr : ∀ j : Nat, (j ≠ 1000 ∧ j ≠ 1026) → g j = g j := fun _ _ => rfl
  refine lv_aload_n hx hb dX6_layNotes_0 rfl (lv_at hl 0 rfl) ?_
  refine lv_iconst (v := nI 0) hx hb dX6_layNotes_1 (by decide) ?_
  refine ax_put (k := 1000) (v := .int (nI 0)) (fs' := [.int (nI N), .int (nI V), .int (nI th), .ref (ad 1003), .int (nI ec), .ref (ad 1005), .ref (ad 1006), .ref (ad 1007), .ref (ad 1008), .ref (ad 1009), .int (nI en), .int (if an = true then 1 else 0), .ref (ad 1012), .ref (ad 1013), .ref (ad 1014), .int (nI al), .ref (ad 1016), .ref (ad 1017), .ref (ad 1018), .ref (ad 1019), .int (nI pl), .ref (ad 1021), .int (nI nc), .ref (ad 1023), .ref (ad 1024), .int (nI 0), .ref (ad 1026), .ref (ad 1027), .ref (ad 1028)]) hx hb hts in_X6_layNotes_X6 tyX6 tyX6_ok nmX6 hown hK hP hD hS (hq _ (by decide)) c_o rfl 25 (by decide) (hts _ wd_X6_layNotes_0) (fun _ h9 => h9) rfl (ty := .int) (by decide +kernel) rfl rfl (Nat.le_of_ble_eq_true rfl) rfl dX6_layNotes_2 (fun H locs g1 eg1 hP hS => ?_)
  have c_FO : g1 1005 = nA G 20 ef := (cx_ne eg1 1005 (by omega)).trans c_FO
  have c_K : g1 1007 = nA G 20 ek := (cx_ne eg1 1007 (by omega)).trans c_K
  have c_F : g1 1009 = nA G 100 (vN fm) := (cx_ne eg1 1009 (by omega)).trans c_F
  have c_NN : g1 1023 = nA G 24 nn := (cx_ne eg1 1023 (by omega)).trans c_NN
  have c_NF : g1 1024 = nA G 120 (vN nf) := (cx_ne eg1 1024 (by omega)).trans c_NF
  have c_T : g1 1026 = nA G 150 (vN tb) := (cx_ne eg1 1026 (by omega)).trans c_T
  have c_o : g1 1000 = .inr (6, [.int (nI N), .int (nI V), .int (nI th), .ref (ad 1003), .int (nI ec), .ref (ad 1005), .ref (ad 1006), .ref (ad 1007), .ref (ad 1008), .ref (ad 1009), .int (nI en), .int (if an = true then 1 else 0), .ref (ad 1012), .ref (ad 1013), .ref (ad 1014), .int (nI al), .ref (ad 1016), .ref (ad 1017), .ref (ad 1018), .ref (ad 1019), .int (nI pl), .ref (ad 1021), .int (nI nc), .ref (ad 1023), .ref (ad 1024), .int (nI 0), .ref (ad 1026), .ref (ad 1027), .ref (ad 1028)]) := cx_eq eg1
  have fr : ∀ j : Nat, (j ≠ 1000 ∧ j ≠ 1026) → g1 j = g j := fun j hj => (cx_ne eg1 j (by omega)).trans (fr j hj)
  refine lv_iconst (v := nI 0) hx hb dX6_layNotes_5 (by decide) ?_
  refine lv_istore_n (lv' := [(2, .int (nI 0)), (0, .ref (ad 1000)), (1, .int (nI ei))]) hx hb dX6_layNotes_6 rfl hl (by decide) rfl (fun ls hl => ?_)
  have LP7 : ∀ (fu : Nat) (i : Nat) (z : Nat) (tbx : Nat → FF), (i ≤ nc) → (z ≤ i) → (SPT V z tbx (nsF (V + 1) nn ng (ef ei) i)) → (nc - i) < fu → ∀ (ga2 : Nat → va_E) (H : Heap) (locs : List Loc) (ls : Array Slot), (ga2 1000 = .inr (6, [.int (nI N), .int (nI V), .int (nI th), .ref (ad 1003), .int (nI ec), .ref (ad 1005), .ref (ad 1006), .ref (ad 1007), .ref (ad 1008), .ref (ad 1009), .int (nI en), .int (if an = true then 1 else 0), .ref (ad 1012), .ref (ad 1013), .ref (ad 1014), .int (nI al), .ref (ad 1016), .ref (ad 1017), .ref (ad 1018), .ref (ad 1019), .int (nI pl), .ref (ad 1021), .int (nI nc), .ref (ad 1023), .ref (ad 1024), .int (nI z), .ref (ad 1026), .ref (ad 1027), .ref (ad 1028)])) → (ga2 1005 = nA G 20 ef) → (ga2 1007 = nA G 20 ek) → (ga2 1009 = nA G 100 (vN fm)) → (ga2 1023 = nA G 24 nn) → (ga2 1024 = nA G 120 (vN nf)) → (ga2 1026 = nA G 150 (vN tbx)) → (∀ j : Nat, (j ≠ 1000 ∧ j ≠ 1026) → ga2 j = g j) → va_P G.1 vwCl (wl L ad ga2) H → va_S (cx_A L ad s.heap.size) s.heap H locs → lv_has ls 4 [(2, .int (nI i)), (0, .ref (ad 1000)), (1, .int (nI ei))] → W p l e rm_X6_layNotes s m args below meth c H locs 0 0 Q (F0 m 7 ls []) := by
    intro fu
    induction fu with
    | zero => intro i z tbx hin hzi hsp hfu; exact absurd hfu (Nat.not_lt_zero _)
    | succ fu ih7 =>
      intro i z tbx hin hzi hsp hfu7 ga2 H locs ls c_o c_FO c_K c_F c_NN c_NF c_T fr hP hS hl
      refine lv_iload_n hx hb dX6_layNotes_7 rfl (lv_at hl 0 rfl) ?_
      refine lv_aload_n hx hb dX6_layNotes_8 rfl (lv_at hl 1 rfl) ?_
      refine ax_get (k := 1000) (v := .int (nI nc)) hx hb hts in_X6_layNotes_X6 hown hK hP (hq _ (by decide)) c_o rfl 22 (by decide) (hts _ wd_X6_layNotes_2) (fun _ h9 => h9) rfl dX6_layNotes_9 ?_
      refine ax_icge (a := i) (b := nc) (tgt := 74) hx hb dX6_layNotes_12 (by decide) (by omega) (by omega) (fun h12 => ?_) (fun h12 => ?_)
      · skip
        refine lv_aload_n hx hb dX6_layNotes_74 rfl (lv_at hl 1 rfl) ?_
        refine ax_get (k := 1000) (v := .ref (ad 1007)) hx hb hts in_X6_layNotes_X6 hown hK hP (hq _ (by decide)) c_o rfl 7 (by decide) (hts _ wd_X6_layNotes_3) (fun _ h9 => h9) rfl dX6_layNotes_75 ?_
        refine lv_iload_n hx hb dX6_layNotes_78 rfl (lv_at hl 2 rfl) ?_
        refine ax_iald (k := 1007) (i := ei) (v := nI (ek ei)) hx hb hK hP (hq _ (by decide)) c_K (by omega) (by omega) rfl dX6_layNotes_79 ?_
        refine lv_iconst (v := nI 3) hx hb dX6_layNotes_80 (by decide) ?_
        refine ax_icne (a := ek ei) (b := 3) (tgt := 122) hx hb dX6_layNotes_81 (by decide) (by omega) (by omega) (fun h81 => ?_) (fun h81 => ?_)
        · skip
          exact hret ga2 _ _ _ _ (by have ei9 : i = nc := (by omega); rw [ei9] at hsp; exact ⟨fr, z, tbx, by omega, c_o, c_T, by rw [sb_n h81]; exact hsp⟩) hP hS dX6_layNotes_122
        · skip
          refine lv_iconst (v := nI 0) hx hb dX6_layNotes_84 (by decide) ?_
          refine lv_istore_n (lv' := [(2, .int (nI 0)), (0, .ref (ad 1000)), (1, .int (nI ei))]) hx hb dX6_layNotes_85 rfl hl (by decide) rfl (fun ls hl => ?_)
          have LP86 : ∀ (fu : Nat) (k : Nat) (y : Nat → FF), (k ≤ 5) → (OF (5 * z) tbx (fun b => fm (5 * ei + b)) k y) → (5 - k) < fu → ∀ (ga3 : Nat → va_E) (H : Heap) (locs : List Loc) (ls : Array Slot), (ga3 1000 = .inr (6, [.int (nI N), .int (nI V), .int (nI th), .ref (ad 1003), .int (nI ec), .ref (ad 1005), .ref (ad 1006), .ref (ad 1007), .ref (ad 1008), .ref (ad 1009), .int (nI en), .int (if an = true then 1 else 0), .ref (ad 1012), .ref (ad 1013), .ref (ad 1014), .int (nI al), .ref (ad 1016), .ref (ad 1017), .ref (ad 1018), .ref (ad 1019), .int (nI pl), .ref (ad 1021), .int (nI nc), .ref (ad 1023), .ref (ad 1024), .int (nI z), .ref (ad 1026), .ref (ad 1027), .ref (ad 1028)])) → (ga3 1005 = nA G 20 ef) → (ga3 1007 = nA G 20 ek) → (ga3 1009 = nA G 100 (vN fm)) → (ga3 1023 = nA G 24 nn) → (ga3 1024 = nA G 120 (vN nf)) → (ga3 1026 = nA G 150 (vN y)) → (∀ j : Nat, (j ≠ 1000 ∧ j ≠ 1026) → ga3 j = g j) → va_P G.1 vwCl (wl L ad ga3) H → va_S (cx_A L ad s.heap.size) s.heap H locs → lv_has ls 4 [(2, .int (nI k)), (0, .ref (ad 1000)), (1, .int (nI ei))] → W p l e rm_X6_layNotes s m args below meth c H locs 0 0 Q (F0 m 86 ls []) := by
            intro fu
            induction fu with
            | zero => intro k y hk5 hof hfu; exact absurd hfu (Nat.not_lt_zero _)
            | succ fu ih86 =>
              intro k y hk5 hof hfu86 ga3 H locs ls c_o c_FO c_K c_F c_NN c_NF c_T fr hP hS hl
              refine lv_iload_n hx hb dX6_layNotes_86 rfl (lv_at hl 0 rfl) ?_
              refine lv_iconst (v := nI 5) hx hb dX6_layNotes_87 (by decide) ?_
              refine ax_icge (a := k) (b := 5) (tgt := 112) hx hb dX6_layNotes_88 (by decide) (by omega) (by omega) (fun h88 => ?_) (fun h88 => ?_)
              · skip
                refine lv_aload_n hx hb dX6_layNotes_112 rfl (lv_at hl 1 rfl) ?_
                refine lv_dup hx hb dX6_layNotes_113 rfl ?_
                refine ax_get (k := 1000) (v := .int (nI z)) hx hb hts in_X6_layNotes_X6 hown hK hP (hq _ (by decide)) c_o rfl 25 (by decide) (hts _ wd_X6_layNotes_0) (fun _ h9 => h9) rfl dX6_layNotes_114 ?_
                refine lv_iconst (v := nI 1) hx hb dX6_layNotes_117 (by decide) ?_
                refine ax_add (a := z) (b := 1) hx hb dX6_layNotes_118 ?_
                refine ax_put (k := 1000) (v := .int (nI (z + 1))) (fs' := [.int (nI N), .int (nI V), .int (nI th), .ref (ad 1003), .int (nI ec), .ref (ad 1005), .ref (ad 1006), .ref (ad 1007), .ref (ad 1008), .ref (ad 1009), .int (nI en), .int (if an = true then 1 else 0), .ref (ad 1012), .ref (ad 1013), .ref (ad 1014), .int (nI al), .ref (ad 1016), .ref (ad 1017), .ref (ad 1018), .ref (ad 1019), .int (nI pl), .ref (ad 1021), .int (nI nc), .ref (ad 1023), .ref (ad 1024), .int (nI (z + 1)), .ref (ad 1026), .ref (ad 1027), .ref (ad 1028)]) hx hb hts in_X6_layNotes_X6 tyX6 tyX6_ok nmX6 hown hK hP hD hS (hq _ (by decide)) c_o rfl 25 (by decide) (hts _ wd_X6_layNotes_0) (fun _ h9 => h9) rfl (ty := .int) (by decide +kernel) rfl rfl (Nat.le_of_ble_eq_true rfl) rfl dX6_layNotes_119 (fun H locs g4 eg4 hP hS => ?_)
                have c_FO : g4 1005 = nA G 20 ef := (cx_ne eg4 1005 (by omega)).trans c_FO
                have c_K : g4 1007 = nA G 20 ek := (cx_ne eg4 1007 (by omega)).trans c_K
                have c_F : g4 1009 = nA G 100 (vN fm) := (cx_ne eg4 1009 (by omega)).trans c_F
                have c_NN : g4 1023 = nA G 24 nn := (cx_ne eg4 1023 (by omega)).trans c_NN
                have c_NF : g4 1024 = nA G 120 (vN nf) := (cx_ne eg4 1024 (by omega)).trans c_NF
                have c_T : g4 1026 = nA G 150 (vN y) := (cx_ne eg4 1026 (by omega)).trans c_T
                have c_o : g4 1000 = .inr (6, [.int (nI N), .int (nI V), .int (nI th), .ref (ad 1003), .int (nI ec), .ref (ad 1005), .ref (ad 1006), .ref (ad 1007), .ref (ad 1008), .ref (ad 1009), .int (nI en), .int (if an = true then 1 else 0), .ref (ad 1012), .ref (ad 1013), .ref (ad 1014), .int (nI al), .ref (ad 1016), .ref (ad 1017), .ref (ad 1018), .ref (ad 1019), .int (nI pl), .ref (ad 1021), .int (nI nc), .ref (ad 1023), .ref (ad 1024), .int (nI (z + 1)), .ref (ad 1026), .ref (ad 1027), .ref (ad 1028)]) := cx_eq eg4
                have fr : ∀ j : Nat, (j ≠ 1000 ∧ j ≠ 1026) → g4 j = g j := fun j hj => (cx_ne eg4 j (by omega)).trans (fr j hj)
                exact hret g4 _ _ _ _ (by have ei9 : i = nc := (by omega); rw [ei9] at hsp; have e5 : k = 5 := (by omega); subst e5; exact ⟨fr, z + 1, y, by omega, c_o, c_T, by rw [sb_3 h81]; exact hsp.push (nsF.lin nc) hV hof (fun b hb => hfr ei b hb)⟩) hP hS dX6_layNotes_122
              · skip
                refine lv_aload_n hx hb dX6_layNotes_91 rfl (lv_at hl 1 rfl) ?_
                refine lv_iload_n hx hb dX6_layNotes_92 rfl (lv_at hl 0 rfl) ?_
                refine lv_aload_n hx hb dX6_layNotes_93 rfl (lv_at hl 1 rfl) ?_
                refine ax_get (k := 1000) (v := .ref (ad 1009)) hx hb hts in_X6_layNotes_X6 hown hK hP (hq _ (by decide)) c_o rfl 9 (by decide) (hts _ wd_X6_layNotes_4) (fun _ h9 => h9) rfl dX6_layNotes_94 ?_
                refine lv_iconst (v := nI 5) hx hb dX6_layNotes_97 (by decide) ?_
                refine lv_iload_n hx hb dX6_layNotes_98 rfl (lv_at hl 2 rfl) ?_
                refine ax_mul (a := 5) (b := ei) hx hb dX6_layNotes_99 ?_
                refine lv_iload_n hx hb dX6_layNotes_100 rfl (lv_at hl 0 rfl) ?_
                refine ax_add (a := 5 * ei) (b := k) hx hb dX6_layNotes_101 ?_
                refine ax_iald (k := 1009) (i := 5 * ei + k) (v := nI ((vN fm) (5 * ei + k))) hx hb hK hP (hq _ (by decide)) c_F (by omega) (by omega) rfl dX6_layNotes_102 ?_
                refine cx_Vv (As := [.int (nI k), .int (nI ((vN fm) (5 * ei + k)))]) (rest := []) ⟨hx, hb, hml, hown, hts⟩ (c_X6_put hD hN1 hN hV1 hV hq (k := k) (x := fm (5 * ei + k)) (tb := y) c_o c_T (by omega)) (cwV 2 hts gX6_layNotes_X6_put rfl rfl rfl (by decide +kernel) ⟨Nat.le_of_ble_eq_true rfl, Nat.le_of_ble_eq_true rfl⟩) hK hP hS hz (hq _ (by decide)) c_o rfl ⟨Nat.zero_le _, Nat.zero_le _⟩ rfl hl.1 rfl (Nat.le_of_ble_eq_true rfl) dX6_layNotes_103 (fun g5 H locs hp5 hP hS => ?_)
                obtain ⟨hp5a, hp5b⟩ := hp5
                have c_o : g5 1000 = .inr (6, [.int (nI N), .int (nI V), .int (nI th), .ref (ad 1003), .int (nI ec), .ref (ad 1005), .ref (ad 1006), .ref (ad 1007), .ref (ad 1008), .ref (ad 1009), .int (nI en), .int (if an = true then 1 else 0), .ref (ad 1012), .ref (ad 1013), .ref (ad 1014), .int (nI al), .ref (ad 1016), .ref (ad 1017), .ref (ad 1018), .ref (ad 1019), .int (nI pl), .ref (ad 1021), .int (nI nc), .ref (ad 1023), .ref (ad 1024), .int (nI z), .ref (ad 1026), .ref (ad 1027), .ref (ad 1028)]) := (hp5a 1000 (by omega)).trans c_o
                have c_FO : g5 1005 = nA G 20 ef := (hp5a 1005 (by omega)).trans c_FO
                have c_K : g5 1007 = nA G 20 ek := (hp5a 1007 (by omega)).trans c_K
                have c_F : g5 1009 = nA G 100 (vN fm) := (hp5a 1009 (by omega)).trans c_F
                have c_NN : g5 1023 = nA G 24 nn := (hp5a 1023 (by omega)).trans c_NN
                have c_NF : g5 1024 = nA G 120 (vN nf) := (hp5a 1024 (by omega)).trans c_NF
                have fr : ∀ j : Nat, (j ≠ 1000 ∧ j ≠ 1026) → g5 j = g j := fun j hj => (hp5a j (by omega)).trans (fr j hj)
                have c_T := hp5b
                refine lv_iinc (v := nI (k + 1)) (lv' := [(2, .int (nI (k + 1))), (0, .ref (ad 1000)), (1, .int (nI ei))]) hx hb dX6_layNotes_106 hl (k := 0) rfl (nI_1 _) (by decide) rfl (fun ls hl => ?_)
                refine lv_goto (tgt := 86) hx hb dX6_layNotes_109 (by decide) ?_
                exact ih86 (k + 1) (nu y (5 * z + k) (fm (5 * ei + k))) h88 (hof.step rfl) (by omega) g5 _ _ _ c_o c_FO c_K c_F c_NN c_NF c_T  fr hP hS (lv_sub hl [0, 1, 2] rfl)
          exact LP86 ((5 - 0) + 1) 0 tbx (Nat.zero_le _) OF.start (Nat.lt_succ_self _) ga2 _ _ _ c_o c_FO c_K c_F c_NN c_NF c_T  fr hP hS (lv_sub hl [0, 1, 2] rfl)
      · skip
        refine lv_aload_n hx hb dX6_layNotes_15 rfl (lv_at hl 1 rfl) ?_
        refine ax_get (k := 1000) (v := .ref (ad 1023)) hx hb hts in_X6_layNotes_X6 hown hK hP (hq _ (by decide)) c_o rfl 23 (by decide) (hts _ wd_X6_layNotes_5) (fun _ h9 => h9) rfl dX6_layNotes_16 ?_
        refine lv_iload_n hx hb dX6_layNotes_19 rfl (lv_at hl 0 rfl) ?_
        refine ax_iald (k := 1023) (i := i) (v := nI (nn i)) hx hb hK hP (hq _ (by decide)) c_NN (by omega) (by omega) rfl dX6_layNotes_20 ?_
        refine lv_aload_n hx hb dX6_layNotes_21 rfl (lv_at hl 1 rfl) ?_
        refine ax_get (k := 1000) (v := .ref (ad 1005)) hx hb hts in_X6_layNotes_X6 hown hK hP (hq _ (by decide)) c_o rfl 5 (by decide) (hts _ wd_X6_layNotes_6) (fun _ h9 => h9) rfl dX6_layNotes_22 ?_
        refine lv_iload_n hx hb dX6_layNotes_25 rfl (lv_at hl 2 rfl) ?_
        refine ax_iald (k := 1005) (i := ei) (v := nI (ef ei)) hx hb hK hP (hq _ (by decide)) c_FO (by omega) (by omega) rfl dX6_layNotes_26 ?_
        have hni := hnn i h12
        refine ax_icne (a := nn i) (b := ef ei) (tgt := 68) hx hb dX6_layNotes_27 (by decide) (by omega) (by omega) (fun h27 => ?_) (fun h27 => ?_)
        · skip
          refine lv_iinc (v := nI (i + 1)) (lv' := [(2, .int (nI (i + 1))), (0, .ref (ad 1000)), (1, .int (nI ei))]) hx hb dX6_layNotes_68 hl (k := 0) rfl (nI_1 _) (by decide) rfl (fun ls hl => ?_)
          refine lv_goto (tgt := 7) hx hb dX6_layNotes_71 (by decide) ?_
          exact ih7 (i + 1) z tbx h12 (by omega) (by rw [ns_f h27]; exact hsp) (by omega) ga2 _ _ _ c_o c_FO c_K c_F c_NN c_NF c_T  fr hP hS (lv_sub hl [0, 1, 2] rfl)
        · skip
          refine lv_iconst (v := nI 0) hx hb dX6_layNotes_30 (by decide) ?_
          refine lv_istore_n (lv' := [(3, .int (nI 0)), (2, .int (nI i)), (0, .ref (ad 1000)), (1, .int (nI ei))]) hx hb dX6_layNotes_31 rfl hl (by decide) rfl (fun ls hl => ?_)
          have LP32 : ∀ (fu : Nat) (k : Nat) (y : Nat → FF), (k ≤ 5) → (OF (5 * z) tbx (fun b => nf (5 * i + b)) k y) → (5 - k) < fu → ∀ (ga6 : Nat → va_E) (H : Heap) (locs : List Loc) (ls : Array Slot), (ga6 1000 = .inr (6, [.int (nI N), .int (nI V), .int (nI th), .ref (ad 1003), .int (nI ec), .ref (ad 1005), .ref (ad 1006), .ref (ad 1007), .ref (ad 1008), .ref (ad 1009), .int (nI en), .int (if an = true then 1 else 0), .ref (ad 1012), .ref (ad 1013), .ref (ad 1014), .int (nI al), .ref (ad 1016), .ref (ad 1017), .ref (ad 1018), .ref (ad 1019), .int (nI pl), .ref (ad 1021), .int (nI nc), .ref (ad 1023), .ref (ad 1024), .int (nI z), .ref (ad 1026), .ref (ad 1027), .ref (ad 1028)])) → (ga6 1005 = nA G 20 ef) → (ga6 1007 = nA G 20 ek) → (ga6 1009 = nA G 100 (vN fm)) → (ga6 1023 = nA G 24 nn) → (ga6 1024 = nA G 120 (vN nf)) → (ga6 1026 = nA G 150 (vN y)) → (∀ j : Nat, (j ≠ 1000 ∧ j ≠ 1026) → ga6 j = g j) → va_P G.1 vwCl (wl L ad ga6) H → va_S (cx_A L ad s.heap.size) s.heap H locs → lv_has ls 4 [(3, .int (nI k)), (2, .int (nI i)), (0, .ref (ad 1000)), (1, .int (nI ei))] → W p l e rm_X6_layNotes s m args below meth c H locs 0 0 Q (F0 m 32 ls []) := by
            intro fu
            induction fu with
            | zero => intro k y hk5 hof hfu; exact absurd hfu (Nat.not_lt_zero _)
            | succ fu ih32 =>
              intro k y hk5 hof hfu32 ga6 H locs ls c_o c_FO c_K c_F c_NN c_NF c_T fr hP hS hl
              refine lv_iload_n hx hb dX6_layNotes_32 rfl (lv_at hl 0 rfl) ?_
              refine lv_iconst (v := nI 5) hx hb dX6_layNotes_33 (by decide) ?_
              refine ax_icge (a := k) (b := 5) (tgt := 58) hx hb dX6_layNotes_34 (by decide) (by omega) (by omega) (fun h34 => ?_) (fun h34 => ?_)
              · skip
                refine lv_aload_n hx hb dX6_layNotes_58 rfl (lv_at hl 2 rfl) ?_
                refine lv_dup hx hb dX6_layNotes_59 rfl ?_
                refine ax_get (k := 1000) (v := .int (nI z)) hx hb hts in_X6_layNotes_X6 hown hK hP (hq _ (by decide)) c_o rfl 25 (by decide) (hts _ wd_X6_layNotes_0) (fun _ h9 => h9) rfl dX6_layNotes_60 ?_
                refine lv_iconst (v := nI 1) hx hb dX6_layNotes_63 (by decide) ?_
                refine ax_add (a := z) (b := 1) hx hb dX6_layNotes_64 ?_
                refine ax_put (k := 1000) (v := .int (nI (z + 1))) (fs' := [.int (nI N), .int (nI V), .int (nI th), .ref (ad 1003), .int (nI ec), .ref (ad 1005), .ref (ad 1006), .ref (ad 1007), .ref (ad 1008), .ref (ad 1009), .int (nI en), .int (if an = true then 1 else 0), .ref (ad 1012), .ref (ad 1013), .ref (ad 1014), .int (nI al), .ref (ad 1016), .ref (ad 1017), .ref (ad 1018), .ref (ad 1019), .int (nI pl), .ref (ad 1021), .int (nI nc), .ref (ad 1023), .ref (ad 1024), .int (nI (z + 1)), .ref (ad 1026), .ref (ad 1027), .ref (ad 1028)]) hx hb hts in_X6_layNotes_X6 tyX6 tyX6_ok nmX6 hown hK hP hD hS (hq _ (by decide)) c_o rfl 25 (by decide) (hts _ wd_X6_layNotes_0) (fun _ h9 => h9) rfl (ty := .int) (by decide +kernel) rfl rfl (Nat.le_of_ble_eq_true rfl) rfl dX6_layNotes_65 (fun H locs g7 eg7 hP hS => ?_)
                have c_FO : g7 1005 = nA G 20 ef := (cx_ne eg7 1005 (by omega)).trans c_FO
                have c_K : g7 1007 = nA G 20 ek := (cx_ne eg7 1007 (by omega)).trans c_K
                have c_F : g7 1009 = nA G 100 (vN fm) := (cx_ne eg7 1009 (by omega)).trans c_F
                have c_NN : g7 1023 = nA G 24 nn := (cx_ne eg7 1023 (by omega)).trans c_NN
                have c_NF : g7 1024 = nA G 120 (vN nf) := (cx_ne eg7 1024 (by omega)).trans c_NF
                have c_T : g7 1026 = nA G 150 (vN y) := (cx_ne eg7 1026 (by omega)).trans c_T
                have c_o : g7 1000 = .inr (6, [.int (nI N), .int (nI V), .int (nI th), .ref (ad 1003), .int (nI ec), .ref (ad 1005), .ref (ad 1006), .ref (ad 1007), .ref (ad 1008), .ref (ad 1009), .int (nI en), .int (if an = true then 1 else 0), .ref (ad 1012), .ref (ad 1013), .ref (ad 1014), .int (nI al), .ref (ad 1016), .ref (ad 1017), .ref (ad 1018), .ref (ad 1019), .int (nI pl), .ref (ad 1021), .int (nI nc), .ref (ad 1023), .ref (ad 1024), .int (nI (z + 1)), .ref (ad 1026), .ref (ad 1027), .ref (ad 1028)]) := cx_eq eg7
                have fr : ∀ j : Nat, (j ≠ 1000 ∧ j ≠ 1026) → g7 j = g j := fun j hj => (cx_ne eg7 j (by omega)).trans (fr j hj)
                refine lv_iinc (v := nI (i + 1)) (lv' := [(2, .int (nI (i + 1))), (3, .int (nI k)), (0, .ref (ad 1000)), (1, .int (nI ei))]) hx hb dX6_layNotes_68 hl (k := 1) rfl (nI_1 _) (by decide) rfl (fun ls hl => ?_)
                refine lv_goto (tgt := 7) hx hb dX6_layNotes_71 (by decide) ?_
                exact ih7 (i + 1) (z + 1) y h12 (by omega) (by have e5 : k = 5 := (by omega); subst e5; rw [ns_t h27]; exact hsp.push (nsF.lin i) hV hof (fun b hb => hfn i b hb)) (by omega) g7 _ _ _ c_o c_FO c_K c_F c_NN c_NF c_T  fr hP hS (lv_sub hl [0, 2, 3] rfl)
              · skip
                refine lv_aload_n hx hb dX6_layNotes_37 rfl (lv_at hl 2 rfl) ?_
                refine lv_iload_n hx hb dX6_layNotes_38 rfl (lv_at hl 0 rfl) ?_
                refine lv_aload_n hx hb dX6_layNotes_39 rfl (lv_at hl 2 rfl) ?_
                refine ax_get (k := 1000) (v := .ref (ad 1024)) hx hb hts in_X6_layNotes_X6 hown hK hP (hq _ (by decide)) c_o rfl 24 (by decide) (hts _ wd_X6_layNotes_7) (fun _ h9 => h9) rfl dX6_layNotes_40 ?_
                refine lv_iconst (v := nI 5) hx hb dX6_layNotes_43 (by decide) ?_
                refine lv_iload_n hx hb dX6_layNotes_44 rfl (lv_at hl 1 rfl) ?_
                refine ax_mul (a := 5) (b := i) hx hb dX6_layNotes_45 ?_
                refine lv_iload_n hx hb dX6_layNotes_46 rfl (lv_at hl 0 rfl) ?_
                refine ax_add (a := 5 * i) (b := k) hx hb dX6_layNotes_47 ?_
                refine ax_iald (k := 1024) (i := 5 * i + k) (v := nI ((vN nf) (5 * i + k))) hx hb hK hP (hq _ (by decide)) c_NF (by omega) (by omega) rfl dX6_layNotes_48 ?_
                refine cx_Vv (As := [.int (nI k), .int (nI ((vN nf) (5 * i + k)))]) (rest := []) ⟨hx, hb, hml, hown, hts⟩ (c_X6_put hD hN1 hN hV1 hV hq (k := k) (x := nf (5 * i + k)) (tb := y) c_o c_T (by omega)) (cwV 2 hts gX6_layNotes_X6_put rfl rfl rfl (by decide +kernel) ⟨Nat.le_of_ble_eq_true rfl, Nat.le_of_ble_eq_true rfl⟩) hK hP hS hz (hq _ (by decide)) c_o rfl ⟨Nat.zero_le _, Nat.zero_le _⟩ rfl hl.1 rfl (Nat.le_of_ble_eq_true rfl) dX6_layNotes_49 (fun g8 H locs hp8 hP hS => ?_)
                obtain ⟨hp8a, hp8b⟩ := hp8
                have c_o : g8 1000 = .inr (6, [.int (nI N), .int (nI V), .int (nI th), .ref (ad 1003), .int (nI ec), .ref (ad 1005), .ref (ad 1006), .ref (ad 1007), .ref (ad 1008), .ref (ad 1009), .int (nI en), .int (if an = true then 1 else 0), .ref (ad 1012), .ref (ad 1013), .ref (ad 1014), .int (nI al), .ref (ad 1016), .ref (ad 1017), .ref (ad 1018), .ref (ad 1019), .int (nI pl), .ref (ad 1021), .int (nI nc), .ref (ad 1023), .ref (ad 1024), .int (nI z), .ref (ad 1026), .ref (ad 1027), .ref (ad 1028)]) := (hp8a 1000 (by omega)).trans c_o
                have c_FO : g8 1005 = nA G 20 ef := (hp8a 1005 (by omega)).trans c_FO
                have c_K : g8 1007 = nA G 20 ek := (hp8a 1007 (by omega)).trans c_K
                have c_F : g8 1009 = nA G 100 (vN fm) := (hp8a 1009 (by omega)).trans c_F
                have c_NN : g8 1023 = nA G 24 nn := (hp8a 1023 (by omega)).trans c_NN
                have c_NF : g8 1024 = nA G 120 (vN nf) := (hp8a 1024 (by omega)).trans c_NF
                have fr : ∀ j : Nat, (j ≠ 1000 ∧ j ≠ 1026) → g8 j = g j := fun j hj => (hp8a j (by omega)).trans (fr j hj)
                have c_T := hp8b
                refine lv_iinc (v := nI (k + 1)) (lv' := [(3, .int (nI (k + 1))), (2, .int (nI i)), (0, .ref (ad 1000)), (1, .int (nI ei))]) hx hb dX6_layNotes_52 hl (k := 0) rfl (nI_1 _) (by decide) rfl (fun ls hl => ?_)
                refine lv_goto (tgt := 32) hx hb dX6_layNotes_55 (by decide) ?_
                exact ih32 (k + 1) (nu y (5 * z + k) (nf (5 * i + k))) h34 (hof.step rfl) (by omega) g8 _ _ _ c_o c_FO c_K c_F c_NN c_NF c_T  fr hP hS (lv_sub hl [0, 1, 2, 3] rfl)
          exact LP32 ((5 - 0) + 1) 0 tbx (Nat.zero_le _) OF.start (Nat.lt_succ_self _) ga2 _ _ _ c_o c_FO c_K c_F c_NN c_NF c_T  fr hP hS (lv_sub hl [0, 1, 2, 3] rfl)
  exact LP7 ((nc - 0) + 1) 0 0 tb (Nat.zero_le _) (Nat.le_refl _) SPT.start (Nat.lt_succ_self _) g1 _ _ _ c_o c_FO c_K c_F c_NN c_NF c_T  fr hP hS (lv_sub hl [0, 1, 2] rfl)

set_option maxRecDepth 20000 in
theorem wd_X6_layBefore_0 : Cond.fieldLink RX6 22 "AffineHullsModel" "targets" "[I" ∈ wsX6_layBefore := by decide +kernel
set_option maxRecDepth 20000 in
theorem in_X6_layBefore_X6 : ∀ w ∈ u_ws RX6 TX6 29, w ∈ wsX6_layBefore := by decide +kernel
set_option maxRecDepth 20000 in
theorem wd_X6_layBefore_2 : Cond.fieldLink RX6 19 "AffineHullsModel" "kinds" "[I" ∈ wsX6_layBefore := by decide +kernel
set_option maxRecDepth 20000 in
theorem wd_X6_layBefore_3 : Cond.fieldLink RX6 55 "AffineHullsModel" "noteForm" "[I" ∈ wsX6_layBefore := by decide +kernel
set_option maxRecDepth 20000 in
theorem wd_X6_layBefore_4 : Cond.fieldLink RX6 84 "AffineHullsModel" "size" "I" ∈ wsX6_layBefore := by decide +kernel
set_option maxRecDepth 20000 in
theorem wd_X6_layBefore_5 : Cond.fieldLink RX6 25 "AffineHullsModel" "forms" "[I" ∈ wsX6_layBefore := by decide +kernel
set_option maxRecDepth 20000 in
theorem wd_X6_layBefore_6 : Cond.fieldLink RX6 58 "AffineHullsModel" "table" "[I" ∈ wsX6_layBefore := by decide +kernel
abbrev rm_X6_layBefore : Room := { frames := 1, cells := 0, slots := 0, locals := 23 }
set_option maxHeartbeats 4000000 in
set_option maxRecDepth 100000 in
theorem c_X6_layBefore {l : Launch} {G : cx_G} {L : List Nat} {ad : Nat → Nat} {g : Nat → va_E} (hD : cx_D L ad) {N V th ec en al pl nc sz : Nat} {an : Bool} {ei i way : Nat} {tb : Nat → FF} {ek ev : Nat → Nat} {ez : Nat → Int32} {eg ng : Nat → Nat → FF} {fm nf : Nat → FF} (hN1 : 1 ≤ N) (hN : N ≤ 8) (hV1 : 1 ≤ V) (hV : V ≤ 4) (hq : ∀ j : Nat, lbM j = true → j ∈ L) (c_o : g 1000 = .inr (6, [.int (nI N), .int (nI V), .int (nI th), .ref (ad 1003), .int (nI ec), .ref (ad 1005), .ref (ad 1006), .ref (ad 1007), .ref (ad 1008), .ref (ad 1009), .int (nI en), .int (if an = true then 1 else 0), .ref (ad 1012), .ref (ad 1013), .ref (ad 1014), .int (nI al), .ref (ad 1016), .ref (ad 1017), .ref (ad 1018), .ref (ad 1019), .int (nI pl), .ref (ad 1021), .int (nI nc), .ref (ad 1023), .ref (ad 1024), .int (nI sz), .ref (ad 1026), .ref (ad 1027), .ref (ad 1028)])) (c_K : g 1007 = nA G 20 ek) (c_Z : g 1008 = iA G 20 ez) (c_F : g 1009 = nA G 100 (vN fm)) (c_NF : g 1024 = nA G 120 (vN nf)) (c_T : g 1026 = nA G 150 (vN tb)) (hei : ei < 20) (hi : i < 24) (hw : way < 2) (hsz : sz ≤ 25) (hek : ek ei ≤ 4) (hfn : FR nf ng) (hfr : FR fm eg) (hzf : Zb (V + 1) (eg ei)) (hv : ek ei = 1 ∨ ek ei = 2 → ez ei = nI (ev ei) ∧ 1 ≤ ev ei ∧ ev ei < V + 1) : MV l yX6_layBefore wsX6_layBefore rm_X6_layBefore G L ad g [.ref (ad 1000), .int (nI ei), .int (nI i), .int (nI way)] (fun u => (∀ j : Nat, (j ≠ 1000 ∧ j ≠ 1026) → u j = g j) ∧ u 1000 = .inr (6, [.int (nI N), .int (nI V), .int (nI th), .ref (ad 1003), .int (nI ec), .ref (ad 1005), .ref (ad 1006), .ref (ad 1007), .ref (ad 1008), .ref (ad 1009), .int (nI en), .int (if an = true then 1 else 0), .ref (ad 1012), .ref (ad 1013), .ref (ad 1014), .int (nI al), .ref (ad 1016), .ref (ad 1017), .ref (ad 1018), .ref (ad 1019), .int (nI pl), .ref (ad 1021), .int (nI nc), .ref (ad 1023), .ref (ad 1024), .int (nI (sz + 1)), .ref (ad 1026), .ref (ad 1027), .ref (ad 1028)]) ∧ ∃ tb2 : Nat → FF, u 1026 = nA G 150 (vN tb2) ∧ ∃ f : Nat → FF, OF (5 * sz) tb f 5 tb2 ∧ ∀ k : Nat, k < 5 → f k = backF (V + 1) (ek ei) (ev ei) (eg ei) (ff way) (ng i) k) := by
  refine cx_ofV (cc := cX6_layBefore) (maxL := 8) (by decide +kernel) rfl (Nat.le_of_ble_eq_true rfl) ?_
  intro p e s m args below meth c Q hx hb hts hown hml hP hK hS hz hret ls hl
  have hown : s.vm.findClass RX6 = some m.cls := hown
  have hl : lv_has ls 8 [(0, .ref (ad 1000)), (1, .int (nI ei)), (2, .int (nI i)), (3, .int (nI way))] := hl
  have fr : ∀ j : Nat, (j ≠ 1000 ∧ j ≠ 1026) → g j = g j := fun _ _ => rfl
  refine lv_aload_n hx hb dX6_layBefore_0 rfl (lv_at hl 0 rfl) ?_
  refine ax_get (k := 1000) (v := .ref (ad 1008)) hx hb hts in_X6_layBefore_X6 hown hK hP (hq _ (by decide)) c_o rfl 8 (by decide) (hts _ wd_X6_layBefore_0) (fun _ h9 => h9) rfl dX6_layBefore_1 ?_
  refine lv_iload_n hx hb dX6_layBefore_4 rfl (lv_at hl 1 rfl) ?_
  refine ax_iald (k := 1008) (i := ei) (v := ez ei) hx hb hK hP (hq _ (by decide)) c_Z (by omega) (by omega) rfl dX6_layBefore_5 ?_
  refine lv_istore (lv' := [(4, .int (ez ei)), (0, .ref (ad 1000)), (1, .int (nI ei)), (2, .int (nI i)), (3, .int (nI way))]) hx hb dX6_layBefore_6 hl (by decide) rfl (fun ls hl => ?_)
  refine lv_iconst (v := nI 0) hx hb dX6_layBefore_8 (by decide) ?_
  refine lv_istore (lv' := [(5, .int (nI 0)), (4, .int (ez ei)), (0, .ref (ad 1000)), (1, .int (nI ei)), (2, .int (nI i)), (3, .int (nI way))]) hx hb dX6_layBefore_9 hl (by decide) rfl (fun ls hl => ?_)
  have LP11 : ∀ (fu : Nat) (k : Nat) (y : Nat → FF), (k ≤ 5) → (OF (5 * sz) tb (fun b => nf (5 * i + b)) k y) → (5 - k) < fu → ∀ (ga1 : Nat → va_E) (H : Heap) (locs : List Loc) (ls : Array Slot), (ga1 1000 = .inr (6, [.int (nI N), .int (nI V), .int (nI th), .ref (ad 1003), .int (nI ec), .ref (ad 1005), .ref (ad 1006), .ref (ad 1007), .ref (ad 1008), .ref (ad 1009), .int (nI en), .int (if an = true then 1 else 0), .ref (ad 1012), .ref (ad 1013), .ref (ad 1014), .int (nI al), .ref (ad 1016), .ref (ad 1017), .ref (ad 1018), .ref (ad 1019), .int (nI pl), .ref (ad 1021), .int (nI nc), .ref (ad 1023), .ref (ad 1024), .int (nI sz), .ref (ad 1026), .ref (ad 1027), .ref (ad 1028)])) → (ga1 1007 = nA G 20 ek) → (ga1 1008 = iA G 20 ez) → (ga1 1009 = nA G 100 (vN fm)) → (ga1 1024 = nA G 120 (vN nf)) → (ga1 1026 = nA G 150 (vN y)) → (∀ j : Nat, (j ≠ 1000 ∧ j ≠ 1026) → ga1 j = g j) → va_P G.1 vwCl (wl L ad ga1) H → va_S (cx_A L ad s.heap.size) s.heap H locs → lv_has ls 8 [(5, .int (nI k)), (4, .int (ez ei)), (0, .ref (ad 1000)), (1, .int (nI ei)), (2, .int (nI i)), (3, .int (nI way))] → W p l e rm_X6_layBefore s m args below meth c H locs 0 0 Q (F0 m 11 ls []) := by
    intro fu
    induction fu with
    | zero => intro k y hk5 hof hfu; exact absurd hfu (Nat.not_lt_zero _)
    | succ fu ih11 =>
      intro k y hk5 hof hfu11 ga1 H locs ls c_o c_K c_Z c_F c_NF c_T fr hP hS hl
      refine lv_iload hx hb dX6_layBefore_11 (lv_at hl 0 rfl) ?_
      refine lv_iconst (v := nI 5) hx hb dX6_layBefore_13 (by decide) ?_
      refine ax_icge (a := k) (b := 5) (tgt := 40) hx hb dX6_layBefore_14 (by decide) (by omega) (by omega) (fun h14 => ?_) (fun h14 => ?_)
      · skip
        have e5 : k = 5 := by omega
        subst e5
        refine lv_aload_n hx hb dX6_layBefore_40 rfl (lv_at hl 2 rfl) ?_
        refine ax_get (k := 1000) (v := .ref (ad 1007)) hx hb hts in_X6_layBefore_X6 hown hK hP (hq _ (by decide)) c_o rfl 7 (by decide) (hts _ wd_X6_layBefore_2) (fun _ h9 => h9) rfl dX6_layBefore_41 ?_
        refine lv_iload_n hx hb dX6_layBefore_44 rfl (lv_at hl 3 rfl) ?_
        refine ax_iald (k := 1007) (i := ei) (v := nI (ek ei)) hx hb hK hP (hq _ (by decide)) c_K (by omega) (by omega) rfl dX6_layBefore_45 ?_
        refine lv_iconst (v := nI 1) hx hb dX6_layBefore_46 (by decide) ?_
        refine ax_iceq (a := ek ei) (b := 1) (tgt := 60) hx hb dX6_layBefore_47 (by decide) (by omega) (by omega) (fun h47 => ?_) (fun h47 => ?_)
        · skip
          have hkd : ek ei = 1 ∨ ek ei = 2 := Or.inl h47
          obtain ⟨ez1, ez2, ez3⟩ := hv hkd
          refine lv_aload_n hx hb dX6_layBefore_60 rfl (lv_at hl 2 rfl) ?_
          refine ax_get (k := 1000) (v := .ref (ad 1024)) hx hb hts in_X6_layBefore_X6 hown hK hP (hq _ (by decide)) c_o rfl 24 (by decide) (hts _ wd_X6_layBefore_3) (fun _ h9 => h9) rfl dX6_layBefore_61 ?_
          refine lv_iconst (v := nI 5) hx hb dX6_layBefore_64 (by decide) ?_
          refine lv_iload_n hx hb dX6_layBefore_65 rfl (lv_at hl 4 rfl) ?_
          refine ax_mul (a := 5) (b := i) hx hb dX6_layBefore_66 ?_
          refine lv_iload hx hb dX6_layBefore_67 (lv_at hl 1 rfl) ?_
          rw [ez1]
          refine ax_add (a := 5 * i) (b := ev ei) hx hb dX6_layBefore_69 ?_
          refine ax_iald (k := 1024) (i := 5 * i + (ev ei)) (v := nI ((vN nf) (5 * i + (ev ei)))) hx hb hK hP (hq _ (by decide)) c_NF (by omega) (by omega) rfl dX6_layBefore_70 ?_
          refine lv_istore (lv' := [(5, .int (nI ((vN nf) (5 * i + (ev ei))))), (4, .int (ez ei)), (0, .ref (ad 1000)), (1, .int (nI ei)), (2, .int (nI i)), (3, .int (nI way))]) hx hb dX6_layBefore_71 hl (by decide) rfl (fun ls hl => ?_)
          refine lv_aload_n hx hb dX6_layBefore_73 rfl (lv_at hl 2 rfl) ?_
          refine lv_iload hx hb dX6_layBefore_74 (lv_at hl 1 rfl) ?_
          rw [ez1]
          have ez5 : ev ei < 5 := by omega
          refine lv_iconst (v := nI 0) hx hb dX6_layBefore_76 (by decide) ?_
          refine cx_Vv (As := [.int (nI (ev ei)), .int (nI 0)]) (rest := []) ⟨hx, hb, hml, hown, hts⟩ (c_X6_put hD hN1 hN hV1 hV hq (k := (ev ei)) (x := 0) (tb := y) c_o c_T (by omega)) (cwV 2 hts gX6_layBefore_X6_put rfl rfl rfl (by decide +kernel) ⟨Nat.le_of_ble_eq_true rfl, Nat.le_of_ble_eq_true rfl⟩) hK hP hS hz (hq _ (by decide)) c_o rfl ⟨Nat.zero_le _, Nat.zero_le _⟩ rfl hl.1 rfl (Nat.le_of_ble_eq_true rfl) dX6_layBefore_77 (fun g2 H locs hp2 hP hS => ?_)
          obtain ⟨hp2a, hp2b⟩ := hp2
          have c_o : g2 1000 = .inr (6, [.int (nI N), .int (nI V), .int (nI th), .ref (ad 1003), .int (nI ec), .ref (ad 1005), .ref (ad 1006), .ref (ad 1007), .ref (ad 1008), .ref (ad 1009), .int (nI en), .int (if an = true then 1 else 0), .ref (ad 1012), .ref (ad 1013), .ref (ad 1014), .int (nI al), .ref (ad 1016), .ref (ad 1017), .ref (ad 1018), .ref (ad 1019), .int (nI pl), .ref (ad 1021), .int (nI nc), .ref (ad 1023), .ref (ad 1024), .int (nI sz), .ref (ad 1026), .ref (ad 1027), .ref (ad 1028)]) := (hp2a 1000 (by omega)).trans c_o
          have c_K : g2 1007 = nA G 20 ek := (hp2a 1007 (by omega)).trans c_K
          have c_Z : g2 1008 = iA G 20 ez := (hp2a 1008 (by omega)).trans c_Z
          have c_F : g2 1009 = nA G 100 (vN fm) := (hp2a 1009 (by omega)).trans c_F
          have c_NF : g2 1024 = nA G 120 (vN nf) := (hp2a 1024 (by omega)).trans c_NF
          have fr : ∀ j : Nat, (j ≠ 1000 ∧ j ≠ 1026) → g2 j = g j := fun j hj => (hp2a j (by omega)).trans (fr j hj)
          have c_T := hp2b
          refine lv_iconst (v := nI 0) hx hb dX6_layBefore_80 (by decide) ?_
          refine lv_istore (lv' := [(6, .int (nI 0)), (5, .int (nI ((vN nf) (5 * i + (ev ei))))), (4, .int (ez ei)), (0, .ref (ad 1000)), (1, .int (nI ei)), (2, .int (nI i)), (3, .int (nI way))]) hx hb dX6_layBefore_81 hl (by decide) rfl (fun ls hl => ?_)
          have LP83 : ∀ (fu : Nat) (k : Nat) (y2 : Nat → FF), (k ≤ 5) → (OF (5 * sz) (nu y (5 * sz + ev ei) 0) (bkM (ek ei) (fun b => fm (5 * ei + b)) (nf (5 * i + ev ei)) way (nu (fun b => nf (5 * i + b)) (ev ei) 0)) k y2) → (5 - k) < fu → ∀ (ga3 : Nat → va_E) (H : Heap) (locs : List Loc) (ls : Array Slot), (ga3 1000 = .inr (6, [.int (nI N), .int (nI V), .int (nI th), .ref (ad 1003), .int (nI ec), .ref (ad 1005), .ref (ad 1006), .ref (ad 1007), .ref (ad 1008), .ref (ad 1009), .int (nI en), .int (if an = true then 1 else 0), .ref (ad 1012), .ref (ad 1013), .ref (ad 1014), .int (nI al), .ref (ad 1016), .ref (ad 1017), .ref (ad 1018), .ref (ad 1019), .int (nI pl), .ref (ad 1021), .int (nI nc), .ref (ad 1023), .ref (ad 1024), .int (nI sz), .ref (ad 1026), .ref (ad 1027), .ref (ad 1028)])) → (ga3 1007 = nA G 20 ek) → (ga3 1008 = iA G 20 ez) → (ga3 1009 = nA G 100 (vN fm)) → (ga3 1024 = nA G 120 (vN nf)) → (ga3 1026 = nA G 150 (vN y2)) → (∀ j : Nat, (j ≠ 1000 ∧ j ≠ 1026) → ga3 j = g j) → va_P G.1 vwCl (wl L ad ga3) H → va_S (cx_A L ad s.heap.size) s.heap H locs → lv_has ls 8 [(6, .int (nI k)), (5, .int (nI (vN nf (5 * i + ev ei)))), (0, .ref (ad 1000)), (1, .int (nI ei)), (2, .int (nI i)), (3, .int (nI way))] → W p l e rm_X6_layBefore s m args below meth c H locs 0 0 Q (F0 m 83 ls []) := by
            intro fu
            induction fu with
            | zero => intro k y2 hk5b hof2 hfu; exact absurd hfu (Nat.not_lt_zero _)
            | succ fu ih83 =>
              intro k y2 hk5b hof2 hfu83 ga3 H locs ls c_o c_K c_Z c_F c_NF c_T fr hP hS hl
              refine lv_iload hx hb dX6_layBefore_83 (lv_at hl 0 rfl) ?_
              refine lv_iconst (v := nI 5) hx hb dX6_layBefore_85 (by decide) ?_
              refine ax_icge (a := k) (b := 5) (tgt := 163) hx hb dX6_layBefore_86 (by decide) (by omega) (by omega) (fun h86 => ?_) (fun h86 => ?_)
              · skip
                refine lv_aload_n hx hb dX6_layBefore_163 rfl (lv_at hl 2 rfl) ?_
                refine lv_dup hx hb dX6_layBefore_164 rfl ?_
                refine ax_get (k := 1000) (v := .int (nI sz)) hx hb hts in_X6_layBefore_X6 hown hK hP (hq _ (by decide)) c_o rfl 25 (by decide) (hts _ wd_X6_layBefore_4) (fun _ h9 => h9) rfl dX6_layBefore_165 ?_
                refine lv_iconst (v := nI 1) hx hb dX6_layBefore_168 (by decide) ?_
                refine ax_add (a := sz) (b := 1) hx hb dX6_layBefore_169 ?_
                refine ax_put (k := 1000) (v := .int (nI (sz + 1))) (fs' := [.int (nI N), .int (nI V), .int (nI th), .ref (ad 1003), .int (nI ec), .ref (ad 1005), .ref (ad 1006), .ref (ad 1007), .ref (ad 1008), .ref (ad 1009), .int (nI en), .int (if an = true then 1 else 0), .ref (ad 1012), .ref (ad 1013), .ref (ad 1014), .int (nI al), .ref (ad 1016), .ref (ad 1017), .ref (ad 1018), .ref (ad 1019), .int (nI pl), .ref (ad 1021), .int (nI nc), .ref (ad 1023), .ref (ad 1024), .int (nI (sz + 1)), .ref (ad 1026), .ref (ad 1027), .ref (ad 1028)]) hx hb hts in_X6_layBefore_X6 tyX6 tyX6_ok nmX6 hown hK hP hD hS (hq _ (by decide)) c_o rfl 25 (by decide) (hts _ wd_X6_layBefore_4) (fun _ h9 => h9) rfl (ty := .int) (by decide +kernel) rfl rfl (Nat.le_of_ble_eq_true rfl) rfl dX6_layBefore_170 (fun H locs g4 eg4 hP hS => ?_)
                have c_K : g4 1007 = nA G 20 ek := (cx_ne eg4 1007 (by omega)).trans c_K
                have c_Z : g4 1008 = iA G 20 ez := (cx_ne eg4 1008 (by omega)).trans c_Z
                have c_F : g4 1009 = nA G 100 (vN fm) := (cx_ne eg4 1009 (by omega)).trans c_F
                have c_NF : g4 1024 = nA G 120 (vN nf) := (cx_ne eg4 1024 (by omega)).trans c_NF
                have c_T : g4 1026 = nA G 150 (vN y2) := (cx_ne eg4 1026 (by omega)).trans c_T
                have c_o : g4 1000 = .inr (6, [.int (nI N), .int (nI V), .int (nI th), .ref (ad 1003), .int (nI ec), .ref (ad 1005), .ref (ad 1006), .ref (ad 1007), .ref (ad 1008), .ref (ad 1009), .int (nI en), .int (if an = true then 1 else 0), .ref (ad 1012), .ref (ad 1013), .ref (ad 1014), .int (nI al), .ref (ad 1016), .ref (ad 1017), .ref (ad 1018), .ref (ad 1019), .int (nI pl), .ref (ad 1021), .int (nI nc), .ref (ad 1023), .ref (ad 1024), .int (nI (sz + 1)), .ref (ad 1026), .ref (ad 1027), .ref (ad 1028)]) := cx_eq eg4
                have fr : ∀ j : Nat, (j ≠ 1000 ∧ j ≠ 1026) → g4 j = g j := fun j hj => (cx_ne eg4 j (by omega)).trans (fr j hj)
                exact hret g4 _ _ _ _ (by have e6 : k = 5 := (by omega); subst e6; exact ⟨fr, c_o, y2, c_T, _, (hof.put ez5).over hof2, fun k hk => bk_fr hfr hfn hV hzf hkd hk ez5⟩) hP hS dX6_layBefore_173
              · skip
                have b1 := vN_lt y2 (5 * sz + k)
                have b2 := vN_lt nf (5 * i + ev ei)
                have b4 := vN_lt fm (5 * ei + k)
                have b5 : vN nf (5 * i + ev ei) * vN fm (5 * ei + k) ≤ 65521 * 65521 := mul_le3 (Nat.le_of_lt b2) (Nat.le_of_lt b4)
                have b6 : vN nf (5 * i + ev ei) * way ≤ 65521 * 2 := mul_le3 (Nat.le_of_lt b2) (by omega)
                have e7 : y2 (5 * sz + k) = nu (fun b => nf (5 * i + b)) (ev ei) 0 k := (hof2.out (by omega)).trans ((hof.put ez5).inn (by omega))
                refine lv_aload_n hx hb dX6_layBefore_89 rfl (lv_at hl 2 rfl) ?_
                refine ax_get (k := 1000) (v := .ref (ad 1007)) hx hb hts in_X6_layBefore_X6 hown hK hP (hq _ (by decide)) c_o rfl 7 (by decide) (hts _ wd_X6_layBefore_2) (fun _ h9 => h9) rfl dX6_layBefore_90 ?_
                refine lv_iload_n hx hb dX6_layBefore_93 rfl (lv_at hl 3 rfl) ?_
                refine ax_iald (k := 1007) (i := ei) (v := nI (ek ei)) hx hb hK hP (hq _ (by decide)) c_K (by omega) (by omega) rfl dX6_layBefore_94 ?_
                refine lv_iconst (v := nI 1) hx hb dX6_layBefore_95 (by decide) ?_
                refine ax_icne (a := ek ei) (b := 1) (tgt := 113) hx hb dX6_layBefore_96 (by decide) (by omega) (by omega) (fun h96 => ?_) (fun h96 => ?_)
                · skip
                  exact absurd h47 h96
                · skip
                  refine lv_aload_n hx hb dX6_layBefore_99 rfl (lv_at hl 2 rfl) ?_
                  refine ax_get (k := 1000) (v := .ref (ad 1009)) hx hb hts in_X6_layBefore_X6 hown hK hP (hq _ (by decide)) c_o rfl 9 (by decide) (hts _ wd_X6_layBefore_5) (fun _ h9 => h9) rfl dX6_layBefore_100 ?_
                  refine lv_iconst (v := nI 5) hx hb dX6_layBefore_103 (by decide) ?_
                  refine lv_iload_n hx hb dX6_layBefore_104 rfl (lv_at hl 3 rfl) ?_
                  refine ax_mul (a := 5) (b := ei) hx hb dX6_layBefore_105 ?_
                  refine lv_iload hx hb dX6_layBefore_106 (lv_at hl 0 rfl) ?_
                  refine ax_add (a := 5 * ei) (b := k) hx hb dX6_layBefore_108 ?_
                  refine ax_iald (k := 1009) (i := 5 * ei + k) (v := nI ((vN fm) (5 * ei + k))) hx hb hK hP (hq _ (by decide)) c_F (by omega) (by omega) rfl dX6_layBefore_109 ?_
                  refine lv_goto (tgt := 123) hx hb dX6_layBefore_110 (by decide) ?_
                  refine lv_istore (lv' := [(7, .int (nI ((vN fm) (5 * ei + k)))), (6, .int (nI k)), (5, .int (nI (vN nf (5 * i + ev ei)))), (0, .ref (ad 1000)), (1, .int (nI ei)), (2, .int (nI i)), (3, .int (nI way))]) hx hb dX6_layBefore_123 hl (by decide) rfl (fun ls hl => ?_)
                  refine lv_aload_n hx hb dX6_layBefore_125 rfl (lv_at hl 3 rfl) ?_
                  refine lv_iload hx hb dX6_layBefore_126 (lv_at hl 1 rfl) ?_
                  refine lv_aload_n hx hb dX6_layBefore_128 rfl (lv_at hl 3 rfl) ?_
                  refine ax_get (k := 1000) (v := .ref (ad 1026)) hx hb hts in_X6_layBefore_X6 hown hK hP (hq _ (by decide)) c_o rfl 26 (by decide) (hts _ wd_X6_layBefore_6) (fun _ h9 => h9) rfl dX6_layBefore_129 ?_
                  refine lv_iconst (v := nI 5) hx hb dX6_layBefore_132 (by decide) ?_
                  refine lv_aload_n hx hb dX6_layBefore_133 rfl (lv_at hl 3 rfl) ?_
                  refine ax_get (k := 1000) (v := .int (nI sz)) hx hb hts in_X6_layBefore_X6 hown hK hP (hq _ (by decide)) c_o rfl 25 (by decide) (hts _ wd_X6_layBefore_4) (fun _ h9 => h9) rfl dX6_layBefore_134 ?_
                  refine ax_mul (a := 5) (b := sz) hx hb dX6_layBefore_137 ?_
                  refine lv_iload hx hb dX6_layBefore_138 (lv_at hl 1 rfl) ?_
                  refine ax_add (a := 5 * sz) (b := k) hx hb dX6_layBefore_140 ?_
                  refine ax_iald (k := 1026) (i := 5 * sz + k) (v := nI ((vN y2) (5 * sz + k))) hx hb hK hP (hq _ (by decide)) c_T (by omega) (by omega) rfl dX6_layBefore_141 ?_
                  refine ax_i2l (a := (vN y2) (5 * sz + k)) hx hb dX6_layBefore_142 (by omega) ?_
                  refine lv_iload hx hb dX6_layBefore_143 (lv_at hl 2 rfl) ?_
                  refine ax_i2l (a := vN nf (5 * i + ev ei)) hx hb dX6_layBefore_145 (by omega) ?_
                  refine lv_iload hx hb dX6_layBefore_146 (lv_at hl 0 rfl) ?_
                  refine ax_i2l (a := (vN fm) (5 * ei + k)) hx hb dX6_layBefore_148 (by omega) ?_
                  refine ax_lmul (a := vN nf (5 * i + ev ei)) (b := (vN fm) (5 * ei + k)) hx hb dX6_layBefore_149 ?_
                  refine ax_ladd (a := (vN y2) (5 * sz + k)) (b := (vN nf (5 * i + ev ei)) * ((vN fm) (5 * ei + k))) hx hb dX6_layBefore_150 ?_
                  refine cx_Si (As := [.long (lN ((vN y2) (5 * sz + k) + ((vN nf (5 * i + ev ei)) * ((vN fm) (5 * ei + k)))))]) (rest := [.int (nI k), .ref (ad 1000)]) ⟨hx, hb, hml, hown, hts⟩ (c_X6_mod hD (x := lN ((vN y2) (5 * sz + k) + ((vN nf (5 * i + ev ei)) * ((vN fm) (5 * ei + k)))))) (va_cwS 1 hts gX6_layBefore_X6_mod rfl rfl rfl (by decide +kernel) ⟨Nat.le_of_ble_eq_true rfl, Nat.le_of_ble_eq_true rfl⟩) hK hP hS hz ⟨Nat.zero_le _, Nat.zero_le _⟩ rfl hl.1 rfl (Nat.le_of_ble_eq_true rfl) dX6_layBefore_151 (fun r5 g5 H locs hp5 hP hS => ?_)
                  obtain ⟨er5, ehp5g⟩ := hp5
                  rw [ehp5g] at hP
                  rw [er5]
                  rw [show fi (lN ((vN y2) (5 * sz + k) + ((vN nf (5 * i + ev ei)) * ((vN fm) (5 * ei + k))))).toInt = (bkM (ek ei) (fun b => fm (5 * ei + b)) (nf (5 * i + ev ei)) way (nu (fun b => nf (5 * i + b)) (ev ei) 0)) k from by rw [ln_fi (by omega), ff_add, ff_mul]; unfold bkM; rw [if_pos (by omega)]; rw [← e7]; unfold vN; rw [ff_of, ff_of]; rw [ff_of]]
                  refine cx_Vv (As := [.int (nI k), .int (nI (((bkM (ek ei) (fun b => fm (5 * ei + b)) (nf (5 * i + ev ei)) way (nu (fun b => nf (5 * i + b)) (ev ei) 0)) k).val))]) (rest := []) ⟨hx, hb, hml, hown, hts⟩ (c_X6_put hD hN1 hN hV1 hV hq (k := k) (x := (bkM (ek ei) (fun b => fm (5 * ei + b)) (nf (5 * i + ev ei)) way (nu (fun b => nf (5 * i + b)) (ev ei) 0)) k) (tb := y2) c_o c_T (by omega)) (cwV 2 hts gX6_layBefore_X6_put rfl rfl rfl (by decide +kernel) ⟨Nat.le_of_ble_eq_true rfl, Nat.le_of_ble_eq_true rfl⟩) hK hP hS hz (hq _ (by decide)) c_o rfl ⟨Nat.zero_le _, Nat.zero_le _⟩ rfl hl.1 rfl (Nat.le_of_ble_eq_true rfl) dX6_layBefore_154 (fun g6 H locs hp6 hP hS => ?_)
                  obtain ⟨hp6a, hp6b⟩ := hp6
                  have c_o : g6 1000 = .inr (6, [.int (nI N), .int (nI V), .int (nI th), .ref (ad 1003), .int (nI ec), .ref (ad 1005), .ref (ad 1006), .ref (ad 1007), .ref (ad 1008), .ref (ad 1009), .int (nI en), .int (if an = true then 1 else 0), .ref (ad 1012), .ref (ad 1013), .ref (ad 1014), .int (nI al), .ref (ad 1016), .ref (ad 1017), .ref (ad 1018), .ref (ad 1019), .int (nI pl), .ref (ad 1021), .int (nI nc), .ref (ad 1023), .ref (ad 1024), .int (nI sz), .ref (ad 1026), .ref (ad 1027), .ref (ad 1028)]) := (hp6a 1000 (by omega)).trans c_o
                  have c_K : g6 1007 = nA G 20 ek := (hp6a 1007 (by omega)).trans c_K
                  have c_Z : g6 1008 = iA G 20 ez := (hp6a 1008 (by omega)).trans c_Z
                  have c_F : g6 1009 = nA G 100 (vN fm) := (hp6a 1009 (by omega)).trans c_F
                  have c_NF : g6 1024 = nA G 120 (vN nf) := (hp6a 1024 (by omega)).trans c_NF
                  have fr : ∀ j : Nat, (j ≠ 1000 ∧ j ≠ 1026) → g6 j = g j := fun j hj => (hp6a j (by omega)).trans (fr j hj)
                  have c_T := hp6b
                  refine lv_iinc (v := nI (k + 1)) (lv' := [(6, .int (nI (k + 1))), (7, .int (nI ((vN fm) (5 * ei + k)))), (5, .int (nI (vN nf (5 * i + ev ei)))), (0, .ref (ad 1000)), (1, .int (nI ei)), (2, .int (nI i)), (3, .int (nI way))]) hx hb dX6_layBefore_157 hl (k := 1) rfl (nI_1 _) (by decide) rfl (fun ls hl => ?_)
                  refine lv_goto (tgt := 83) hx hb dX6_layBefore_160 (by decide) ?_
                  exact ih83 (k + 1) (nu y2 (5 * sz + k) ((bkM (ek ei) (fun b => fm (5 * ei + b)) (nf (5 * i + ev ei)) way (nu (fun b => nf (5 * i + b)) (ev ei) 0)) k)) h86 (hof2.step rfl) (by omega) g6 _ _ _ c_o c_K c_Z c_F c_NF c_T  fr hP hS (lv_sub hl [0, 2, 3, 4, 5, 6] rfl)
          exact LP83 ((5 - 0) + 1) 0 (nu y (5 * sz + ev ei) 0) (Nat.zero_le _) OF.start (Nat.lt_succ_self _) g2 _ _ _ c_o c_K c_Z c_F c_NF c_T  fr hP hS (lv_sub hl [0, 1, 3, 4, 5, 6] rfl)
        · skip
          refine lv_aload_n hx hb dX6_layBefore_50 rfl (lv_at hl 2 rfl) ?_
          refine ax_get (k := 1000) (v := .ref (ad 1007)) hx hb hts in_X6_layBefore_X6 hown hK hP (hq _ (by decide)) c_o rfl 7 (by decide) (hts _ wd_X6_layBefore_2) (fun _ h9 => h9) rfl dX6_layBefore_51 ?_
          refine lv_iload_n hx hb dX6_layBefore_54 rfl (lv_at hl 3 rfl) ?_
          refine ax_iald (k := 1007) (i := ei) (v := nI (ek ei)) hx hb hK hP (hq _ (by decide)) c_K (by omega) (by omega) rfl dX6_layBefore_55 ?_
          refine lv_iconst (v := nI 2) hx hb dX6_layBefore_56 (by decide) ?_
          refine ax_icne (a := ek ei) (b := 2) (tgt := 163) hx hb dX6_layBefore_57 (by decide) (by omega) (by omega) (fun h57 => ?_) (fun h57 => ?_)
          · skip
            refine lv_aload_n hx hb dX6_layBefore_163 rfl (lv_at hl 2 rfl) ?_
            refine lv_dup hx hb dX6_layBefore_164 rfl ?_
            refine ax_get (k := 1000) (v := .int (nI sz)) hx hb hts in_X6_layBefore_X6 hown hK hP (hq _ (by decide)) c_o rfl 25 (by decide) (hts _ wd_X6_layBefore_4) (fun _ h9 => h9) rfl dX6_layBefore_165 ?_
            refine lv_iconst (v := nI 1) hx hb dX6_layBefore_168 (by decide) ?_
            refine ax_add (a := sz) (b := 1) hx hb dX6_layBefore_169 ?_
            refine ax_put (k := 1000) (v := .int (nI (sz + 1))) (fs' := [.int (nI N), .int (nI V), .int (nI th), .ref (ad 1003), .int (nI ec), .ref (ad 1005), .ref (ad 1006), .ref (ad 1007), .ref (ad 1008), .ref (ad 1009), .int (nI en), .int (if an = true then 1 else 0), .ref (ad 1012), .ref (ad 1013), .ref (ad 1014), .int (nI al), .ref (ad 1016), .ref (ad 1017), .ref (ad 1018), .ref (ad 1019), .int (nI pl), .ref (ad 1021), .int (nI nc), .ref (ad 1023), .ref (ad 1024), .int (nI (sz + 1)), .ref (ad 1026), .ref (ad 1027), .ref (ad 1028)]) hx hb hts in_X6_layBefore_X6 tyX6 tyX6_ok nmX6 hown hK hP hD hS (hq _ (by decide)) c_o rfl 25 (by decide) (hts _ wd_X6_layBefore_4) (fun _ h9 => h9) rfl (ty := .int) (by decide +kernel) rfl rfl (Nat.le_of_ble_eq_true rfl) rfl dX6_layBefore_170 (fun H locs g7 eg7 hP hS => ?_)
            have c_K : g7 1007 = nA G 20 ek := (cx_ne eg7 1007 (by omega)).trans c_K
            have c_Z : g7 1008 = iA G 20 ez := (cx_ne eg7 1008 (by omega)).trans c_Z
            have c_F : g7 1009 = nA G 100 (vN fm) := (cx_ne eg7 1009 (by omega)).trans c_F
            have c_NF : g7 1024 = nA G 120 (vN nf) := (cx_ne eg7 1024 (by omega)).trans c_NF
            have c_T : g7 1026 = nA G 150 (vN y) := (cx_ne eg7 1026 (by omega)).trans c_T
            have c_o : g7 1000 = .inr (6, [.int (nI N), .int (nI V), .int (nI th), .ref (ad 1003), .int (nI ec), .ref (ad 1005), .ref (ad 1006), .ref (ad 1007), .ref (ad 1008), .ref (ad 1009), .int (nI en), .int (if an = true then 1 else 0), .ref (ad 1012), .ref (ad 1013), .ref (ad 1014), .int (nI al), .ref (ad 1016), .ref (ad 1017), .ref (ad 1018), .ref (ad 1019), .int (nI pl), .ref (ad 1021), .int (nI nc), .ref (ad 1023), .ref (ad 1024), .int (nI (sz + 1)), .ref (ad 1026), .ref (ad 1027), .ref (ad 1028)]) := cx_eq eg7
            have fr : ∀ j : Nat, (j ≠ 1000 ∧ j ≠ 1026) → g7 j = g j := fun j hj => (cx_ne eg7 j (by omega)).trans (fr j hj)
            exact hret g7 _ _ _ _ ⟨fr, c_o, y, c_T, fun k => nf (5 * i + k), hof, fun k hk => by rw [bk_no h47 h57]; exact hfn i k hk⟩ hP hS dX6_layBefore_173
          · skip
            have hkd : ek ei = 1 ∨ ek ei = 2 := Or.inr h57
            obtain ⟨ez1, ez2, ez3⟩ := hv hkd
            refine lv_aload_n hx hb dX6_layBefore_60 rfl (lv_at hl 2 rfl) ?_
            refine ax_get (k := 1000) (v := .ref (ad 1024)) hx hb hts in_X6_layBefore_X6 hown hK hP (hq _ (by decide)) c_o rfl 24 (by decide) (hts _ wd_X6_layBefore_3) (fun _ h9 => h9) rfl dX6_layBefore_61 ?_
            refine lv_iconst (v := nI 5) hx hb dX6_layBefore_64 (by decide) ?_
            refine lv_iload_n hx hb dX6_layBefore_65 rfl (lv_at hl 4 rfl) ?_
            refine ax_mul (a := 5) (b := i) hx hb dX6_layBefore_66 ?_
            refine lv_iload hx hb dX6_layBefore_67 (lv_at hl 1 rfl) ?_
            rw [ez1]
            refine ax_add (a := 5 * i) (b := ev ei) hx hb dX6_layBefore_69 ?_
            refine ax_iald (k := 1024) (i := 5 * i + (ev ei)) (v := nI ((vN nf) (5 * i + (ev ei)))) hx hb hK hP (hq _ (by decide)) c_NF (by omega) (by omega) rfl dX6_layBefore_70 ?_
            refine lv_istore (lv' := [(5, .int (nI ((vN nf) (5 * i + (ev ei))))), (4, .int (ez ei)), (0, .ref (ad 1000)), (1, .int (nI ei)), (2, .int (nI i)), (3, .int (nI way))]) hx hb dX6_layBefore_71 hl (by decide) rfl (fun ls hl => ?_)
            refine lv_aload_n hx hb dX6_layBefore_73 rfl (lv_at hl 2 rfl) ?_
            refine lv_iload hx hb dX6_layBefore_74 (lv_at hl 1 rfl) ?_
            rw [ez1]
            have ez5 : ev ei < 5 := by omega
            refine lv_iconst (v := nI 0) hx hb dX6_layBefore_76 (by decide) ?_
            refine cx_Vv (As := [.int (nI (ev ei)), .int (nI 0)]) (rest := []) ⟨hx, hb, hml, hown, hts⟩ (c_X6_put hD hN1 hN hV1 hV hq (k := (ev ei)) (x := 0) (tb := y) c_o c_T (by omega)) (cwV 2 hts gX6_layBefore_X6_put rfl rfl rfl (by decide +kernel) ⟨Nat.le_of_ble_eq_true rfl, Nat.le_of_ble_eq_true rfl⟩) hK hP hS hz (hq _ (by decide)) c_o rfl ⟨Nat.zero_le _, Nat.zero_le _⟩ rfl hl.1 rfl (Nat.le_of_ble_eq_true rfl) dX6_layBefore_77 (fun g8 H locs hp8 hP hS => ?_)
            obtain ⟨hp8a, hp8b⟩ := hp8
            have c_o : g8 1000 = .inr (6, [.int (nI N), .int (nI V), .int (nI th), .ref (ad 1003), .int (nI ec), .ref (ad 1005), .ref (ad 1006), .ref (ad 1007), .ref (ad 1008), .ref (ad 1009), .int (nI en), .int (if an = true then 1 else 0), .ref (ad 1012), .ref (ad 1013), .ref (ad 1014), .int (nI al), .ref (ad 1016), .ref (ad 1017), .ref (ad 1018), .ref (ad 1019), .int (nI pl), .ref (ad 1021), .int (nI nc), .ref (ad 1023), .ref (ad 1024), .int (nI sz), .ref (ad 1026), .ref (ad 1027), .ref (ad 1028)]) := (hp8a 1000 (by omega)).trans c_o
            have c_K : g8 1007 = nA G 20 ek := (hp8a 1007 (by omega)).trans c_K
            have c_Z : g8 1008 = iA G 20 ez := (hp8a 1008 (by omega)).trans c_Z
            have c_F : g8 1009 = nA G 100 (vN fm) := (hp8a 1009 (by omega)).trans c_F
            have c_NF : g8 1024 = nA G 120 (vN nf) := (hp8a 1024 (by omega)).trans c_NF
            have fr : ∀ j : Nat, (j ≠ 1000 ∧ j ≠ 1026) → g8 j = g j := fun j hj => (hp8a j (by omega)).trans (fr j hj)
            have c_T := hp8b
            refine lv_iconst (v := nI 0) hx hb dX6_layBefore_80 (by decide) ?_
            refine lv_istore (lv' := [(6, .int (nI 0)), (5, .int (nI ((vN nf) (5 * i + (ev ei))))), (4, .int (ez ei)), (0, .ref (ad 1000)), (1, .int (nI ei)), (2, .int (nI i)), (3, .int (nI way))]) hx hb dX6_layBefore_81 hl (by decide) rfl (fun ls hl => ?_)
            have LP83 : ∀ (fu : Nat) (k : Nat) (y2 : Nat → FF), (k ≤ 5) → (OF (5 * sz) (nu y (5 * sz + ev ei) 0) (bkM (ek ei) (fun b => fm (5 * ei + b)) (nf (5 * i + ev ei)) way (nu (fun b => nf (5 * i + b)) (ev ei) 0)) k y2) → (5 - k) < fu → ∀ (ga9 : Nat → va_E) (H : Heap) (locs : List Loc) (ls : Array Slot), (ga9 1000 = .inr (6, [.int (nI N), .int (nI V), .int (nI th), .ref (ad 1003), .int (nI ec), .ref (ad 1005), .ref (ad 1006), .ref (ad 1007), .ref (ad 1008), .ref (ad 1009), .int (nI en), .int (if an = true then 1 else 0), .ref (ad 1012), .ref (ad 1013), .ref (ad 1014), .int (nI al), .ref (ad 1016), .ref (ad 1017), .ref (ad 1018), .ref (ad 1019), .int (nI pl), .ref (ad 1021), .int (nI nc), .ref (ad 1023), .ref (ad 1024), .int (nI sz), .ref (ad 1026), .ref (ad 1027), .ref (ad 1028)])) → (ga9 1007 = nA G 20 ek) → (ga9 1008 = iA G 20 ez) → (ga9 1009 = nA G 100 (vN fm)) → (ga9 1024 = nA G 120 (vN nf)) → (ga9 1026 = nA G 150 (vN y2)) → (∀ j : Nat, (j ≠ 1000 ∧ j ≠ 1026) → ga9 j = g j) → va_P G.1 vwCl (wl L ad ga9) H → va_S (cx_A L ad s.heap.size) s.heap H locs → lv_has ls 8 [(6, .int (nI k)), (5, .int (nI (vN nf (5 * i + ev ei)))), (0, .ref (ad 1000)), (1, .int (nI ei)), (2, .int (nI i)), (3, .int (nI way))] → W p l e rm_X6_layBefore s m args below meth c H locs 0 0 Q (F0 m 83 ls []) := by
              intro fu
              induction fu with
              | zero => intro k y2 hk5b hof2 hfu; exact absurd hfu (Nat.not_lt_zero _)
              | succ fu ih83 =>
                intro k y2 hk5b hof2 hfu83 ga9 H locs ls c_o c_K c_Z c_F c_NF c_T fr hP hS hl
                refine lv_iload hx hb dX6_layBefore_83 (lv_at hl 0 rfl) ?_
                refine lv_iconst (v := nI 5) hx hb dX6_layBefore_85 (by decide) ?_
                refine ax_icge (a := k) (b := 5) (tgt := 163) hx hb dX6_layBefore_86 (by decide) (by omega) (by omega) (fun h86 => ?_) (fun h86 => ?_)
                · skip
                  refine lv_aload_n hx hb dX6_layBefore_163 rfl (lv_at hl 2 rfl) ?_
                  refine lv_dup hx hb dX6_layBefore_164 rfl ?_
                  refine ax_get (k := 1000) (v := .int (nI sz)) hx hb hts in_X6_layBefore_X6 hown hK hP (hq _ (by decide)) c_o rfl 25 (by decide) (hts _ wd_X6_layBefore_4) (fun _ h9 => h9) rfl dX6_layBefore_165 ?_
                  refine lv_iconst (v := nI 1) hx hb dX6_layBefore_168 (by decide) ?_
                  refine ax_add (a := sz) (b := 1) hx hb dX6_layBefore_169 ?_
                  refine ax_put (k := 1000) (v := .int (nI (sz + 1))) (fs' := [.int (nI N), .int (nI V), .int (nI th), .ref (ad 1003), .int (nI ec), .ref (ad 1005), .ref (ad 1006), .ref (ad 1007), .ref (ad 1008), .ref (ad 1009), .int (nI en), .int (if an = true then 1 else 0), .ref (ad 1012), .ref (ad 1013), .ref (ad 1014), .int (nI al), .ref (ad 1016), .ref (ad 1017), .ref (ad 1018), .ref (ad 1019), .int (nI pl), .ref (ad 1021), .int (nI nc), .ref (ad 1023), .ref (ad 1024), .int (nI (sz + 1)), .ref (ad 1026), .ref (ad 1027), .ref (ad 1028)]) hx hb hts in_X6_layBefore_X6 tyX6 tyX6_ok nmX6 hown hK hP hD hS (hq _ (by decide)) c_o rfl 25 (by decide) (hts _ wd_X6_layBefore_4) (fun _ h9 => h9) rfl (ty := .int) (by decide +kernel) rfl rfl (Nat.le_of_ble_eq_true rfl) rfl dX6_layBefore_170 (fun H locs g10 eg10 hP hS => ?_)
                  have c_K : g10 1007 = nA G 20 ek := (cx_ne eg10 1007 (by omega)).trans c_K
                  have c_Z : g10 1008 = iA G 20 ez := (cx_ne eg10 1008 (by omega)).trans c_Z
                  have c_F : g10 1009 = nA G 100 (vN fm) := (cx_ne eg10 1009 (by omega)).trans c_F
                  have c_NF : g10 1024 = nA G 120 (vN nf) := (cx_ne eg10 1024 (by omega)).trans c_NF
                  have c_T : g10 1026 = nA G 150 (vN y2) := (cx_ne eg10 1026 (by omega)).trans c_T
                  have c_o : g10 1000 = .inr (6, [.int (nI N), .int (nI V), .int (nI th), .ref (ad 1003), .int (nI ec), .ref (ad 1005), .ref (ad 1006), .ref (ad 1007), .ref (ad 1008), .ref (ad 1009), .int (nI en), .int (if an = true then 1 else 0), .ref (ad 1012), .ref (ad 1013), .ref (ad 1014), .int (nI al), .ref (ad 1016), .ref (ad 1017), .ref (ad 1018), .ref (ad 1019), .int (nI pl), .ref (ad 1021), .int (nI nc), .ref (ad 1023), .ref (ad 1024), .int (nI (sz + 1)), .ref (ad 1026), .ref (ad 1027), .ref (ad 1028)]) := cx_eq eg10
                  have fr : ∀ j : Nat, (j ≠ 1000 ∧ j ≠ 1026) → g10 j = g j := fun j hj => (cx_ne eg10 j (by omega)).trans (fr j hj)
                  exact hret g10 _ _ _ _ (by have e6 : k = 5 := (by omega); subst e6; exact ⟨fr, c_o, y2, c_T, _, (hof.put ez5).over hof2, fun k hk => bk_fr hfr hfn hV hzf hkd hk ez5⟩) hP hS dX6_layBefore_173
                · skip
                  have b1 := vN_lt y2 (5 * sz + k)
                  have b2 := vN_lt nf (5 * i + ev ei)
                  have b4 := vN_lt fm (5 * ei + k)
                  have b5 : vN nf (5 * i + ev ei) * vN fm (5 * ei + k) ≤ 65521 * 65521 := mul_le3 (Nat.le_of_lt b2) (Nat.le_of_lt b4)
                  have b6 : vN nf (5 * i + ev ei) * way ≤ 65521 * 2 := mul_le3 (Nat.le_of_lt b2) (by omega)
                  have e7 : y2 (5 * sz + k) = nu (fun b => nf (5 * i + b)) (ev ei) 0 k := (hof2.out (by omega)).trans ((hof.put ez5).inn (by omega))
                  refine lv_aload_n hx hb dX6_layBefore_89 rfl (lv_at hl 2 rfl) ?_
                  refine ax_get (k := 1000) (v := .ref (ad 1007)) hx hb hts in_X6_layBefore_X6 hown hK hP (hq _ (by decide)) c_o rfl 7 (by decide) (hts _ wd_X6_layBefore_2) (fun _ h9 => h9) rfl dX6_layBefore_90 ?_
                  refine lv_iload_n hx hb dX6_layBefore_93 rfl (lv_at hl 3 rfl) ?_
                  refine ax_iald (k := 1007) (i := ei) (v := nI (ek ei)) hx hb hK hP (hq _ (by decide)) c_K (by omega) (by omega) rfl dX6_layBefore_94 ?_
                  refine lv_iconst (v := nI 1) hx hb dX6_layBefore_95 (by decide) ?_
                  refine ax_icne (a := ek ei) (b := 1) (tgt := 113) hx hb dX6_layBefore_96 (by decide) (by omega) (by omega) (fun h96 => ?_) (fun h96 => ?_)
                  · skip
                    refine lv_iload hx hb dX6_layBefore_113 (lv_at hl 0 rfl) ?_
                    refine ax_ifne (a := k) (tgt := 122) hx hb dX6_layBefore_115 (by decide) (by omega) (fun h115 => ?_) (fun h115 => ?_)
                    · skip
                      refine lv_iconst (v := nI 0) hx hb dX6_layBefore_122 (by decide) ?_
                      refine lv_istore (lv' := [(7, .int (nI 0)), (6, .int (nI k)), (5, .int (nI (vN nf (5 * i + ev ei)))), (0, .ref (ad 1000)), (1, .int (nI ei)), (2, .int (nI i)), (3, .int (nI way))]) hx hb dX6_layBefore_123 hl (by decide) rfl (fun ls hl => ?_)
                      refine lv_aload_n hx hb dX6_layBefore_125 rfl (lv_at hl 3 rfl) ?_
                      refine lv_iload hx hb dX6_layBefore_126 (lv_at hl 1 rfl) ?_
                      refine lv_aload_n hx hb dX6_layBefore_128 rfl (lv_at hl 3 rfl) ?_
                      refine ax_get (k := 1000) (v := .ref (ad 1026)) hx hb hts in_X6_layBefore_X6 hown hK hP (hq _ (by decide)) c_o rfl 26 (by decide) (hts _ wd_X6_layBefore_6) (fun _ h9 => h9) rfl dX6_layBefore_129 ?_
                      refine lv_iconst (v := nI 5) hx hb dX6_layBefore_132 (by decide) ?_
                      refine lv_aload_n hx hb dX6_layBefore_133 rfl (lv_at hl 3 rfl) ?_
                      refine ax_get (k := 1000) (v := .int (nI sz)) hx hb hts in_X6_layBefore_X6 hown hK hP (hq _ (by decide)) c_o rfl 25 (by decide) (hts _ wd_X6_layBefore_4) (fun _ h9 => h9) rfl dX6_layBefore_134 ?_
                      refine ax_mul (a := 5) (b := sz) hx hb dX6_layBefore_137 ?_
                      refine lv_iload hx hb dX6_layBefore_138 (lv_at hl 1 rfl) ?_
                      refine ax_add (a := 5 * sz) (b := k) hx hb dX6_layBefore_140 ?_
                      refine ax_iald (k := 1026) (i := 5 * sz + k) (v := nI ((vN y2) (5 * sz + k))) hx hb hK hP (hq _ (by decide)) c_T (by omega) (by omega) rfl dX6_layBefore_141 ?_
                      refine ax_i2l (a := (vN y2) (5 * sz + k)) hx hb dX6_layBefore_142 (by omega) ?_
                      refine lv_iload hx hb dX6_layBefore_143 (lv_at hl 2 rfl) ?_
                      refine ax_i2l (a := vN nf (5 * i + ev ei)) hx hb dX6_layBefore_145 (by omega) ?_
                      refine lv_iload hx hb dX6_layBefore_146 (lv_at hl 0 rfl) ?_
                      refine ax_i2l (a := 0) hx hb dX6_layBefore_148 (by omega) ?_
                      refine ax_lmul (a := vN nf (5 * i + ev ei)) (b := 0) hx hb dX6_layBefore_149 ?_
                      refine ax_ladd (a := (vN y2) (5 * sz + k)) (b := (vN nf (5 * i + ev ei)) * 0) hx hb dX6_layBefore_150 ?_
                      refine cx_Si (As := [.long (lN ((vN y2) (5 * sz + k) + ((vN nf (5 * i + ev ei)) * 0)))]) (rest := [.int (nI k), .ref (ad 1000)]) ⟨hx, hb, hml, hown, hts⟩ (c_X6_mod hD (x := lN ((vN y2) (5 * sz + k) + ((vN nf (5 * i + ev ei)) * 0)))) (va_cwS 1 hts gX6_layBefore_X6_mod rfl rfl rfl (by decide +kernel) ⟨Nat.le_of_ble_eq_true rfl, Nat.le_of_ble_eq_true rfl⟩) hK hP hS hz ⟨Nat.zero_le _, Nat.zero_le _⟩ rfl hl.1 rfl (Nat.le_of_ble_eq_true rfl) dX6_layBefore_151 (fun r11 g11 H locs hp11 hP hS => ?_)
                      obtain ⟨er11, ehp11g⟩ := hp11
                      rw [ehp11g] at hP
                      rw [er11]
                      rw [show fi (lN ((vN y2) (5 * sz + k) + ((vN nf (5 * i + ev ei)) * 0))).toInt = (bkM (ek ei) (fun b => fm (5 * ei + b)) (nf (5 * i + ev ei)) way (nu (fun b => nf (5 * i + b)) (ev ei) 0)) k from by rw [ln_fi (by omega), ff_add, ff_mul]; unfold bkM; rw [if_neg (by omega), if_neg (by omega)]; rw [← e7]; unfold vN; rw [ff_of, ff_of]; rfl]
                      refine cx_Vv (As := [.int (nI k), .int (nI (((bkM (ek ei) (fun b => fm (5 * ei + b)) (nf (5 * i + ev ei)) way (nu (fun b => nf (5 * i + b)) (ev ei) 0)) k).val))]) (rest := []) ⟨hx, hb, hml, hown, hts⟩ (c_X6_put hD hN1 hN hV1 hV hq (k := k) (x := (bkM (ek ei) (fun b => fm (5 * ei + b)) (nf (5 * i + ev ei)) way (nu (fun b => nf (5 * i + b)) (ev ei) 0)) k) (tb := y2) c_o c_T (by omega)) (cwV 2 hts gX6_layBefore_X6_put rfl rfl rfl (by decide +kernel) ⟨Nat.le_of_ble_eq_true rfl, Nat.le_of_ble_eq_true rfl⟩) hK hP hS hz (hq _ (by decide)) c_o rfl ⟨Nat.zero_le _, Nat.zero_le _⟩ rfl hl.1 rfl (Nat.le_of_ble_eq_true rfl) dX6_layBefore_154 (fun g12 H locs hp12 hP hS => ?_)
                      obtain ⟨hp12a, hp12b⟩ := hp12
                      have c_o : g12 1000 = .inr (6, [.int (nI N), .int (nI V), .int (nI th), .ref (ad 1003), .int (nI ec), .ref (ad 1005), .ref (ad 1006), .ref (ad 1007), .ref (ad 1008), .ref (ad 1009), .int (nI en), .int (if an = true then 1 else 0), .ref (ad 1012), .ref (ad 1013), .ref (ad 1014), .int (nI al), .ref (ad 1016), .ref (ad 1017), .ref (ad 1018), .ref (ad 1019), .int (nI pl), .ref (ad 1021), .int (nI nc), .ref (ad 1023), .ref (ad 1024), .int (nI sz), .ref (ad 1026), .ref (ad 1027), .ref (ad 1028)]) := (hp12a 1000 (by omega)).trans c_o
                      have c_K : g12 1007 = nA G 20 ek := (hp12a 1007 (by omega)).trans c_K
                      have c_Z : g12 1008 = iA G 20 ez := (hp12a 1008 (by omega)).trans c_Z
                      have c_F : g12 1009 = nA G 100 (vN fm) := (hp12a 1009 (by omega)).trans c_F
                      have c_NF : g12 1024 = nA G 120 (vN nf) := (hp12a 1024 (by omega)).trans c_NF
                      have fr : ∀ j : Nat, (j ≠ 1000 ∧ j ≠ 1026) → g12 j = g j := fun j hj => (hp12a j (by omega)).trans (fr j hj)
                      have c_T := hp12b
                      refine lv_iinc (v := nI (k + 1)) (lv' := [(6, .int (nI (k + 1))), (7, .int (nI 0)), (5, .int (nI (vN nf (5 * i + ev ei)))), (0, .ref (ad 1000)), (1, .int (nI ei)), (2, .int (nI i)), (3, .int (nI way))]) hx hb dX6_layBefore_157 hl (k := 1) rfl (nI_1 _) (by decide) rfl (fun ls hl => ?_)
                      refine lv_goto (tgt := 83) hx hb dX6_layBefore_160 (by decide) ?_
                      exact ih83 (k + 1) (nu y2 (5 * sz + k) ((bkM (ek ei) (fun b => fm (5 * ei + b)) (nf (5 * i + ev ei)) way (nu (fun b => nf (5 * i + b)) (ev ei) 0)) k)) h86 (hof2.step rfl) (by omega) g12 _ _ _ c_o c_K c_Z c_F c_NF c_T  fr hP hS (lv_sub hl [0, 2, 3, 4, 5, 6] rfl)
                    · skip
                      refine lv_iload_n hx hb dX6_layBefore_118 rfl (lv_at hl 5 rfl) ?_
                      refine lv_goto (tgt := 123) hx hb dX6_layBefore_119 (by decide) ?_
                      refine lv_istore (lv' := [(7, .int (nI way)), (6, .int (nI k)), (5, .int (nI (vN nf (5 * i + ev ei)))), (0, .ref (ad 1000)), (1, .int (nI ei)), (2, .int (nI i)), (3, .int (nI way))]) hx hb dX6_layBefore_123 hl (by decide) rfl (fun ls hl => ?_)
                      refine lv_aload_n hx hb dX6_layBefore_125 rfl (lv_at hl 3 rfl) ?_
                      refine lv_iload hx hb dX6_layBefore_126 (lv_at hl 1 rfl) ?_
                      refine lv_aload_n hx hb dX6_layBefore_128 rfl (lv_at hl 3 rfl) ?_
                      refine ax_get (k := 1000) (v := .ref (ad 1026)) hx hb hts in_X6_layBefore_X6 hown hK hP (hq _ (by decide)) c_o rfl 26 (by decide) (hts _ wd_X6_layBefore_6) (fun _ h9 => h9) rfl dX6_layBefore_129 ?_
                      refine lv_iconst (v := nI 5) hx hb dX6_layBefore_132 (by decide) ?_
                      refine lv_aload_n hx hb dX6_layBefore_133 rfl (lv_at hl 3 rfl) ?_
                      refine ax_get (k := 1000) (v := .int (nI sz)) hx hb hts in_X6_layBefore_X6 hown hK hP (hq _ (by decide)) c_o rfl 25 (by decide) (hts _ wd_X6_layBefore_4) (fun _ h9 => h9) rfl dX6_layBefore_134 ?_
                      refine ax_mul (a := 5) (b := sz) hx hb dX6_layBefore_137 ?_
                      refine lv_iload hx hb dX6_layBefore_138 (lv_at hl 1 rfl) ?_
                      refine ax_add (a := 5 * sz) (b := k) hx hb dX6_layBefore_140 ?_
                      refine ax_iald (k := 1026) (i := 5 * sz + k) (v := nI ((vN y2) (5 * sz + k))) hx hb hK hP (hq _ (by decide)) c_T (by omega) (by omega) rfl dX6_layBefore_141 ?_
                      refine ax_i2l (a := (vN y2) (5 * sz + k)) hx hb dX6_layBefore_142 (by omega) ?_
                      refine lv_iload hx hb dX6_layBefore_143 (lv_at hl 2 rfl) ?_
                      refine ax_i2l (a := vN nf (5 * i + ev ei)) hx hb dX6_layBefore_145 (by omega) ?_
                      refine lv_iload hx hb dX6_layBefore_146 (lv_at hl 0 rfl) ?_
                      refine ax_i2l (a := way) hx hb dX6_layBefore_148 (by omega) ?_
                      refine ax_lmul (a := vN nf (5 * i + ev ei)) (b := way) hx hb dX6_layBefore_149 ?_
                      refine ax_ladd (a := (vN y2) (5 * sz + k)) (b := (vN nf (5 * i + ev ei)) * way) hx hb dX6_layBefore_150 ?_
                      refine cx_Si (As := [.long (lN ((vN y2) (5 * sz + k) + ((vN nf (5 * i + ev ei)) * way)))]) (rest := [.int (nI k), .ref (ad 1000)]) ⟨hx, hb, hml, hown, hts⟩ (c_X6_mod hD (x := lN ((vN y2) (5 * sz + k) + ((vN nf (5 * i + ev ei)) * way)))) (va_cwS 1 hts gX6_layBefore_X6_mod rfl rfl rfl (by decide +kernel) ⟨Nat.le_of_ble_eq_true rfl, Nat.le_of_ble_eq_true rfl⟩) hK hP hS hz ⟨Nat.zero_le _, Nat.zero_le _⟩ rfl hl.1 rfl (Nat.le_of_ble_eq_true rfl) dX6_layBefore_151 (fun r13 g13 H locs hp13 hP hS => ?_)
                      obtain ⟨er13, ehp13g⟩ := hp13
                      rw [ehp13g] at hP
                      rw [er13]
                      rw [show fi (lN ((vN y2) (5 * sz + k) + ((vN nf (5 * i + ev ei)) * way))).toInt = (bkM (ek ei) (fun b => fm (5 * ei + b)) (nf (5 * i + ev ei)) way (nu (fun b => nf (5 * i + b)) (ev ei) 0)) k from by rw [ln_fi (by omega), ff_add, ff_mul]; unfold bkM; rw [if_neg (by omega), if_pos (by omega)]; rw [← e7]; unfold vN; rw [ff_of, ff_of]]
                      refine cx_Vv (As := [.int (nI k), .int (nI (((bkM (ek ei) (fun b => fm (5 * ei + b)) (nf (5 * i + ev ei)) way (nu (fun b => nf (5 * i + b)) (ev ei) 0)) k).val))]) (rest := []) ⟨hx, hb, hml, hown, hts⟩ (c_X6_put hD hN1 hN hV1 hV hq (k := k) (x := (bkM (ek ei) (fun b => fm (5 * ei + b)) (nf (5 * i + ev ei)) way (nu (fun b => nf (5 * i + b)) (ev ei) 0)) k) (tb := y2) c_o c_T (by omega)) (cwV 2 hts gX6_layBefore_X6_put rfl rfl rfl (by decide +kernel) ⟨Nat.le_of_ble_eq_true rfl, Nat.le_of_ble_eq_true rfl⟩) hK hP hS hz (hq _ (by decide)) c_o rfl ⟨Nat.zero_le _, Nat.zero_le _⟩ rfl hl.1 rfl (Nat.le_of_ble_eq_true rfl) dX6_layBefore_154 (fun g14 H locs hp14 hP hS => ?_)
                      obtain ⟨hp14a, hp14b⟩ := hp14
                      have c_o : g14 1000 = .inr (6, [.int (nI N), .int (nI V), .int (nI th), .ref (ad 1003), .int (nI ec), .ref (ad 1005), .ref (ad 1006), .ref (ad 1007), .ref (ad 1008), .ref (ad 1009), .int (nI en), .int (if an = true then 1 else 0), .ref (ad 1012), .ref (ad 1013), .ref (ad 1014), .int (nI al), .ref (ad 1016), .ref (ad 1017), .ref (ad 1018), .ref (ad 1019), .int (nI pl), .ref (ad 1021), .int (nI nc), .ref (ad 1023), .ref (ad 1024), .int (nI sz), .ref (ad 1026), .ref (ad 1027), .ref (ad 1028)]) := (hp14a 1000 (by omega)).trans c_o
                      have c_K : g14 1007 = nA G 20 ek := (hp14a 1007 (by omega)).trans c_K
                      have c_Z : g14 1008 = iA G 20 ez := (hp14a 1008 (by omega)).trans c_Z
                      have c_F : g14 1009 = nA G 100 (vN fm) := (hp14a 1009 (by omega)).trans c_F
                      have c_NF : g14 1024 = nA G 120 (vN nf) := (hp14a 1024 (by omega)).trans c_NF
                      have fr : ∀ j : Nat, (j ≠ 1000 ∧ j ≠ 1026) → g14 j = g j := fun j hj => (hp14a j (by omega)).trans (fr j hj)
                      have c_T := hp14b
                      refine lv_iinc (v := nI (k + 1)) (lv' := [(6, .int (nI (k + 1))), (7, .int (nI way)), (5, .int (nI (vN nf (5 * i + ev ei)))), (0, .ref (ad 1000)), (1, .int (nI ei)), (2, .int (nI i)), (3, .int (nI way))]) hx hb dX6_layBefore_157 hl (k := 1) rfl (nI_1 _) (by decide) rfl (fun ls hl => ?_)
                      refine lv_goto (tgt := 83) hx hb dX6_layBefore_160 (by decide) ?_
                      exact ih83 (k + 1) (nu y2 (5 * sz + k) ((bkM (ek ei) (fun b => fm (5 * ei + b)) (nf (5 * i + ev ei)) way (nu (fun b => nf (5 * i + b)) (ev ei) 0)) k)) h86 (hof2.step rfl) (by omega) g14 _ _ _ c_o c_K c_Z c_F c_NF c_T  fr hP hS (lv_sub hl [0, 2, 3, 4, 5, 6] rfl)
                  · skip
                    exact absurd h96 (by omega)
            exact LP83 ((5 - 0) + 1) 0 (nu y (5 * sz + ev ei) 0) (Nat.zero_le _) OF.start (Nat.lt_succ_self _) g8 _ _ _ c_o c_K c_Z c_F c_NF c_T  fr hP hS (lv_sub hl [0, 1, 3, 4, 5, 6] rfl)
      · skip
        refine lv_aload_n hx hb dX6_layBefore_17 rfl (lv_at hl 2 rfl) ?_
        refine lv_iload hx hb dX6_layBefore_18 (lv_at hl 0 rfl) ?_
        refine lv_aload_n hx hb dX6_layBefore_20 rfl (lv_at hl 2 rfl) ?_
        refine ax_get (k := 1000) (v := .ref (ad 1024)) hx hb hts in_X6_layBefore_X6 hown hK hP (hq _ (by decide)) c_o rfl 24 (by decide) (hts _ wd_X6_layBefore_3) (fun _ h9 => h9) rfl dX6_layBefore_21 ?_
        refine lv_iconst (v := nI 5) hx hb dX6_layBefore_24 (by decide) ?_
        refine lv_iload_n hx hb dX6_layBefore_25 rfl (lv_at hl 4 rfl) ?_
        refine ax_mul (a := 5) (b := i) hx hb dX6_layBefore_26 ?_
        refine lv_iload hx hb dX6_layBefore_27 (lv_at hl 0 rfl) ?_
        refine ax_add (a := 5 * i) (b := k) hx hb dX6_layBefore_29 ?_
        refine ax_iald (k := 1024) (i := 5 * i + k) (v := nI ((vN nf) (5 * i + k))) hx hb hK hP (hq _ (by decide)) c_NF (by omega) (by omega) rfl dX6_layBefore_30 ?_
        refine cx_Vv (As := [.int (nI k), .int (nI ((vN nf) (5 * i + k)))]) (rest := []) ⟨hx, hb, hml, hown, hts⟩ (c_X6_put hD hN1 hN hV1 hV hq (k := k) (x := nf (5 * i + k)) (tb := y) c_o c_T (by omega)) (cwV 2 hts gX6_layBefore_X6_put rfl rfl rfl (by decide +kernel) ⟨Nat.le_of_ble_eq_true rfl, Nat.le_of_ble_eq_true rfl⟩) hK hP hS hz (hq _ (by decide)) c_o rfl ⟨Nat.zero_le _, Nat.zero_le _⟩ rfl hl.1 rfl (Nat.le_of_ble_eq_true rfl) dX6_layBefore_31 (fun g15 H locs hp15 hP hS => ?_)
        obtain ⟨hp15a, hp15b⟩ := hp15
        have c_o : g15 1000 = .inr (6, [.int (nI N), .int (nI V), .int (nI th), .ref (ad 1003), .int (nI ec), .ref (ad 1005), .ref (ad 1006), .ref (ad 1007), .ref (ad 1008), .ref (ad 1009), .int (nI en), .int (if an = true then 1 else 0), .ref (ad 1012), .ref (ad 1013), .ref (ad 1014), .int (nI al), .ref (ad 1016), .ref (ad 1017), .ref (ad 1018), .ref (ad 1019), .int (nI pl), .ref (ad 1021), .int (nI nc), .ref (ad 1023), .ref (ad 1024), .int (nI sz), .ref (ad 1026), .ref (ad 1027), .ref (ad 1028)]) := (hp15a 1000 (by omega)).trans c_o
        have c_K : g15 1007 = nA G 20 ek := (hp15a 1007 (by omega)).trans c_K
        have c_Z : g15 1008 = iA G 20 ez := (hp15a 1008 (by omega)).trans c_Z
        have c_F : g15 1009 = nA G 100 (vN fm) := (hp15a 1009 (by omega)).trans c_F
        have c_NF : g15 1024 = nA G 120 (vN nf) := (hp15a 1024 (by omega)).trans c_NF
        have fr : ∀ j : Nat, (j ≠ 1000 ∧ j ≠ 1026) → g15 j = g j := fun j hj => (hp15a j (by omega)).trans (fr j hj)
        have c_T := hp15b
        refine lv_iinc (v := nI (k + 1)) (lv' := [(5, .int (nI (k + 1))), (4, .int (ez ei)), (0, .ref (ad 1000)), (1, .int (nI ei)), (2, .int (nI i)), (3, .int (nI way))]) hx hb dX6_layBefore_34 hl (k := 0) rfl (nI_1 _) (by decide) rfl (fun ls hl => ?_)
        refine lv_goto (tgt := 11) hx hb dX6_layBefore_37 (by decide) ?_
        exact ih11 (k + 1) (nu y (5 * sz + k) (nf (5 * i + k))) h14 (hof.step rfl) (by omega) g15 _ _ _ c_o c_K c_Z c_F c_NF c_T  fr hP hS (lv_sub hl [0, 1, 2, 3, 4, 5] rfl)
  exact LP11 ((5 - 0) + 1) 0 tb (Nat.zero_le _) OF.start (Nat.lt_succ_self _) g _ _ _ c_o c_K c_Z c_F c_NF c_T  fr hP hS (lv_sub hl [0, 1, 2, 3, 4, 5] rfl)

abbrev rm_X6_follows : Room := { frames := 3, cells := 0, slots := 0, locals := 79 }
set_option maxHeartbeats 4000000 in
set_option maxRecDepth 100000 in
theorem c_X6_follows {l : Launch} {G : cx_G} {L : List Nat} {ad : Nat → Nat} {g : Nat → va_E} (hD : cx_D L ad) {N V th ec en al pl nc sz : Nat} {an : Bool} {ei i : Nat} {tb : Nat → FF} {pz0 : Nat → Int32} {ef ek ev : Nat → Nat} {ez : Nat → Int32} {eg ng : Nat → Nat → FF} {fm nf : Nat → FF} {nn : Nat → Nat} (hN1 : 1 ≤ N) (hN : N ≤ 8) (hV1 : 1 ≤ V) (hV : V ≤ 4) (hq : ∀ j : Nat, lbM j = true → j ∈ L) (c_o : g 1000 = .inr (6, [.int (nI N), .int (nI V), .int (nI th), .ref (ad 1003), .int (nI ec), .ref (ad 1005), .ref (ad 1006), .ref (ad 1007), .ref (ad 1008), .ref (ad 1009), .int (nI en), .int (if an = true then 1 else 0), .ref (ad 1012), .ref (ad 1013), .ref (ad 1014), .int (nI al), .ref (ad 1016), .ref (ad 1017), .ref (ad 1018), .ref (ad 1019), .int (nI pl), .ref (ad 1021), .int (nI nc), .ref (ad 1023), .ref (ad 1024), .int (nI sz), .ref (ad 1026), .ref (ad 1027), .ref (ad 1028)])) (c_FO : g 1005 = nA G 20 ef) (c_K : g 1007 = nA G 20 ek) (c_F : g 1009 = nA G 100 (vN fm)) (c_NN : g 1023 = nA G 24 nn) (c_NF : g 1024 = nA G 120 (vN nf)) (c_Z : g 1008 = iA G 20 ez) (c_T : g 1026 = nA G 150 (vN tb)) (c_P : g 1027 = iA G 5 pz0) (hei : ei < ec) (hec : ec ≤ 20) (hi : i < nc) (hnc : nc ≤ 24) (hnn : ∀ i : Nat, i < nc → nn i < N) (hfn : FR nf ng) (hfr : FR fm eg) (hzf : Zb (V + 1) (eg ei)) (hf1 : ef ei < N) (hf3 : ek ei ≤ 4) (hf4 : ek ei = 1 ∨ ek ei = 2 → ez ei = nI (ev ei) ∧ 1 ≤ ev ei ∧ ev ei < V + 1) : MI l yX6_follows wsX6_follows rm_X6_follows G L ad g [.ref (ad 1000), .int (nI ei), .int (nI i)] (fun r u => (∀ j : Nat, (j ≠ 1000 ∧ j ≠ 1026 ∧ j ≠ 1027) → u j = g j) ∧ tr r (folP V nc nn ng (ef ei) (ek ei) (ev ei) (eg ei) (ng i) 2) ∧ (∃ sz2 : Nat, u 1000 = .inr (6, [.int (nI N), .int (nI V), .int (nI th), .ref (ad 1003), .int (nI ec), .ref (ad 1005), .ref (ad 1006), .ref (ad 1007), .ref (ad 1008), .ref (ad 1009), .int (nI en), .int (if an = true then 1 else 0), .ref (ad 1012), .ref (ad 1013), .ref (ad 1014), .int (nI al), .ref (ad 1016), .ref (ad 1017), .ref (ad 1018), .ref (ad 1019), .int (nI pl), .ref (ad 1021), .int (nI nc), .ref (ad 1023), .ref (ad 1024), .int (nI sz2), .ref (ad 1026), .ref (ad 1027), .ref (ad 1028)])) ∧ (∃ (tb2 : Nat → FF) (pz2 : Nat → Int32), u 1026 = nA G 150 (vN tb2) ∧ u 1027 = iA G 5 pz2)) := by
  refine cx_ofI (cc := cX6_follows) (maxL := 6) (by decide +kernel) rfl (Nat.le_of_ble_eq_true rfl) ?_
  intro p e s m args below meth c Q hx hb hts hown hml hP hK hS hz hret ls hl
  have hown : s.vm.findClass RX6 = some m.cls := hown
  have hl : lv_has ls 6 [(0, .ref (ad 1000)), (1, .int (nI ei)), (2, .int (nI i))] := hl
  have fr : ∀ j : Nat, (j ≠ 1000 ∧ j ≠ 1026 ∧ j ≠ 1027) → g j = g j := fun _ _ => rfl
  refine lv_iconst (v := nI 1) hx hb dX6_follows_0 (by decide) ?_
  refine lv_istore_n (lv' := [(3, .int (nI 1)), (0, .ref (ad 1000)), (1, .int (nI ei)), (2, .int (nI i))]) hx hb dX6_follows_1 rfl hl (by decide) rfl (fun ls hl => ?_)
  refine lv_iconst (v := nI 0) hx hb dX6_follows_2 (by decide) ?_
  refine lv_istore (lv' := [(4, .int (nI 0)), (3, .int (nI 1)), (0, .ref (ad 1000)), (1, .int (nI ei)), (2, .int (nI i))]) hx hb dX6_follows_3 hl (by decide) rfl (fun ls hl => ?_)
  have LP5 : ∀ (fu : Nat) (way : Nat) (iq : Nat) (tbx : Nat → FF) (pzx : Nat → Int32) (szx : Nat), (way ≤ 2) → ((iq = 1 ∧ folP V nc nn ng (ef ei) (ek ei) (ev ei) (eg ei) (ng i) way) ∨ (iq = 0 ∧ ¬ folP V nc nn ng (ef ei) (ek ei) (ev ei) (eg ei) (ng i) way)) → (2 - way) < fu → ∀ (ga1 : Nat → va_E) (H : Heap) (locs : List Loc) (ls : Array Slot), (ga1 1000 = .inr (6, [.int (nI N), .int (nI V), .int (nI th), .ref (ad 1003), .int (nI ec), .ref (ad 1005), .ref (ad 1006), .ref (ad 1007), .ref (ad 1008), .ref (ad 1009), .int (nI en), .int (if an = true then 1 else 0), .ref (ad 1012), .ref (ad 1013), .ref (ad 1014), .int (nI al), .ref (ad 1016), .ref (ad 1017), .ref (ad 1018), .ref (ad 1019), .int (nI pl), .ref (ad 1021), .int (nI nc), .ref (ad 1023), .ref (ad 1024), .int (nI szx), .ref (ad 1026), .ref (ad 1027), .ref (ad 1028)])) → (ga1 1005 = nA G 20 ef) → (ga1 1007 = nA G 20 ek) → (ga1 1009 = nA G 100 (vN fm)) → (ga1 1023 = nA G 24 nn) → (ga1 1024 = nA G 120 (vN nf)) → (ga1 1008 = iA G 20 ez) → (ga1 1026 = nA G 150 (vN tbx)) → (ga1 1027 = iA G 5 pzx) → (∀ j : Nat, (j ≠ 1000 ∧ j ≠ 1026 ∧ j ≠ 1027) → ga1 j = g j) → va_P G.1 vwCl (wl L ad ga1) H → va_S (cx_A L ad s.heap.size) s.heap H locs → lv_has ls 6 [(4, .int (nI way)), (3, .int (nI iq)), (0, .ref (ad 1000)), (1, .int (nI ei)), (2, .int (nI i))] → W p l e rm_X6_follows s m args below meth c H locs 0 0 Q (F0 m 5 ls []) := by
    intro fu
    induction fu with
    | zero => intro way iq tbx pzx szx hw2 hiq hfu; exact absurd hfu (Nat.not_lt_zero _)
    | succ fu ih5 =>
      intro way iq tbx pzx szx hw2 hiq hfu5 ga1 H locs ls c_o c_FO c_K c_F c_NN c_NF c_Z c_T c_P fr hP hS hl
      have hiq01 : iq = 0 ∨ iq = 1 := hiq.elim (fun z => Or.inr z.1) (fun z => Or.inl z.1)
      refine lv_iload hx hb dX6_follows_5 (lv_at hl 0 rfl) ?_
      refine lv_iconst (v := nI 2) hx hb dX6_follows_7 (by decide) ?_
      refine ax_icge (a := way) (b := 2) (tgt := 60) hx hb dX6_follows_8 (by decide) (by omega) (by omega) (fun h8 => ?_) (fun h8 => ?_)
      · skip
        refine lv_iload_n hx hb dX6_follows_60 rfl (lv_at hl 1 rfl) ?_
        exact hret (nI iq) ga1 _ _ _ _ (nr01 hiq01) ⟨fr, (by have e2 : way = 2 := (by omega); rw [e2] at hiq; exact hiq.elim (fun z => Or.inl ⟨by rw [z.1], z.2⟩) (fun z => Or.inr ⟨by rw [z.1], z.2⟩)), ⟨_, c_o⟩, _, _, c_T, c_P⟩ hP hS dX6_follows_61
      · skip
        refine lv_aload_n hx hb dX6_follows_11 rfl (lv_at hl 2 rfl) ?_
        refine lv_iload_n hx hb dX6_follows_12 rfl (lv_at hl 3 rfl) ?_
        refine cx_Vv (As := [.int (nI ei)]) (rest := []) ⟨hx, hb, hml, hown, hts⟩ (c_X6_layNotes hD hN1 hN hV1 hV hq (ei := ei) (tb := tbx) (eg := eg) (ng := ng) c_o c_FO c_K c_F c_NN c_NF c_T hei hnc hnn hfn hfr hec hf1 hf3) (cwV 1 hts gX6_follows_X6_layNotes rfl rfl rfl (by decide +kernel) ⟨Nat.le_of_ble_eq_true rfl, Nat.le_of_ble_eq_true rfl⟩) hK hP hS hz (hq _ (by decide)) c_o rfl ⟨Nat.zero_le _, Nat.zero_le _⟩ rfl hl.1 rfl (Nat.le_of_ble_eq_true rfl) dX6_follows_13 (fun g2 H locs hp2 hP hS => ?_)
        obtain ⟨hp2a, z1, tb2, hp2z, hp2o, hp2T, hsp1⟩ := hp2
        have c_FO : g2 1005 = nA G 20 ef := (hp2a 1005 (by omega)).trans c_FO
        have c_K : g2 1007 = nA G 20 ek := (hp2a 1007 (by omega)).trans c_K
        have c_F : g2 1009 = nA G 100 (vN fm) := (hp2a 1009 (by omega)).trans c_F
        have c_NN : g2 1023 = nA G 24 nn := (hp2a 1023 (by omega)).trans c_NN
        have c_NF : g2 1024 = nA G 120 (vN nf) := (hp2a 1024 (by omega)).trans c_NF
        have c_Z : g2 1008 = iA G 20 ez := (hp2a 1008 (by omega)).trans c_Z
        have c_P : g2 1027 = iA G 5 pzx := (hp2a 1027 (by omega)).trans c_P
        have fr : ∀ j : Nat, (j ≠ 1000 ∧ j ≠ 1026 ∧ j ≠ 1027) → g2 j = g j := fun j hj => (hp2a j (by omega)).trans (fr j hj)
        have c_o := hp2o
        have c_T := hp2T
        refine lv_aload_n hx hb dX6_follows_16 rfl (lv_at hl 2 rfl) ?_
        refine cx_Vi (As := []) (rest := []) ⟨hx, hb, hml, hown, hts⟩ (c_X6_rank hD hN1 hN hV1 hV hq (tb := tb2) c_o c_T c_P (by omega)) (cwV 0 hts gX6_follows_X6_rank rfl rfl rfl (by decide +kernel) ⟨Nat.le_of_ble_eq_true rfl, Nat.le_of_ble_eq_true rfl⟩) hK hP hS hz (hq _ (by decide)) c_o rfl ⟨Nat.zero_le _, Nat.zero_le _⟩ rfl hl.1 rfl (Nat.le_of_ble_eq_true rfl) dX6_follows_17 (fun r3 g3 H locs hp3 hP hS => ?_)
        obtain ⟨hp3a, tb3, pz1, t1, pv1, hrk1, e_r3, hp3T, hp3P⟩ := hp3
        have c_o : g3 1000 = .inr (6, [.int (nI N), .int (nI V), .int (nI th), .ref (ad 1003), .int (nI ec), .ref (ad 1005), .ref (ad 1006), .ref (ad 1007), .ref (ad 1008), .ref (ad 1009), .int (nI en), .int (if an = true then 1 else 0), .ref (ad 1012), .ref (ad 1013), .ref (ad 1014), .int (nI al), .ref (ad 1016), .ref (ad 1017), .ref (ad 1018), .ref (ad 1019), .int (nI pl), .ref (ad 1021), .int (nI nc), .ref (ad 1023), .ref (ad 1024), .int (nI z1), .ref (ad 1026), .ref (ad 1027), .ref (ad 1028)]) := (hp3a 1000 (by omega)).trans c_o
        have c_FO : g3 1005 = nA G 20 ef := (hp3a 1005 (by omega)).trans c_FO
        have c_K : g3 1007 = nA G 20 ek := (hp3a 1007 (by omega)).trans c_K
        have c_F : g3 1009 = nA G 100 (vN fm) := (hp3a 1009 (by omega)).trans c_F
        have c_NN : g3 1023 = nA G 24 nn := (hp3a 1023 (by omega)).trans c_NN
        have c_NF : g3 1024 = nA G 120 (vN nf) := (hp3a 1024 (by omega)).trans c_NF
        have c_Z : g3 1008 = iA G 20 ez := (hp3a 1008 (by omega)).trans c_Z
        have fr : ∀ j : Nat, (j ≠ 1000 ∧ j ≠ 1026 ∧ j ≠ 1027) → g3 j = g j := fun j hj => (hp3a j (by omega)).trans (fr j hj)
        have c_T := hp3T
        have c_P := hp3P
        rw [e_r3]
        have hctt1 := cntT_le t1 (V + 1)
        refine lv_istore (lv' := [(5, .int (nI (cntT t1 (V + 1)))), (4, .int (nI way)), (3, .int (nI iq)), (0, .ref (ad 1000)), (1, .int (nI ei)), (2, .int (nI i))]) hx hb dX6_follows_20 hl (by decide) rfl (fun ls hl => ?_)
        refine lv_aload_n hx hb dX6_follows_22 rfl (lv_at hl 3 rfl) ?_
        refine lv_iload_n hx hb dX6_follows_23 rfl (lv_at hl 4 rfl) ?_
        refine cx_Vv (As := [.int (nI ei)]) (rest := []) ⟨hx, hb, hml, hown, hts⟩ (c_X6_layNotes hD hN1 hN hV1 hV hq (ei := ei) (tb := tb3) (eg := eg) (ng := ng) c_o c_FO c_K c_F c_NN c_NF c_T hei hnc hnn hfn hfr hec hf1 hf3) (cwV 1 hts gX6_follows_X6_layNotes rfl rfl rfl (by decide +kernel) ⟨Nat.le_of_ble_eq_true rfl, Nat.le_of_ble_eq_true rfl⟩) hK hP hS hz (hq _ (by decide)) c_o rfl ⟨Nat.zero_le _, Nat.zero_le _⟩ rfl hl.1 rfl (Nat.le_of_ble_eq_true rfl) dX6_follows_24 (fun g4 H locs hp4 hP hS => ?_)
        obtain ⟨hp4a, z2, tb4, hp4z, hp4o, hp4T, hsp2⟩ := hp4
        have c_FO : g4 1005 = nA G 20 ef := (hp4a 1005 (by omega)).trans c_FO
        have c_K : g4 1007 = nA G 20 ek := (hp4a 1007 (by omega)).trans c_K
        have c_F : g4 1009 = nA G 100 (vN fm) := (hp4a 1009 (by omega)).trans c_F
        have c_NN : g4 1023 = nA G 24 nn := (hp4a 1023 (by omega)).trans c_NN
        have c_NF : g4 1024 = nA G 120 (vN nf) := (hp4a 1024 (by omega)).trans c_NF
        have c_Z : g4 1008 = iA G 20 ez := (hp4a 1008 (by omega)).trans c_Z
        have c_P : g4 1027 = iA G 5 pz1 := (hp4a 1027 (by omega)).trans c_P
        have fr : ∀ j : Nat, (j ≠ 1000 ∧ j ≠ 1026 ∧ j ≠ 1027) → g4 j = g j := fun j hj => (hp4a j (by omega)).trans (fr j hj)
        have c_o := hp4o
        have c_T := hp4T
        refine lv_aload_n hx hb dX6_follows_27 rfl (lv_at hl 3 rfl) ?_
        refine lv_iload_n hx hb dX6_follows_28 rfl (lv_at hl 4 rfl) ?_
        refine lv_iload_n hx hb dX6_follows_29 rfl (lv_at hl 5 rfl) ?_
        refine lv_iload hx hb dX6_follows_30 (lv_at hl 1 rfl) ?_
        refine cx_Vv (As := [.int (nI ei), .int (nI i), .int (nI way)]) (rest := []) ⟨hx, hb, hml, hown, hts⟩ (c_X6_layBefore hD hN1 hN hV1 hV hq (ei := ei) (i := i) (way := way) (tb := tb4) (eg := eg) (ng := ng) c_o c_K c_Z c_F c_NF c_T (by omega) (by omega) h8 (by omega) hf3 hfn hfr hzf hf4) (cwV 3 hts gX6_follows_X6_layBefore rfl rfl rfl (by decide +kernel) ⟨Nat.le_of_ble_eq_true rfl, Nat.le_of_ble_eq_true rfl⟩) hK hP hS hz (hq _ (by decide)) c_o rfl ⟨Nat.zero_le _, Nat.zero_le _⟩ rfl hl.1 rfl (Nat.le_of_ble_eq_true rfl) dX6_follows_32 (fun g5 H locs hp5 hP hS => ?_)
        obtain ⟨hp5a, hp5o, tb5, hp5T, fb, hofb, hfb⟩ := hp5
        have c_FO : g5 1005 = nA G 20 ef := (hp5a 1005 (by omega)).trans c_FO
        have c_K : g5 1007 = nA G 20 ek := (hp5a 1007 (by omega)).trans c_K
        have c_F : g5 1009 = nA G 100 (vN fm) := (hp5a 1009 (by omega)).trans c_F
        have c_NN : g5 1023 = nA G 24 nn := (hp5a 1023 (by omega)).trans c_NN
        have c_NF : g5 1024 = nA G 120 (vN nf) := (hp5a 1024 (by omega)).trans c_NF
        have c_Z : g5 1008 = iA G 20 ez := (hp5a 1008 (by omega)).trans c_Z
        have c_P : g5 1027 = iA G 5 pz1 := (hp5a 1027 (by omega)).trans c_P
        have fr : ∀ j : Nat, (j ≠ 1000 ∧ j ≠ 1026 ∧ j ≠ 1027) → g5 j = g j := fun j hj => (hp5a j (by omega)).trans (fr j hj)
        have c_o := hp5o
        have c_T := hp5T
        refine lv_iload_n hx hb dX6_follows_35 rfl (lv_at hl 2 rfl) ?_
        refine ax_ifeq (a := iq) (tgt := 52) hx hb dX6_follows_36 (by decide) (by omega) (fun h36 => ?_) (fun h36 => ?_)
        · skip
          refine lv_iconst (v := nI 0) hx hb dX6_follows_52 (by decide) ?_
          refine lv_istore_n (lv' := [(3, .int (nI 0)), (5, .int (nI (cntT t1 (V + 1)))), (4, .int (nI way)), (0, .ref (ad 1000)), (1, .int (nI ei)), (2, .int (nI i))]) hx hb dX6_follows_53 rfl hl (by decide) rfl (fun ls hl => ?_)
          refine lv_iinc (v := nI (way + 1)) (lv' := [(4, .int (nI (way + 1))), (3, .int (nI 0)), (5, .int (nI (cntT t1 (V + 1)))), (0, .ref (ad 1000)), (1, .int (nI ei)), (2, .int (nI i))]) hx hb dX6_follows_54 hl (k := 2) rfl (nI_1 _) (by decide) rfl (fun ls hl => ?_)
          refine lv_goto (tgt := 5) hx hb dX6_follows_57 (by decide) ?_
          exact ih5 (way + 1) 0 tb5 pz1 (z2 + 1) (by omega) (Or.inr ⟨rfl, fun z => (hiq.resolve_left (fun q => absurd (q.1.symm.trans h36) (by decide))).2 (fun a ha => z a (by omega))⟩) (by omega) g5 _ _ _ c_o c_FO c_K c_F c_NN c_NF c_Z c_T c_P  fr hP hS (lv_sub hl [0, 1, 3, 4, 5] rfl)
        · skip
          refine lv_aload_n hx hb dX6_follows_39 rfl (lv_at hl 3 rfl) ?_
          refine cx_Vi (As := []) (rest := []) ⟨hx, hb, hml, hown, hts⟩ (c_X6_rank hD hN1 hN hV1 hV hq (tb := tb5) c_o c_T c_P (by omega)) (cwV 0 hts gX6_follows_X6_rank rfl rfl rfl (by decide +kernel) ⟨Nat.le_of_ble_eq_true rfl, Nat.le_of_ble_eq_true rfl⟩) hK hP hS hz (hq _ (by decide)) c_o rfl ⟨Nat.zero_le _, Nat.zero_le _⟩ rfl hl.1 rfl (Nat.le_of_ble_eq_true rfl) dX6_follows_40 (fun r6 g6 H locs hp6 hP hS => ?_)
          obtain ⟨hp6a, tb6, pz2, t2, pv2, hrk2, e_r6, hp6T, hp6P⟩ := hp6
          have c_o : g6 1000 = .inr (6, [.int (nI N), .int (nI V), .int (nI th), .ref (ad 1003), .int (nI ec), .ref (ad 1005), .ref (ad 1006), .ref (ad 1007), .ref (ad 1008), .ref (ad 1009), .int (nI en), .int (if an = true then 1 else 0), .ref (ad 1012), .ref (ad 1013), .ref (ad 1014), .int (nI al), .ref (ad 1016), .ref (ad 1017), .ref (ad 1018), .ref (ad 1019), .int (nI pl), .ref (ad 1021), .int (nI nc), .ref (ad 1023), .ref (ad 1024), .int (nI (z2 + 1)), .ref (ad 1026), .ref (ad 1027), .ref (ad 1028)]) := (hp6a 1000 (by omega)).trans c_o
          have c_FO : g6 1005 = nA G 20 ef := (hp6a 1005 (by omega)).trans c_FO
          have c_K : g6 1007 = nA G 20 ek := (hp6a 1007 (by omega)).trans c_K
          have c_F : g6 1009 = nA G 100 (vN fm) := (hp6a 1009 (by omega)).trans c_F
          have c_NN : g6 1023 = nA G 24 nn := (hp6a 1023 (by omega)).trans c_NN
          have c_NF : g6 1024 = nA G 120 (vN nf) := (hp6a 1024 (by omega)).trans c_NF
          have c_Z : g6 1008 = iA G 20 ez := (hp6a 1008 (by omega)).trans c_Z
          have fr : ∀ j : Nat, (j ≠ 1000 ∧ j ≠ 1026 ∧ j ≠ 1027) → g6 j = g j := fun j hj => (hp6a j (by omega)).trans (fr j hj)
          have c_T := hp6T
          have c_P := hp6P
          rw [e_r6]
          have hctt2 := cntT_le t2 (V + 1)
          refine lv_iload hx hb dX6_follows_43 (lv_at hl 0 rfl) ?_
          refine ax_icne (a := cntT t2 (V + 1)) (b := cntT t1 (V + 1)) (tgt := 52) hx hb dX6_follows_45 (by decide) (by omega) (by omega) (fun h45 => ?_) (fun h45 => ?_)
          · skip
            have hiffr := rk_eq sbF.lin (hrk1.1.ex hsp1) (hrk2.1.ex (hsp2.push sbF.lin hV hofb hfb))
            refine lv_iconst (v := nI 0) hx hb dX6_follows_52 (by decide) ?_
            refine lv_istore_n (lv' := [(3, .int (nI 0)), (5, .int (nI (cntT t1 (V + 1)))), (4, .int (nI way)), (0, .ref (ad 1000)), (1, .int (nI ei)), (2, .int (nI i))]) hx hb dX6_follows_53 rfl hl (by decide) rfl (fun ls hl => ?_)
            refine lv_iinc (v := nI (way + 1)) (lv' := [(4, .int (nI (way + 1))), (3, .int (nI 0)), (5, .int (nI (cntT t1 (V + 1)))), (0, .ref (ad 1000)), (1, .int (nI ei)), (2, .int (nI i))]) hx hb dX6_follows_54 hl (k := 2) rfl (nI_1 _) (by decide) rfl (fun ls hl => ?_)
            refine lv_goto (tgt := 5) hx hb dX6_follows_57 (by decide) ?_
            exact ih5 (way + 1) 0 tb6 pz2 (z2 + 1) (by omega) (Or.inr ⟨rfl, fun z => h45 (hiffr.mpr (z way (by omega)))⟩) (by omega) g6 _ _ _ c_o c_FO c_K c_F c_NN c_NF c_Z c_T c_P  fr hP hS (lv_sub hl [0, 1, 3, 4, 5] rfl)
          · skip
            have hiffr := rk_eq sbF.lin (hrk1.1.ex hsp1) (hrk2.1.ex (hsp2.push sbF.lin hV hofb hfb))
            refine lv_iconst (v := nI 1) hx hb dX6_follows_48 (by decide) ?_
            refine lv_goto (tgt := 53) hx hb dX6_follows_49 (by decide) ?_
            refine lv_istore_n (lv' := [(3, .int (nI 1)), (5, .int (nI (cntT t1 (V + 1)))), (4, .int (nI way)), (0, .ref (ad 1000)), (1, .int (nI ei)), (2, .int (nI i))]) hx hb dX6_follows_53 rfl hl (by decide) rfl (fun ls hl => ?_)
            refine lv_iinc (v := nI (way + 1)) (lv' := [(4, .int (nI (way + 1))), (3, .int (nI 1)), (5, .int (nI (cntT t1 (V + 1)))), (0, .ref (ad 1000)), (1, .int (nI ei)), (2, .int (nI i))]) hx hb dX6_follows_54 hl (k := 2) rfl (nI_1 _) (by decide) rfl (fun ls hl => ?_)
            refine lv_goto (tgt := 5) hx hb dX6_follows_57 (by decide) ?_
            exact ih5 (way + 1) 1 tb6 pz2 (z2 + 1) (by omega) (Or.inl ⟨rfl, fun a ha => by by_cases e9 : a = way; exact (by rw [e9]; exact hiffr.mp h45); exact (hiq.resolve_right (fun z => h36 z.1)).2 a (by omega)⟩) (by omega) g6 _ _ _ c_o c_FO c_K c_F c_NN c_NF c_Z c_T c_P  fr hP hS (lv_sub hl [0, 1, 3, 4, 5] rfl)
  exact LP5 ((2 - 0) + 1) 0 1 tb pz0 sz (Nat.zero_le _) (Or.inl ⟨rfl, fun a ha => absurd ha (Nat.not_lt_zero a)⟩) (Nat.lt_succ_self _) g _ _ _ c_o c_FO c_K c_F c_NN c_NF c_Z c_T c_P  fr hP hS (lv_sub hl [0, 1, 2, 3, 4] rfl)

set_option maxRecDepth 20000 in
theorem wd_X6_sound_0 : Cond.fieldLink RX6 74 "AffineHullsModel" "thrown" "I" ∈ wsX6_sound := by decide +kernel
set_option maxRecDepth 20000 in
theorem in_X6_sound_X6 : ∀ w ∈ u_ws RX6 TX6 29, w ∈ wsX6_sound := by decide +kernel
set_option maxRecDepth 20000 in
theorem wd_X6_sound_2 : Cond.fieldLink RX6 151 "AffineHullsModel" "notes" "I" ∈ wsX6_sound := by decide +kernel
set_option maxRecDepth 20000 in
theorem wd_X6_sound_3 : Cond.fieldLink RX6 52 "AffineHullsModel" "noteNode" "[I" ∈ wsX6_sound := by decide +kernel
set_option maxRecDepth 20000 in
theorem wd_X6_sound_4 : Cond.fieldLink RX6 113 "AffineHullsModel" "entry" "I" ∈ wsX6_sound := by decide +kernel
set_option maxRecDepth 20000 in
theorem wd_X6_sound_5 : Cond.fieldLink RX6 103 "AffineHullsModel" "edges" "I" ∈ wsX6_sound := by decide +kernel
set_option maxRecDepth 20000 in
theorem wd_X6_sound_6 : Cond.fieldLink RX6 16 "AffineHullsModel" "tos" "[I" ∈ wsX6_sound := by decide +kernel
abbrev rm_X6_sound : Room := { frames := 4, cells := 0, slots := 0, locals := 104 }
set_option maxHeartbeats 4000000 in
set_option maxRecDepth 100000 in
theorem c_X6_sound {l : Launch} {G : cx_G} {L : List Nat} {ad : Nat → Nat} {g : Nat → va_E} (hD : cx_D L ad) {N V th ec en al pl nc sz : Nat} {an : Bool} {tb : Nat → FF} {pz0 : Nat → Int32} {ef et ek ev : Nat → Nat} {ez : Nat → Int32} {eg ng : Nat → Nat → FF} {fm nf : Nat → FF} {nn : Nat → Nat} (hN1 : 1 ≤ N) (hN : N ≤ 8) (hV1 : 1 ≤ V) (hV : V ≤ 4) (hq : ∀ j : Nat, lbM j = true → j ∈ L) (c_o : g 1000 = .inr (6, [.int (nI N), .int (nI V), .int (nI th), .ref (ad 1003), .int (nI ec), .ref (ad 1005), .ref (ad 1006), .ref (ad 1007), .ref (ad 1008), .ref (ad 1009), .int (nI en), .int (if an = true then 1 else 0), .ref (ad 1012), .ref (ad 1013), .ref (ad 1014), .int (nI al), .ref (ad 1016), .ref (ad 1017), .ref (ad 1018), .ref (ad 1019), .int (nI pl), .ref (ad 1021), .int (nI nc), .ref (ad 1023), .ref (ad 1024), .int (nI sz), .ref (ad 1026), .ref (ad 1027), .ref (ad 1028)])) (c_FO : g 1005 = nA G 20 ef) (c_K : g 1007 = nA G 20 ek) (c_F : g 1009 = nA G 100 (vN fm)) (c_NN : g 1023 = nA G 24 nn) (c_NF : g 1024 = nA G 120 (vN nf)) (c_Z : g 1008 = iA G 20 ez) (c_TO : g 1006 = nA G 20 et) (c_T : g 1026 = nA G 150 (vN tb)) (c_P : g 1027 = iA G 5 pz0) (hen : en < N) (hnc : nc ≤ 24) (hnn : ∀ i : Nat, i < nc → nn i < N) (hfn : FR nf ng) (hfr : FR fm eg) (hev : EV N V ec ef et ek ez ev eg) : MI l yX6_sound wsX6_sound rm_X6_sound G L ad g [.ref (ad 1000)] (fun r u => (∀ j : Nat, (j ≠ 1000 ∧ j ≠ 1026 ∧ j ≠ 1027) → u j = g j) ∧ tr r (soundP (V + 1) nc en ec nn ng ef et ek ev eg) ∧ (∃ sz2 : Nat, u 1000 = .inr (6, [.int (nI N), .int (nI V), .int (nI 0), .ref (ad 1003), .int (nI ec), .ref (ad 1005), .ref (ad 1006), .ref (ad 1007), .ref (ad 1008), .ref (ad 1009), .int (nI en), .int (if an = true then 1 else 0), .ref (ad 1012), .ref (ad 1013), .ref (ad 1014), .int (nI al), .ref (ad 1016), .ref (ad 1017), .ref (ad 1018), .ref (ad 1019), .int (nI pl), .ref (ad 1021), .int (nI nc), .ref (ad 1023), .ref (ad 1024), .int (nI sz2), .ref (ad 1026), .ref (ad 1027), .ref (ad 1028)])) ∧ (∃ (tb2 : Nat → FF) (pz2 : Nat → Int32), u 1026 = nA G 150 (vN tb2) ∧ u 1027 = iA G 5 pz2)) := by
  refine cx_ofI (cc := cX6_sound) (maxL := 4) (by decide +kernel) rfl (Nat.le_of_ble_eq_true rfl) ?_
  intro p e s m args below meth c Q hx hb hts hown hml hP hK hS hz hret ls hl
  have hown : s.vm.findClass RX6 = some m.cls := hown
  have hl : lv_has ls 4 [(0, .ref (ad 1000))] := hl
  have fr : ∀ j : Nat, (j ≠ 1000 ∧ j ≠ 1026 ∧ j ≠ 1027) → g j = g j := fun _ _ => rfl
  have hec := hev.1
  refine lv_aload_n hx hb dX6_sound_0 rfl (lv_at hl 0 rfl) ?_
  refine lv_iconst (v := nI 0) hx hb dX6_sound_1 (by decide) ?_
  refine ax_put (k := 1000) (v := .int (nI 0)) (fs' := [.int (nI N), .int (nI V), .int (nI 0), .ref (ad 1003), .int (nI ec), .ref (ad 1005), .ref (ad 1006), .ref (ad 1007), .ref (ad 1008), .ref (ad 1009), .int (nI en), .int (if an = true then 1 else 0), .ref (ad 1012), .ref (ad 1013), .ref (ad 1014), .int (nI al), .ref (ad 1016), .ref (ad 1017), .ref (ad 1018), .ref (ad 1019), .int (nI pl), .ref (ad 1021), .int (nI nc), .ref (ad 1023), .ref (ad 1024), .int (nI sz), .ref (ad 1026), .ref (ad 1027), .ref (ad 1028)]) hx hb hts in_X6_sound_X6 tyX6 tyX6_ok nmX6 hown hK hP hD hS (hq _ (by decide)) c_o rfl 2 (by decide) (hts _ wd_X6_sound_0) (fun _ h9 => h9) rfl (ty := .int) (by decide +kernel) rfl rfl (Nat.le_of_ble_eq_true rfl) rfl dX6_sound_2 (fun H locs g1 eg1 hP hS => ?_)
  have c_FO : g1 1005 = nA G 20 ef := (cx_ne eg1 1005 (by omega)).trans c_FO
  have c_K : g1 1007 = nA G 20 ek := (cx_ne eg1 1007 (by omega)).trans c_K
  have c_F : g1 1009 = nA G 100 (vN fm) := (cx_ne eg1 1009 (by omega)).trans c_F
  have c_NN : g1 1023 = nA G 24 nn := (cx_ne eg1 1023 (by omega)).trans c_NN
  have c_NF : g1 1024 = nA G 120 (vN nf) := (cx_ne eg1 1024 (by omega)).trans c_NF
  have c_Z : g1 1008 = iA G 20 ez := (cx_ne eg1 1008 (by omega)).trans c_Z
  have c_TO : g1 1006 = nA G 20 et := (cx_ne eg1 1006 (by omega)).trans c_TO
  have c_T : g1 1026 = nA G 150 (vN tb) := (cx_ne eg1 1026 (by omega)).trans c_T
  have c_P : g1 1027 = iA G 5 pz0 := (cx_ne eg1 1027 (by omega)).trans c_P
  have c_o : g1 1000 = .inr (6, [.int (nI N), .int (nI V), .int (nI 0), .ref (ad 1003), .int (nI ec), .ref (ad 1005), .ref (ad 1006), .ref (ad 1007), .ref (ad 1008), .ref (ad 1009), .int (nI en), .int (if an = true then 1 else 0), .ref (ad 1012), .ref (ad 1013), .ref (ad 1014), .int (nI al), .ref (ad 1016), .ref (ad 1017), .ref (ad 1018), .ref (ad 1019), .int (nI pl), .ref (ad 1021), .int (nI nc), .ref (ad 1023), .ref (ad 1024), .int (nI sz), .ref (ad 1026), .ref (ad 1027), .ref (ad 1028)]) := cx_eq eg1
  have fr : ∀ j : Nat, (j ≠ 1000 ∧ j ≠ 1026 ∧ j ≠ 1027) → g1 j = g j := fun j hj => (cx_ne eg1 j (by omega)).trans (fr j hj)
  refine lv_iconst (v := nI 1) hx hb dX6_sound_5 (by decide) ?_
  refine lv_istore_n (lv' := [(1, .int (nI 1)), (0, .ref (ad 1000))]) hx hb dX6_sound_6 rfl hl (by decide) rfl (fun ls hl => ?_)
  refine lv_iconst (v := nI 0) hx hb dX6_sound_7 (by decide) ?_
  refine lv_istore_n (lv' := [(2, .int (nI 0)), (1, .int (nI 1)), (0, .ref (ad 1000))]) hx hb dX6_sound_8 rfl hl (by decide) rfl (fun ls hl => ?_)
  have LP9 : ∀ (fu : Nat) (i : Nat) (iq : Nat) (tbx : Nat → FF) (pzx : Nat → Int32) (szx : Nat), (i ≤ nc) → ((iq = 1 ∧ ∀ a : Nat, a < i → okN V nc en ec nn ng ef et ek ev eg a ec) ∨ (iq = 0 ∧ ¬ ∀ a : Nat, a < nc → okN V nc en ec nn ng ef et ek ev eg a ec)) → (nc - i) < fu → ∀ (ga2 : Nat → va_E) (H : Heap) (locs : List Loc) (ls : Array Slot), (ga2 1000 = .inr (6, [.int (nI N), .int (nI V), .int (nI 0), .ref (ad 1003), .int (nI ec), .ref (ad 1005), .ref (ad 1006), .ref (ad 1007), .ref (ad 1008), .ref (ad 1009), .int (nI en), .int (if an = true then 1 else 0), .ref (ad 1012), .ref (ad 1013), .ref (ad 1014), .int (nI al), .ref (ad 1016), .ref (ad 1017), .ref (ad 1018), .ref (ad 1019), .int (nI pl), .ref (ad 1021), .int (nI nc), .ref (ad 1023), .ref (ad 1024), .int (nI szx), .ref (ad 1026), .ref (ad 1027), .ref (ad 1028)])) → (ga2 1005 = nA G 20 ef) → (ga2 1007 = nA G 20 ek) → (ga2 1009 = nA G 100 (vN fm)) → (ga2 1023 = nA G 24 nn) → (ga2 1024 = nA G 120 (vN nf)) → (ga2 1008 = iA G 20 ez) → (ga2 1006 = nA G 20 et) → (ga2 1026 = nA G 150 (vN tbx)) → (ga2 1027 = iA G 5 pzx) → (∀ j : Nat, (j ≠ 1000 ∧ j ≠ 1026 ∧ j ≠ 1027) → ga2 j = g j) → va_P G.1 vwCl (wl L ad ga2) H → va_S (cx_A L ad s.heap.size) s.heap H locs → lv_has ls 4 [(2, .int (nI i)), (1, .int (nI iq)), (0, .ref (ad 1000))] → W p l e rm_X6_sound s m args below meth c H locs 0 0 Q (F0 m 9 ls []) := by
    intro fu
    induction fu with
    | zero => intro i iq tbx pzx szx hin hiq hfu; exact absurd hfu (Nat.not_lt_zero _)
    | succ fu ih9 =>
      intro i iq tbx pzx szx hin hiq hfu9 ga2 H locs ls c_o c_FO c_K c_F c_NN c_NF c_Z c_TO c_T c_P fr hP hS hl
      have hiq01 : iq = 0 ∨ iq = 1 := hiq.elim (fun z => Or.inr z.1) (fun z => Or.inl z.1)
      refine lv_iload_n hx hb dX6_sound_9 rfl (lv_at hl 0 rfl) ?_
      refine lv_aload_n hx hb dX6_sound_10 rfl (lv_at hl 2 rfl) ?_
      refine ax_get (k := 1000) (v := .int (nI nc)) hx hb hts in_X6_sound_X6 hown hK hP (hq _ (by decide)) c_o rfl 22 (by decide) (hts _ wd_X6_sound_2) (fun _ h9 => h9) rfl dX6_sound_11 ?_
      refine ax_icge (a := i) (b := nc) (tgt := 96) hx hb dX6_sound_14 (by decide) (by omega) (by omega) (fun h14 => ?_) (fun h14 => ?_)
      · skip
        refine lv_iload_n hx hb dX6_sound_96 rfl (lv_at hl 1 rfl) ?_
        exact hret (nI iq) ga2 _ _ _ _ (nr01 hiq01) ⟨fr, (by have e2 : i = nc := (by omega); rw [e2] at hiq; exact hiq.elim (fun z => Or.inl ⟨by rw [z.1], okN_iff.mp z.2⟩) (fun z => Or.inr ⟨by rw [z.1], fun y => z.2 (okN_iff.mpr y)⟩)), ⟨_, c_o⟩, _, _, c_T, c_P⟩ hP hS dX6_sound_97
      · skip
        refine lv_iload_n hx hb dX6_sound_17 rfl (lv_at hl 1 rfl) ?_
        refine ax_ifeq (a := iq) (tgt := 96) hx hb dX6_sound_18 (by decide) (by omega) (fun h18 => ?_) (fun h18 => ?_)
        · skip
          refine lv_iload_n hx hb dX6_sound_96 rfl (lv_at hl 1 rfl) ?_
          exact hret (nI iq) ga2 _ _ _ _ (nr01 hiq01) ⟨fr, hiq.elim (fun z => absurd (z.1.symm.trans h18) (by decide)) (fun z => Or.inr ⟨by rw [z.1], fun y => z.2 (okN_iff.mpr y)⟩), ⟨_, c_o⟩, _, _, c_T, c_P⟩ hP hS dX6_sound_97
        · skip
          have hni9 := hnn i h14
          refine lv_aload_n hx hb dX6_sound_21 rfl (lv_at hl 2 rfl) ?_
          refine ax_get (k := 1000) (v := .ref (ad 1023)) hx hb hts in_X6_sound_X6 hown hK hP (hq _ (by decide)) c_o rfl 23 (by decide) (hts _ wd_X6_sound_3) (fun _ h9 => h9) rfl dX6_sound_22 ?_
          refine lv_iload_n hx hb dX6_sound_25 rfl (lv_at hl 0 rfl) ?_
          refine ax_iald (k := 1023) (i := i) (v := nI (nn i)) hx hb hK hP (hq _ (by decide)) c_NN (by omega) (by omega) rfl dX6_sound_26 ?_
          refine lv_aload_n hx hb dX6_sound_27 rfl (lv_at hl 2 rfl) ?_
          refine ax_get (k := 1000) (v := .int (nI en)) hx hb hts in_X6_sound_X6 hown hK hP (hq _ (by decide)) c_o rfl 10 (by decide) (hts _ wd_X6_sound_4) (fun _ h9 => h9) rfl dX6_sound_28 ?_
          refine ax_iceq (a := nn i) (b := en) (tgt := 38) hx hb dX6_sound_31 (by decide) (by omega) (by omega) (fun h31 => ?_) (fun h31 => ?_)
          · skip
            refine lv_iconst (v := nI 0) hx hb dX6_sound_38 (by decide) ?_
            refine lv_istore_n (lv' := [(1, .int (nI 0)), (2, .int (nI i)), (0, .ref (ad 1000))]) hx hb dX6_sound_39 rfl hl (by decide) rfl (fun ls hl => ?_)
            refine lv_iconst (v := nI 0) hx hb dX6_sound_40 (by decide) ?_
            refine lv_istore_n (lv' := [(3, .int (nI 0)), (1, .int (nI 0)), (2, .int (nI i)), (0, .ref (ad 1000))]) hx hb dX6_sound_41 rfl hl (by decide) rfl (fun ls hl => ?_)
            have LP42 : ∀ (fu : Nat) (ei : Nat) (jq : Nat) (tby : Nat → FF) (pzy : Nat → Int32) (szy : Nat), (ei ≤ ec) → ((jq = 1 ∧ okN V nc en ec nn ng ef et ek ev eg i ei) ∨ (jq = 0 ∧ ¬ okN V nc en ec nn ng ef et ek ev eg i ec)) → (ec - ei) < fu → ∀ (ga3 : Nat → va_E) (H : Heap) (locs : List Loc) (ls : Array Slot), (ga3 1000 = .inr (6, [.int (nI N), .int (nI V), .int (nI 0), .ref (ad 1003), .int (nI ec), .ref (ad 1005), .ref (ad 1006), .ref (ad 1007), .ref (ad 1008), .ref (ad 1009), .int (nI en), .int (if an = true then 1 else 0), .ref (ad 1012), .ref (ad 1013), .ref (ad 1014), .int (nI al), .ref (ad 1016), .ref (ad 1017), .ref (ad 1018), .ref (ad 1019), .int (nI pl), .ref (ad 1021), .int (nI nc), .ref (ad 1023), .ref (ad 1024), .int (nI szy), .ref (ad 1026), .ref (ad 1027), .ref (ad 1028)])) → (ga3 1005 = nA G 20 ef) → (ga3 1007 = nA G 20 ek) → (ga3 1009 = nA G 100 (vN fm)) → (ga3 1023 = nA G 24 nn) → (ga3 1024 = nA G 120 (vN nf)) → (ga3 1008 = iA G 20 ez) → (ga3 1006 = nA G 20 et) → (ga3 1026 = nA G 150 (vN tby)) → (ga3 1027 = iA G 5 pzy) → (∀ j : Nat, (j ≠ 1000 ∧ j ≠ 1026 ∧ j ≠ 1027) → ga3 j = g j) → va_P G.1 vwCl (wl L ad ga3) H → va_S (cx_A L ad s.heap.size) s.heap H locs → lv_has ls 4 [(3, .int (nI ei)), (2, .int (nI i)), (1, .int (nI jq)), (0, .ref (ad 1000))] → W p l e rm_X6_sound s m args below meth c H locs 0 0 Q (F0 m 42 ls []) := by
              intro fu
              induction fu with
              | zero => intro ei jq tby pzy szy hen2 hjq hfu; exact absurd hfu (Nat.not_lt_zero _)
              | succ fu ih42 =>
                intro ei jq tby pzy szy hen2 hjq hfu42 ga3 H locs ls c_o c_FO c_K c_F c_NN c_NF c_Z c_TO c_T c_P fr hP hS hl
                have hjq01 : jq = 0 ∨ jq = 1 := hjq.elim (fun z => Or.inr z.1) (fun z => Or.inl z.1)
                refine lv_iload_n hx hb dX6_sound_42 rfl (lv_at hl 0 rfl) ?_
                refine lv_aload_n hx hb dX6_sound_43 rfl (lv_at hl 3 rfl) ?_
                refine ax_get (k := 1000) (v := .int (nI ec)) hx hb hts in_X6_sound_X6 hown hK hP (hq _ (by decide)) c_o rfl 4 (by decide) (hts _ wd_X6_sound_5) (fun _ h9 => h9) rfl dX6_sound_44 ?_
                refine ax_icge (a := ei) (b := ec) (tgt := 90) hx hb dX6_sound_47 (by decide) (by omega) (by omega) (fun h47 => ?_) (fun h47 => ?_)
                · skip
                  refine lv_iinc (v := nI (i + 1)) (lv' := [(2, .int (nI (i + 1))), (3, .int (nI ei)), (1, .int (nI jq)), (0, .ref (ad 1000))]) hx hb dX6_sound_90 hl (k := 1) rfl (nI_1 _) (by decide) rfl (fun ls hl => ?_)
                  refine lv_goto (tgt := 9) hx hb dX6_sound_93 (by decide) ?_
                  exact ih9 (i + 1) jq tby pzy szy h14 (hjq.elim (fun z => Or.inl ⟨z.1, fun a ha => by by_cases e9 : a = i; exact (by rw [e9]; have e8 : ei = ec := (by omega); rw [← e8]; exact z.2); exact (hiq.resolve_right (fun z => h18 z.1)).2 a (by omega)⟩) (fun z => Or.inr ⟨z.1, fun y => z.2 (y i h14)⟩)) (by omega) ga3 _ _ _ c_o c_FO c_K c_F c_NN c_NF c_Z c_TO c_T c_P  fr hP hS (lv_sub hl [0, 2, 3] rfl)
                · skip
                  refine lv_iload_n hx hb dX6_sound_50 rfl (lv_at hl 2 rfl) ?_
                  refine ax_ifeq (a := jq) (tgt := 90) hx hb dX6_sound_51 (by decide) (by omega) (fun h51 => ?_) (fun h51 => ?_)
                  · skip
                    refine lv_iinc (v := nI (i + 1)) (lv' := [(2, .int (nI (i + 1))), (3, .int (nI ei)), (1, .int (nI jq)), (0, .ref (ad 1000))]) hx hb dX6_sound_90 hl (k := 1) rfl (nI_1 _) (by decide) rfl (fun ls hl => ?_)
                    refine lv_goto (tgt := 9) hx hb dX6_sound_93 (by decide) ?_
                    exact ih9 (i + 1) jq tby pzy szy h14 (hjq.elim (fun z => absurd (z.1.symm.trans h51) (by decide)) (fun z => Or.inr ⟨z.1, fun y => z.2 (y i h14)⟩)) (by omega) ga3 _ _ _ c_o c_FO c_K c_F c_NN c_NF c_Z c_TO c_T c_P  fr hP hS (lv_sub hl [0, 2, 3] rfl)
                  · skip
                    obtain ⟨hf1, hf2, hf3, hf4⟩ := hev.2.1 ei h47
                    have hni := hnn i h14
                    refine lv_aload_n hx hb dX6_sound_54 rfl (lv_at hl 3 rfl) ?_
                    refine ax_get (k := 1000) (v := .ref (ad 1006)) hx hb hts in_X6_sound_X6 hown hK hP (hq _ (by decide)) c_o rfl 6 (by decide) (hts _ wd_X6_sound_6) (fun _ h9 => h9) rfl dX6_sound_55 ?_
                    refine lv_iload_n hx hb dX6_sound_58 rfl (lv_at hl 0 rfl) ?_
                    refine ax_iald (k := 1006) (i := ei) (v := nI (et ei)) hx hb hK hP (hq _ (by decide)) c_TO (by omega) (by omega) rfl dX6_sound_59 ?_
                    refine lv_aload_n hx hb dX6_sound_60 rfl (lv_at hl 3 rfl) ?_
                    refine ax_get (k := 1000) (v := .ref (ad 1023)) hx hb hts in_X6_sound_X6 hown hK hP (hq _ (by decide)) c_o rfl 23 (by decide) (hts _ wd_X6_sound_3) (fun _ h9 => h9) rfl dX6_sound_61 ?_
                    refine lv_iload_n hx hb dX6_sound_64 rfl (lv_at hl 1 rfl) ?_
                    refine ax_iald (k := 1023) (i := i) (v := nI (nn i)) hx hb hK hP (hq _ (by decide)) c_NN (by omega) (by omega) rfl dX6_sound_65 ?_
                    refine ax_icne (a := et ei) (b := nn i) (tgt := 78) hx hb dX6_sound_66 (by decide) (by omega) (by omega) (fun h66 => ?_) (fun h66 => ?_)
                    · skip
                      refine lv_iconst (v := nI 1) hx hb dX6_sound_78 (by decide) ?_
                      refine lv_goto (tgt := 83) hx hb dX6_sound_79 (by decide) ?_
                      refine lv_istore_n (lv' := [(1, .int (nI 1)), (3, .int (nI ei)), (2, .int (nI i)), (0, .ref (ad 1000))]) hx hb dX6_sound_83 rfl hl (by decide) rfl (fun ls hl => ?_)
                      refine lv_iinc (v := nI (ei + 1)) (lv' := [(3, .int (nI (ei + 1))), (1, .int (nI 1)), (2, .int (nI i)), (0, .ref (ad 1000))]) hx hb dX6_sound_84 hl (k := 1) rfl (nI_1 _) (by decide) rfl (fun ls hl => ?_)
                      refine lv_goto (tgt := 42) hx hb dX6_sound_87 (by decide) ?_
                      exact ih42 (ei + 1) 1 tby pzy szy h47 (Or.inl ⟨rfl, (hjq.resolve_right (fun z => h51 z.1)).2.1, fun b hb ht => by by_cases e9 : b = ei; exact absurd (by rw [← e9]; exact ht) h66; exact (hjq.resolve_right (fun z => h51 z.1)).2.2 b (by omega) ht⟩) (by omega) ga3 _ _ _ c_o c_FO c_K c_F c_NN c_NF c_Z c_TO c_T c_P  fr hP hS (lv_sub hl [0, 2, 1, 3] rfl)
                    · skip
                      refine lv_aload_n hx hb dX6_sound_69 rfl (lv_at hl 3 rfl) ?_
                      refine lv_iload_n hx hb dX6_sound_70 rfl (lv_at hl 0 rfl) ?_
                      refine lv_iload_n hx hb dX6_sound_71 rfl (lv_at hl 1 rfl) ?_
                      refine cx_Vi (As := [.int (nI ei), .int (nI i)]) (rest := []) ⟨hx, hb, hml, hown, hts⟩ (c_X6_follows hD hN1 hN hV1 hV hq (ei := ei) (i := i) (tb := tby) (eg := eg) (ng := ng) (ev := ev) c_o c_FO c_K c_F c_NN c_NF c_Z c_T c_P h47 hec (by omega) hnc hnn hfn hfr (hev.2.2 ei) hf1 hf3 hf4) (cwV 2 hts gX6_sound_X6_follows rfl rfl rfl (by decide +kernel) ⟨Nat.le_of_ble_eq_true rfl, Nat.le_of_ble_eq_true rfl⟩) hK hP hS hz (hq _ (by decide)) c_o rfl ⟨Nat.zero_le _, Nat.zero_le _⟩ rfl hl.1 rfl (Nat.le_of_ble_eq_true rfl) dX6_sound_72 (fun r4 g4 H locs hp4 hP hS => ?_)
                      obtain ⟨hp4a, htr, ⟨szz, hp4o⟩, tbz, pzz, hp4T, hp4P⟩ := hp4
                      have c_FO : g4 1005 = nA G 20 ef := (hp4a 1005 (by omega)).trans c_FO
                      have c_K : g4 1007 = nA G 20 ek := (hp4a 1007 (by omega)).trans c_K
                      have c_F : g4 1009 = nA G 100 (vN fm) := (hp4a 1009 (by omega)).trans c_F
                      have c_NN : g4 1023 = nA G 24 nn := (hp4a 1023 (by omega)).trans c_NN
                      have c_NF : g4 1024 = nA G 120 (vN nf) := (hp4a 1024 (by omega)).trans c_NF
                      have c_Z : g4 1008 = iA G 20 ez := (hp4a 1008 (by omega)).trans c_Z
                      have c_TO : g4 1006 = nA G 20 et := (hp4a 1006 (by omega)).trans c_TO
                      have fr : ∀ j : Nat, (j ≠ 1000 ∧ j ≠ 1026 ∧ j ≠ 1027) → g4 j = g j := fun j hj => (hp4a j (by omega)).trans (fr j hj)
                      have c_o := hp4o
                      have c_T := hp4T
                      have c_P := hp4P
                      refine lv_if_eq (x := r4) (tgt := 82) hx hb dX6_sound_75 (by decide) (fun h75 => ?_) (fun h75 => ?_)
                      · skip
                        refine lv_iconst (v := nI 0) hx hb dX6_sound_82 (by decide) ?_
                        refine lv_istore_n (lv' := [(1, .int (nI 0)), (3, .int (nI ei)), (2, .int (nI i)), (0, .ref (ad 1000))]) hx hb dX6_sound_83 rfl hl (by decide) rfl (fun ls hl => ?_)
                        refine lv_iinc (v := nI (ei + 1)) (lv' := [(3, .int (nI (ei + 1))), (1, .int (nI 0)), (2, .int (nI i)), (0, .ref (ad 1000))]) hx hb dX6_sound_84 hl (k := 1) rfl (nI_1 _) (by decide) rfl (fun ls hl => ?_)
                        refine lv_goto (tgt := 42) hx hb dX6_sound_87 (by decide) ?_
                        exact ih42 (ei + 1) 0 tbz pzz szz h47 (Or.inr ⟨rfl, fun z => tr_f htr h75 (z.2 ei h47 h66)⟩) (by omega) g4 _ _ _ c_o c_FO c_K c_F c_NN c_NF c_Z c_TO c_T c_P  fr hP hS (lv_sub hl [0, 2, 1, 3] rfl)
                      · skip
                        refine lv_iconst (v := nI 1) hx hb dX6_sound_78 (by decide) ?_
                        refine lv_goto (tgt := 83) hx hb dX6_sound_79 (by decide) ?_
                        refine lv_istore_n (lv' := [(1, .int (nI 1)), (3, .int (nI ei)), (2, .int (nI i)), (0, .ref (ad 1000))]) hx hb dX6_sound_83 rfl hl (by decide) rfl (fun ls hl => ?_)
                        refine lv_iinc (v := nI (ei + 1)) (lv' := [(3, .int (nI (ei + 1))), (1, .int (nI 1)), (2, .int (nI i)), (0, .ref (ad 1000))]) hx hb dX6_sound_84 hl (k := 1) rfl (nI_1 _) (by decide) rfl (fun ls hl => ?_)
                        refine lv_goto (tgt := 42) hx hb dX6_sound_87 (by decide) ?_
                        exact ih42 (ei + 1) 1 tbz pzz szz h47 (Or.inl ⟨rfl, (hjq.resolve_right (fun z => h51 z.1)).2.1, fun b hb ht => by by_cases e9 : b = ei; exact (by rw [e9]; exact tr_t htr h75); exact (hjq.resolve_right (fun z => h51 z.1)).2.2 b (by omega) ht⟩) (by omega) g4 _ _ _ c_o c_FO c_K c_F c_NN c_NF c_Z c_TO c_T c_P  fr hP hS (lv_sub hl [0, 2, 1, 3] rfl)
            exact LP42 ((ec - 0) + 1) 0 0 tbx pzx szx (Nat.zero_le _) (Or.inr ⟨rfl, fun z => z.1 h31⟩) (Nat.lt_succ_self _) ga2 _ _ _ c_o c_FO c_K c_F c_NN c_NF c_Z c_TO c_T c_P  fr hP hS (lv_sub hl [0, 2, 1, 3] rfl)
          · skip
            refine lv_iconst (v := nI 1) hx hb dX6_sound_34 (by decide) ?_
            refine lv_goto (tgt := 39) hx hb dX6_sound_35 (by decide) ?_
            refine lv_istore_n (lv' := [(1, .int (nI 1)), (2, .int (nI i)), (0, .ref (ad 1000))]) hx hb dX6_sound_39 rfl hl (by decide) rfl (fun ls hl => ?_)
            refine lv_iconst (v := nI 0) hx hb dX6_sound_40 (by decide) ?_
            refine lv_istore_n (lv' := [(3, .int (nI 0)), (1, .int (nI 1)), (2, .int (nI i)), (0, .ref (ad 1000))]) hx hb dX6_sound_41 rfl hl (by decide) rfl (fun ls hl => ?_)
            have LP42 : ∀ (fu : Nat) (ei : Nat) (jq : Nat) (tby : Nat → FF) (pzy : Nat → Int32) (szy : Nat), (ei ≤ ec) → ((jq = 1 ∧ okN V nc en ec nn ng ef et ek ev eg i ei) ∨ (jq = 0 ∧ ¬ okN V nc en ec nn ng ef et ek ev eg i ec)) → (ec - ei) < fu → ∀ (ga5 : Nat → va_E) (H : Heap) (locs : List Loc) (ls : Array Slot), (ga5 1000 = .inr (6, [.int (nI N), .int (nI V), .int (nI 0), .ref (ad 1003), .int (nI ec), .ref (ad 1005), .ref (ad 1006), .ref (ad 1007), .ref (ad 1008), .ref (ad 1009), .int (nI en), .int (if an = true then 1 else 0), .ref (ad 1012), .ref (ad 1013), .ref (ad 1014), .int (nI al), .ref (ad 1016), .ref (ad 1017), .ref (ad 1018), .ref (ad 1019), .int (nI pl), .ref (ad 1021), .int (nI nc), .ref (ad 1023), .ref (ad 1024), .int (nI szy), .ref (ad 1026), .ref (ad 1027), .ref (ad 1028)])) → (ga5 1005 = nA G 20 ef) → (ga5 1007 = nA G 20 ek) → (ga5 1009 = nA G 100 (vN fm)) → (ga5 1023 = nA G 24 nn) → (ga5 1024 = nA G 120 (vN nf)) → (ga5 1008 = iA G 20 ez) → (ga5 1006 = nA G 20 et) → (ga5 1026 = nA G 150 (vN tby)) → (ga5 1027 = iA G 5 pzy) → (∀ j : Nat, (j ≠ 1000 ∧ j ≠ 1026 ∧ j ≠ 1027) → ga5 j = g j) → va_P G.1 vwCl (wl L ad ga5) H → va_S (cx_A L ad s.heap.size) s.heap H locs → lv_has ls 4 [(3, .int (nI ei)), (2, .int (nI i)), (1, .int (nI jq)), (0, .ref (ad 1000))] → W p l e rm_X6_sound s m args below meth c H locs 0 0 Q (F0 m 42 ls []) := by
              intro fu
              induction fu with
              | zero => intro ei jq tby pzy szy hen2 hjq hfu; exact absurd hfu (Nat.not_lt_zero _)
              | succ fu ih42 =>
                intro ei jq tby pzy szy hen2 hjq hfu42 ga5 H locs ls c_o c_FO c_K c_F c_NN c_NF c_Z c_TO c_T c_P fr hP hS hl
                have hjq01 : jq = 0 ∨ jq = 1 := hjq.elim (fun z => Or.inr z.1) (fun z => Or.inl z.1)
                refine lv_iload_n hx hb dX6_sound_42 rfl (lv_at hl 0 rfl) ?_
                refine lv_aload_n hx hb dX6_sound_43 rfl (lv_at hl 3 rfl) ?_
                refine ax_get (k := 1000) (v := .int (nI ec)) hx hb hts in_X6_sound_X6 hown hK hP (hq _ (by decide)) c_o rfl 4 (by decide) (hts _ wd_X6_sound_5) (fun _ h9 => h9) rfl dX6_sound_44 ?_
                refine ax_icge (a := ei) (b := ec) (tgt := 90) hx hb dX6_sound_47 (by decide) (by omega) (by omega) (fun h47 => ?_) (fun h47 => ?_)
                · skip
                  refine lv_iinc (v := nI (i + 1)) (lv' := [(2, .int (nI (i + 1))), (3, .int (nI ei)), (1, .int (nI jq)), (0, .ref (ad 1000))]) hx hb dX6_sound_90 hl (k := 1) rfl (nI_1 _) (by decide) rfl (fun ls hl => ?_)
                  refine lv_goto (tgt := 9) hx hb dX6_sound_93 (by decide) ?_
                  exact ih9 (i + 1) jq tby pzy szy h14 (hjq.elim (fun z => Or.inl ⟨z.1, fun a ha => by by_cases e9 : a = i; exact (by rw [e9]; have e8 : ei = ec := (by omega); rw [← e8]; exact z.2); exact (hiq.resolve_right (fun z => h18 z.1)).2 a (by omega)⟩) (fun z => Or.inr ⟨z.1, fun y => z.2 (y i h14)⟩)) (by omega) ga5 _ _ _ c_o c_FO c_K c_F c_NN c_NF c_Z c_TO c_T c_P  fr hP hS (lv_sub hl [0, 2, 3] rfl)
                · skip
                  refine lv_iload_n hx hb dX6_sound_50 rfl (lv_at hl 2 rfl) ?_
                  refine ax_ifeq (a := jq) (tgt := 90) hx hb dX6_sound_51 (by decide) (by omega) (fun h51 => ?_) (fun h51 => ?_)
                  · skip
                    refine lv_iinc (v := nI (i + 1)) (lv' := [(2, .int (nI (i + 1))), (3, .int (nI ei)), (1, .int (nI jq)), (0, .ref (ad 1000))]) hx hb dX6_sound_90 hl (k := 1) rfl (nI_1 _) (by decide) rfl (fun ls hl => ?_)
                    refine lv_goto (tgt := 9) hx hb dX6_sound_93 (by decide) ?_
                    exact ih9 (i + 1) jq tby pzy szy h14 (hjq.elim (fun z => absurd (z.1.symm.trans h51) (by decide)) (fun z => Or.inr ⟨z.1, fun y => z.2 (y i h14)⟩)) (by omega) ga5 _ _ _ c_o c_FO c_K c_F c_NN c_NF c_Z c_TO c_T c_P  fr hP hS (lv_sub hl [0, 2, 3] rfl)
                  · skip
                    obtain ⟨hf1, hf2, hf3, hf4⟩ := hev.2.1 ei h47
                    have hni := hnn i h14
                    refine lv_aload_n hx hb dX6_sound_54 rfl (lv_at hl 3 rfl) ?_
                    refine ax_get (k := 1000) (v := .ref (ad 1006)) hx hb hts in_X6_sound_X6 hown hK hP (hq _ (by decide)) c_o rfl 6 (by decide) (hts _ wd_X6_sound_6) (fun _ h9 => h9) rfl dX6_sound_55 ?_
                    refine lv_iload_n hx hb dX6_sound_58 rfl (lv_at hl 0 rfl) ?_
                    refine ax_iald (k := 1006) (i := ei) (v := nI (et ei)) hx hb hK hP (hq _ (by decide)) c_TO (by omega) (by omega) rfl dX6_sound_59 ?_
                    refine lv_aload_n hx hb dX6_sound_60 rfl (lv_at hl 3 rfl) ?_
                    refine ax_get (k := 1000) (v := .ref (ad 1023)) hx hb hts in_X6_sound_X6 hown hK hP (hq _ (by decide)) c_o rfl 23 (by decide) (hts _ wd_X6_sound_3) (fun _ h9 => h9) rfl dX6_sound_61 ?_
                    refine lv_iload_n hx hb dX6_sound_64 rfl (lv_at hl 1 rfl) ?_
                    refine ax_iald (k := 1023) (i := i) (v := nI (nn i)) hx hb hK hP (hq _ (by decide)) c_NN (by omega) (by omega) rfl dX6_sound_65 ?_
                    refine ax_icne (a := et ei) (b := nn i) (tgt := 78) hx hb dX6_sound_66 (by decide) (by omega) (by omega) (fun h66 => ?_) (fun h66 => ?_)
                    · skip
                      refine lv_iconst (v := nI 1) hx hb dX6_sound_78 (by decide) ?_
                      refine lv_goto (tgt := 83) hx hb dX6_sound_79 (by decide) ?_
                      refine lv_istore_n (lv' := [(1, .int (nI 1)), (3, .int (nI ei)), (2, .int (nI i)), (0, .ref (ad 1000))]) hx hb dX6_sound_83 rfl hl (by decide) rfl (fun ls hl => ?_)
                      refine lv_iinc (v := nI (ei + 1)) (lv' := [(3, .int (nI (ei + 1))), (1, .int (nI 1)), (2, .int (nI i)), (0, .ref (ad 1000))]) hx hb dX6_sound_84 hl (k := 1) rfl (nI_1 _) (by decide) rfl (fun ls hl => ?_)
                      refine lv_goto (tgt := 42) hx hb dX6_sound_87 (by decide) ?_
                      exact ih42 (ei + 1) 1 tby pzy szy h47 (Or.inl ⟨rfl, (hjq.resolve_right (fun z => h51 z.1)).2.1, fun b hb ht => by by_cases e9 : b = ei; exact absurd (by rw [← e9]; exact ht) h66; exact (hjq.resolve_right (fun z => h51 z.1)).2.2 b (by omega) ht⟩) (by omega) ga5 _ _ _ c_o c_FO c_K c_F c_NN c_NF c_Z c_TO c_T c_P  fr hP hS (lv_sub hl [0, 2, 1, 3] rfl)
                    · skip
                      refine lv_aload_n hx hb dX6_sound_69 rfl (lv_at hl 3 rfl) ?_
                      refine lv_iload_n hx hb dX6_sound_70 rfl (lv_at hl 0 rfl) ?_
                      refine lv_iload_n hx hb dX6_sound_71 rfl (lv_at hl 1 rfl) ?_
                      refine cx_Vi (As := [.int (nI ei), .int (nI i)]) (rest := []) ⟨hx, hb, hml, hown, hts⟩ (c_X6_follows hD hN1 hN hV1 hV hq (ei := ei) (i := i) (tb := tby) (eg := eg) (ng := ng) (ev := ev) c_o c_FO c_K c_F c_NN c_NF c_Z c_T c_P h47 hec (by omega) hnc hnn hfn hfr (hev.2.2 ei) hf1 hf3 hf4) (cwV 2 hts gX6_sound_X6_follows rfl rfl rfl (by decide +kernel) ⟨Nat.le_of_ble_eq_true rfl, Nat.le_of_ble_eq_true rfl⟩) hK hP hS hz (hq _ (by decide)) c_o rfl ⟨Nat.zero_le _, Nat.zero_le _⟩ rfl hl.1 rfl (Nat.le_of_ble_eq_true rfl) dX6_sound_72 (fun r6 g6 H locs hp6 hP hS => ?_)
                      obtain ⟨hp6a, htr, ⟨szz, hp6o⟩, tbz, pzz, hp6T, hp6P⟩ := hp6
                      have c_FO : g6 1005 = nA G 20 ef := (hp6a 1005 (by omega)).trans c_FO
                      have c_K : g6 1007 = nA G 20 ek := (hp6a 1007 (by omega)).trans c_K
                      have c_F : g6 1009 = nA G 100 (vN fm) := (hp6a 1009 (by omega)).trans c_F
                      have c_NN : g6 1023 = nA G 24 nn := (hp6a 1023 (by omega)).trans c_NN
                      have c_NF : g6 1024 = nA G 120 (vN nf) := (hp6a 1024 (by omega)).trans c_NF
                      have c_Z : g6 1008 = iA G 20 ez := (hp6a 1008 (by omega)).trans c_Z
                      have c_TO : g6 1006 = nA G 20 et := (hp6a 1006 (by omega)).trans c_TO
                      have fr : ∀ j : Nat, (j ≠ 1000 ∧ j ≠ 1026 ∧ j ≠ 1027) → g6 j = g j := fun j hj => (hp6a j (by omega)).trans (fr j hj)
                      have c_o := hp6o
                      have c_T := hp6T
                      have c_P := hp6P
                      refine lv_if_eq (x := r6) (tgt := 82) hx hb dX6_sound_75 (by decide) (fun h75 => ?_) (fun h75 => ?_)
                      · skip
                        refine lv_iconst (v := nI 0) hx hb dX6_sound_82 (by decide) ?_
                        refine lv_istore_n (lv' := [(1, .int (nI 0)), (3, .int (nI ei)), (2, .int (nI i)), (0, .ref (ad 1000))]) hx hb dX6_sound_83 rfl hl (by decide) rfl (fun ls hl => ?_)
                        refine lv_iinc (v := nI (ei + 1)) (lv' := [(3, .int (nI (ei + 1))), (1, .int (nI 0)), (2, .int (nI i)), (0, .ref (ad 1000))]) hx hb dX6_sound_84 hl (k := 1) rfl (nI_1 _) (by decide) rfl (fun ls hl => ?_)
                        refine lv_goto (tgt := 42) hx hb dX6_sound_87 (by decide) ?_
                        exact ih42 (ei + 1) 0 tbz pzz szz h47 (Or.inr ⟨rfl, fun z => tr_f htr h75 (z.2 ei h47 h66)⟩) (by omega) g6 _ _ _ c_o c_FO c_K c_F c_NN c_NF c_Z c_TO c_T c_P  fr hP hS (lv_sub hl [0, 2, 1, 3] rfl)
                      · skip
                        refine lv_iconst (v := nI 1) hx hb dX6_sound_78 (by decide) ?_
                        refine lv_goto (tgt := 83) hx hb dX6_sound_79 (by decide) ?_
                        refine lv_istore_n (lv' := [(1, .int (nI 1)), (3, .int (nI ei)), (2, .int (nI i)), (0, .ref (ad 1000))]) hx hb dX6_sound_83 rfl hl (by decide) rfl (fun ls hl => ?_)
                        refine lv_iinc (v := nI (ei + 1)) (lv' := [(3, .int (nI (ei + 1))), (1, .int (nI 1)), (2, .int (nI i)), (0, .ref (ad 1000))]) hx hb dX6_sound_84 hl (k := 1) rfl (nI_1 _) (by decide) rfl (fun ls hl => ?_)
                        refine lv_goto (tgt := 42) hx hb dX6_sound_87 (by decide) ?_
                        exact ih42 (ei + 1) 1 tbz pzz szz h47 (Or.inl ⟨rfl, (hjq.resolve_right (fun z => h51 z.1)).2.1, fun b hb ht => by by_cases e9 : b = ei; exact (by rw [e9]; exact tr_t htr h75); exact (hjq.resolve_right (fun z => h51 z.1)).2.2 b (by omega) ht⟩) (by omega) g6 _ _ _ c_o c_FO c_K c_F c_NN c_NF c_Z c_TO c_T c_P  fr hP hS (lv_sub hl [0, 2, 1, 3] rfl)
            exact LP42 ((ec - 0) + 1) 0 1 tbx pzx szx (Nat.zero_le _) (Or.inl ⟨rfl, h31, fun b hb => absurd hb (Nat.not_lt_zero b)⟩) (Nat.lt_succ_self _) ga2 _ _ _ c_o c_FO c_K c_F c_NN c_NF c_Z c_TO c_T c_P  fr hP hS (lv_sub hl [0, 2, 1, 3] rfl)
  exact LP9 ((nc - 0) + 1) 0 1 tb pz0 sz (Nat.zero_le _) (Or.inl ⟨rfl, fun a ha => absurd ha (Nat.not_lt_zero a)⟩) (Nat.lt_succ_self _) g1 _ _ _ c_o c_FO c_K c_F c_NN c_NF c_Z c_TO c_T c_P  fr hP hS (lv_sub hl [0, 1, 2] rfl)
