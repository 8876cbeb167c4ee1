/-! THE LAW: what both sides hold -/
abbrev TA : Type := Bool × Nat × Nat × Nat × Nat × Nat × (Nat → FF) × (Nat → FF) × (Nat → Nat) × (Nat → Nat) × (Nat → Nat) × (Nat → Nat) × (Nat → Int32) × (Nat → Nat → FF) × (Nat → Nat) × (Nat → Nat → FF) × PS
abbrev TA.an (T : TA) : Bool := T.1
abbrev TA.ec (T : TA) : Nat := T.2.1
abbrev TA.en (T : TA) : Nat := T.2.2.1
abbrev TA.al (T : TA) : Nat := T.2.2.2.1
abbrev TA.pl (T : TA) : Nat := T.2.2.2.2.1
abbrev TA.nc (T : TA) : Nat := T.2.2.2.2.2.1
abbrev TA.qd (T : TA) : Nat → FF := T.2.2.2.2.2.2.1
abbrev TA.va (T : TA) : Nat → FF := T.2.2.2.2.2.2.2.1
abbrev TA.ef (T : TA) : Nat → Nat := T.2.2.2.2.2.2.2.2.1
abbrev TA.et (T : TA) : Nat → Nat := T.2.2.2.2.2.2.2.2.2.1
abbrev TA.ek (T : TA) : Nat → Nat := T.2.2.2.2.2.2.2.2.2.2.1
abbrev TA.ev (T : TA) : Nat → Nat := T.2.2.2.2.2.2.2.2.2.2.2.1
abbrev TA.ez (T : TA) : Nat → Int32 := T.2.2.2.2.2.2.2.2.2.2.2.2.1
abbrev TA.eg (T : TA) : Nat → Nat → FF := T.2.2.2.2.2.2.2.2.2.2.2.2.2.1
abbrev TA.nn (T : TA) : Nat → Nat := T.2.2.2.2.2.2.2.2.2.2.2.2.2.2.1
abbrev TA.ng (T : TA) : Nat → Nat → FF := T.2.2.2.2.2.2.2.2.2.2.2.2.2.2.2.1
abbrev TA.P (T : TA) : PS := T.2.2.2.2.2.2.2.2.2.2.2.2.2.2.2.2
def J5 (G : cx_G) (ad : Nat → Nat) (g : Nat → va_E) (N V M : Nat) (T : TA) : Prop := (g 0 = .inr (5, [.int (nI V), .ref (ad 1), .ref (ad 4), .int (nI T.ec), .int (nI T.en), .ref (ad 5), .ref (ad 6), .int (nI T.al), .int (if T.an = true then 1 else 0), .int (nI T.pl), .ref (ad 2), .ref (ad 7), .int (nI T.nc), .ref (ad 180), .ref (ad 3)])) ∧ (g 1 = nA G (V + 1) (vN T.qd)) ∧ (g 2 = nA G (V + 1) (vN T.va)) ∧ (∃ wk : Nat → FF, Zb (V + 1) wk ∧ g 3 = nA G (V + 1) (vN wk)) ∧ (g 4 = rA (G.2 2) 20 (fun i => if i < 20 then some (ad (300 + 2 * i)) else none)) ∧ (g 5 = rA (G.2 3) N (fun i => if i < N then some (ad (200 + 2 * i)) else none)) ∧ (g 6 = rA (G.2 5) M (fun i => if i < M then some (ad (500 + 2 * i)) else none)) ∧ (g 7 = rA (G.2 4) 24 (fun i => if i < 24 then some (ad (400 + 2 * i)) else none)) ∧ (XE G ad g V T.ef T.et T.ek T.ez T.eg) ∧ (XN G ad g V T.nn T.ng) ∧ (XA G ad g N V M T.P) ∧ (∃ (t2 : Nat → Bool) (kp2 : Nat → Nat → FF) (rs2 : Nat → FF), SpanAt G ad g 180 (V + 1) t2 kp2 rs2)
theorem J5.qo {G : cx_G} {ad : Nat → Nat} {g : Nat → va_E} {N V M : Nat} {T : TA} (h : J5 G ad g N V M T) : g 0 = .inr (5, [.int (nI V), .ref (ad 1), .ref (ad 4), .int (nI T.ec), .int (nI T.en), .ref (ad 5), .ref (ad 6), .int (nI T.al), .int (if T.an = true then 1 else 0), .int (nI T.pl), .ref (ad 2), .ref (ad 7), .int (nI T.nc), .ref (ad 180), .ref (ad 3)]) := h.1
theorem J5.qd {G : cx_G} {ad : Nat → Nat} {g : Nat → va_E} {N V M : Nat} {T : TA} (h : J5 G ad g N V M T) : g 1 = nA G (V + 1) (vN T.qd) := h.2.1
theorem J5.qv {G : cx_G} {ad : Nat → Nat} {g : Nat → va_E} {N V M : Nat} {T : TA} (h : J5 G ad g N V M T) : g 2 = nA G (V + 1) (vN T.va) := h.2.2.1
theorem J5.qw {G : cx_G} {ad : Nat → Nat} {g : Nat → va_E} {N V M : Nat} {T : TA} (h : J5 G ad g N V M T) : ∃ wk : Nat → FF, Zb (V + 1) wk ∧ g 3 = nA G (V + 1) (vN wk) := h.2.2.2.1
theorem J5.qE {G : cx_G} {ad : Nat → Nat} {g : Nat → va_E} {N V M : Nat} {T : TA} (h : J5 G ad g N V M T) : g 4 = rA (G.2 2) 20 (fun i => if i < 20 then some (ad (300 + 2 * i)) else none) := h.2.2.2.2.1
theorem J5.qH {G : cx_G} {ad : Nat → Nat} {g : Nat → va_E} {N V M : Nat} {T : TA} (h : J5 G ad g N V M T) : g 5 = rA (G.2 3) N (fun i => if i < N then some (ad (200 + 2 * i)) else none) := h.2.2.2.2.2.1
theorem J5.qA {G : cx_G} {ad : Nat → Nat} {g : Nat → va_E} {N V M : Nat} {T : TA} (h : J5 G ad g N V M T) : g 6 = rA (G.2 5) M (fun i => if i < M then some (ad (500 + 2 * i)) else none) := h.2.2.2.2.2.2.1
theorem J5.qN {G : cx_G} {ad : Nat → Nat} {g : Nat → va_E} {N V M : Nat} {T : TA} (h : J5 G ad g N V M T) : g 7 = rA (G.2 4) 24 (fun i => if i < 24 then some (ad (400 + 2 * i)) else none) := h.2.2.2.2.2.2.2.1
theorem J5.xe {G : cx_G} {ad : Nat → Nat} {g : Nat → va_E} {N V M : Nat} {T : TA} (h : J5 G ad g N V M T) : XE G ad g V T.ef T.et T.ek T.ez T.eg := h.2.2.2.2.2.2.2.2.1
theorem J5.xn {G : cx_G} {ad : Nat → Nat} {g : Nat → va_E} {N V M : Nat} {T : TA} (h : J5 G ad g N V M T) : XN G ad g V T.nn T.ng := h.2.2.2.2.2.2.2.2.2.1
theorem J5.xa {G : cx_G} {ad : Nat → Nat} {g : Nat → va_E} {N V M : Nat} {T : TA} (h : J5 G ad g N V M T) : XA G ad g N V M T.P := h.2.2.2.2.2.2.2.2.2.2.1
theorem J5.sx {G : cx_G} {ad : Nat → Nat} {g : Nat → va_E} {N V M : Nat} {T : TA} (h : J5 G ad g N V M T) : ∃ (t2 : Nat → Bool) (kp2 : Nat → Nat → FF) (rs2 : Nat → FF), SpanAt G ad g 180 (V + 1) t2 kp2 rs2 := h.2.2.2.2.2.2.2.2.2.2.2
def J6 (G : cx_G) (ad : Nat → Nat) (g : Nat → va_E) (N V th : Nat) (T : TA) : Prop := (∃ sz : Nat, g 1000 = .inr (6, [.int (nI N), .int (nI V), .int (nI th), .ref (ad 1003), .int (nI T.ec), .ref (ad 1005), .ref (ad 1006), .ref (ad 1007), .ref (ad 1008), .ref (ad 1009), .int (nI T.en), .int (if T.an = true then 1 else 0), .ref (ad 1012), .ref (ad 1013), .ref (ad 1014), .int (nI T.al), .ref (ad 1016), .ref (ad 1017), .ref (ad 1018), .ref (ad 1019), .int (nI T.pl), .ref (ad 1021), .int (nI T.nc), .ref (ad 1023), .ref (ad 1024), .int (nI sz), .ref (ad 1026), .ref (ad 1027), .ref (ad 1028)])) ∧ (g 1003 = nA G 5 (vN T.qd)) ∧ (g 1005 = nA G 20 T.ef) ∧ (g 1006 = nA G 20 T.et) ∧ (g 1007 = nA G 20 T.ek) ∧ (g 1008 = iA G 20 T.ez) ∧ (∃ fm : Nat → FF, g 1009 = nA G 100 (vN fm) ∧ FR fm T.eg) ∧ (QA G g N V T.P) ∧ (∃ (rz : Nat → Nat) (eq : Nat → FF), g 1018 = nA G 8 rz ∧ g 1019 = nA G 200 (vN eq) ∧ (T.an = true → QE V T.P rz eq N)) ∧ (g 1021 = nA G 5 (vN T.va)) ∧ (g 1023 = nA G 24 T.nn) ∧ (∃ nf : Nat → FF, g 1024 = nA G 120 (vN nf) ∧ FR nf T.ng) ∧ (∃ rr : Nat → FF, Zb 5 rr ∧ g 1028 = nA G 5 (vN rr))
theorem J6.qo {G : cx_G} {ad : Nat → Nat} {g : Nat → va_E} {N V th : Nat} {T : TA} (h : J6 G ad g N V th T) : ∃ sz : Nat, g 1000 = .inr (6, [.int (nI N), .int (nI V), .int (nI th), .ref (ad 1003), .int (nI T.ec), .ref (ad 1005), .ref (ad 1006), .ref (ad 1007), .ref (ad 1008), .ref (ad 1009), .int (nI T.en), .int (if T.an = true then 1 else 0), .ref (ad 1012), .ref (ad 1013), .ref (ad 1014), .int (nI T.al), .ref (ad 1016), .ref (ad 1017), .ref (ad 1018), .ref (ad 1019), .int (nI T.pl), .ref (ad 1021), .int (nI T.nc), .ref (ad 1023), .ref (ad 1024), .int (nI sz), .ref (ad 1026), .ref (ad 1027), .ref (ad 1028)]) := h.1
theorem J6.qd {G : cx_G} {ad : Nat → Nat} {g : Nat → va_E} {N V th : Nat} {T : TA} (h : J6 G ad g N V th T) : g 1003 = nA G 5 (vN T.qd) := h.2.1
theorem J6.qFO {G : cx_G} {ad : Nat → Nat} {g : Nat → va_E} {N V th : Nat} {T : TA} (h : J6 G ad g N V th T) : g 1005 = nA G 20 T.ef := h.2.2.1
theorem J6.qTO {G : cx_G} {ad : Nat → Nat} {g : Nat → va_E} {N V th : Nat} {T : TA} (h : J6 G ad g N V th T) : g 1006 = nA G 20 T.et := h.2.2.2.1
theorem J6.qK {G : cx_G} {ad : Nat → Nat} {g : Nat → va_E} {N V th : Nat} {T : TA} (h : J6 G ad g N V th T) : g 1007 = nA G 20 T.ek := h.2.2.2.2.1
theorem J6.qZ {G : cx_G} {ad : Nat → Nat} {g : Nat → va_E} {N V th : Nat} {T : TA} (h : J6 G ad g N V th T) : g 1008 = iA G 20 T.ez := h.2.2.2.2.2.1
theorem J6.qF {G : cx_G} {ad : Nat → Nat} {g : Nat → va_E} {N V th : Nat} {T : TA} (h : J6 G ad g N V th T) : ∃ fm : Nat → FF, g 1009 = nA G 100 (vN fm) ∧ FR fm T.eg := h.2.2.2.2.2.2.1
theorem J6.xq {G : cx_G} {ad : Nat → Nat} {g : Nat → va_E} {N V th : Nat} {T : TA} (h : J6 G ad g N V th T) : QA G g N V T.P := h.2.2.2.2.2.2.2.1
theorem J6.qW {G : cx_G} {ad : Nat → Nat} {g : Nat → va_E} {N V th : Nat} {T : TA} (h : J6 G ad g N V th T) : ∃ (rz : Nat → Nat) (eq : Nat → FF), g 1018 = nA G 8 rz ∧ g 1019 = nA G 200 (vN eq) ∧ (T.an = true → QE V T.P rz eq N) := h.2.2.2.2.2.2.2.2.1
theorem J6.qv {G : cx_G} {ad : Nat → Nat} {g : Nat → va_E} {N V th : Nat} {T : TA} (h : J6 G ad g N V th T) : g 1021 = nA G 5 (vN T.va) := h.2.2.2.2.2.2.2.2.2.1
theorem J6.qNN {G : cx_G} {ad : Nat → Nat} {g : Nat → va_E} {N V th : Nat} {T : TA} (h : J6 G ad g N V th T) : g 1023 = nA G 24 T.nn := h.2.2.2.2.2.2.2.2.2.2.1
theorem J6.qNF {G : cx_G} {ad : Nat → Nat} {g : Nat → va_E} {N V th : Nat} {T : TA} (h : J6 G ad g N V th T) : ∃ nf : Nat → FF, g 1024 = nA G 120 (vN nf) ∧ FR nf T.ng := h.2.2.2.2.2.2.2.2.2.2.2.1
theorem J6.qR {G : cx_G} {ad : Nat → Nat} {g : Nat → va_E} {N V th : Nat} {T : TA} (h : J6 G ad g N V th T) : ∃ rr : Nat → FF, Zb 5 rr ∧ g 1028 = nA G 5 (vN rr) := h.2.2.2.2.2.2.2.2.2.2.2.2
def JP (N V : Nat) (T : TA) : Prop := (T.en < N) ∧ (T.pl < N) ∧ (T.nc ≤ 24) ∧ (EV N V T.ec T.ef T.et T.ek T.ez T.ev T.eg) ∧ (Zb (V + 1) T.qd) ∧ (Zb (V + 1) T.va) ∧ (∀ i : Nat, i < T.nc → T.nn i < N) ∧ (∀ i : Nat, Zb (V + 1) (T.ng i))
theorem JP.en {N V : Nat} {T : TA} (h : JP N V T) : T.en < N := h.1
theorem JP.pl {N V : Nat} {T : TA} (h : JP N V T) : T.pl < N := h.2.1
theorem JP.nc {N V : Nat} {T : TA} (h : JP N V T) : T.nc ≤ 24 := h.2.2.1
theorem JP.ev {N V : Nat} {T : TA} (h : JP N V T) : EV N V T.ec T.ef T.et T.ek T.ez T.ev T.eg := h.2.2.2.1
theorem JP.zd {N V : Nat} {T : TA} (h : JP N V T) : Zb (V + 1) T.qd := h.2.2.2.2.1
theorem JP.zv {N V : Nat} {T : TA} (h : JP N V T) : Zb (V + 1) T.va := h.2.2.2.2.2.1
theorem JP.nn {N V : Nat} {T : TA} (h : JP N V T) : ∀ i : Nat, i < T.nc → T.nn i < N := h.2.2.2.2.2.2.1
theorem JP.zn {N V : Nat} {T : TA} (h : JP N V T) : ∀ i : Nat, Zb (V + 1) (T.ng i) := h.2.2.2.2.2.2.2
def JJ (G : cx_G) (ad : Nat → Nat) (g : Nat → va_E) (N V M th : Nat) (T : TA) (o : Nat → Int64) : Prop := (J5 G ad g N V M T) ∧ (J6 G ad g N V th T) ∧ (JP N V T) ∧ (g 1100 = jA G 1 o)
theorem JJ.x5 {G : cx_G} {ad : Nat → Nat} {g : Nat → va_E} {N V M th : Nat} {T : TA} {o : Nat → Int64} (h : JJ G ad g N V M th T o) : J5 G ad g N V M T := h.1
theorem JJ.x6 {G : cx_G} {ad : Nat → Nat} {g : Nat → va_E} {N V M th : Nat} {T : TA} {o : Nat → Int64} (h : JJ G ad g N V M th T o) : J6 G ad g N V th T := h.2.1
theorem JJ.jp {G : cx_G} {ad : Nat → Nat} {g : Nat → va_E} {N V M th : Nat} {T : TA} {o : Nat → Int64} (h : JJ G ad g N V M th T o) : JP N V T := h.2.2.1
theorem JJ.cj {G : cx_G} {ad : Nat → Nat} {g : Nat → va_E} {N V M th : Nat} {T : TA} {o : Nat → Int64} (h : JJ G ad g N V M th T o) : g 1100 = jA G 1 o := h.2.2.2
theorem tr_u {a b : Int32} {p : Prop} (h : tr a p) (h2 : tr b p) : a = b := by
  rcases h with ⟨h, q⟩ | ⟨h, q⟩ <;> rcases h2 with ⟨h2, q2⟩ | ⟨h2, q2⟩
  · rw [h, h2]
  · exact absurd q q2
  · exact absurd q2 q
  · rw [h, h2]
theorem nIAIS : ¬ xIA = xIS := by decide
theorem nIAIO : ¬ xIA = xIO := by decide
theorem nISIO : ¬ xIS = xIO := by decide
theorem nISUO : ¬ xIS = xUO := by decide
theorem XA.kepX {G : cx_G} {ad : Nat → Nat} {g g1 : Nat → va_E} {N V M : Nat} {P : PS} (h : XA G ad g N V M P) (hV : V ≤ 4) (hN : N ≤ 8) (hk : ∀ j : Nat, lbX N V M j → (100 ≤ j ∧ j < 180) ∨ (200 ≤ j ∧ j < 300) ∨ 500 ≤ j → g1 j = g j) : XA G ad g1 N V M P := by
  obtain ⟨nd, ix, og, rw, ct, mb, T, K, R, ⟨h1, h2, h3, h4, h5⟩, h6⟩ := h
  exact ⟨nd, ix, og, rw, ct, mb, T, K, R, ⟨fun i hi => (hk _ (by unfold lbX; omega) (by omega)).trans (h1 i hi), fun i hi => (hk _ (by unfold lbX; omega) (by omega)).trans (h2 i hi), fun i hi => (h3 i hi).kept (fun j a b => hk j (Or.inr (Or.inl ⟨by omega, by omega, by omega⟩)) (by omega)), fun i hi => (hk _ (by unfold lbX; omega) (by omega)).trans (h4 i hi), fun i hi => (hk _ (by unfold lbX; omega) (by omega)).trans (h5 i hi)⟩, h6⟩
theorem J5.kept {G : cx_G} {ad : Nat → Nat} {g u : Nat → va_E} {N V M : Nat} {T : TA} (h : J5 G ad g N V M T) (hV : V ≤ 4) (hN : N ≤ 8) (hk : ∀ j : Nat, lbX N V M j → u j = g j) : J5 G ad u N V M T := by
  obtain ⟨h0, h1, h2, ⟨wk, h3, h3'⟩, h4, h5, h6, h7, he, hn, ha, t2, kp2, rs2, hs⟩ := h
  exact ⟨(hk 0 (Or.inl (by decide))).trans h0, (hk 1 (Or.inl (by decide))).trans h1, (hk 2 (Or.inl (by decide))).trans h2, ⟨wk, h3, (hk 3 (Or.inl (by decide))).trans h3'⟩, (hk 4 (Or.inl (by decide))).trans h4, (hk 5 (Or.inl (by decide))).trans h5, (hk 6 (Or.inl (by decide))).trans h6, (hk 7 (Or.inl (by decide))).trans h7,
    he.kept (fun j a b => hk j (Or.inr (Or.inr (Or.inr (Or.inr (Or.inl ⟨a, b⟩)))))), hn.kept (fun j a b => hk j (Or.inr (Or.inr (Or.inr (Or.inr (Or.inr (Or.inl ⟨a, b⟩))))))), ha.kepX hV hN (fun j hj _ => hk j hj), t2, kp2, rs2, hs.kept (fun j a b => hk j (Or.inr (Or.inr (Or.inl ⟨a, by omega⟩))))⟩
theorem J6.kept {G : cx_G} {ad : Nat → Nat} {g u : Nat → va_E} {N V th : Nat} {T : TA} (h : J6 G ad g N V th T) (hk : ∀ j : Nat, 1000 ≤ j → j < 1100 → u j = g j) : J6 G ad u N V th T := by
  obtain ⟨⟨sz, h0⟩, h1, h2, h3, h4, h5, ⟨fm, h6, h6'⟩, hq, ⟨rz, eq, h7, h8, h9⟩, h10, h11, ⟨nf, h12, h12'⟩, ⟨rr, h13, h13'⟩⟩ := h
  have k := fun (j : Nat) (a : (decide (1000 ≤ j ∧ j < 1100)) = true) => hk j (of_decide_eq_true a).1 (of_decide_eq_true a).2
  exact ⟨⟨sz, (k 1000 rfl).trans h0⟩, (k 1003 rfl).trans h1, (k 1005 rfl).trans h2, (k 1006 rfl).trans h3, (k 1007 rfl).trans h4, (k 1008 rfl).trans h5, ⟨fm, (k 1009 rfl).trans h6, h6'⟩, hq.kept (fun j hj => hk j (by unfold lbQ at hj; omega) (by unfold lbQ at hj; omega)), ⟨rz, eq, (k 1018 rfl).trans h7, (k 1019 rfl).trans h8, h9⟩, (k 1021 rfl).trans h10, (k 1023 rfl).trans h11, ⟨nf, (k 1024 rfl).trans h12, h12'⟩, ⟨rr, h13, (k 1028 rfl).trans h13'⟩⟩
theorem eqnN_lt {node nc N : Nat} {nn : Nat → Nat} (hn : node < N) (h : ∀ i : Nat, i < nc → nn i < N) : ∀ k i : Nat, i < nc + k → eqnN node nc nn k i < N
  | 0, i, hi => h i hi
  | k + 1, i, hi => by
    show nu (eqnN node nc nn k) (nc + k) node i < N
    by_cases q : i = nc + k
    · rw [q, nu_s]; exact hn
    · rw [nu_n q]; exact eqnN_lt hn h k i (by omega)
theorem naF_lt {w N : Nat} {P : PS} {nn : Nat → Nat} {ng : Nat → Nat → FF} : ∀ k : Nat, k ≤ N → ∀ i : Nat, i < csum (fun i => w - P.2.2.2.1 i) k → (naF w P nn ng k).1 i < N
  | 0, _, i, hi => absurd hi (Nat.not_lt_zero i)
  | k + 1, hk, i, hi => eqnN_lt (by omega) (fun j hj => naF_lt k (by omega) j hj) _ i hi
theorem cx_D.filt {L : List Nat} {ad : Nat → Nat} (hD : cx_D L ad) (q : Nat → Bool) : cx_D (L.filter q) ad := by
  have h1 : L.Pairwise (fun a b => a ≠ b) := List.pairwise_iff_getElem.mpr (fun i j hi hj hij he => by
    have := hD.1 i j L[i] (List.getElem?_eq_getElem hi) (by rw [List.getElem?_eq_getElem hj, he])
    omega)
  have h2 := List.pairwise_iff_getElem.mp (h1.filter q)
  refine ⟨fun i j k hi hj => ?_, fun i j hi hj he => hD.2 i j (List.mem_filter.mp hi).1 (List.mem_filter.mp hj).1 he⟩
  obtain ⟨hi1, hi2⟩ := List.getElem?_eq_some_iff.mp hi
  obtain ⟨hj1, hj2⟩ := List.getElem?_eq_some_iff.mp hj
  rcases Nat.lt_trichotomy i j with h | h | h
  · exact absurd (hi2.trans hj2.symm) (h2 i j hi1 hj1 h)
  · exact h
  · exact absurd (hj2.trans hi2.symm) (h2 j i hj1 hi1 h)
abbrev lwl (b : Nat) (ad : Nat → Nat) (q : Nat) : List (Nat × Value) := [(4, .int (nI q)), (0, .ref b), (1, .ref (ad 0)), (2, .ref (ad 1000)), (3, .ref (ad 1100))]
/-- what stands through the whole loop -/
def LK (p : Program) (l : Launch) (s : State) (m : MethodId) (c : Code) (G : cx_G) (L : List Nat) (ad : Nat → Nat) (b Ln : Nat) (xs : Nat → Int32) (N V M : Nat) : Prop := (p.tables.exec = Jvm.exec) ∧ (c.code = cL_law) ∧ (c.maxLocals = 7) ∧ (s.vm.findClass RL = some m.cls) ∧ (∀ w ∈ wsL_law, w.before #[Value.ref b] s = true) ∧ (l.stackTraces = false) ∧ (cx_K G s) ∧ (cx_X (cx_A L ad s.heap.size) s s.heap) ∧ (cx_D L ad) ∧ (∀ j : Nat, lbX N V M j → j ∈ L) ∧ (∀ j : Nat, lbM j = true → j ∈ L) ∧ (1100 ∈ L) ∧ (va_X b Ln xs s s.heap) ∧ (b < s.heap.size) ∧ (¬ cx_A L ad s.heap.size b) ∧ (Ln ≤ 2562) ∧ (1 ≤ N) ∧ (N ≤ 8) ∧ (1 ≤ V) ∧ (V ≤ 4) ∧ (M = N * (V + 1)) ∧ (M ≤ 40)
theorem LK.hx {p : Program} {l : Launch} {s : State} {m : MethodId} {c : Code} {G : cx_G} {L : List Nat} {ad : Nat → Nat} {b Ln : Nat} {xs : Nat → Int32} {N V M : Nat} (h : LK p l s m c G L ad b Ln xs N V M) : p.tables.exec = Jvm.exec := h.1
theorem LK.hb {p : Program} {l : Launch} {s : State} {m : MethodId} {c : Code} {G : cx_G} {L : List Nat} {ad : Nat → Nat} {b Ln : Nat} {xs : Nat → Int32} {N V M : Nat} (h : LK p l s m c G L ad b Ln xs N V M) : c.code = cL_law := h.2.1
theorem LK.hml {p : Program} {l : Launch} {s : State} {m : MethodId} {c : Code} {G : cx_G} {L : List Nat} {ad : Nat → Nat} {b Ln : Nat} {xs : Nat → Int32} {N V M : Nat} (h : LK p l s m c G L ad b Ln xs N V M) : c.maxLocals = 7 := h.2.2.1
theorem LK.hown {p : Program} {l : Launch} {s : State} {m : MethodId} {c : Code} {G : cx_G} {L : List Nat} {ad : Nat → Nat} {b Ln : Nat} {xs : Nat → Int32} {N V M : Nat} (h : LK p l s m c G L ad b Ln xs N V M) : s.vm.findClass RL = some m.cls := h.2.2.2.1
theorem LK.hts {p : Program} {l : Launch} {s : State} {m : MethodId} {c : Code} {G : cx_G} {L : List Nat} {ad : Nat → Nat} {b Ln : Nat} {xs : Nat → Int32} {N V M : Nat} (h : LK p l s m c G L ad b Ln xs N V M) : ∀ w ∈ wsL_law, w.before #[Value.ref b] s = true := h.2.2.2.2.1
theorem LK.st9 {p : Program} {l : Launch} {s : State} {m : MethodId} {c : Code} {G : cx_G} {L : List Nat} {ad : Nat → Nat} {b Ln : Nat} {xs : Nat → Int32} {N V M : Nat} (h : LK p l s m c G L ad b Ln xs N V M) : l.stackTraces = false := h.2.2.2.2.2.1
theorem LK.hK {p : Program} {l : Launch} {s : State} {m : MethodId} {c : Code} {G : cx_G} {L : List Nat} {ad : Nat → Nat} {b Ln : Nat} {xs : Nat → Int32} {N V M : Nat} (h : LK p l s m c G L ad b Ln xs N V M) : cx_K G s := h.2.2.2.2.2.2.1
theorem LK.hX {p : Program} {l : Launch} {s : State} {m : MethodId} {c : Code} {G : cx_G} {L : List Nat} {ad : Nat → Nat} {b Ln : Nat} {xs : Nat → Int32} {N V M : Nat} (h : LK p l s m c G L ad b Ln xs N V M) : cx_X (cx_A L ad s.heap.size) s s.heap := h.2.2.2.2.2.2.2.1
theorem LK.hD {p : Program} {l : Launch} {s : State} {m : MethodId} {c : Code} {G : cx_G} {L : List Nat} {ad : Nat → Nat} {b Ln : Nat} {xs : Nat → Int32} {N V M : Nat} (h : LK p l s m c G L ad b Ln xs N V M) : cx_D L ad := h.2.2.2.2.2.2.2.2.1
theorem LK.hm {p : Program} {l : Launch} {s : State} {m : MethodId} {c : Code} {G : cx_G} {L : List Nat} {ad : Nat → Nat} {b Ln : Nat} {xs : Nat → Int32} {N V M : Nat} (h : LK p l s m c G L ad b Ln xs N V M) : ∀ j : Nat, lbX N V M j → j ∈ L := h.2.2.2.2.2.2.2.2.2.1
theorem LK.hq {p : Program} {l : Launch} {s : State} {m : MethodId} {c : Code} {G : cx_G} {L : List Nat} {ad : Nat → Nat} {b Ln : Nat} {xs : Nat → Int32} {N V M : Nat} (h : LK p l s m c G L ad b Ln xs N V M) : ∀ j : Nat, lbM j = true → j ∈ L := h.2.2.2.2.2.2.2.2.2.2.1
theorem LK.h11 {p : Program} {l : Launch} {s : State} {m : MethodId} {c : Code} {G : cx_G} {L : List Nat} {ad : Nat → Nat} {b Ln : Nat} {xs : Nat → Int32} {N V M : Nat} (h : LK p l s m c G L ad b Ln xs N V M) : 1100 ∈ L := h.2.2.2.2.2.2.2.2.2.2.2.1
theorem LK.xX {p : Program} {l : Launch} {s : State} {m : MethodId} {c : Code} {G : cx_G} {L : List Nat} {ad : Nat → Nat} {b Ln : Nat} {xs : Nat → Int32} {N V M : Nat} (h : LK p l s m c G L ad b Ln xs N V M) : va_X b Ln xs s s.heap := h.2.2.2.2.2.2.2.2.2.2.2.2.1
theorem LK.bl {p : Program} {l : Launch} {s : State} {m : MethodId} {c : Code} {G : cx_G} {L : List Nat} {ad : Nat → Nat} {b Ln : Nat} {xs : Nat → Int32} {N V M : Nat} (h : LK p l s m c G L ad b Ln xs N V M) : b < s.heap.size := h.2.2.2.2.2.2.2.2.2.2.2.2.2.1
theorem LK.bA {p : Program} {l : Launch} {s : State} {m : MethodId} {c : Code} {G : cx_G} {L : List Nat} {ad : Nat → Nat} {b Ln : Nat} {xs : Nat → Int32} {N V M : Nat} (h : LK p l s m c G L ad b Ln xs N V M) : ¬ cx_A L ad s.heap.size b := h.2.2.2.2.2.2.2.2.2.2.2.2.2.2.1
theorem LK.Ln {p : Program} {l : Launch} {s : State} {m : MethodId} {c : Code} {G : cx_G} {L : List Nat} {ad : Nat → Nat} {b Ln : Nat} {xs : Nat → Int32} {N V M : Nat} (h : LK p l s m c G L ad b Ln xs N V M) : Ln ≤ 2562 := h.2.2.2.2.2.2.2.2.2.2.2.2.2.2.2.1
theorem LK.N1 {p : Program} {l : Launch} {s : State} {m : MethodId} {c : Code} {G : cx_G} {L : List Nat} {ad : Nat → Nat} {b Ln : Nat} {xs : Nat → Int32} {N V M : Nat} (h : LK p l s m c G L ad b Ln xs N V M) : 1 ≤ N := h.2.2.2.2.2.2.2.2.2.2.2.2.2.2.2.2.1
theorem LK.N8 {p : Program} {l : Launch} {s : State} {m : MethodId} {c : Code} {G : cx_G} {L : List Nat} {ad : Nat → Nat} {b Ln : Nat} {xs : Nat → Int32} {N V M : Nat} (h : LK p l s m c G L ad b Ln xs N V M) : N ≤ 8 := h.2.2.2.2.2.2.2.2.2.2.2.2.2.2.2.2.2.1
theorem LK.V1 {p : Program} {l : Launch} {s : State} {m : MethodId} {c : Code} {G : cx_G} {L : List Nat} {ad : Nat → Nat} {b Ln : Nat} {xs : Nat → Int32} {N V M : Nat} (h : LK p l s m c G L ad b Ln xs N V M) : 1 ≤ V := h.2.2.2.2.2.2.2.2.2.2.2.2.2.2.2.2.2.2.1
theorem LK.V4 {p : Program} {l : Launch} {s : State} {m : MethodId} {c : Code} {G : cx_G} {L : List Nat} {ad : Nat → Nat} {b Ln : Nat} {xs : Nat → Int32} {N V M : Nat} (h : LK p l s m c G L ad b Ln xs N V M) : V ≤ 4 := h.2.2.2.2.2.2.2.2.2.2.2.2.2.2.2.2.2.2.2.1
theorem LK.hM {p : Program} {l : Launch} {s : State} {m : MethodId} {c : Code} {G : cx_G} {L : List Nat} {ad : Nat → Nat} {b Ln : Nat} {xs : Nat → Int32} {N V M : Nat} (h : LK p l s m c G L ad b Ln xs N V M) : M = N * (V + 1) := h.2.2.2.2.2.2.2.2.2.2.2.2.2.2.2.2.2.2.2.2.1
theorem LK.M40 {p : Program} {l : Launch} {s : State} {m : MethodId} {c : Code} {G : cx_G} {L : List Nat} {ad : Nat → Nat} {b Ln : Nat} {xs : Nat → Int32} {N V M : Nat} (h : LK p l s m c G L ad b Ln xs N V M) : M ≤ 40 := h.2.2.2.2.2.2.2.2.2.2.2.2.2.2.2.2.2.2.2.2.2
theorem lw_cmp (x : Int64) : lg_cmp x x = 0 := by simp [lg_cmp]
section LAW
variable {p : Program} {l : Launch} {e : Env} {s : State} {m : MethodId} {below : List Frame} {meth : Method} {c : Code} {H : Heap} {locs : List Loc} {cells slots : Nat} {Q : State → Prop}
variable {pc : Nat} {ls : Array Slot} {st0 : List Value} {G : cx_G} {L : List Nat} {ad : Nat → Nat} {g : Nat → va_E} {b Ln N V M : Nat} {xs : Nat → Int32}
theorem lw_arg {q a k : Nat} {n : Int} (K : LK p l s m c G L ad b Ln xs N V M) (hS : va_S (cx_A L ad s.heap.size) s.heap H locs) {lv : List (Nat × Value)} (hl : lv_has ls 7 lv) (h0 : lv[a + 1]? = some (0, .ref b)) (h4 : lv[a]? = some (4, .int (nI q))) (hk : q + k < Ln) (hn : Int32.ofInt n = nI k)
    (d0 : decode cL_law pc = .ok (.aload_n 0, 1)) (d1 : decode cL_law (pc + 1) = .ok (.iload 4, 2)) (d2 : decode cL_law (pc + 3) = .ok (.iconst n, 1)) (d3 : decode cL_law (pc + 4) = .ok (.iadd, 1)) (d4 : decode cL_law (pc + 5) = .ok (.iaload, 1))
    (kk : W p l e room_1 s m #[Value.ref b] below meth c H locs cells slots Q (F0 m (pc + 6) ls (.int (xs (q + k)) :: st0))) : W p l e room_1 s m #[Value.ref b] below meth c H locs cells slots Q (F0 m pc ls st0) := by
  refine lv_aload_n K.hx K.hb d0 rfl (lv_at hl _ h0) ?_
  refine lv_iload K.hx K.hb d1 (lv_at hl _ h4) ?_
  refine lv_iconst (v := nI k) K.hx K.hb d2 hn ?_
  refine lv_iadd K.hx K.hb d3 ?_
  rw [nI_add]
  refine va_sld K.hx K.hb K.xX K.bl K.bA hS (vp_in_nI hk (by have := K.Ln; omega)) d4 ?_
  rw [nI_clamp (by have := K.Ln; omega)]
  exact kk
/-- what comes behind an operation: pc 965, the loop's step -/
def LZ (p : Program) (l : Launch) (e : Env) (s : State) (m : MethodId) (below : List Frame) (meth : Method) (c : Code) (Q : State → Prop) (G : cx_G) (L : List Nat) (ad : Nat → Nat) (b N V M q cells slots : Nat) : Prop :=
  ∀ (g : Nat → va_E) (T : TA) (th : Nat) (o : Nat → Int64) (H : Heap) (locs : List Loc) (ls : Array Slot) (ce sl : Nat), JJ G ad g N V M th T o → va_P G.1 vwCl (wl L ad g) H → va_S (cx_A L ad s.heap.size) s.heap H locs → lv_has ls 7 (lwl b ad q) → ce ≤ cells + 4 → sl ≤ slots + 24 → W p l e room_1 s m #[Value.ref b] below meth c H locs ce sl Q (F0 m 965 ls [])
def JE0 (G : cx_G) (ad : Nat → Nat) (g : Nat → va_E) (N V M : Nat) (k : Int32) : Prop := ∃ (T : TA) (th : Nat) (o : Nat → Int64), k = nI th ∧ JJ G ad g N V M th T o
def JE1 (G : cx_G) (ad : Nat → Nat) (g : Nat → va_E) (N V M : Nat) (k r : Int32) : Prop := ∃ (T : TA) (th : Nat) (o : Nat → Int64), k = nI th ∧ JJ G ad g N V M th T o ∧ (k = 0 → o 0 = r.toInt64)
def JEb (G : cx_G) (ad : Nat → Nat) (g : Nat → va_E) (N V M : Nat) (k r : Int32) : Prop := ∃ (T : TA) (th : Nat) (o : Nat → Int64), k = nI th ∧ JJ G ad g N V M th T o ∧ (k = 0 → (r = 0 ∧ o 0 = lN 0) ∨ (¬ r = 0 ∧ o 0 = lN 1))
theorem lw_thrown {T : TA} {th : Nat} {o : Nat → Int64} {lv : List (Nat × Value)} (K : LK p l s m c G L ad b Ln xs N V M) (hJ : JJ G ad g N V M th T o) (hP : va_P G.1 vwCl (wl L ad g) H) (hS : va_S (cx_A L ad s.heap.size) s.heap H locs) (hl : lv_has ls 7 lv) {a d : Nat} (h2 : lv[a]? = some (2, .ref (ad 1000))) (h5 : lv[d]? = some (5, .int (nI th))) (hc : cells ≤ 634768 ∧ slots ≤ 7191766)
    (d0 : decode cL_law pc = .ok (.aload_n 2, 1)) (d1 : decode cL_law (pc + 1) = .ok (.invokevirtual 79, 3)) (d2 : decode cL_law (pc + 4) = .ok (.iload 5, 2)) (d3 : decode cL_law (pc + 6) = .ok (.if_icmp .eq 5, 3))
    (kk : ∀ (H : Heap) (locs : List Loc), va_P G.1 vwCl (wl L ad g) H → va_S (cx_A L ad s.heap.size) s.heap H locs → W p l e room_1 s m #[Value.ref b] below meth c H locs cells slots Q (F0 m (pc + 11) ls [])) : W p l e room_1 s m #[Value.ref b] below meth c H locs cells slots Q (F0 m pc ls []) := by
  obtain ⟨sz, co⟩ := hJ.x6.qo
  refine lv_aload_n K.hx K.hb d0 rfl (lv_at hl _ h2) ?_
  refine cx_Vi (As := []) (rest := []) ⟨K.hx, K.hb, K.hml, K.hown, K.hts⟩ (c_X6_thrown K.hD K.N1 K.N8 K.V1 K.V4 K.hq co) (cwV 0 K.hts gL_law_X6_thrown rfl rfl rfl (by decide +kernel) ⟨Nat.le_of_ble_eq_true rfl, Nat.le_of_ble_eq_true rfl⟩) K.hK hP hS (Nat.le_refl _) (K.hq _ (by decide)) co rfl hc rfl hl.1 rfl (Nat.le_of_ble_eq_true rfl) d1 (fun r g1 H locs hp hP hS => ?_)
  obtain ⟨er, eg⟩ := hp
  rw [eg] at hP
  rw [er]
  refine lv_iload K.hx K.hb d2 (lv_at hl _ h5) ?_
  refine lv_icmp_eq (x := nI th) (y := nI th) (tgt := pc + 11) K.hx K.hb d3 (by omega) (fun _ => ?_) (fun h => absurd rfl h)
  exact kk H locs hP hS
theorem lw_end0 {q : Nat} {off : Int} {v5 : Int32} (K : LK p l s m c G L ad b Ln xs N V M) (hE : JE0 G ad g N V M v5) (hP : va_P G.1 vwCl (wl L ad g) H) (hS : va_S (cx_A L ad s.heap.size) s.heap H locs) (hl : lv_has ls 7 ((5, .int v5) :: lwl b ad q)) {c0 s0 : Nat} (hz : LZ p l e s m below meth c Q G L ad b N V M q c0 s0) (hc : cells ≤ c0 + 4 ∧ slots ≤ s0 + 24) (hc2 : cells ≤ 634768 ∧ slots ≤ 7191766)
    (d0 : decode cL_law pc = .ok (.aload_n 2, 1)) (d1 : decode cL_law (pc + 1) = .ok (.invokevirtual 79, 3)) (d2 : decode cL_law (pc + 4) = .ok (.iload 5, 2)) (d3 : decode cL_law (pc + 6) = .ok (.if_icmp .eq 5, 3)) (d4 : decode cL_law (pc + 11) = .ok (.goto off, 3)) (ht : ((pc + 11 : Nat) : Int) + off = ((965 : Nat) : Int)) : W p l e room_1 s m #[Value.ref b] below meth c H locs cells slots Q (F0 m pc ls []) := by
  obtain ⟨T, th, o, rfl, hJ⟩ := hE
  refine lw_thrown K hJ hP hS hl (a := 4) (d := 0) rfl rfl hc2 d0 d1 d2 d3 (fun H locs hP hS => ?_)
  refine lv_goto (tgt := 965) K.hx K.hb d4 ht ?_
  exact hz _ T th o _ _ _ _ _ hJ hP hS (lv_sub hl [1, 2, 3, 4, 5] rfl) hc.1 hc.2
theorem lw_end1 {q : Nat} {off : Int} {v5 v6 : Int32} (K : LK p l s m c G L ad b Ln xs N V M) (hE : JE1 G ad g N V M v5 v6) (hP : va_P G.1 vwCl (wl L ad g) H) (hS : va_S (cx_A L ad s.heap.size) s.heap H locs) (hl : lv_has ls 7 ((6, .int v6) :: (5, .int v5) :: lwl b ad q)) {c0 s0 : Nat} (hz : LZ p l e s m below meth c Q G L ad b N V M q c0 s0) (hc : cells ≤ c0 + 4 ∧ slots ≤ s0 + 24) (hc2 : cells ≤ 634768 ∧ slots ≤ 7191766)
    (d0 : decode cL_law pc = .ok (.aload_n 2, 1)) (d1 : decode cL_law (pc + 1) = .ok (.invokevirtual 79, 3)) (d2 : decode cL_law (pc + 4) = .ok (.iload 5, 2)) (d3 : decode cL_law (pc + 6) = .ok (.if_icmp .eq 5, 3)) (e0 : decode cL_law (pc + 11) = .ok (.iload 5, 2)) (e1 : decode cL_law (pc + 13) = .ok (.ifCond .ne 15, 3)) (e2 : decode cL_law (pc + 16) = .ok (.aload_n 3, 1)) (e3 : decode cL_law (pc + 17) = .ok (.iconst 0, 1)) (e4 : decode cL_law (pc + 18) = .ok (.laload, 1)) (e5 : decode cL_law (pc + 19) = .ok (.iload 6, 2)) (e6 : decode cL_law (pc + 21) = .ok (.i2l, 1)) (e7 : decode cL_law (pc + 22) = .ok (.lcmp, 1)) (e8 : decode cL_law (pc + 23) = .ok (.ifCond .eq 5, 3)) (d4 : decode cL_law (pc + 28) = .ok (.goto off, 3)) (ht : ((pc + 28 : Nat) : Int) + off = ((965 : Nat) : Int)) : W p l e room_1 s m #[Value.ref b] below meth c H locs cells slots Q (F0 m pc ls []) := by
  obtain ⟨T, th, o, rfl, hJ, ho⟩ := hE
  refine lw_thrown K hJ hP hS hl (a := 5) (d := 1) rfl rfl hc2 d0 d1 d2 d3 (fun H locs hP hS => ?_)
  have fin : W p l e room_1 s m #[Value.ref b] below meth c H locs cells slots Q (F0 m (pc + 28) ls []) := by
    refine lv_goto (tgt := 965) K.hx K.hb d4 ht ?_
    exact hz _ T th o _ _ _ _ _ hJ hP hS (lv_sub hl [2, 3, 4, 5, 6] rfl) hc.1 hc.2
  refine lv_iload K.hx K.hb e0 (lv_at hl 1 rfl) ?_
  refine lv_if_ne (x := nI th) (tgt := pc + 28) K.hx K.hb e1 (by omega) (fun _ => fin) (fun h0 => ?_)
  refine lv_aload_n K.hx K.hb e2 rfl (lv_at hl 6 rfl) ?_
  refine lv_iconst (v := nI 0) K.hx K.hb e3 (by decide) ?_
  refine ax_jald (k := 1100) (i := 0) K.hx K.hb K.hK hP K.h11 hJ.cj (by omega) (by omega) e4 ?_
  refine lv_iload K.hx K.hb e5 (lv_at hl 0 rfl) ?_
  refine lv_i2l (v := v6.toInt64) K.hx K.hb e6 rfl ?_
  rw [ho h0]
  refine W.lcmp K.hx K.hb e7 ?_
  rw [lw_cmp]
  exact lv_if_eq (x := 0) (tgt := pc + 28) K.hx K.hb e8 (by omega) (fun _ => fin) (fun h => absurd rfl h)
theorem lw_endb {q : Nat} {off : Int} {v5 v6 : Int32} (K : LK p l s m c G L ad b Ln xs N V M) (hE : JEb G ad g N V M v5 v6) (hP : va_P G.1 vwCl (wl L ad g) H) (hS : va_S (cx_A L ad s.heap.size) s.heap H locs) (hl : lv_has ls 7 ((6, .int v6) :: (5, .int v5) :: lwl b ad q)) {c0 s0 : Nat} (hz : LZ p l e s m below meth c Q G L ad b N V M q c0 s0) (hc : cells ≤ c0 + 4 ∧ slots ≤ s0 + 24) (hc2 : cells ≤ 634768 ∧ slots ≤ 7191766)
    (d0 : decode cL_law pc = .ok (.aload_n 2, 1)) (d1 : decode cL_law (pc + 1) = .ok (.invokevirtual 79, 3)) (d2 : decode cL_law (pc + 4) = .ok (.iload 5, 2)) (d3 : decode cL_law (pc + 6) = .ok (.if_icmp .eq 5, 3)) (e0 : decode cL_law (pc + 11) = .ok (.iload 5, 2)) (e1 : decode cL_law (pc + 13) = .ok (.ifCond .ne 22, 3)) (e2 : decode cL_law (pc + 16) = .ok (.aload_n 3, 1)) (e3 : decode cL_law (pc + 17) = .ok (.iconst 0, 1)) (e4 : decode cL_law (pc + 18) = .ok (.laload, 1)) (e5 : decode cL_law (pc + 19) = .ok (.iload 6, 2)) (e6 : decode cL_law (pc + 21) = .ok (.ifCond .eq 7, 3)) (e61 : decode cL_law (pc + 24) = .ok (.lconst 1, 1)) (e62 : decode cL_law (pc + 25) = .ok (.goto 4, 3)) (e63 : decode cL_law (pc + 28) = .ok (.lconst 0, 1)) (e7 : decode cL_law (pc + 29) = .ok (.lcmp, 1)) (e8 : decode cL_law (pc + 30) = .ok (.ifCond .eq 5, 3)) (d4 : decode cL_law (pc + 35) = .ok (.goto off, 3)) (ht : ((pc + 35 : Nat) : Int) + off = ((965 : Nat) : Int)) : W p l e room_1 s m #[Value.ref b] below meth c H locs cells slots Q (F0 m pc ls []) := by
  obtain ⟨T, th, o, rfl, hJ, ho⟩ := hE
  refine lw_thrown K hJ hP hS hl (a := 5) (d := 1) rfl rfl hc2 d0 d1 d2 d3 (fun H locs hP hS => ?_)
  have fin : W p l e room_1 s m #[Value.ref b] below meth c H locs cells slots Q (F0 m (pc + 35) ls []) := by
    refine lv_goto (tgt := 965) K.hx K.hb d4 ht ?_
    exact hz _ T th o _ _ _ _ _ hJ hP hS (lv_sub hl [2, 3, 4, 5, 6] rfl) hc.1 hc.2
  have fin2 : ∀ z : Int64, W p l e room_1 s m #[Value.ref b] below meth c H locs cells slots Q (F0 m (pc + 29) ls [.long z, .long z]) := fun z => by
    refine W.lcmp K.hx K.hb e7 ?_
    rw [lw_cmp]
    exact lv_if_eq (x := 0) (tgt := pc + 35) K.hx K.hb e8 (by omega) (fun _ => fin) (fun h => absurd rfl h)
  refine lv_iload K.hx K.hb e0 (lv_at hl 1 rfl) ?_
  refine lv_if_ne (x := nI th) (tgt := pc + 35) K.hx K.hb e1 (by omega) (fun _ => fin) (fun h0 => ?_)
  refine lv_aload_n K.hx K.hb e2 rfl (lv_at hl 6 rfl) ?_
  refine lv_iconst (v := nI 0) K.hx K.hb e3 (by decide) ?_
  refine ax_jald (k := 1100) (i := 0) K.hx K.hb K.hK hP K.h11 hJ.cj (by omega) (by omega) e4 ?_
  refine lv_iload K.hx K.hb e5 (lv_at hl 0 rfl) ?_
  refine lv_if_eq (x := v6) (tgt := pc + 28) K.hx K.hb e6 (by omega) (fun h6 => ?_) (fun h6 => ?_)
  · rw [((ho h0).resolve_right (fun h => h.1 h6)).2]
    refine lv_lconst (v := lN 0) K.hx K.hb e63 rfl ?_
    exact fin2 _
  · rw [((ho h0).resolve_left (fun h => h6 h.1)).2]
    refine lv_lconst (v := lN 1) K.hx K.hb e61 rfl ?_
    refine lv_goto (tgt := pc + 29) K.hx K.hb e62 (by omega) ?_
    exact fin2 _
end LAW
