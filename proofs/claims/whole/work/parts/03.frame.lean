/-! THE FRAME: a world is a list of labels L, an address for each label (ad), a cell for each label (g). Every contract speaks of the whole world, and of which labels it changes. -/
abbrev cx_G : Type := va_G × (Nat → ClassId)
abbrev cx_t (G : cx_G) : List (ClassId × FieldType) := [(G.2 0, .int), (G.2 1, .boolean), (G.2 2, .object RX0), (G.2 3, .object RX1), (G.2 4, .object RX2), (G.2 5, .object RX3), (G.2 6, .array .int), (G.2 7, .long)]
def cx_nest : List Cond := [.methodLinkNest RX0 28 yX5_copy RX5, .methodLinkNest RX0 32 yX5_valueOf RX5, .methodLinkNest RX0 36 yX5_addMultiple RX5, .methodLinkNest RX0 40 yX5_number RX5, .methodLinkNest RX2 17 yX5_copy RX5, .methodLinkNest RX3 23 yX5_copy RX5, .methodLinkNest RX4 38 yX5_inverse RX5, .methodLinkNest RX4 42 yX5_addMultiple RX5, .methodLinkNest RX4 47 yX5_copy RX5, .methodLinkNest RX4 51 yX5_number RX5]
def cx_K (G : cx_G) (U : State) : Prop := va_K G.1 vwCl (cx_t G) U ∧ ∀ w ∈ cx_nest, va_Nw w U
theorem cx_K.warm {G : cx_G} {s U : State} (hW : s.WarmedH U.vm) (h : cx_K G s) : cx_K G U := by
  refine ⟨va_K.moved hW.alike h.1, fun w hw => ?_⟩
  have h1 := h.2 w hw
  simp only [cx_nest, List.mem_cons, List.not_mem_nil, or_false] at hw
  rcases hw with rfl | rfl | rfl | rfl | rfl | rfl | rfl | rfl | rfl | rfl <;> exact va_Nw.warmM hW h1
theorem cx_K.same {G : cx_G} {u U : State} (hv : u.vm = U.vm) (h : cx_K G u) : cx_K G U := by
  refine ⟨va_K.moved (by rw [hv]; exact Vm.Alike.refl _) h.1, fun w hw => ?_⟩
  have h1 := h.2 w hw
  simp only [cx_nest, List.mem_cons, List.not_mem_nil, or_false] at hw
  rcases hw with rfl | rfl | rfl | rfl | rfl | rfl | rfl | rfl | rfl | rfl <;> exact va_Nw.same rfl hv h1
def wl (L : List Nat) (ad : Nat → Nat) (g : Nat → va_E) : va_W := L.map (fun k => (ad k, g k))
/-- labels and addresses: each label once, the addresses apart -/
def cx_D (L : List Nat) (ad : Nat → Nat) : Prop := (∀ i j k : Nat, L[i]? = some k → L[j]? = some k → i = j) ∧ ∀ i j : Nat, i ∈ L → j ∈ L → ad i = ad j → i = j
/-- what a method may change: the world's cells and new ones -/
def cx_A (L : List Nat) (ad : Nat → Nat) (sz : Nat) : Nat → Prop := fun q => (∃ k : Nat, k ∈ L ∧ q = ad k) ∨ sz ≤ q
theorem wl_get {L : List Nat} {ad : Nat → Nat} {g : Nat → va_E} {k : Nat} (h : k ∈ L) : ∃ q : Nat, (wl L ad g)[q]? = some (ad k, g k) := by
  obtain ⟨q, hq⟩ := List.getElem?_of_mem h
  exact ⟨q, by simp [wl, hq]⟩
theorem wl_at {L : List Nat} {ad : Nat → Nat} {g : Nat → va_E} {q : Nat} {x : Nat × va_E} (h : (wl L ad g)[q]? = some x) : ∃ k : Nat, L[q]? = some k ∧ x = (ad k, g k) := by
  simp only [wl, List.getElem?_map, Option.map_eq_some_iff] at h
  obtain ⟨k, h1, h2⟩ := h
  exact ⟨k, h1, h2.symm⟩
theorem wl_set {L : List Nat} {ad : Nat → Nat} {g : Nat → va_E} {k q : Nat} {e : va_E} (hD : cx_D L ad) (hk : k ∈ L) (hq : (wl L ad g)[q]? = some (ad k, g k)) : (wl L ad g).set q (ad k, e) = wl L ad (va_up g k e) := by
  obtain ⟨k2, h1, h2⟩ := wl_at hq
  have hkk : k2 = k := hD.2 k2 k (List.mem_of_getElem? h1) hk (congrArg Prod.fst h2).symm
  subst hkk
  have hl := (List.getElem?_eq_some_iff.mp hq).1
  apply List.ext_getElem?
  intro j
  by_cases hj : j = q
  · subst hj
    rw [List.getElem?_set_self hl]
    simp [wl, h1, va_up]
  · rw [List.getElem?_set_ne (Ne.symm hj)]
    simp only [wl, List.getElem?_map]
    cases hb : L[j]? with
    | none => rfl
    | some b =>
      have hbk : b ≠ k2 := fun z => hj (hD.1 _ _ _ hb (z ▸ h1))
      simp [va_up, hbk]
theorem cx_D.world {L : List Nat} {ad : Nat → Nat} (hD : cx_D L ad) (g : Nat → va_E) (sz : Nat) : va_D (cx_A L ad sz) (wl L ad g) := by
  refine ⟨fun i j x y hi hj hxy => ?_, fun k x hx => ?_⟩
  · obtain ⟨a, h1, h2⟩ := wl_at hi
    obtain ⟨b, h3, h4⟩ := wl_at hj
    rw [h2, h4] at hxy
    have hab : a = b := hD.2 a b (List.mem_of_getElem? h1) (List.mem_of_getElem? h3) hxy
    subst hab
    exact hD.1 _ _ _ h1 h3
  · obtain ⟨a, h1, h2⟩ := wl_at hx
    exact Or.inl ⟨a, List.mem_of_getElem? h1, by rw [h2]⟩
theorem cx_A.mono {L : List Nat} {ad : Nat → Nat} {a b : Nat} (h : a ≤ b) {q : Nat} (hq : cx_A L ad b q) : cx_A L ad a q := hq.elim Or.inl (fun z => Or.inr (Nat.le_trans h z))
/-- a contract's start and end -/
def cx_P (G : cx_G) (L : List Nat) (ad : Nat → Nat) (g : Nat → va_E) (sz : Nat) (U : State) : Prop := U.heap.size = sz ∧ va_P G.1 vwCl (wl L ad g) U.heap ∧ cx_K G U
def cx_B (G : cx_G) (L : List Nat) (ad : Nat → Nat) (g : Nat → va_E) (t : State) : Prop := va_P G.1 vwCl (wl L ad g) t.heap ∧ cx_K G t
theorem cx_blind {G : cx_G} {L : List Nat} {ad : Nat → Nat} {g : Nat → va_E} {sz : Nat} {av : List Value} : FrameBlind (va_Pc av (cx_P G L ad g sz)) := fun a U gg mk q => by
  obtain ⟨q0, q1, qP, qK⟩ := q
  exact ⟨q0, q1, qP, cx_K.same (u := U) (U := U.calling gg mk a) rfl qK⟩
-- contents
abbrev iA (G : cx_G) (n : Nat) (f : Nat → Int32) : va_E := .inl (G.2 0, n, .inl f)
abbrev nA (G : cx_G) (n : Nat) (f : Nat → Nat) : va_E := .inl (G.2 0, n, .inl (fun j => nI (f j)))
abbrev zA (G : cx_G) (n : Nat) (f : Nat → Bool) : va_E := .inl (G.2 1, n, .inl (fun j => if f j = true then 1 else 0))
abbrev rA (c : ClassId) (n : Nat) (f : Nat → Option Nat) : va_E := .inl (c, n, .inr (.inr (.inr (.inr f))))
abbrev jA (G : cx_G) (n : Nat) (f : Nat → Int64) : va_E := .inl (G.2 7, n, .inr (.inl f))
def nu {α : Type} (f : Nat → α) (k : Nat) (x : α) : Nat → α := fun j => if j = k then x else f j
theorem nu_s {α : Type} (f : Nat → α) (k : Nat) (x : α) : nu f k x k = x := if_pos rfl
theorem nu_n {α : Type} {f : Nat → α} {k j : Nat} {x : α} (h : j ≠ k) : nu f k x j = f j := if_neg h
theorem up_n (f : Nat → Nat) (k x : Nat) : upd (fun j => nI (f j)) k (nI x) = fun j => nI (nu f k x j) := by
  funext j
  by_cases h : j = k <;> simp [upd, nu, h]
theorem up_i (f : Nat → Int32) (k : Nat) (x : Int32) : upd f k x = nu f k x := by
  funext j
  simp [upd, nu]
theorem cx_eq {g g1 : Nat → va_E} {k : Nat} {e : va_E} (h : g1 = va_up g k e) : g1 k = e := by rw [h]; exact va_up_self _ _ _
theorem cx_ne {g g1 : Nat → va_E} {k : Nat} {e : va_E} (h : g1 = va_up g k e) (j : Nat) (hj : j ≠ k) : g1 j = g j := by rw [h]; exact va_up_ne _ _ hj
section AX
variable {p : Program} {l : Launch} {e : Env} {R : Room} {s : State} {m : MethodId} {args : Array Value} {below : List Frame} {meth : Method} {c : Code} {H : Heap} {locs : List Loc} {cells slots : Nat} {Q : State → Prop}
variable {cc : ByteArray} {pc : Nat} {ls : Array Slot} {rest : List Value} {G : cx_G} {L : List Nat} {ad : Nat → Nat} {g : Nat → va_E} {sz : Nat} {H0 : Heap}
theorem ax_get (hx : p.tables.exec = Jvm.exec) (hb : c.code = cc) {own ref C : String} {T : u_T} {N ci index : Nat} {Ts : List Cond} (hts : ∀ w ∈ Ts, w.before args s = true) (hin : ∀ w ∈ u_ws C T N, w ∈ Ts) (hown : s.vm.findClass own = some m.cls) (hK : cx_K G s) (hP : va_P G.1 vwCl (wl L ad g) H) {k : Nat} (hk : k ∈ L) {fs : List Value} (hg : g k = .inr (ci, fs)) (hc : vwCl[ci]? = some (C, T, N)) (j : Nat) (hj : j < N) (hlink : (Cond.fieldLink own index ref (T j).2.1 (T j).2.2.1).before args s = true) (hsame : ∀ x, s.fieldFound? (T j).1 (T j).2.1 (T j).2.2.1 = some x → s.fieldFound? ref (T j).2.1 (T j).2.2.1 = some x) {v : Value} (hv : fs[j]? = some v) (hdg : decode cc pc = .ok (.getfield index, 3))
    (kk : W p l e R s m args below meth c H locs cells slots Q (F0 m (pc + 3) ls (v :: rest))) : W p l e R s m args below meth c H locs cells slots Q (F0 m pc ls (.ref (ad k) :: rest)) := by
  obtain ⟨q, hq⟩ := wl_get (ad := ad) (g := g) hk
  rw [hg] at hq
  exact va_get hx hb hts hin hown hK.1 hP q hq hc j hj hlink hsame hv hdg kk
theorem ax_put (hx : p.tables.exec = Jvm.exec) (hb : c.code = cc) {own ref C : String} {T : u_T} {N ci index : Nat} {Ts : List Cond} (hts : ∀ w ∈ Ts, w.before args s = true) (hin : ∀ w ∈ u_ws C T N, w ∈ Ts) (ty0 : Nat → FieldType) (hty : ∀ k, k < N → parseFieldDescriptor (T k).2.2.1 = some (ty0 k)) (hnm : ∀ a, a < N → ∀ b, b < N → a ≠ b → (T a).2.1 ≠ (T b).2.1) (hown : s.vm.findClass own = some m.cls) (hK : cx_K G s) (hP : va_P G.1 vwCl (wl L ad g) H) (hD : cx_D L ad) (hS : va_S (cx_A L ad sz) H0 H locs) {k : Nat} (hk : k ∈ L) {fs fs' : List Value} (hg : g k = .inr (ci, fs)) (hc : vwCl[ci]? = some (C, T, N)) (j : Nat) (hj : j < N) (hlink : (Cond.fieldLink own index ref (T j).2.1 (T j).2.2.1).before args s = true) (hsame : ∀ x, s.fieldFound? (T j).1 (T j).2.1 (T j).2.2.1 = some x → s.fieldFound? ref (T j).2.1 (T j).2.2.1 = some x) (hfin : (T j).2.2.2 = false) {ty : FieldType} {v : Value} (hd : parseFieldDescriptor (T j).2.2.1 = some ty) (hn : narrow ty v = v) (hfit : fits ty v = true) (hl : j < fs.length) (hfs : fs.set j v = fs')
    (hdg : decode cc pc = .ok (.putfield index, 3)) (kk : ∀ (H1 : Heap) (locs1 : List Loc) (g1 : Nat → va_E), g1 = va_up g k (.inr (ci, fs')) → va_P G.1 vwCl (wl L ad g1) H1 → va_S (cx_A L ad sz) H0 H1 locs1 → W p l e R s m args below meth c H1 locs1 cells slots Q (F0 m (pc + 3) ls rest)) : W p l e R s m args below meth c H locs cells slots Q (F0 m pc ls (v :: .ref (ad k) :: rest)) := by
  obtain ⟨q, hq⟩ := wl_get (ad := ad) (g := g) hk
  have hq2 := hq
  rw [hg] at hq
  refine va_put hx hb hts hin ty0 hty hnm hown hK.1 hP (hD.world g sz) hS q hq hc j hj hlink hsame hfin hd hn hfit hl hdg (fun H1 locs1 h1 _ h3 => ?_)
  rw [wl_set hD hk hq2, hfs] at h1
  exact kk H1 locs1 _ rfl h1 h3
theorem ax_putF (hx : p.tables.exec = Jvm.exec) (hb : c.code = cc) {own ref C : String} {T : u_T} {N ci index : Nat} {Ts : List Cond} (hts : ∀ w ∈ Ts, w.before args s = true) (hin : ∀ w ∈ u_ws C T N, w ∈ Ts) (ty0 : Nat → FieldType) (hty : ∀ k, k < N → parseFieldDescriptor (T k).2.2.1 = some (ty0 k)) (hnm : ∀ a, a < N → ∀ b, b < N → a ≠ b → (T a).2.1 ≠ (T b).2.1) (hown : s.vm.findClass own = some m.cls) (hK : cx_K G s) (hP : va_P G.1 vwCl (wl L ad g) H) (hD : cx_D L ad) (hS : va_S (cx_A L ad sz) H0 H locs) {k : Nat} (hk : k ∈ L) {fs fs' : List Value} (hg : g k = .inr (ci, fs)) (hc : vwCl[ci]? = some (C, T, N)) (j : Nat) (hj : j < N) (hlink : (Cond.fieldLink own index ref (T j).2.1 (T j).2.2.1).before args s = true) (hsame : ∀ x, s.fieldFound? (T j).1 (T j).2.1 (T j).2.2.1 = some x → s.fieldFound? ref (T j).2.1 (T j).2.2.1 = some x) (hfin : (T j).2.2.2 = true) (hin2 : meth.name = "<init>") (hdecl : (T j).1 = own) {ty : FieldType} {v : Value} (hd : parseFieldDescriptor (T j).2.2.1 = some ty) (hn : narrow ty v = v) (hfit : fits ty v = true) (hl : j < fs.length) (hfs : fs.set j v = fs')
    (hdg : decode cc pc = .ok (.putfield index, 3)) (kk : ∀ (H1 : Heap) (locs1 : List Loc) (g1 : Nat → va_E), g1 = va_up g k (.inr (ci, fs')) → va_P G.1 vwCl (wl L ad g1) H1 → va_S (cx_A L ad sz) H0 H1 locs1 → W p l e R s m args below meth c H1 locs1 cells slots Q (F0 m (pc + 3) ls rest)) : W p l e R s m args below meth c H locs cells slots Q (F0 m pc ls (v :: .ref (ad k) :: rest)) := by
  obtain ⟨q, hq⟩ := wl_get (ad := ad) (g := g) hk
  have hq2 := hq
  rw [hg] at hq
  refine va_putF hx hb hts hin ty0 hty hnm hown hK.1 hP (hD.world g sz) hS q hq hc j hj hlink hsame hfin hin2 hdecl hd hn hfit hl hdg (fun H1 locs1 h1 _ h3 => ?_)
  rw [wl_set hD hk hq2, hfs] at h1
  exact kk H1 locs1 _ rfl h1 h3
theorem ax_iald (hx : p.tables.exec = Jvm.exec) (hb : c.code = cc) (hK : cx_K G s) (hP : va_P G.1 vwCl (wl L ad g) H) {k : Nat} (hk : k ∈ L) {n : Nat} {f : Nat → Int32} (hg : g k = iA G n f) {i : Nat} (hi : i < n) (hn : n < 2147483648) {v : Int32} (hv : f i = v) (hdg : decode cc pc = .ok (.iaload, 1))
    (kk : W p l e R s m args below meth c H locs cells slots Q (F0 m (pc + 1) ls (.int v :: rest))) : W p l e R s m args below meth c H locs cells slots Q (F0 m pc ls (.int (nI i) :: .ref (ad k) :: rest)) := by
  obtain ⟨q, hq⟩ := wl_get (ad := ad) (g := g) hk
  rw [hg] at hq
  refine va_iald hx hb hK.1 hP q 0 hq rfl (vp_in_nI hi hn) hdg ?_
  rw [nI_clamp (Nat.lt_trans hi hn), hv]
  exact kk
theorem ax_zald (hx : p.tables.exec = Jvm.exec) (hb : c.code = cc) (hK : cx_K G s) (hP : va_P G.1 vwCl (wl L ad g) H) {k : Nat} (hk : k ∈ L) {n : Nat} {f : Nat → Bool} (hg : g k = zA G n f) {i : Nat} (hi : i < n) (hn : n < 2147483648) (hdg : decode cc pc = .ok (.baload, 1))
    (kk : W p l e R s m args below meth c H locs cells slots Q (F0 m (pc + 1) ls (.int (if f i = true then 1 else 0) :: rest))) : W p l e R s m args below meth c H locs cells slots Q (F0 m pc ls (.int (nI i) :: .ref (ad k) :: rest)) := by
  obtain ⟨q, hq⟩ := wl_get (ad := ad) (g := g) hk
  rw [hg] at hq
  refine va_zald hx hb hK.1 hP q 1 hq rfl (vp_in_nI hi hn) hdg ?_
  rw [nI_clamp (Nat.lt_trans hi hn)]
  exact kk
theorem ax_jald (hx : p.tables.exec = Jvm.exec) (hb : c.code = cc) (hK : cx_K G s) (hP : va_P G.1 vwCl (wl L ad g) H) {k : Nat} (hk : k ∈ L) {n : Nat} {f : Nat → Int64} (hg : g k = jA G n f) {i : Nat} (hi : i < n) (hn : n < 2147483648) (hdg : decode cc pc = .ok (.laload, 1))
    (kk : W p l e R s m args below meth c H locs cells slots Q (F0 m (pc + 1) ls (.long (f i) :: rest))) : W p l e R s m args below meth c H locs cells slots Q (F0 m pc ls (.int (nI i) :: .ref (ad k) :: rest)) := by
  obtain ⟨q, hq⟩ := wl_get (ad := ad) (g := g) hk
  rw [hg] at hq
  refine va_lald hx hb hK.1 hP q 7 hq rfl (vp_in_nI hi hn) hdg ?_
  rw [nI_clamp (Nat.lt_trans hi hn)]
  exact kk
/-- a reference out of an array of objects (kinds 2 to 5) or of arrays (kind 6) -/
theorem ax_aald (hx : p.tables.exec = Jvm.exec) (hb : c.code = cc) (hK : cx_K G s) (hP : va_P G.1 vwCl (wl L ad g) H) {k : Nat} (hk : k ∈ L) (t : Nat) {cA : ClassId} {ty : FieldType} (ht : (cx_t G)[t]? = some (cA, ty)) (hty : ty.isReference = true) {n : Nat} {f : Nat → Option Nat} (hg : g k = rA cA n f) {i : Nat} (hi : i < n) (hn : n < 2147483648) {b : Nat} (hv : f i = some b) (hdg : decode cc pc = .ok (.aaload, 1))
    (kk : W p l e R s m args below meth c H locs cells slots Q (F0 m (pc + 1) ls (.ref b :: rest))) : W p l e R s m args below meth c H locs cells slots Q (F0 m pc ls (.int (nI i) :: .ref (ad k) :: rest)) := by
  obtain ⟨q, hq⟩ := wl_get (ad := ad) (g := g) hk
  rw [hg] at hq
  have hlt : (nI i).toNatClampNeg < n := by rw [nI_clamp (Nat.lt_trans hi hn)]; exact hi
  refine W.aald (v := .ref b) (ty := ty) hx hb (hP q _ hq) ((hK.1.2 t _ ht).1 n (fun j => va_rf (f j))) hty (fun q => by cases q) (by show ¬ ((nI i) < 0 ∨ (arrV _ _ _).slots.size ≤ _); rw [arrV_size]; exact vp_in_nI hi hn) (by show (arrV _ _ _).slots[_]? = _; rw [arrV_read _ _ hlt, nI_clamp (Nat.lt_trans hi hn), hv]; rfl) rfl rfl hdg kk
theorem ax_iast (hx : p.tables.exec = Jvm.exec) (hb : c.code = cc) (hK : cx_K G s) (hP : va_P G.1 vwCl (wl L ad g) H) (hD : cx_D L ad) (hS : va_S (cx_A L ad sz) H0 H locs) {k : Nat} (hk : k ∈ L) {n : Nat} {f f' : Nat → Int32} (hg : g k = iA G n f) {i : Nat} {v : Int32} (hi : i < n) (hn : n < 2147483648) (hf : upd f i v = f') (hdg : decode cc pc = .ok (.iastore, 1))
    (kk : ∀ (H1 : Heap) (locs1 : List Loc) (g1 : Nat → va_E), g1 = va_up g k (iA G n f') → va_P G.1 vwCl (wl L ad g1) H1 → va_S (cx_A L ad sz) H0 H1 locs1 → W p l e R s m args below meth c H1 locs1 cells slots Q (F0 m (pc + 1) ls rest)) : W p l e R s m args below meth c H locs cells slots Q (F0 m pc ls (.int v :: .int (nI i) :: .ref (ad k) :: rest)) := by
  obtain ⟨q, hq⟩ := wl_get (ad := ad) (g := g) hk
  have hq2 := hq
  rw [hg] at hq
  refine va_iast hx hb hK.1 hP (hD.world g sz) hS q 0 hq rfl (vp_in_nI hi hn) hdg (fun H1 locs1 h1 _ h3 => ?_)
  rw [nI_clamp (Nat.lt_trans hi hn), wl_set hD hk hq2, hf] at h1
  exact kk H1 locs1 _ rfl h1 h3
theorem ax_zast (hx : p.tables.exec = Jvm.exec) (hb : c.code = cc) (hK : cx_K G s) (hP : va_P G.1 vwCl (wl L ad g) H) (hD : cx_D L ad) (hS : va_S (cx_A L ad sz) H0 H locs) {k : Nat} (hk : k ∈ L) {n : Nat} {f : Nat → Bool} (hg : g k = zA G n f) {i : Nat} {b : Bool} (hi : i < n) (hn : n < 2147483648) {v : Int32} (hv : v = if b = true then 1 else 0) (hdg : decode cc pc = .ok (.bastore, 1))
    (kk : ∀ (H1 : Heap) (locs1 : List Loc) (g1 : Nat → va_E), g1 = va_up g k (zA G n (nu f i b)) → va_P G.1 vwCl (wl L ad g1) H1 → va_S (cx_A L ad sz) H0 H1 locs1 → W p l e R s m args below meth c H1 locs1 cells slots Q (F0 m (pc + 1) ls rest)) : W p l e R s m args below meth c H locs cells slots Q (F0 m pc ls (.int v :: .int (nI i) :: .ref (ad k) :: rest)) := by
  obtain ⟨q, hq⟩ := wl_get (ad := ad) (g := g) hk
  have hq2 := hq
  rw [hg] at hq
  refine va_zast hx hb hK.1 hP (hD.world g sz) hS q 1 hq rfl (vp_in_nI hi hn) hdg (fun H1 locs1 h1 _ h3 => ?_)
  have hnar : vp_nar .boolean v = if b = true then 1 else 0 := by
    subst hv
    cases b <;> decide
  have hf : upd (fun j => if f j = true then (1 : Int32) else 0) i (vp_nar .boolean v) = fun j => if nu f i b j = true then 1 else 0 := by
    rw [hnar]
    funext j
    by_cases h : j = i <;> simp [upd, nu, h]
  rw [nI_clamp (Nat.lt_trans hi hn), wl_set hD hk hq2, hf] at h1
  exact kk H1 locs1 _ rfl h1 h3
theorem ax_jast (hx : p.tables.exec = Jvm.exec) (hb : c.code = cc) (hK : cx_K G s) (hP : va_P G.1 vwCl (wl L ad g) H) (hD : cx_D L ad) (hS : va_S (cx_A L ad sz) H0 H locs) {k : Nat} (hk : k ∈ L) {n : Nat} {f : Nat → Int64} (hg : g k = jA G n f) {i : Nat} {v : Int64} (hi : i < n) (hn : n < 2147483648) (hdg : decode cc pc = .ok (.lastore, 1))
    (kk : ∀ (H1 : Heap) (locs1 : List Loc) (g1 : Nat → va_E), g1 = va_up g k (jA G n (vp_updL f i v)) → va_P G.1 vwCl (wl L ad g1) H1 → va_S (cx_A L ad sz) H0 H1 locs1 → W p l e R s m args below meth c H1 locs1 cells slots Q (F0 m (pc + 1) ls rest)) : W p l e R s m args below meth c H locs cells slots Q (F0 m pc ls (.long v :: .int (nI i) :: .ref (ad k) :: rest)) := by
  obtain ⟨q, hq⟩ := wl_get (ad := ad) (g := g) hk
  have hq2 := hq
  rw [hg] at hq
  refine va_last hx hb hK.1 hP (hD.world g sz) hS q 7 hq rfl (vp_in_nI hi hn) hdg (fun H1 locs1 h1 _ h3 => ?_)
  rw [nI_clamp (Nat.lt_trans hi hn), wl_set hD hk hq2] at h1
  exact kk H1 locs1 _ rfl h1 h3
theorem ax_alen (hx : p.tables.exec = Jvm.exec) (hb : c.code = cc) (hK : cx_K G s) (hP : va_P G.1 vwCl (wl L ad g) H) {k : Nat} (hk : k ∈ L) (t : Nat) {cA : ClassId} {ty : FieldType} (ht : (cx_t G)[t]? = some (cA, ty)) {x : vp_A} (hg : g k = .inl (cA, x)) {n : Nat} (hn : x.1 = n) (hdg : decode cc pc = .ok (.arraylength, 1))
    (kk : W p l e R s m args below meth c H locs cells slots Q (F0 m (pc + 1) ls (.int (nI n) :: rest))) : W p l e R s m args below meth c H locs cells slots Q (F0 m pc ls (.ref (ad k) :: rest)) := by
  obtain ⟨q, hq⟩ := wl_get (ad := ad) (g := g) hk
  rw [hg] at hq
  exact va_alen hx hb hK.1 hP q t hq ht (v := nI n) (by rw [hn]; rfl) hdg kk
theorem ax_copy (hx : p.tables.exec = Jvm.exec) (hb : c.code = cc) (hml : c.maxLocals = ls.size) {own : String} {index : Nat} (hown : s.vm.findClass own = some m.cls) (hlink : (Cond.methodLink own index arraycopyName).before args s = true) (hnat : (Cond.native arraycopyName).before args s = true) (hstat : (Cond.static arraycopyName).before args s = true) (hini : (Cond.initialized "java/lang/System").before args s = true)
    (hK : cx_K G s) (hP : va_P G.1 vwCl (wl L ad g) H) (hD : cx_D L ad) (hS : va_S (cx_A L ad sz) H0 H locs) {k0 k1 : Nat} (hk0 : k0 ∈ L) (hk1 : k1 ∈ L) {n : Nat} {f f1 : Nat → Int32} (hg0 : g k0 = iA G n f) (hg1 : g k1 = iA G n f1) (hn : n < 2147483648)
    (hframes : 1 ≤ R.frames) (hlocals : (rest.map fun v => v.category).sum + (nativeFrameWords "java/lang/System" "arraycopy" 5 + 11) ≤ R.locals) (hdg : decode cc pc = .ok (.invokestatic index, 3))
    (kk : ∀ (H1 : Heap) (locs1 : List Loc) (g1 : Nat → va_E), g1 = va_up g k1 (iA G n (fun j => if j < n then f j else f1 j)) → va_P G.1 vwCl (wl L ad g1) H1 → va_S (cx_A L ad sz) H0 H1 locs1 → W p l e R s m args below meth c H1 locs1 cells slots Q (F0 m (pc + 3) ls rest)) : W p l e R s m args below meth c H locs cells slots Q (F0 m pc ls (.int (nI n) :: .int (nI 0) :: .ref (ad k1) :: .int (nI 0) :: .ref (ad k0) :: rest)) := by
  obtain ⟨q0, hq0⟩ := wl_get (ad := ad) (g := g) hk0
  obtain ⟨q1, hq1⟩ := wl_get (ad := ad) (g := g) hk1
  have hq2 := hq1
  rw [hg0] at hq0
  rw [hg1] at hq1
  have e0 : (nI 0).toNatClampNeg = 0 := by decide
  have en : (nI n).toNatClampNeg = n := nI_clamp hn
  refine va_copyi hx hb hml hown hlink hnat hstat hini hK.1 hP (hD.world g sz) hS q0 q1 0 0 hq0 hq1 rfl rfl rfl (by decide) (by decide) (nI_pos hn) (by rw [e0, en]; omega) (by rw [e0, en]; omega) (fun i _ => rfl) hframes hlocals hdg (fun H1 locs1 h1 _ h3 => ?_)
  have ef : va_cpy f f1 (nI 0).toNatClampNeg (nI 0).toNatClampNeg (nI n).toNatClampNeg = fun j => if j < n then f j else f1 j := by
    rw [e0, en]
    funext j
    unfold va_cpy
    simp
  rw [ef, wl_set hD hk1 hq2] at h1
  exact kk H1 locs1 _ rfl h1 h3
-- numbers
theorem ax_const (hx : p.tables.exec = Jvm.exec) (hb : c.code = cc) {n : Int} {v : Nat} (hdg : decode cc pc = .ok (.iconst n, 1)) (hv : Int32.ofInt n = nI v)
    (k : W p l e R s m args below meth c H locs cells slots Q (F0 m (pc + 1) ls (.int (nI v) :: rest))) : W p l e R s m args below meth c H locs cells slots Q (F0 m pc ls (rest)) := lv_iconst hx hb hdg hv k
theorem ax_add (hx : p.tables.exec = Jvm.exec) (hb : c.code = cc) {a b : Nat} (hdg : decode cc pc = .ok (.iadd, 1))
    (k : W p l e R s m args below meth c H locs cells slots Q (F0 m (pc + 1) ls (.int (nI (a + b)) :: rest))) : W p l e R s m args below meth c H locs cells slots Q (F0 m pc ls (.int (nI b) :: .int (nI a) :: rest)) := lv_iadd hx hb hdg (by rw [nI_add]; exact k)
theorem ax_sub (hx : p.tables.exec = Jvm.exec) (hb : c.code = cc) {a b : Nat} (hdg : decode cc pc = .ok (.isub, 1)) (h : b ≤ a)
    (k : W p l e R s m args below meth c H locs cells slots Q (F0 m (pc + 1) ls (.int (nI (a - b)) :: rest))) : W p l e R s m args below meth c H locs cells slots Q (F0 m pc ls (.int (nI b) :: .int (nI a) :: rest)) := lv_isub hx hb hdg (by rw [pk_sub h]; exact k)
theorem ax_mul (hx : p.tables.exec = Jvm.exec) (hb : c.code = cc) {a b : Nat} (hdg : decode cc pc = .ok (.imul, 1))
    (k : W p l e R s m args below meth c H locs cells slots Q (F0 m (pc + 1) ls (.int (nI (a * b)) :: rest))) : W p l e R s m args below meth c H locs cells slots Q (F0 m pc ls (.int (nI b) :: .int (nI a) :: rest)) := lv_imul hx hb hdg (by rw [pk_mul]; exact k)
theorem ax_i2l (hx : p.tables.exec = Jvm.exec) (hb : c.code = cc) {a : Nat} (hdg : decode cc pc = .ok (.i2l, 1)) (h : a < 2147483648)
    (k : W p l e R s m args below meth c H locs cells slots Q (F0 m (pc + 1) ls (.long (lN a) :: rest))) : W p l e R s m args below meth c H locs cells slots Q (F0 m pc ls (.int (nI a) :: rest)) := lv_i2l hx hb hdg (nI_l h) k
theorem ax_l2i (hx : p.tables.exec = Jvm.exec) (hb : c.code = cc) {a : Nat} (hdg : decode cc pc = .ok (.l2i, 1))
    (k : W p l e R s m args below meth c H locs cells slots Q (F0 m (pc + 1) ls (.int (nI a) :: rest))) : W p l e R s m args below meth c H locs cells slots Q (F0 m pc ls (.long (lN a) :: rest)) := lv_l2i hx hb hdg (lN_i a) k
theorem ax_ladd (hx : p.tables.exec = Jvm.exec) (hb : c.code = cc) {a b : Nat} (hdg : decode cc pc = .ok (.ladd, 1))
    (k : W p l e R s m args below meth c H locs cells slots Q (F0 m (pc + 1) ls (.long (lN (a + b)) :: rest))) : W p l e R s m args below meth c H locs cells slots Q (F0 m pc ls (.long (lN b) :: .long (lN a) :: rest)) := lv_ladd hx hb hdg (by rw [lN_add]; exact k)
theorem ax_lmul (hx : p.tables.exec = Jvm.exec) (hb : c.code = cc) {a b : Nat} (hdg : decode cc pc = .ok (.lmul, 1))
    (k : W p l e R s m args below meth c H locs cells slots Q (F0 m (pc + 1) ls (.long (lN (a * b)) :: rest))) : W p l e R s m args below meth c H locs cells slots Q (F0 m pc ls (.long (lN b) :: .long (lN a) :: rest)) := lv_lmul hx hb hdg (by rw [lN_mul]; exact k)
theorem ax_lremM (hx : p.tables.exec = Jvm.exec) (hb : c.code = cc) {a : Nat} (hdg : decode cc pc = .ok (.lrem, 1)) (h : a < 9223372036854775808)
    (k : W p l e R s m args below meth c H locs cells slots Q (F0 m (pc + 1) ls (.long (lN (a % 65521)) :: rest))) : W p l e R s m args below meth c H locs cells slots Q (F0 m pc ls (.long 65521 :: .long (lN a) :: rest)) := by
  refine lv_lrem hx hb hdg (by decide) ?_
  have h1 : lN a - lN a / lN 65521 * lN 65521 = lN (a % 65521) := pk_lRem h (by decide) (by decide)
  have h2 : (65521 : Int64) = lN 65521 := by decide
  rw [h2, h1]
  exact k
/-- branches over natural numbers -/
theorem ax_icge (hx : p.tables.exec = Jvm.exec) (hb : c.code = cc) {a b : Nat} {off : Int} {tgt : Nat} (hdg : decode cc pc = .ok (.if_icmp .ge off, 3)) (ht : (pc : Int) + off = (tgt : Int)) (ha : a < 2147483648) (hb' : b < 2147483648)
    (kt : b ≤ a → W p l e R s m args below meth c H locs cells slots Q (F0 m tgt ls rest)) (kf : a < b → W p l e R s m args below meth c H locs cells slots Q (F0 m (pc + 3) ls rest)) : W p l e R s m args below meth c H locs cells slots Q (F0 m pc ls (.int (nI b) :: .int (nI a) :: rest)) :=
  lv_icmp_ge hx hb hdg ht (fun h => kt ((nI_leI hb' ha).mp h)) (fun h => kf (Nat.not_le.mp fun z => h ((nI_leI hb' ha).mpr z)))
theorem ax_icgt (hx : p.tables.exec = Jvm.exec) (hb : c.code = cc) {a b : Nat} {off : Int} {tgt : Nat} (hdg : decode cc pc = .ok (.if_icmp .gt off, 3)) (ht : (pc : Int) + off = (tgt : Int)) (ha : a < 2147483648) (hb' : b < 2147483648)
    (kt : b < a → W p l e R s m args below meth c H locs cells slots Q (F0 m tgt ls rest)) (kf : a ≤ b → W p l e R s m args below meth c H locs cells slots Q (F0 m (pc + 3) ls rest)) : W p l e R s m args below meth c H locs cells slots Q (F0 m pc ls (.int (nI b) :: .int (nI a) :: rest)) :=
  lv_icmp_gt hx hb hdg ht (fun h => kt ((nI_ltI hb' ha).mp h)) (fun h => kf (Nat.not_lt.mp fun z => h ((nI_ltI hb' ha).mpr z)))
theorem ax_iclt (hx : p.tables.exec = Jvm.exec) (hb : c.code = cc) {a b : Nat} {off : Int} {tgt : Nat} (hdg : decode cc pc = .ok (.if_icmp .lt off, 3)) (ht : (pc : Int) + off = (tgt : Int)) (ha : a < 2147483648) (hb' : b < 2147483648)
    (kt : a < b → W p l e R s m args below meth c H locs cells slots Q (F0 m tgt ls rest)) (kf : b ≤ a → W p l e R s m args below meth c H locs cells slots Q (F0 m (pc + 3) ls rest)) : W p l e R s m args below meth c H locs cells slots Q (F0 m pc ls (.int (nI b) :: .int (nI a) :: rest)) :=
  lv_icmp_lt hx hb hdg ht (fun h => kt ((nI_ltI ha hb').mp h)) (fun h => kf (Nat.not_lt.mp fun z => h ((nI_ltI ha hb').mpr z)))
theorem ax_icle (hx : p.tables.exec = Jvm.exec) (hb : c.code = cc) {a b : Nat} {off : Int} {tgt : Nat} (hdg : decode cc pc = .ok (.if_icmp .le off, 3)) (ht : (pc : Int) + off = (tgt : Int)) (ha : a < 2147483648) (hb' : b < 2147483648)
    (kt : a ≤ b → W p l e R s m args below meth c H locs cells slots Q (F0 m tgt ls rest)) (kf : b < a → W p l e R s m args below meth c H locs cells slots Q (F0 m (pc + 3) ls rest)) : W p l e R s m args below meth c H locs cells slots Q (F0 m pc ls (.int (nI b) :: .int (nI a) :: rest)) :=
  lv_icmp_le hx hb hdg ht (fun h => kt ((nI_leI ha hb').mp h)) (fun h => kf (Nat.not_le.mp fun z => h ((nI_leI ha hb').mpr z)))
theorem ax_iceq (hx : p.tables.exec = Jvm.exec) (hb : c.code = cc) {a b : Nat} {off : Int} {tgt : Nat} (hdg : decode cc pc = .ok (.if_icmp .eq off, 3)) (ht : (pc : Int) + off = (tgt : Int)) (ha : a < 2147483648) (hb' : b < 2147483648)
    (kt : a = b → W p l e R s m args below meth c H locs cells slots Q (F0 m tgt ls rest)) (kf : a ≠ b → W p l e R s m args below meth c H locs cells slots Q (F0 m (pc + 3) ls rest)) : W p l e R s m args below meth c H locs cells slots Q (F0 m pc ls (.int (nI b) :: .int (nI a) :: rest)) :=
  lv_icmp_eq hx hb hdg ht (fun h => kt ((nI_eq ha hb').mp h)) (fun h => kf (fun z => h ((nI_eq ha hb').mpr z)))
theorem ax_icne (hx : p.tables.exec = Jvm.exec) (hb : c.code = cc) {a b : Nat} {off : Int} {tgt : Nat} (hdg : decode cc pc = .ok (.if_icmp .ne off, 3)) (ht : (pc : Int) + off = (tgt : Int)) (ha : a < 2147483648) (hb' : b < 2147483648)
    (kt : a ≠ b → W p l e R s m args below meth c H locs cells slots Q (F0 m tgt ls rest)) (kf : a = b → W p l e R s m args below meth c H locs cells slots Q (F0 m (pc + 3) ls rest)) : W p l e R s m args below meth c H locs cells slots Q (F0 m pc ls (.int (nI b) :: .int (nI a) :: rest)) :=
  lv_icmp_ne hx hb hdg ht (fun h => kt (fun z => h ((nI_eq ha hb').mpr z))) (fun h => kf ((nI_eq ha hb').mp h))
theorem ax_ifeq (hx : p.tables.exec = Jvm.exec) (hb : c.code = cc) {a : Nat} {off : Int} {tgt : Nat} (hdg : decode cc pc = .ok (.ifCond .eq off, 3)) (ht : (pc : Int) + off = (tgt : Int)) (ha : a < 2147483648)
    (kt : a = 0 → W p l e R s m args below meth c H locs cells slots Q (F0 m tgt ls rest)) (kf : a ≠ 0 → W p l e R s m args below meth c H locs cells slots Q (F0 m (pc + 3) ls rest)) : W p l e R s m args below meth c H locs cells slots Q (F0 m pc ls (.int (nI a) :: rest)) :=
  lv_if_eq hx hb hdg ht (fun h => kt ((nI_eq (b := 0) ha (by decide)).mp h)) (fun h => kf (fun z => h ((nI_eq (b := 0) ha (by decide)).mpr z)))
theorem ax_ifne (hx : p.tables.exec = Jvm.exec) (hb : c.code = cc) {a : Nat} {off : Int} {tgt : Nat} (hdg : decode cc pc = .ok (.ifCond .ne off, 3)) (ht : (pc : Int) + off = (tgt : Int)) (ha : a < 2147483648)
    (kt : a ≠ 0 → W p l e R s m args below meth c H locs cells slots Q (F0 m tgt ls rest)) (kf : a = 0 → W p l e R s m args below meth c H locs cells slots Q (F0 m (pc + 3) ls rest)) : W p l e R s m args below meth c H locs cells slots Q (F0 m pc ls (.int (nI a) :: rest)) :=
  lv_if_ne hx hb hdg ht (fun h => kt (fun z => h ((nI_eq (b := 0) ha (by decide)).mpr z))) (fun h => kf ((nI_eq (b := 0) ha (by decide)).mp h))
/-- branches over a truth value -/
theorem ax_zeq (hx : p.tables.exec = Jvm.exec) (hb : c.code = cc) {b : Bool} {off : Int} {tgt : Nat} (hdg : decode cc pc = .ok (.ifCond .eq off, 3)) (ht : (pc : Int) + off = (tgt : Int))
    (kt : b = false → W p l e R s m args below meth c H locs cells slots Q (F0 m tgt ls rest)) (kf : b = true → W p l e R s m args below meth c H locs cells slots Q (F0 m (pc + 3) ls rest)) : W p l e R s m args below meth c H locs cells slots Q (F0 m pc ls (.int (if b = true then 1 else 0) :: rest)) :=
  lv_if_eq hx hb hdg ht (fun h => kt (by cases b; rfl; exact absurd h (by decide))) (fun h => kf (by cases b; exact absurd rfl h; rfl))
theorem ax_zne (hx : p.tables.exec = Jvm.exec) (hb : c.code = cc) {b : Bool} {off : Int} {tgt : Nat} (hdg : decode cc pc = .ok (.ifCond .ne off, 3)) (ht : (pc : Int) + off = (tgt : Int))
    (kt : b = true → W p l e R s m args below meth c H locs cells slots Q (F0 m tgt ls rest)) (kf : b = false → W p l e R s m args below meth c H locs cells slots Q (F0 m (pc + 3) ls rest)) : W p l e R s m args below meth c H locs cells slots Q (F0 m pc ls (.int (if b = true then 1 else 0) :: rest)) :=
  lv_if_ne hx hb hdg ht (fun h => kt (by cases b; exact absurd rfl h; rfl)) (fun h => kf (by cases b; rfl; exact absurd h (by decide)))
end AX

section AC
variable {p : Program} {l : Launch} {e : Env} {R : Room} {s : State} {m : MethodId} {args : Array Value} {below : List Frame} {meth : Method} {c : Code} {H : Heap} {locs : List Loc} {cells slots : Nat} {Q : State → Prop}
variable {cc bytes : ByteArray} {maxL nL n index pc : Nat} {ls : Array Slot} {rest As st0 : List Value} {G : cx_G} {L : List Nat} {ad : Nat → Nat} {g : Nat → va_E} {sz mc ms : Nat} {H0 : Heap} {ret : Option FieldType} {own host : String} {y : MethodName} {ws Ts : List Cond} {rm : Room}
/-- the contracts of methods that make no cell that stays -/
abbrev MI (l : Launch) (y : MethodName) (ws : List Cond) (rm : Room) (G : cx_G) (L : List Nat) (ad : Nat → Nat) (g : Nat → va_E) (av : List Value) (post : Int32 → (Nat → va_E) → Prop) : Prop := ∀ sz : Nat, Met l y ws rm (va_Pc av (cx_P G L ad g sz)) (va_Qi post (cx_B G L ad) (cx_A L ad sz)) 0 0 (cx_A L ad sz)
abbrev MV (l : Launch) (y : MethodName) (ws : List Cond) (rm : Room) (G : cx_G) (L : List Nat) (ad : Nat → Nat) (g : Nat → va_E) (av : List Value) (post : (Nat → va_E) → Prop) : Prop := ∀ sz : Nat, Met l y ws rm (va_Pc av (cx_P G L ad g sz)) (va_Qv post (cx_B G L ad) (cx_A L ad sz)) 0 0 (cx_A L ad sz)
theorem cx_pre {av : List Value} {U : State} (hU : U.heap = H) (hW : s.WarmedH U.vm) (hP : va_P G.1 vwCl (wl L ad g) H) (hK : cx_K G s) : va_Pc av (cx_P G L ad g H.size) av.toArray U := ⟨rfl, by rw [hU], by rw [hU]; exact hP, cx_K.warm hW hK⟩
theorem cx_recv (hK : cx_K G s) (hP : va_P G.1 vwCl (wl L ad g) H) {k ci : Nat} (hk : k ∈ L) {fs : List Value} (hg : g k = .inr (ci, fs)) {r : vw_C} (hc : vwCl[ci]? = some r) : ∃ cellB : Cell, H[ad k]? = some cellB ∧ cellB.vm.isStatics = false ∧ s.vm.findClass r.1 = some cellB.cls := by
  obtain ⟨q, hq⟩ := wl_get (ad := ad) (g := g) hk
  rw [hg] at hq
  exact va_recv hK.1 hP hc hq
theorem cx_goi {post : Int32 → (Nat → va_E) → Prop} (hr : va_Run p l e R s m args below meth c H locs cells slots 0 0 (F0 m pc ls st0) rest (va_Qi post (cx_B G L ad) (cx_A L ad H.size) As.toArray) (cx_A L ad H.size)) (hS : va_S (cx_A L ad sz) H0 H locs) (hz : sz ≤ H0.size)
    (kk : ∀ (r : Int32) (g1 : Nat → va_E) (H1 : Heap) (locs1 : List Loc), post r g1 → va_P G.1 vwCl (wl L ad g1) H1 → va_S (cx_A L ad sz) H0 H1 locs1 → W p l e R s m args below meth c H1 locs1 cells slots Q (F0 m (pc + 3) ls (.int r :: rest))) : W p l e R s m args below meth c H locs cells slots Q (F0 m pc ls st0) :=
  va_calli hr hS (fun q _ h => cx_A.mono (Nat.le_trans hz hS.1) h) (fun q h => cx_A.mono (Nat.le_trans hz hS.1) h) (fun r u t H1 locs1 ht _ hw hB _ _ hS1 => kk r u H1 locs1 hw (by rw [← ht]; exact hB.1) hS1)
theorem cx_gov {post : (Nat → va_E) → Prop} (hr : va_Run p l e R s m args below meth c H locs cells slots 0 0 (F0 m pc ls st0) rest (va_Qv post (cx_B G L ad) (cx_A L ad H.size) As.toArray) (cx_A L ad H.size)) (hS : va_S (cx_A L ad sz) H0 H locs) (hz : sz ≤ H0.size)
    (kk : ∀ (g1 : Nat → va_E) (H1 : Heap) (locs1 : List Loc), post g1 → va_P G.1 vwCl (wl L ad g1) H1 → va_S (cx_A L ad sz) H0 H1 locs1 → W p l e R s m args below meth c H1 locs1 cells slots Q (F0 m (pc + 3) ls rest)) : W p l e R s m args below meth c H locs cells slots Q (F0 m pc ls st0) :=
  va_callv hr hS (fun q _ h => cx_A.mono (Nat.le_trans hz hS.1) h) (fun q h => cx_A.mono (Nat.le_trans hz hS.1) h) (fun u t H1 locs1 ht _ hw hB _ _ hS1 => kk u H1 locs1 hw (by rw [← ht]; exact hB.1) hS1)
/-- calls: static, static of a nest mate, virtual (private too) -/
theorem cx_Si {post : Int32 → (Nat → va_E) → Prop} (S : CallFix p m c cc nL s args Ts own) (hM : MI l y ws rm G L ad g As post) (cw : CallB R s args own index y bytes maxL ret ws rm 0 0 n ∧ (Cond.static y).before args s = true) (hK : cx_K G s) (hP : va_P G.1 vwCl (wl L ad g) H) (hS : va_S (cx_A L ad sz) H0 H locs) (hz : sz ≤ H0.size) (hc : cells ≤ R.cells ∧ slots ≤ R.slots) (hn : As.length = n) (hsize : ls.size = nL) (hst : st0 = As.reverse ++ rest) (hW : (rest.map fun v => v.category).sum ≤ 8) (hdg : decode cc pc = .ok (.invokestatic index, 3))
    (kk : ∀ (r : Int32) (g1 : Nat → va_E) (H1 : Heap) (locs1 : List Loc), post r g1 → va_P G.1 vwCl (wl L ad g1) H1 → va_S (cx_A L ad sz) H0 H1 locs1 → W p l e R s m args below meth c H1 locs1 cells slots Q (F0 m (pc + 3) ls (.int r :: rest))) : W p l e R s m args below meth c H locs cells slots Q (F0 m pc ls st0) :=
  cx_goi (va_runS S (hM H.size) cw ⟨cx_blind, fun U hU hW => cx_pre hU hW hP hK⟩ rfl hn hsize hst (lv_room hW) hdg ⟨by omega, by omega⟩) hS hz kk
theorem cx_Sv {post : (Nat → va_E) → Prop} (S : CallFix p m c cc nL s args Ts own) (hM : MV l y ws rm G L ad g As post) (cw : CallB R s args own index y bytes maxL ret ws rm 0 0 n ∧ (Cond.static y).before args s = true) (hK : cx_K G s) (hP : va_P G.1 vwCl (wl L ad g) H) (hS : va_S (cx_A L ad sz) H0 H locs) (hz : sz ≤ H0.size) (hc : cells ≤ R.cells ∧ slots ≤ R.slots) (hn : As.length = n) (hsize : ls.size = nL) (hst : st0 = As.reverse ++ rest) (hW : (rest.map fun v => v.category).sum ≤ 8) (hdg : decode cc pc = .ok (.invokestatic index, 3))
    (kk : ∀ (g1 : Nat → va_E) (H1 : Heap) (locs1 : List Loc), post g1 → va_P G.1 vwCl (wl L ad g1) H1 → va_S (cx_A L ad sz) H0 H1 locs1 → W p l e R s m args below meth c H1 locs1 cells slots Q (F0 m (pc + 3) ls rest)) : W p l e R s m args below meth c H locs cells slots Q (F0 m pc ls st0) :=
  cx_gov (va_runS S (hM H.size) cw ⟨cx_blind, fun U hU hW => cx_pre hU hW hP hK⟩ rfl hn hsize hst (lv_room hW) hdg ⟨by omega, by omega⟩) hS hz kk
theorem cx_SNi {post : Int32 → (Nat → va_E) → Prop} (S : CallFix p m c cc nL s args Ts own) (hM : MI l y ws rm G L ad g As post) (cw : va_CN R s args own index y host bytes maxL ret ws rm 0 0 n ∧ (Cond.static y).before args s = true ∧ True) (hK : cx_K G s) (hP : va_P G.1 vwCl (wl L ad g) H) (hS : va_S (cx_A L ad sz) H0 H locs) (hz : sz ≤ H0.size) (hc : cells ≤ R.cells ∧ slots ≤ R.slots) (hn : As.length = n) (hsize : ls.size = nL) (hst : st0 = As.reverse ++ rest) (hW : (rest.map fun v => v.category).sum ≤ 8) (hdg : decode cc pc = .ok (.invokestatic index, 3))
    (kk : ∀ (r : Int32) (g1 : Nat → va_E) (H1 : Heap) (locs1 : List Loc), post r g1 → va_P G.1 vwCl (wl L ad g1) H1 → va_S (cx_A L ad sz) H0 H1 locs1 → W p l e R s m args below meth c H1 locs1 cells slots Q (F0 m (pc + 3) ls (.int r :: rest))) : W p l e R s m args below meth c H locs cells slots Q (F0 m pc ls st0) :=
  cx_goi (va_runSN S (hM H.size) cw ⟨cx_blind, fun U hU hW => cx_pre hU hW hP hK⟩ rfl hn hsize hst (lv_room hW) hdg ⟨by omega, by omega⟩) hS hz kk
theorem cx_SNv {post : (Nat → va_E) → Prop} (S : CallFix p m c cc nL s args Ts own) (hM : MV l y ws rm G L ad g As post) (cw : va_CN R s args own index y host bytes maxL ret ws rm 0 0 n ∧ (Cond.static y).before args s = true ∧ True) (hK : cx_K G s) (hP : va_P G.1 vwCl (wl L ad g) H) (hS : va_S (cx_A L ad sz) H0 H locs) (hz : sz ≤ H0.size) (hc : cells ≤ R.cells ∧ slots ≤ R.slots) (hn : As.length = n) (hsize : ls.size = nL) (hst : st0 = As.reverse ++ rest) (hW : (rest.map fun v => v.category).sum ≤ 8) (hdg : decode cc pc = .ok (.invokestatic index, 3))
    (kk : ∀ (g1 : Nat → va_E) (H1 : Heap) (locs1 : List Loc), post g1 → va_P G.1 vwCl (wl L ad g1) H1 → va_S (cx_A L ad sz) H0 H1 locs1 → W p l e R s m args below meth c H1 locs1 cells slots Q (F0 m (pc + 3) ls rest)) : W p l e R s m args below meth c H locs cells slots Q (F0 m pc ls st0) :=
  cx_gov (va_runSN S (hM H.size) cw ⟨cx_blind, fun U hU hW => cx_pre hU hW hP hK⟩ rfl hn hsize hst (lv_room hW) hdg ⟨by omega, by omega⟩) hS hz kk
theorem cx_Vi {post : Int32 → (Nat → va_E) → Prop} {C : String} {T : u_T} {N ci k : Nat} {fs : List Value} (S : CallFix p m c cc nL s args Ts own) (hM : MI l y ws rm G L ad g (.ref (ad k) :: As) post) (cw : CallW R s args own C index y bytes maxL ret ws rm 0 0 n) (hK : cx_K G s) (hP : va_P G.1 vwCl (wl L ad g) H) (hS : va_S (cx_A L ad sz) H0 H locs) (hz : sz ≤ H0.size) (hk : k ∈ L) (hg : g k = .inr (ci, fs)) (hcl : vwCl[ci]? = some (C, T, N)) (hc : cells ≤ R.cells ∧ slots ≤ R.slots) (hn : As.length = n) (hsize : ls.size = nL) (hst : st0 = As.reverse ++ .ref (ad k) :: rest) (hW : (rest.map fun v => v.category).sum ≤ 8) (hdg : decode cc pc = .ok (.invokevirtual index, 3))
    (kk : ∀ (r : Int32) (g1 : Nat → va_E) (H1 : Heap) (locs1 : List Loc), post r g1 → va_P G.1 vwCl (wl L ad g1) H1 → va_S (cx_A L ad sz) H0 H1 locs1 → W p l e R s m args below meth c H1 locs1 cells slots Q (F0 m (pc + 3) ls (.int r :: rest))) : W p l e R s m args below meth c H locs cells slots Q (F0 m pc ls st0) :=
  cx_goi (As := .ref (ad k) :: As) (va_runV S (hM H.size) cw ⟨cx_blind, cx_recv hK hP hk hg hcl, fun U hU hW => cx_pre hU hW hP hK⟩ rfl hn hsize hst (lv_room hW) hdg ⟨by omega, by omega⟩) hS hz kk
theorem cx_Vv {post : (Nat → va_E) → Prop} {C : String} {T : u_T} {N ci k : Nat} {fs : List Value} (S : CallFix p m c cc nL s args Ts own) (hM : MV l y ws rm G L ad g (.ref (ad k) :: As) post) (cw : CallW R s args own C index y bytes maxL ret ws rm 0 0 n) (hK : cx_K G s) (hP : va_P G.1 vwCl (wl L ad g) H) (hS : va_S (cx_A L ad sz) H0 H locs) (hz : sz ≤ H0.size) (hk : k ∈ L) (hg : g k = .inr (ci, fs)) (hcl : vwCl[ci]? = some (C, T, N)) (hc : cells ≤ R.cells ∧ slots ≤ R.slots) (hn : As.length = n) (hsize : ls.size = nL) (hst : st0 = As.reverse ++ .ref (ad k) :: rest) (hW : (rest.map fun v => v.category).sum ≤ 8) (hdg : decode cc pc = .ok (.invokevirtual index, 3))
    (kk : ∀ (g1 : Nat → va_E) (H1 : Heap) (locs1 : List Loc), post g1 → va_P G.1 vwCl (wl L ad g1) H1 → va_S (cx_A L ad sz) H0 H1 locs1 → W p l e R s m args below meth c H1 locs1 cells slots Q (F0 m (pc + 3) ls rest)) : W p l e R s m args below meth c H locs cells slots Q (F0 m pc ls st0) :=
  cx_gov (As := .ref (ad k) :: As) (va_runV S (hM H.size) cw ⟨cx_blind, cx_recv hK hP hk hg hcl, fun U hU hW => cx_pre hU hW hP hK⟩ rfl hn hsize hst (lv_room hW) hdg ⟨by omega, by omega⟩) hS hz kk
/-- a method's end: the world as it is -/
theorem cx_end {t : State} (ht : t.heap = H) (hW : s.WarmedH t.vm) (hP : va_P G.1 vwCl (wl L ad g) H) (hK : cx_K G s) : cx_B G L ad g t := ⟨by rw [ht]; exact hP, cx_K.warm hW hK⟩
end AC
theorem cx_ofW {l : Launch} {y : MethodName} {ws ws' : List Cond} {rm : Room} {Pc : Array Value → State → Prop} {Qc : Array Value → State → Outcome → State → Prop} {mc ms : Nat} {free : Addr → Prop} {cc : ByteArray} {maxL : Nat} {ret : Option FieldType}
    (hy : plainFor y = true) (hw : ws = Cond.code y cc maxL ret :: ws')
    (body : ∀ p e s m args below meth c s₁, BodyLoose p l y (headSpec ws rm) cc maxL ret e s m args below meth c s₁ → c.maxLocals = maxL → Pc args s →
      W p l e (headSpec ws rm).room s m args below meth c s.heap [] 0 0 (MQ below Qc args s mc ms free) (entryFrame m args maxL)) : Met l y ws rm Pc Qc mc ms free := by
  refine MetFree.of_bodySF (code := cc) (maxLocals := maxL) (ret := ret) hy ?_ ?_
  · intro args s m h hn
    obtain ⟨meth, c, h1, h2, h3, h4, h5, h6, -, -⟩ := Cond.code_spec hn (atoms_spec (ws := ws) h _ (by rw [hw]; exact List.mem_cons_self))
    exact ⟨meth, c, h1, h2, h3, h4, h5, h6⟩
  · intro p e s m args below meth c s₁ B hml hP _
    have hh0 : s₁.heap = s.heap := by rw [B.state]; rfl
    obtain ⟨t, a1, o, b1, b2, b3⟩ := body p e s m args below meth c s₁ B hml hP s₁ hh0 (Stand.of_body B)
    exact ⟨t, o, a1, b1, b2, ⟨b3.1, b3.2⟩⟩
section AO
variable {l : Launch} {y : MethodName} {ws ws' : List Cond} {rm : Room} {G : cx_G} {L : List Nat} {ad : Nat → Nat} {g : Nat → va_E} {av : List Value} {cc : ByteArray} {maxL : Nat}
/-- a body without an answer: Q is what is owed behind it, hret how it is paid at a return -/
theorem cx_ofV {post : (Nat → va_E) → Prop} (hy : plainFor y = true) (hw : ws = Cond.code y cc maxL none :: ws') (hav : (lg_sl av).length ≤ maxL)
    (body : ∀ (p : Program) (e : Env) (s : State) (m : MethodId) (args : Array Value) (below : List Frame) (meth : Method) (c : Code) (Q : State → Prop), p.tables.exec = Jvm.exec → c.code = cc → (∀ w ∈ ws, w.before args s = true) → s.vm.findClass y.cls = some m.cls → c.maxLocals = maxL → va_P G.1 vwCl (wl L ad g) s.heap → cx_K G s → va_S (cx_A L ad s.heap.size) s.heap s.heap [] → s.heap.size ≤ s.heap.size →
      (∀ (g1 : Nat → va_E) (H : Heap) (locs : List Loc) (pc : Nat) (ls : Array Slot), post g1 → va_P G.1 vwCl (wl L ad g1) H → va_S (cx_A L ad s.heap.size) s.heap H locs → decode cc pc = .ok (.return_, 1) → W p l e rm s m args below meth c H locs 0 0 Q (F0 m pc ls [])) →
      ∀ ls : Array Slot, lv_has ls maxL (lv_args 0 av) → W p l e rm s m args below meth c s.heap [] 0 0 Q (F0 m 0 ls [])) : MV l y ws rm G L ad g av post := by
  intro sz
  refine cx_ofW hy hw ?_
  intro p e s m args below meth c s₁ B hml hv
  obtain ⟨rfl, hsz, hP, hK⟩ := hv
  subst hsz
  rw [lg_entry_eq]
  refine body p e s m _ below meth c _ B.exec B.bytes (atoms_spec B.pre) (findClass_of_methodNamed B.named) hml hP hK va_S.rf (Nat.le_refl _) ?_ _ (lv_entry av hav)
  intro g1 H locs pc ls hp hP1 hS1 hd
  exact W.vret B.exec B.bytes B.returns (fun t ht hW => ⟨⟨g1, rfl, hp, cx_end ht hW hP1 hK⟩, hS1.F ht⟩) hS1.2.2 hd B.notSynchronized
theorem cx_ofI {ty : FieldType} {post : Int32 → (Nat → va_E) → Prop} (hy : plainFor y = true) (hw : ws = Cond.code y cc maxL (some ty) :: ws') (hav : (lg_sl av).length ≤ maxL)
    (body : ∀ (p : Program) (e : Env) (s : State) (m : MethodId) (args : Array Value) (below : List Frame) (meth : Method) (c : Code) (Q : State → Prop), p.tables.exec = Jvm.exec → c.code = cc → (∀ w ∈ ws, w.before args s = true) → s.vm.findClass y.cls = some m.cls → c.maxLocals = maxL → va_P G.1 vwCl (wl L ad g) s.heap → cx_K G s → va_S (cx_A L ad s.heap.size) s.heap s.heap [] → s.heap.size ≤ s.heap.size →
      (∀ (r : Int32) (g1 : Nat → va_E) (H : Heap) (locs : List Loc) (pc : Nat) (ls : Array Slot), narrow ty (.int r) = .int r → post r g1 → va_P G.1 vwCl (wl L ad g1) H → va_S (cx_A L ad s.heap.size) s.heap H locs → decode cc pc = .ok (.ireturn, 1) → W p l e rm s m args below meth c H locs 0 0 Q (F0 m pc ls [.int r])) →
      ∀ ls : Array Slot, lv_has ls maxL (lv_args 0 av) → W p l e rm s m args below meth c s.heap [] 0 0 Q (F0 m 0 ls [])) : MI l y ws rm G L ad g av post := by
  intro sz
  refine cx_ofW hy hw ?_
  intro p e s m args below meth c s₁ B hml hv
  obtain ⟨rfl, hsz, hP, hK⟩ := hv
  subst hsz
  rw [lg_entry_eq]
  refine body p e s m _ below meth c _ B.exec B.bytes (atoms_spec B.pre) (findClass_of_methodNamed B.named) hml hP hK va_S.rf (Nat.le_refl _) ?_ _ (lv_entry av hav)
  intro r g1 H locs pc ls hn hp hP1 hS1 hd
  exact W.zret B.exec B.bytes B.returns hn (fun t ht hW => ⟨⟨r, g1, rfl, hp, cx_end ht hW hP1 hK⟩, hS1.F ht⟩) hS1.2.2 hd B.notSynchronized
theorem nar_z (b : Bool) : narrow .boolean (.int (if b = true then 1 else 0)) = .int (if b = true then 1 else 0) := by cases b <;> decide
end AO
