/-! WORLDS THAT GROW: the labels' list grows, the addresses are known ahead -/
theorem wl_lt {G : cx_G} {L : List Nat} {ad : Nat → Nat} {g : Nat → va_E} {H : Heap} (hP : va_P G.1 vwCl (wl L ad g) H) {j : Nat} (hj : j ∈ L) : ad j < H.size := by
  obtain ⟨q, hq⟩ := wl_get (ad := ad) (g := g) hj
  exact (hP q _ hq).lt
theorem wl_kept {G : cx_G} {L : List Nat} {ad : Nat → Nat} {g : Nat → va_E} {H H1 : Heap} (hP : va_P G.1 vwCl (wl L ad g) H) (ho : ∀ q : Nat, q < H.size → H1[q]? = H[q]?) : va_P G.1 vwCl (wl L ad g) H1 := hP.kept (fun k x hx => ho x.1 ((hP k x hx).lt))
theorem wl_push {G : cx_G} {L : List Nat} {ad : Nat → Nat} {g : Nat → va_E} {H1 : Heap} (hP : va_P G.1 vwCl (wl L ad g) H1) (hD : cx_D L ad) {k : Nat} {ce : va_E} (hfr : ∀ j : Nat, j ∈ L → ad j ≠ ad k) (hat : va_at G.1 vwCl (ad k, ce) H1) : va_P G.1 vwCl (wl (L ++ [k]) ad (va_up g k ce)) H1 ∧ cx_D (L ++ [k]) ad := by
  have hkL : k ∉ L := fun h => hfr k h rfl
  refine ⟨fun i q hq => ?_, fun i j x hi hj => ?_, fun i j hi hj he => ?_⟩
  · obtain ⟨j, hj, rfl⟩ := wl_at hq
    by_cases e : j = k
    · subst e
      rw [va_up_self]
      exact hat
    · have hjL : j ∈ L := by
        rcases List.mem_append.mp (List.mem_of_getElem? hj) with h | h
        · exact h
        · exact absurd (List.mem_singleton.mp h) e
      rw [va_up_ne _ _ e]
      obtain ⟨q2, hq2⟩ := wl_get (ad := ad) (g := g) hjL
      exact hP q2 _ hq2
  · have hl : ∀ n : Nat, (L ++ [k])[n]? = some x → (n < L.length ∧ L[n]? = some x) ∨ (n = L.length ∧ x = k) := fun n hn => by
      by_cases h : n < L.length
      · rw [List.getElem?_append_left h] at hn
        exact Or.inl ⟨h, hn⟩
      · rw [List.getElem?_append_right (by omega)] at hn
        have h0 : n - L.length < 1 := (List.getElem?_eq_some_iff.mp hn).1
        rw [show n - L.length = 0 by omega] at hn
        cases hn
        exact Or.inr ⟨by omega, rfl⟩
    rcases hl i hi with ⟨a1, a2⟩ | ⟨a1, a2⟩ <;> rcases hl j hj with ⟨b1, b2⟩ | ⟨b1, b2⟩
    · exact hD.1 i j x a2 b2
    · exact absurd (by rw [← b2]; exact List.mem_of_getElem? a2) hkL
    · exact absurd (by rw [← a2]; exact List.mem_of_getElem? b2) hkL
    · rw [a1, b1]
  · rcases List.mem_append.mp hi with h | h <;> rcases List.mem_append.mp hj with h2 | h2
    · exact hD.2 i j h h2 he
    · rw [List.mem_singleton] at h2
      exact absurd (by rw [he, h2]) (hfr i h)
    · rw [List.mem_singleton] at h
      exact absurd (by rw [← he, h]) (hfr j h2)
    · rw [List.mem_singleton.mp h, List.mem_singleton.mp h2]
theorem va_S.up {L L1 : List Nat} {ad : Nat → Nat} {sz : Nat} {H0 H : Heap} {locs : List Loc} (hS : va_S (cx_A L ad sz) H0 H locs) (hL : ∀ j : Nat, j ∈ L → j ∈ L1) : va_S (cx_A L1 ad sz) H0 H locs := by
  have hA : ∀ q : Nat, cx_A L ad sz q → cx_A L1 ad sz q := fun q h => h.elim (fun ⟨j, a, b⟩ => Or.inl ⟨j, hL j a, b⟩) Or.inr
  exact ⟨hS.1, fun q h1 h2 => hS.2.1 q h1 (fun z => h2 (hA q z)), fun x hx => hA _ (hS.2.2 x hx)⟩
theorem cx_A.down {L L1 : List Nat} {ad : Nat → Nat} {sz : Nat} (h : ∀ j : Nat, j ∈ L1 → j ∈ L ∨ sz ≤ ad j) (q : Nat) (hq : cx_A L1 ad sz q) : cx_A L ad sz q := by
  rcases hq with ⟨j, a, rfl⟩ | hq
  · rcases h j a with h1 | h1
    · exact Or.inl ⟨j, h1, rfl⟩
    · exact Or.inr h1
  · exact Or.inr hq
theorem va_S.weak {A B : Nat → Prop} {H0 H : Heap} {locs : List Loc} (hS : va_S A H0 H locs) (h : ∀ q : Nat, A q → B q) : va_S B H0 H locs := ⟨hS.1, fun q h1 h2 => hS.2.1 q h1 (fun z => h2 (h q z)), fun x hx => h _ (hS.2.2 x hx)⟩
theorem va_S.ex {A : Nat → Prop} {H0 H H1 : Heap} {locs : List Loc} (hS : va_S A H0 H locs) (hz : H.size ≤ H1.size) (ho : ∀ q : Nat, q < H.size → H1[q]? = H[q]?) : va_S A H0 H1 locs := ⟨Nat.le_trans hS.1 hz, fun q h1 h2 => (ho q (Nat.lt_of_lt_of_le h1 hS.1)).trans (hS.2.1 q h1 h2), hS.2.2⟩
section GR
variable {p : Program} {l : Launch} {e : Env} {R : Room} {s : State} {m : MethodId} {args : Array Value} {below : List Frame} {meth : Method} {c : Code} {H : Heap} {locs : List Loc} {cells slots : Nat} {Q : State → Prop}
variable {cc : ByteArray} {pc : Nat} {ls : Array Slot} {rest : List Value} {G : cx_G} {L : List Nat} {ad : Nat → Nat} {g : Nat → va_E} {sz : Nat} {H0 : Heap}
/-- what a row of one new cell goes on with -/
abbrev NewK (p : Program) (l : Launch) (e : Env) (R : Room) (s : State) (m : MethodId) (args : Array Value) (below : List Frame) (meth : Method) (c : Code) (locs : List Loc) (cells slots : Nat) (Q : State → Prop) (G : cx_G) (L : List Nat) (ad : Nat → Nat) (g : Nat → va_E) (sz : Nat) (H0 H : Heap) (k : Nat) (ce : va_E) (g2 : JFrame) : Prop :=
  ∀ (L1 : List Nat) (H1 : Heap) (g1 : Nat → va_E), L1 = L ++ [k] → g1 = va_up g k ce → H1.size = H.size + 1 → va_P G.1 vwCl (wl L1 ad g1) H1 → cx_D L1 ad → va_S (cx_A L1 ad sz) H0 H1 locs → W p l e R s m args below meth c H1 locs cells slots Q g2
theorem ax_newarr (hx : p.tables.exec = Jvm.exec) (hb : c.code = cc) {atype : ArrayType} (harr : (Cond.arrayClass (newarray.typeOf atype)).before args s = true) {cA0 : ClassId} (hfc : s.vm.findClass ("[" ++ (newarray.typeOf atype).toString) = some cA0) (hP : va_P G.1 vwCl (wl L ad g) H) (hD : cx_D L ad) (hS : va_S (cx_A L ad sz) H0 H locs) {k n : Nat} (hk : ad k = H.size) {a0 : vp_A} (ha : vp_cell cA0 a0 = arrV cA0 n (fun _ => defaultValue (newarray.typeOf atype))) (hn : n < 2147483648) (hbytes : n * componentBytes (newarray.typeOf atype) ≤ 536870912) (hcells : cells + 1 ≤ R.cells) (hslots : slots + n ≤ R.slots) (hdg : decode cc pc = .ok (.newarray atype, 2))
    (kk : NewK p l e R s m args below meth c locs (cells + 1) (slots + n) Q G L ad g sz H0 H k (.inl (cA0, a0)) (F0 m (pc + 2) ls (.ref (ad k) :: rest))) : W p l e R s m args below meth c H locs cells slots Q (F0 m pc ls (.int (nI n) :: rest)) := by
  refine va_newaK hx hb harr rfl hdg rfl (nI_pos hn) (nI_clamp hn) hbytes hcells hslots rfl fun H1 cA e1 z1 o1 hAr hNm => ?_
  have ec : cA = cA0 := Option.some.inj (hNm.symm.trans hfc)
  subst ec
  have hfr : ∀ j : Nat, j ∈ L → ad j ≠ ad k := fun j hj h => by have := wl_lt hP hj; omega
  obtain ⟨h1, h2⟩ := wl_push (ce := .inl (cA, a0)) (wl_kept hP o1) hD hfr (by show H1[ad k]? = some (vp_cell _ _); rw [hk, ha]; exact e1)
  rw [← hk]
  exact kk _ H1 _ rfl rfl z1 h1 h2 ((hS.ex (by omega) o1).up (fun j hj => List.mem_append_left _ hj))
theorem ax_newI (hx : p.tables.exec = Jvm.exec) (hb : c.code = cc) (harr : (Cond.arrayClass .int).before args s = true) (hK : cx_K G s) (hP : va_P G.1 vwCl (wl L ad g) H) (hD : cx_D L ad) (hS : va_S (cx_A L ad sz) H0 H locs) {k n : Nat} (hk : ad k = H.size) {f : Nat → Int32} (hf : ∀ j : Nat, f j = 0) (hn : n < 1000) (hcells : cells + 1 ≤ R.cells) (hslots : slots + n ≤ R.slots) (hdg : decode cc pc = .ok (.newarray .int, 2))
    (kk : NewK p l e R s m args below meth c locs (cells + 1) (slots + n) Q G L ad g sz H0 H k (iA G n f) (F0 m (pc + 2) ls (.ref (ad k) :: rest))) : W p l e R s m args below meth c H locs cells slots Q (F0 m pc ls (.int (nI n) :: rest)) :=
  ax_newarr (atype := .int) hx hb harr (hK.1.2 0 _ rfl).2 hP hD hS hk (a0 := (n, .inl f)) (by rw [vp_cell_i]; exact congrArg (arrV _ n) (funext fun j => by rw [hf j]; rfl)) (by omega) (by show n * 4 ≤ _; omega) hcells hslots hdg kk
theorem ax_newZ (hx : p.tables.exec = Jvm.exec) (hb : c.code = cc) (harr : (Cond.arrayClass .boolean).before args s = true) (hK : cx_K G s) (hP : va_P G.1 vwCl (wl L ad g) H) (hD : cx_D L ad) (hS : va_S (cx_A L ad sz) H0 H locs) {k n : Nat} (hk : ad k = H.size) {f : Nat → Bool} (hf : ∀ j : Nat, f j = false) (hn : n < 1000) (hcells : cells + 1 ≤ R.cells) (hslots : slots + n ≤ R.slots) (hdg : decode cc pc = .ok (.newarray .boolean, 2))
    (kk : NewK p l e R s m args below meth c locs (cells + 1) (slots + n) Q G L ad g sz H0 H k (zA G n f) (F0 m (pc + 2) ls (.ref (ad k) :: rest))) : W p l e R s m args below meth c H locs cells slots Q (F0 m pc ls (.int (nI n) :: rest)) :=
  ax_newarr (atype := .boolean) hx hb harr (hK.1.2 1 _ rfl).2 hP hD hS hk (a0 := (n, .inl (fun j => if f j = true then 1 else 0))) (by rw [vp_cell_i]; exact congrArg (arrV _ n) (funext fun j => by rw [hf j]; rfl)) (by omega) (by show n * 1 ≤ _; omega) hcells hslots hdg kk
theorem ax_newJ (hx : p.tables.exec = Jvm.exec) (hb : c.code = cc) (harr : (Cond.arrayClass .long).before args s = true) (hK : cx_K G s) (hP : va_P G.1 vwCl (wl L ad g) H) (hD : cx_D L ad) (hS : va_S (cx_A L ad sz) H0 H locs) {k n : Nat} (hk : ad k = H.size) {f : Nat → Int64} (hf : ∀ j : Nat, f j = 0) (hn : n < 1000) (hcells : cells + 1 ≤ R.cells) (hslots : slots + n ≤ R.slots) (hdg : decode cc pc = .ok (.newarray .long, 2))
    (kk : NewK p l e R s m args below meth c locs (cells + 1) (slots + n) Q G L ad g sz H0 H k (jA G n f) (F0 m (pc + 2) ls (.ref (ad k) :: rest))) : W p l e R s m args below meth c H locs cells slots Q (F0 m pc ls (.int (nI n) :: rest)) :=
  ax_newarr (atype := .long) hx hb harr (hK.1.2 7 _ rfl).2 hP hD hS hk (a0 := (n, .inr (.inl f))) (by rw [vp_cell_l]; exact congrArg (arrV _ n) (funext fun j => by rw [hf j]; rfl)) (by omega) (by show n * 8 ≤ _; omega) hcells hslots hdg kk
theorem ax_new (hx : p.tables.exec = Jvm.exec) (hb : c.code = cc) {own C : String} {T : u_T} {N ci index : Nat} {Ts : List Cond} (hts : ∀ w ∈ Ts, w.before args s = true) (hin : ∀ w ∈ u_ws C T N, w ∈ Ts) (ty : Nat → FieldType) (hty : ∀ k, k < N → parseFieldDescriptor (T k).2.2.1 = some (ty k)) (hown : s.vm.findClass own = some m.cls) (hcl : (Cond.classLink own index C).before args s = true) (hinst : (Cond.instantiable C N).before args s = true) (hini : (Cond.initialized C).before args s = true)
    (hK : cx_K G s) (hP : va_P G.1 vwCl (wl L ad g) H) (hD : cx_D L ad) (hS : va_S (cx_A L ad sz) H0 H locs) {k : Nat} (hk : ad k = H.size) (hc : vwCl[ci]? = some (C, T, N)) {fs : List Value} (hfs : ∀ j, j < N → defaultValue (ty j) = vp_V fs j) (hcells : cells + 1 ≤ R.cells) (hslots : slots + N ≤ R.slots) (hdg : decode cc pc = .ok (.new index, 3))
    (kk : NewK p l e R s m args below meth c locs (cells + 1) (slots + N) Q G L ad g sz H0 H k (.inr (ci, fs)) (F0 m (pc + 3) ls (.ref (ad k) :: rest))) : W p l e R s m args below meth c H locs cells slots Q (F0 m pc ls rest) := by
  have hKn := hK.1.1 ci _ hc
  refine W.newcK hx hb hown hcl hinst hini rfl hdg hcells hslots hKn.2.1 rfl fun H1 kC hkC e1 z1 o1 => ?_
  have hfr : ∀ j : Nat, j ∈ L → ad j ≠ ad k := fun j hj h => by have := wl_lt hP hj; omega
  obtain ⟨h1, h2⟩ := wl_push (ce := .inr (ci, fs)) (wl_kept hP o1) hD hfr (by show ∃ r : vw_C, _ ∧ _; rw [hk]; exact ⟨_, hc, (u_born ty hts hin hKn hkC e1 hty).to hfs⟩)
  rw [← hk]
  exact kk _ H1 _ rfl rfl z1 h1 h2 ((hS.ex (by omega) o1).up (fun j hj => List.mem_append_left _ hj))
theorem ax_newq (hx : p.tables.exec = Jvm.exec) (hb : c.code = cc) {own C : String} {index : Nat} (hown : s.vm.findClass own = some m.cls) (hclink : (Cond.classLink own index C).before args s = true) (hover : va_AO C s) (hK : cx_K G s) {t : Nat} {cA0 : ClassId} (ht : (cx_t G)[t]? = some (cA0, .object C)) (hP : va_P G.1 vwCl (wl L ad g) H) (hD : cx_D L ad) (hS : va_S (cx_A L ad sz) H0 H locs) {k n : Nat} (hk : ad k = H.size) {f : Nat → Option Nat} (hf : ∀ j : Nat, f j = none) (hn : n < 1000) (hcells : cells + 1 ≤ R.cells) (hslots : slots + n ≤ R.slots) (hdg : decode cc pc = .ok (.anewarray index, 3))
    (kk : NewK p l e R s m args below meth c locs (cells + 1) (slots + n) Q G L ad g sz H0 H k (rA cA0 n f) (F0 m (pc + 3) ls (.ref (ad k) :: rest))) : W p l e R s m args below meth c H locs cells slots Q (F0 m pc ls (.int (nI n) :: rest)) := by
  have hcl : (nI n).toNatClampNeg = n := nI_clamp (by omega)
  refine W.anew hx hb hown hclink (va_AO.use hover) rfl hdg rfl (nI_pos (by omega)) (by rw [hcl]; omega) hcells (by rw [hcl]; exact hslots) fun cA kA comp f1 f2 f3 f4 => ?_
  obtain ⟨kA2, comp2, k1, k2, k3, k4⟩ := (hK.1.2 t _ ht).2
  have ec : cA = cA0 := Option.some.inj (f1.symm.trans k4)
  subst ec
  rw [hcl]
  generalize hH1 : H.push ({ cls := cA, slots := Array.replicate n .null, vm := .none } : Cell) = H1
  have z1 : H1.size = H.size + 1 := by rw [← hH1, Array.size_push]
  have e1 : H1[H.size]? = some (arrV cA n (fun _ => .null)) := by rw [← hH1, Array.getElem?_push_size, ← arrV_new]
  have o1 : ∀ q : Nat, q < H.size → H1[q]? = H[q]? := fun q hq => by rw [← hH1, Array.getElem?_push, if_neg (Nat.ne_of_lt hq)]
  have hfr : ∀ j : Nat, j ∈ L → ad j ≠ ad k := fun j hj h => by have := wl_lt hP hj; omega
  obtain ⟨h1, h2⟩ := wl_push (ce := rA cA n f) (wl_kept hP o1) hD hfr (by show H1[ad k]? = some (vp_cell _ _); rw [hk, vp_cell_q, e1]; exact congrArg (fun z => some (arrV cA n z)) (funext fun j => by rw [hf j]; rfl))
  rw [← hk]
  exact kk _ H1 _ rfl rfl z1 h1 h2 ((hS.ex (by omega) o1).up (fun j hj => List.mem_append_left _ hj))
/-- a reference to an object of the array's own class -/
theorem ax_aast (hx : p.tables.exec = Jvm.exec) (hb : c.code = cc) (hK : cx_K G s) (hP : va_P G.1 vwCl (wl L ad g) H) (hD : cx_D L ad) (hS : va_S (cx_A L ad sz) H0 H locs) {k kv t ci : Nat} (hk : k ∈ L) (hkv : kv ∈ L) {cA : ClassId} {C : String} {T : u_T} {N : Nat} (ht : (cx_t G)[t]? = some (cA, .object C)) (hc : vwCl[ci]? = some (C, T, N)) {n : Nat} {f f2 : Nat → Option Nat} {fs : List Value} (hg : g k = rA cA n f) (hgv : g kv = .inr (ci, fs)) {i : Nat} (hi : i < n) (hn : n < 2147483648) (hf : nu f i (some (ad kv)) = f2) (hdg : decode cc pc = .ok (.aastore, 1))
    (kk : ∀ (H1 : Heap) (locs1 : List Loc) (g1 : Nat → va_E), g1 = va_up g k (rA cA n f2) → H1.size = H.size → va_P G.1 vwCl (wl L ad g1) H1 → va_S (cx_A L ad sz) H0 H1 locs1 → W p l e R s m args below meth c H1 locs1 cells slots Q (F0 m (pc + 1) ls rest)) : W p l e R s m args below meth c H locs cells slots Q (F0 m pc ls (.ref (ad kv) :: .int (nI i) :: .ref (ad k) :: rest)) := by
  obtain ⟨q, hq⟩ := wl_get (ad := ad) (g := g) hk
  have hq2 := hq
  rw [hg] at hq
  obtain ⟨qv, hqv⟩ := wl_get (ad := ad) (g := g) hkv
  rw [hgv] at hqv
  obtain ⟨r', hr', cellV, g1, g2, g3, -⟩ := hP qv _ hqv
  have hcls := (hK.1.1 ci _ hc).2
  obtain ⟨kA, comp, k1, k2, k3, -⟩ := (hK.1.2 t _ ht).2
  have hcomp : comp = G.1.1 ci := Option.some.inj (k3.symm.trans hcls.1)
  subst hcomp
  obtain ⟨kC, hkC, -⟩ := hcls.2
  have hcl : (nI i).toNatClampNeg = i := nI_clamp (Nat.lt_trans hi hn)
  refine W.aast hx hb (hP q _ hq) (fun q h => by cases h) (fun h => by cases h) k1 k2 rfl hkC ⟨nI_pos (Nat.lt_trans hi hn), by show _ < (arrV _ _ _).slots.size; rw [arrV_size, hcl]; exact hi⟩ g1 (fun q h => by rw [g3] at h; cases h) (by rw [g2]; exact hkC) (by rw [g2]; exact va_assign hcls) rfl rfl hdg fun H1 e9 z oq => ?_
  have hw : (wl L ad g).set q (ad k, rA cA n f2) = wl L ad (va_up g k (rA cA n f2)) := wl_set hD hk hq2
  refine kk H1 _ _ rfl z ?_ (hS.put z oq ((hD.world g sz).2 q _ hq))
  rw [← hw]
  refine hP.set (hD.world g sz) hq ?_ oq
  show H1[ad k]? = some (vp_cell _ _)
  rw [e9, vp_cell_q, vp_cell_q, arrV_store, hcl]
  refine congrArg (fun z => some (arrV cA n z)) (funext fun j => ?_)
  rw [← hf]
  by_cases hq9 : j = i
  · subst hq9
    simp [updV, nu, va_rf]
  · simp [updV, nu, hq9]
theorem ax_putFz (hx : p.tables.exec = Jvm.exec) (hb : c.code = cc) {own ref C : String} {T : u_T} {N ci index : Nat} {Ts : List Cond} (hts : ∀ w ∈ Ts, w.before args s = true) (hin : ∀ w ∈ u_ws C T N, w ∈ Ts) (ty0 : Nat → FieldType) (hty : ∀ k, k < N → parseFieldDescriptor (T k).2.2.1 = some (ty0 k)) (hnm : ∀ a, a < N → ∀ b, b < N → a ≠ b → (T a).2.1 ≠ (T b).2.1) (hown : s.vm.findClass own = some m.cls) (hK : cx_K G s) (hP : va_P G.1 vwCl (wl L ad g) H) (hD : cx_D L ad) (hS0 : va_S (cx_A L ad sz) H0 H locs) {k : Nat} (hk : k ∈ L) {fs fs' : List Value} (hg : g k = .inr (ci, fs)) (hc : vwCl[ci]? = some (C, T, N)) (j : Nat) (hj : j < N) (hlink : (Cond.fieldLink own index ref (T j).2.1 (T j).2.2.1).before args s = true) (hsame : ∀ x, s.fieldFound? (T j).1 (T j).2.1 (T j).2.2.1 = some x → s.fieldFound? ref (T j).2.1 (T j).2.2.1 = some x) (hfin : (T j).2.2.2 = true) (hin2 : meth.name = "<init>") (hdecl : (T j).1 = own) {ty : FieldType} {v : Value} (hd : parseFieldDescriptor (T j).2.2.1 = some ty) (hn : narrow ty v = v) (hfit : fits ty v = true) (hl : j < fs.length) (hfs : fs.set j v = fs')
    (hdg : decode cc pc = .ok (.putfield index, 3)) (kk : ∀ (H1 : Heap) (locs1 : List Loc) (g1 : Nat → va_E), g1 = va_up g k (.inr (ci, fs')) → H1.size = H.size → va_P G.1 vwCl (wl L ad g1) H1 → va_S (cx_A L ad sz) H0 H1 locs1 → W p l e R s m args below meth c H1 locs1 cells slots Q (F0 m (pc + 3) ls rest)) : W p l e R s m args below meth c H locs cells slots Q (F0 m pc ls (v :: .ref (ad k) :: rest)) := by
  obtain ⟨q0, he⟩ := wl_get (ad := ad) (g := g) hk
  have hq2 := he
  rw [hg] at he
  have hDw := hD.world g sz
  have hap := va_apart (own := own) hts hin ty0 hty hnm hK.1 hc
  obtain ⟨r, h1, cell, q1, q2, q3, q4⟩ := hP q0 _ he
  have hr : r = (C, T, N) := Option.some.inj (h1.symm.trans hc)
  subst hr
  obtain ⟨hS, hfc, kC, hkC, hkind⟩ := hK.1.1 ci _ hc
  obtain ⟨cf, kf, fi, f, hi, hsl⟩ := hS j hj
  have hlay := hts _ (hin _ (u_in_lay hj))
  unfold u_lay at hlay
  rw [if_pos hfin] at hlay
  have hst := (u_facts hfc hkC (u_lays hts hin hj) hi).1
  have hcf : m.cls = cf := by
    obtain ⟨_, _, c', _, _, _, -, -, hf', -, -, -, hown2, -⟩ := Cond.laysFinal_spec hlay
    have e1 : c' = cf := by have := hi.symm.trans hf'; simp at this; exact this.1.symm
    rw [hdecl] at hown2
    rw [← e1]; exact Option.some.inj (hown.symm.trans hown2)
  have h6 := u_fits hfc hkC hkind (Or.inr hlay) hi hd hn hfit
  refine W.putFinK hx hb hown hlink (hsame _ hi) hst hcf hin2 (by rw [q2]; exact h6) q1 q3 (by rw [hsl]; exact k2_hasslot (q4 j hj)) rfl rfl hdg fun H' e1 e2 e3 => ?_
  rw [hsl] at e1 ⊢
  have hw : (wl L ad g).set q0 (ad k, .inr (ci, fs')) = wl L ad (va_up g k (.inr (ci, fs'))) := wl_set hD hk hq2
  refine kk H' _ _ rfl e2 ?_ (hS0.put e2 e3 (hDw.2 q0 _ he))
  rw [← hw, ← hfs]
  exact hP.set hDw he ⟨_, hc, t_OB.to (V := updV (vp_V fs) j v) ⟨_, e1, q2, q3, t_set q4 hap hj v⟩ (fun i _ => vp_updV_set hl v i)⟩ e3
theorem ax_iastz (hx : p.tables.exec = Jvm.exec) (hb : c.code = cc) (hK : cx_K G s) (hP : va_P G.1 vwCl (wl L ad g) H) (hD : cx_D L ad) (hS : va_S (cx_A L ad sz) H0 H locs) {k : Nat} (hk : k ∈ L) {n : Nat} {f f' : Nat → Int32} (hg : g k = iA G n f) {i : Nat} {v : Int32} (hi : i < n) (hn : n < 2147483648) (hf : upd f i v = f') (hdg : decode cc pc = .ok (.iastore, 1))
    (kk : ∀ (H1 : Heap) (locs1 : List Loc) (g1 : Nat → va_E), g1 = va_up g k (iA G n f') → H1.size = H.size → va_P G.1 vwCl (wl L ad g1) H1 → va_S (cx_A L ad sz) H0 H1 locs1 → W p l e R s m args below meth c H1 locs1 cells slots Q (F0 m (pc + 1) ls rest)) : W p l e R s m args below meth c H locs cells slots Q (F0 m pc ls (.int v :: .int (nI i) :: .ref (ad k) :: rest)) := by
  obtain ⟨q0, ha⟩ := wl_get (ad := ad) (g := g) hk
  have hq2 := ha
  rw [hg] at ha
  have hcl : (nI i).toNatClampNeg = i := nI_clamp (Nat.lt_trans hi hn)
  refine W.iast hx hb (hP q0 _ ha) ((hK.1.2 0 _ rfl).1 n (fun j => .int (f j))) (fun q => by cases q) (by show ¬ (nI i < 0 ∨ (arrV _ _ _).slots.size ≤ _); rw [arrV_size]; exact vp_in_nI hi hn) rfl rfl hdg fun H1 e9 z oq => ?_
  have hw : (wl L ad g).set q0 (ad k, iA G n f') = wl L ad (va_up g k (iA G n f')) := wl_set hD hk hq2
  refine kk H1 _ _ rfl z ?_ (hS.put z oq ((hD.world g sz).2 q0 _ ha))
  rw [← hw]
  refine hP.set (hD.world g sz) ha ?_ oq
  show H1[ad k]? = some (vp_cell _ _)
  rw [e9, vp_cell_i, vp_cell_i, arrV_store, hcl, ← hf]
  refine congrArg (fun z => some (arrV (G.2 0) n z)) (funext fun j => ?_)
  by_cases hq9 : j = i
  · subst hq9
    simp [updV, upd]
  · simp [updV, upd, hq9]
/-- rows b + 4, .. of a span -/
theorem wl_rows {b n : Nat} {ce : va_E} (L : List Nat) {H1 : Heap} (hat : ∀ i : Nat, i < n → va_at G.1 vwCl (ad (b + i), ce) H1) (hin : ∀ i j : Nat, i < n → j < n → ad (b + i) = ad (b + j) → i = j) (hfr : ∀ i : Nat, i < n → ∀ j : Nat, j ∈ L → ad j ≠ ad (b + i)) (hP : va_P G.1 vwCl (wl L ad g) H1) (hD : cx_D L ad) :
    ∀ k : Nat, k ≤ n → ∃ (L1 : List Nat) (g1 : Nat → va_E), (∀ j : Nat, j ∈ L1 ↔ j ∈ L ∨ (b ≤ j ∧ j < b + k)) ∧ (∀ i : Nat, i < k → g1 (b + i) = ce) ∧ (∀ j : Nat, ¬ (b ≤ j ∧ j < b + k) → g1 j = g j) ∧ va_P G.1 vwCl (wl L1 ad g1) H1 ∧ cx_D L1 ad
  | 0, _ => ⟨L, g, fun j => ⟨Or.inl, fun h => h.elim id (fun h => by omega)⟩, fun i h => absurd h (Nat.not_lt_zero i), fun _ _ => rfl, hP, hD⟩
  | k + 1, hk => by
    obtain ⟨L1, g1, h1, h2, h3, h4, h5⟩ := wl_rows L hat hin hfr hP hD k (by omega)
    obtain ⟨q1, q2⟩ := wl_push (k := b + k) (ce := ce) h4 h5 (fun j hj he => by
      rcases (h1 j).mp hj with h | h
      · exact hfr k (by omega) j h he
      · have e1 : j = b + (j - b) := by omega
        rw [e1] at he
        have := hin (j - b) k (by omega) (by omega) he
        omega) (hat k (by omega))
    refine ⟨L1 ++ [b + k], va_up g1 (b + k) ce, fun j => ?_, fun i hi => ?_, fun j hj => ?_, q1, q2⟩
    · rw [List.mem_append, h1 j, List.mem_singleton]
      constructor
      · rintro ((h | h) | h)
        · exact Or.inl h
        · exact Or.inr (by omega)
        · exact Or.inr (by omega)
      · rintro (h | h)
        · exact Or.inl (Or.inl h)
        · by_cases e : j = b + k
          · exact Or.inr e
          · exact Or.inl (Or.inr (by omega))
    · by_cases e : i = k
      · rw [e, va_up_self]
      · rw [va_up_ne _ _ (by omega)]
        exact h2 i (by omega)
    · rw [va_up_ne _ _ (by omega)]
      exact h3 j (by omega)
theorem ax_mna (hx : p.tables.exec = Jvm.exec) (hb : c.code = cc) {own : String} {index : Nat} (hown : s.vm.findClass own = some m.cls) (hclink : (Cond.classLink own index ("[" ++ (FieldType.array .int).toString)).before args s = true) (hover : va_AOA .int s) (harr : (Cond.arrayClass .int).before args s = true) (hK : cx_K G s) (hP : va_P G.1 vwCl (wl L ad g) H) (hD : cx_D L ad) (hS : va_S (cx_A L ad sz) H0 H locs) {b n : Nat} (hk : ad (b + 1) = H.size) (hr : ∀ i : Nat, i < n → ad (b + 4 + i) = H.size + 1 + i) (hn : n < 1000) (hcells : cells + (1 + n) ≤ R.cells) (hslots : slots + (n + n * n) ≤ R.slots) (hdg : decode cc pc = .ok (.multianewarray index 2, 4))
    (kk : ∀ (L1 : List Nat) (H1 : Heap) (g1 : Nat → va_E), (∀ j : Nat, j ∈ L1 ↔ j ∈ L ∨ j = b + 1 ∨ (b + 4 ≤ j ∧ j < b + 4 + n)) → g1 (b + 1) = rA (G.2 6) n (fun i => if i < n then some (ad (b + 4 + i)) else none) → (∀ i : Nat, i < n → g1 (b + 4 + i) = nA G n (vN (fun _ => 0))) → (∀ j : Nat, j ≠ b + 1 → ¬ (b + 4 ≤ j ∧ j < b + 4 + n) → g1 j = g j) → H1.size = H.size + 1 + n → va_P G.1 vwCl (wl L1 ad g1) H1 → cx_D L1 ad → va_S (cx_A L1 ad sz) H0 H1 locs → W p l e R s m args below meth c H1 locs (cells + 1 + n) (slots + n + n * n) Q (F0 m (pc + 4) ls (.ref (ad (b + 1)) :: rest))) : W p l e R s m args below meth c H locs cells slots Q (F0 m pc ls (.int (nI n) :: .int (nI n) :: rest)) := by
  have hcl : (nI n).toNatClampNeg = n := nI_clamp (by omega)
  have hcy : s.vm.findClass (FieldType.array .int).toString = some (G.2 0) := (hK.1.2 0 _ rfl).2
  intro T hT Xs
  obtain ⟨vm₁, cA, comp, -, fA, fC, hO, -, X', step⟩ := Xs.multianewarray2F hx hown hclink (va_AOA.use hover) harr (g := F0 m pc ls (.int (nI n) :: .int (nI n) :: rest)) rfl (by rw [hb]; exact hdg) rfl (nI_pos (by omega)) (nI_pos (by omega)) (by rw [hcl]; omega) (by rw [hcl]; show n * 4 ≤ _; omega) (by rw [hcl]; omega) (by decide) (by decide) (by rw [hcl]; exact hcells) (by rw [hcl]; exact hslots)
  have ec : some (G.2 0) = some comp := hcy.symm.trans fC
  cases ec
  have ec2 : cA = G.2 6 := Option.some.inj (fA.symm.trans (hK.1.2 6 _ rfl).2)
  subst ec2
  rw [hcl] at X' step
  generalize hF : Jvm.Free.Multi.fill (T.setVm vm₁) (G.2 6) (G.2 0) n n (defaultValue .int) n = F at X' step
  have hTh : (T.setVm vm₁).heap = H := hT
  obtain ⟨f1, f2, -, -⟩ := Jvm.Free.Multi.fill_facts (T.setVm vm₁) (G.2 6) (G.2 0) n n (defaultValue .int) n
  rw [hF, hTh] at f1 f2
  have hold : ∀ x : Nat, x < H.size → F.heap[x]? = H[x]? := fun x hx9 => by
    have := Jvm.Free.Multi.fill_old (T.setVm vm₁) (G.2 6) (G.2 0) n n (defaultValue .int) (a := x) (by rw [hTh]; exact hx9) n
    rw [hF, hTh] at this
    exact this
  have hrow : ∀ j : Nat, j < n → F.heap[H.size + 1 + j]? = some (vp_cell (G.2 0) (n, .inl (fun j => nI (vN (fun _ => 0) j)))) := fun j hj => by
    have := Jvm.Free.Multi.fill_inner (T.setVm vm₁) (G.2 6) (G.2 0) n n (defaultValue .int) n j hj
    rw [hF, hTh] at this
    rw [this, vp_cell_i]
    show some ({ cls := G.2 0, slots := Array.replicate n (.int 0), vm := .none } : Cell) = _
    rw [arrV_new]
    rfl
  have hout : Jvm.Free.Multi.outerC (G.2 6) n H.size n = vp_cell (G.2 6) (n, .inr (.inr (.inr (.inr (fun i => if i < n then some (ad (b + 4 + i)) else none))))) := by
    rw [vp_cell_q, vr_outer (G.2 6) n H.size n]
    refine congrArg (arrV _ n) (funext fun j => ?_)
    by_cases q : j < n
    · rw [if_pos q, if_pos q, hr j q]
    · rw [if_neg q, if_neg q]
  rw [hout] at f2
  have hP0 := wl_kept hP hold
  obtain ⟨h1, h2⟩ := wl_push (k := b + 1) (ce := rA (G.2 6) n (fun i => if i < n then some (ad (b + 4 + i)) else none)) hP0 hD (fun j hj h => by have := wl_lt hP hj; omega) (by show F.heap[ad (b + 1)]? = some (vp_cell _ _); rw [hk]; exact f2)
  obtain ⟨L1, g1, a1, a2, a3, a4, a5⟩ := wl_rows (b := b + 4) (n := n) (ce := nA G n (vN (fun _ => 0))) (L ++ [b + 1]) (H1 := F.heap) (fun i hi => by show F.heap[ad (b + 4 + i)]? = some (vp_cell _ _); rw [hr i hi]; exact hrow i hi) (fun i j hi hj h => by rw [hr i hi, hr j hj] at h; omega) (fun i hi j hj h => by
    rw [hr i hi] at h
    rcases List.mem_append.mp hj with q | q
    · have := wl_lt hP q; omega
    · rw [List.mem_singleton.mp q] at h; omega) h1 h2 n (Nat.le_refl n)
  obtain ⟨t, b1, b2⟩ := kk L1 F.heap g1 (fun j => by rw [a1 j, List.mem_append, List.mem_singleton, or_assoc]) (by rw [a3 _ (by omega), va_up_self]) a2 (fun j q1 q2 => by rw [a3 j q2, va_up_ne _ _ q1]) f1 a4 a5 ((hS.ex (by omega) hold).up (fun j hj => (a1 j).mpr (Or.inl (List.mem_append_left _ hj)))) F rfl X'
  refine ⟨t, step t ?_, b2⟩
  have e9 : T.heap.size = H.size := by rw [hT]
  rw [e9, ← hk]
  exact b1
end GR
def cx_Y (U : State) : Prop := va_AOA .int U ∧ va_AO RX0 U ∧ va_AO RX1 U ∧ va_AO RX2 U ∧ va_AO RX3 U
theorem cx_Y.moved {u U : State} (hv : u.vm.Alike U.vm) (h : cx_Y u) : cx_Y U := ⟨h.1.moved hv, h.2.1.moved hv, h.2.2.1.moved hv, h.2.2.2.1.moved hv, h.2.2.2.2.moved hv⟩
/-- the contracts of constructors: n cells come, at the addresses that are known -/
abbrev CV (l : Launch) (y : MethodName) (ws : List Cond) (rm : Room) (G : cx_G) (L : List Nat) (ad : Nat → Nat) (g : Nat → va_E) (av : List Value) (n : Nat) (post : List Nat × (Nat → va_E) → Prop) (mc ms sz : Nat) : Prop := Met l y ws rm (va_Pc av (fun U => cx_P G L ad g sz U ∧ cx_Y U)) (va_Qv post (fun u t => cx_B G u.1 ad u.2 t ∧ t.heap.size = sz + n ∧ cx_D u.1 ad ∧ (∀ j : Nat, j ∈ L → j ∈ u.1) ∧ ∀ q : Nat, cx_A u.1 ad sz q → cx_A L ad sz q) (cx_A L ad sz)) mc ms (cx_A L ad sz)
section GC
variable {p : Program} {l : Launch} {e : Env} {R : Room} {s : State} {m : MethodId} {args : Array Value} {below : List Frame} {meth : Method} {c : Code} {H : Heap} {locs : List Loc} {cells slots : Nat} {Q : State → Prop}
variable {cc bytes : ByteArray} {maxL nL n index pc : Nat} {ls : Array Slot} {rest As st0 : List Value} {G : cx_G} {L : List Nat} {ad : Nat → Nat} {g : Nat → va_E} {sz mc ms na : Nat} {H0 : Heap} {own : String} {y : MethodName} {ws Ts : List Cond} {rm : Room}
theorem cx_Iv {post : List Nat × (Nat → va_E) → Prop} {k : Nat} (S : CallFix p m c cc nL s args Ts own) (hM : CV l y ws rm G L ad g (.ref (ad k) :: As) na post mc ms H.size) (cw : CallB R s args own index y bytes maxL none ws rm mc ms n ∧ y.name = "<init>" ∧ (Cond.instanceMethod y).before args s = true) (hK : cx_K G s) (hY : cx_Y s) (hP : va_P G.1 vwCl (wl L ad g) H) (hS : va_S (cx_A L ad sz) H0 H locs) (hz : sz ≤ H0.size) (hc : cells + mc ≤ R.cells ∧ slots + ms ≤ R.slots) (hn : As.length = n) (hsize : ls.size = nL) (hst : st0 = As.reverse ++ .ref (ad k) :: rest) (hW : (rest.map fun v => v.category).sum ≤ 8) (hdg : decode cc pc = .ok (.invokespecial index, 3))
    (kk : ∀ (u : List Nat × (Nat → va_E)) (H1 : Heap) (locs1 : List Loc), post u → (∀ j : Nat, j ∈ L → j ∈ u.1) → va_P G.1 vwCl (wl u.1 ad u.2) H1 → cx_D u.1 ad → H1.size = H.size + na → (∀ q : Nat, cx_A u.1 ad sz q → cx_A L ad sz q) → va_S (cx_A u.1 ad sz) H0 H1 locs1 → W p l e R s m args below meth c H1 locs1 (cells + mc) (slots + ms) Q (F0 m (pc + 3) ls rest)) : W p l e R s m args below meth c H locs cells slots Q (F0 m pc ls st0) := by
  have hsz : sz ≤ H.size := Nat.le_trans hz hS.1
  refine va_callv (va_runI (As := As) (rest := rest) (g := F0 m pc ls st0) S hM cw ⟨fun a U gg mk q => by obtain ⟨q0, ⟨q1, qP, qK⟩, qY⟩ := q; exact ⟨q0, ⟨q1, qP, cx_K.same (u := U) (U := U.calling gg mk a) rfl qK⟩, cx_Y.moved (u := U) (U := U.calling gg mk a) (Vm.Alike.refl U.vm) qY⟩, fun U hU hW9 => ⟨rfl, (cx_pre (av := .ref (ad k) :: As) hU hW9 hP hK).2, cx_Y.moved hW9.alike hY⟩⟩ rfl hn hsize hst (lv_room hW) hdg hc) hS (fun q _ h => cx_A.mono hsz h) (fun q h => cx_A.mono hsz h) (fun u t H1 locs1 ht _ hw hB _ _ hS1 => ?_)
  obtain ⟨b1, b2, b3, b4, b5⟩ := hB
  have hdn : ∀ q : Nat, cx_A u.1 ad sz q → cx_A L ad sz q := fun q hq => by
    rcases hq with ⟨j, hj, rfl⟩ | hq
    · rcases b5 _ (Or.inl ⟨j, hj, rfl⟩) with h | h
      · exact Or.inl h
      · exact Or.inr (Nat.le_trans hsz h)
    · exact Or.inr hq
  exact kk u H1 locs1 hw b4 (by rw [← ht]; exact b1.1) b3 (by rw [← ht]; exact b2) hdn (hS1.up b4)
theorem cx_ofC {post : List Nat × (Nat → va_E) → Prop} {av : List Value} {ws' : List Cond} (hy : plainName y.cls = true) (hin : y.name = "<init>") (hw : ws = Cond.code y cc maxL none :: ws') (hav : (lg_sl av).length ≤ maxL)
    (body : ∀ (p : Program) (e : Env) (s : State) (m : MethodId) (args : Array Value) (below : List Frame) (meth : Method) (c : Code) (Q : State → Prop), p.tables.exec = Jvm.exec → c.code = cc → (∀ w ∈ ws, w.before args s = true) → s.vm.findClass y.cls = some m.cls → c.maxLocals = maxL → meth.name = "<init>" → va_P G.1 vwCl (wl L ad g) s.heap → cx_K G s → cx_Y s → va_S (cx_A L ad sz) s.heap s.heap [] → sz ≤ s.heap.size → s.heap.size = sz →
      (∀ (L1 : List Nat) (g1 : Nat → va_E) (H : Heap) (locs : List Loc) (pc : Nat) (ls : Array Slot) (cells slots : Nat), cells ≤ mc ∧ slots ≤ ms → post (L1, g1) → va_P G.1 vwCl (wl L1 ad g1) H → cx_D L1 ad → H.size = sz + na → (∀ j : Nat, j ∈ L → j ∈ L1) → (∀ q : Nat, cx_A L1 ad sz q → cx_A L ad sz q) → va_S (cx_A L1 ad sz) s.heap H locs → decode cc pc = .ok (.return_, 1) → W p l e rm s m args below meth c H locs cells slots Q (F0 m pc ls [])) →
      ∀ ls : Array Slot, lv_has ls maxL (lv_args 0 av) → W p l e rm s m args below meth c s.heap [] 0 0 Q (F0 m 0 ls [])) : CV l y ws rm G L ad g av na post mc ms sz := by
  refine Met.ofW (cc := cc) (maxL := maxL) (ret := none) hy (by rw [hw]) ?_
  intro p e s m args below meth c s₁ B hml hv
  obtain ⟨rfl, ⟨hsz, hP, hK⟩, hY⟩ := hv
  rw [lg_entry_eq]
  refine body p e s m _ below meth c _ B.exec B.bytes (atoms_spec B.pre) (findClass_of_methodNamed B.named) hml ((name_of_methodNamed B.named B.method).1.trans hin) hP hK hY va_S.rf (by omega) hsz ?_ _ (lv_entry av hav)
  intro L1 g1 H locs pc ls cells slots hcs hp hP1 hD1 hH hL hA hS1 hd
  have hS2 := hS1.weak hA
  exact cx_wide hcs (W.vret B.exec B.bytes B.returns (fun t ht hW => ⟨⟨(L1, g1), rfl, hp, cx_end ht hW hP1 hK, by rw [ht]; exact hH, hD1, hL, hA⟩, hS2.F ht⟩) hS2.2.2 hd B.notSynchronized)
end GC
