/-! THE LAW's own methods: rows of wrappers, which catch -/
abbrev WI (l : Launch) (y : MethodName) (ws : List Cond) (rm : Room) (G : cx_G) (L : List Nat) (ad : Nat → Nat) (g : Nat → va_E) (av : List Value) (post : Int32 → (Nat → va_E) → Prop) (mc ms : Nat) : Prop := ∀ sz : Nat, Met l y ws rm (va_Pc av (cx_PX G L ad g sz)) (va_Qi post (cx_B G L ad) (cx_A L ad sz)) mc ms (cx_A L ad sz)
theorem cb_IA : Cond.castable xIA xIA ∈ cx_bad := by simp [cx_bad]
theorem cb_IS : Cond.castable xIS xIS ∈ cx_bad := by simp [cx_bad]
theorem cb_IO : Cond.castable xIO xIO ∈ cx_bad := by simp [cx_bad]
theorem cb_UO : Cond.castable xUO xUO ∈ cx_bad := by simp [cx_bad]
section WR
variable {l : Launch} {y : MethodName} {ws ws' : List Cond} {rm : Room} {G : cx_G} {L : List Nat} {ad : Nat → Nat} {g : Nat → va_E} {av : List Value} {cc : ByteArray} {maxL mc ms : Nat}
theorem cx_ofWI {ty : FieldType} {post : Int32 → (Nat → va_E) → Prop} {hh : List (Nat × Nat × Nat × Nat)} (hy : plainName y.cls = true) (hw : ws = Cond.codeWith y cc maxL (some ty) hh :: ws') (hav : (lg_sl av).length ≤ maxL)
    (body : ∀ (p : Program) (e : Env) (s : State) (m : MethodId) (args : Array Value) (below : List Frame) (meth : Method) (c : Code) (Q : State → Prop), p.tables.exec = Jvm.exec → c.code = cc → (∀ w ∈ ws, w.before args s = true) → s.vm.findClass y.cls = some m.cls → c.maxLocals = maxL → c.exceptionTable.toList = tableOf hh → va_P G.1 vwCl (wl L ad g) s.heap → cx_K G s → cx_X (cx_A L ad s.heap.size) s s.heap → va_S (cx_A L ad s.heap.size) s.heap s.heap [] → s.heap.size ≤ s.heap.size →
      (∀ (r : Int32) (g1 : Nat → va_E) (H : Heap) (locs : List Loc) (pc : Nat) (ls : Array Slot) (cells slots : Nat), cells ≤ mc ∧ slots ≤ ms → narrow ty (.int r) = .int r → post r g1 → va_P G.1 vwCl (wl L ad g1) H → va_S (cx_A L ad s.heap.size) s.heap H locs → decode cc pc = .ok (.ireturn, 1) → W p l e rm s m args below meth c H locs cells slots Q (F0 m pc ls [.int r])) →
      ∀ ls : Array Slot, lv_has ls maxL (lv_args 0 av) → W p l e rm s m args below meth c s.heap [] 0 0 Q (F0 m 0 ls [])) : WI l y ws rm G L ad g av post mc ms := by
  intro sz
  refine MetFree.of_bodyS (code := cc) (maxLocals := maxL) (ret := some ty) hy ?_ ?_
  · intro args s m h hn
    obtain ⟨m9, meth, c, hn9, h1, h2, h3, h4, -, h5, h6, -⟩ := Cond.codeWith_spec (atoms_spec (ws := ws) h _ (by rw [hw]; exact List.mem_cons_self))
    cases hn.symm.trans hn9
    exact ⟨meth, c, h1, h2, h3, h4, h5, h6⟩
  · intro p e s m args below meth c s₁ B hml hv _
    obtain ⟨rfl, ⟨hsz, hP, hK⟩, hX⟩ := hv
    subst hsz
    have hh0 : s₁.heap = s.heap := by rw [B.state]; rfl
    have htab := vx_table (x := y) B (atoms_spec B.pre _ (by rw [hw]; exact List.mem_cons_self))
    have K : W p l e rm s m av.toArray below meth c s.heap [] 0 0 (MQ below (va_Qi post (cx_B G L ad) (cx_A L ad s.heap.size)) av.toArray s mc ms (cx_A L ad s.heap.size)) (entryFrame m av.toArray maxL) := by
      rw [lg_entry_eq]
      refine body p e s m _ below meth c _ B.exec B.bytes (atoms_spec B.pre) (findClass_of_methodNamed B.named) hml htab hP hK hX va_S.rf (Nat.le_refl _) ?_ _ (lv_entry av hav)
      intro r g1 H locs pc ls cells slots hcs hn hp hP1 hS1 hd
      exact cx_wide hcs (W.zret B.exec B.bytes B.returns hn (fun t ht hW => ⟨⟨r, g1, rfl, hp, cx_end ht hW hP1 hK⟩, hS1.F ht⟩) hS1.2.2 hd B.notSynchronized)
    obtain ⟨t, a1, o, b1, b2, b3⟩ := K s₁ hh0 (Stand.of_body B)
    exact ⟨t, o, a1, b1, b2, ⟨b3.1, b3.2⟩⟩
end WR
section WC
variable {p : Program} {l : Launch} {e : Env} {R : Room} {s : State} {m : MethodId} {args : Array Value} {below : List Frame} {meth : Method} {c : Code} {H : Heap} {locs : List Loc} {cells slots : Nat} {Q : State → Prop}
variable {cc bytes : ByteArray} {maxL nL n index pc : Nat} {ls : Array Slot} {rest As st0 : List Value} {G : cx_G} {L L5 : List Nat} {ad : Nat → Nat} {g : Nat → va_E} {sz mc ms : Nat} {H0 : Heap} {ret : Option FieldType} {own : String} {y : MethodName} {ws Ts : List Cond} {rm : Room}
theorem cx_WSi {post : Int32 → (Nat → va_E) → Prop} {hh : List (Nat × Nat × Nat × Nat)} (S : CallFix p m c cc nL s args Ts own) (hM : WI l y ws rm G L ad g As post mc ms) (cw : vx_CSW R s args own index y bytes maxL ret hh ws rm mc ms n) (hK : cx_K G s) (hX : cx_X (cx_A L ad sz) s H0) (hP : va_P G.1 vwCl (wl L ad g) H) (hS : va_S (cx_A L ad sz) H0 H locs) (hz : sz ≤ H0.size) (hc : cells + mc ≤ R.cells ∧ slots + ms ≤ R.slots) (hn : As.length = n) (hsize : ls.size = nL) (hst : st0 = As.reverse ++ rest) (hW : (rest.map fun v => v.category).sum ≤ 8) (hdg : decode cc pc = .ok (.invokestatic index, 3))
    (kk : ∀ (r : Int32) (g1 : Nat → va_E) (H1 : Heap) (locs1 : List Loc), post r g1 → va_P G.1 vwCl (wl L ad g1) H1 → va_S (cx_A L ad sz) H0 H1 locs1 → W p l e R s m args below meth c H1 locs1 (cells + mc) (slots + ms) Q (F0 m (pc + 3) ls (.int r :: rest))) : W p l e R s m args below meth c H locs cells slots Q (F0 m pc ls st0) :=
  va_calli (vx_runSW S (hM H.size) cw ⟨cx_blindX, fun U hU hW => cx_preX hU hW hP hK hX hS hz⟩ rfl hn hsize hst (lv_room hW) hdg hc) hS (fun q _ h => cx_A.mono (Nat.le_trans hz hS.1) h) (fun q h => cx_A.mono (Nat.le_trans hz hS.1) h) (fun r u t H1 locs1 ht _ hw hB _ _ hS1 => kk r u H1 locs1 hw (by rw [← ht]; exact hB.1) hS1)
/-- a call over a part of the world: the rest is as it was -/
theorem cx_V5 {post : Int32 → (Nat → va_E) → Prop} {C : String} {T : u_T} {N ci k : Nat} {fs : List Value} (S : CallFix p m c cc nL s args Ts own) (hM : MI l y ws rm G L5 ad g (.ref (ad k) :: As) post) (hD : cx_D L ad) (hsub : ∀ j : Nat, j ∈ L5 → j ∈ L) (cw : CallW R s args own C index y bytes maxL ret ws rm 0 0 n) (hK : cx_K G s) (hP : va_P G.1 vwCl (wl L ad g) H) (hS : va_S (cx_A L ad sz) H0 H locs) (hz : sz ≤ H0.size) (hk : k ∈ L) (hg : g k = .inr (ci, fs)) (hcl : vwCl[ci]? = some (C, T, N)) (hc : cells ≤ R.cells ∧ slots ≤ R.slots) (hn : As.length = n) (hsize : ls.size = nL) (hst : st0 = As.reverse ++ .ref (ad k) :: rest) (hW : (rest.map fun v => v.category).sum ≤ 8) (hdg : decode cc pc = .ok (.invokevirtual index, 3))
    (kk : ∀ (r : Int32) (u5 g1 : Nat → va_E) (H1 : Heap) (locs1 : List Loc), post r u5 → (∀ j : Nat, j ∈ L5 → g1 j = u5 j) → (∀ j : Nat, j ∉ L5 → g1 j = g j) → va_P G.1 vwCl (wl L ad g1) H1 → va_S (cx_A L ad sz) H0 H1 locs1 → W p l e R s m args below meth c H1 locs1 cells slots Q (F0 m (pc + 3) ls (.int r :: rest))) : W p l e R s m args below meth c H locs cells slots Q (F0 m pc ls st0) := by
  have hP5 : va_P G.1 vwCl (wl L5 ad g) H := fun q x hx => by
    obtain ⟨j, hj, rfl⟩ := wl_at hx
    obtain ⟨q2, hq2⟩ := wl_get (ad := ad) (g := g) (hsub j (List.mem_of_getElem? hj))
    exact hP q2 _ hq2
  have hA5 : ∀ q : Nat, cx_A L5 ad H.size q → cx_A L ad H.size q := fun q h => h.elim (fun ⟨j, a, b⟩ => Or.inl ⟨j, hsub j a, b⟩) Or.inr
  have hr : va_Run p l e R s m args below meth c H locs cells slots 0 0 (F0 m pc ls st0) rest (va_Qi post (cx_B G L5 ad) (cx_A L5 ad H.size) (Value.ref (ad k) :: As).toArray) (cx_A L5 ad H.size) := va_runV S (hM H.size) cw ⟨cx_blind, cx_recv hK hP hk hg hcl, fun U hU hW => cx_pre hU hW hP5 hK⟩ rfl hn hsize hst (lv_room hW) hdg hc
  refine va_calli hr hS (fun q _ h => cx_A.mono (Nat.le_trans hz hS.1) (hA5 q h)) (fun q h => cx_A.mono (Nat.le_trans hz hS.1) (hA5 q h)) (fun r u t H1 locs1 ht _ hw hB _ hk1 hS1 => ?_)
  have hPu : va_P G.1 vwCl (wl L5 ad u) H1 := by rw [← ht]; exact hB.1
  have hold : ∀ j : Nat, j ∈ L → j ∉ L5 → H1[ad j]? = H[ad j]? := fun j hj h5 => hk1 _ (wl_lt hP hj) (fun z => by
    rcases z with ⟨i, hi, he⟩ | z
    · exact h5 (by rw [hD.2 j i hj (hsub i hi) he]; exact hi)
    · have := wl_lt hP hj; omega)
  refine kk r u (fun j => @ite _ (j ∈ L5) (Classical.propDecidable _) (u j) (g j)) H1 locs1 hw (fun j hj => if_pos hj) (fun j hj => if_neg hj) (fun q x hx => ?_) hS1
  obtain ⟨j, hj, rfl⟩ := wl_at hx
  have hjL := List.mem_of_getElem? hj
  by_cases h5 : j ∈ L5
  · show va_at G.1 vwCl (ad j, @ite _ (j ∈ L5) (Classical.propDecidable _) (u j) (g j)) H1
    rw [if_pos h5]
    obtain ⟨q2, hq2⟩ := wl_get (ad := ad) (g := u) h5
    exact hPu q2 _ hq2
  · show va_at G.1 vwCl (ad j, @ite _ (j ∈ L5) (Classical.propDecidable _) (u j) (g j)) H1
    rw [if_neg h5]
    obtain ⟨q2, hq2⟩ := wl_get (ad := ad) (g := g) hjL
    exact (hP q2 _ hq2).kept (hold j hjL h5)
end WC
