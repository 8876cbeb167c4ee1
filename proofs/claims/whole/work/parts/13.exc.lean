/-! THROWS: what a method that may throw needs besides its world: the string constants, words of tables, two statics of Throwable. -/
abbrev xIA : String := "java/lang/IllegalArgumentException"
abbrev xIS : String := "java/lang/IllegalStateException"
abbrev xIO : String := "java/lang/IndexOutOfBoundsException"
abbrev xUO : String := "java/lang/UnsupportedOperationException"
abbrev xNm : List String := ["java/lang/RuntimeException", "java/lang/Exception"]
def cx_strs : List (Nat × String) := [(211, "neither 0 nor a variable"), (207, "no such node"), (81, "no such kind"), (209, "no such variable"), (94, "no more edges"), (213, "not analysed"), (135, "no such point"), (151, "no such equation"), (166, "no such edge"), (171, "the run is not where the edge begins"), (187, "no more notes"), (194, "too many equations")]
def cx_bad : List Cond := [.declares ⟨"java/lang/RuntimeException", "<init>", "(Ljava/lang/String;)V"⟩, .declares ⟨"java/lang/Exception", "<init>", "(Ljava/lang/String;)V"⟩, .declares ⟨"java/lang/Throwable", "<init>", "(Ljava/lang/String;)V"⟩, .castable xIA xIA, .castable xIS xIS, .castable xIO xIO, .castable xUO xUO]
def cx_pass : List (String × String) := [(xIS, xIA), (xIO, xIA), (xIO, xIS), (xUO, xIS)]
def cx_X (A : Nat → Prop) (U : State) (H : Heap) : Prop := (∀ q ∈ cx_strs, ∃ sa : Nat, vk_R RX5 q.1 q.2 sa U) ∧ (∀ w ∈ cx_bad, va_Nw w U) ∧ (∀ q ∈ cx_pass, va_Nc q.1 q.2 U) ∧ vx_Zq Bundle.tN "UNASSIGNED_STACK" Bundle.steD A U H ∧ vx_Zq Bundle.tN "SUPPRESSED_SENTINEL" Bundle.listD A U H
theorem cx_bad_on : ∀ w ∈ cx_bad, w.onTables = true := by decide +kernel
theorem cx_X.same {A : Nat → Prop} {u U : State} {H : Heap} (hv : u.vm = U.vm) (h : cx_X A u H) : cx_X A U H := by
  have ha : u.vm.Alike U.vm := by rw [hv]; exact Vm.Alike.refl _
  refine ⟨fun q hq => ?_, fun w hw => va_Nw.same (cx_bad_on w hw) hv (h.2.1 w hw), fun q hq => va_Nc.moved ha (h.2.2.1 q hq), vx_Zq.moved ha h.2.2.2.1, vx_Zq.moved ha h.2.2.2.2⟩
  obtain ⟨sa, h1⟩ := h.1 q hq
  exact ⟨sa, vk_R.same hv.symm h1⟩
theorem cx_X.warm {A : Nat → Prop} {s U : State} {H : Heap} (hW : s.WarmedH U.vm) (h : cx_X A s H) : cx_X A U H := by
  refine ⟨fun q hq => ?_, fun w hw => ?_, fun q hq => va_Nc.moved hW.alike (h.2.2.1 q hq), vx_Zq.moved hW.alike h.2.2.2.1, vx_Zq.moved hW.alike h.2.2.2.2⟩
  · obtain ⟨sa, h1⟩ := h.1 q hq
    exact ⟨sa, vk_R.warm hW h1⟩
  · have h1 := h.2.1 w hw
    simp only [cx_bad, List.mem_cons, List.not_mem_nil, or_false] at hw
    rcases hw with rfl | rfl | rfl | rfl | rfl | rfl | rfl
    · exact va_Nw.warmD hW h1
    · exact va_Nw.warmD hW h1
    · exact va_Nw.warmD hW h1
    · exact va_Nw.warmC hW h1
    · exact va_Nw.warmC hW h1
    · exact va_Nw.warmC hW h1
    · exact va_Nw.warmC hW h1
theorem cx_X.kept {A : Nat → Prop} {U : State} {H H1 : Heap} (h : cx_X A U H) (hq : ∀ a : Nat, a < H.size → ¬ A a → H1[a]? = H[a]?) : cx_X A U H1 := ⟨h.1, h.2.1, h.2.2.1, h.2.2.2.1.kept hq, h.2.2.2.2.kept hq⟩
theorem cx_X.narrow {A B : Nat → Prop} {U : State} {H : Heap} (h : cx_X A U H) (hAB : ∀ q, B q → A q) : cx_X B U H := ⟨h.1, h.2.1, h.2.2.1, h.2.2.2.1.narrow hAB, h.2.2.2.2.narrow hAB⟩
def cx_PX (G : cx_G) (L : List Nat) (ad : Nat → Nat) (g : Nat → va_E) (sz : Nat) (U : State) : Prop := cx_P G L ad g sz U ∧ cx_X (cx_A L ad sz) U U.heap
theorem cx_blindX {G : cx_G} {L : List Nat} {ad : Nat → Nat} {g : Nat → va_E} {sz : Nat} {av : List Value} : FrameBlind (va_Pc av (cx_PX G L ad g sz)) := fun a U gg mk q => by
  obtain ⟨q0, ⟨q1, qP, qK⟩, qX⟩ := q
  exact ⟨q0, ⟨q1, qP, cx_K.same (u := U) (U := U.calling gg mk a) rfl qK⟩, cx_X.same (u := U) (U := U.calling gg mk a) rfl qX⟩
abbrev cx_XX (G : cx_G) (L : List Nat) (ad : Nat → Nat) (g : Nat → va_E) (ex : String → Prop) (sz : Nat) : String → State → State → Prop := vx_X (fun u => u = g) (fun E u t => ex E ∧ va_P G.1 vwCl (wl L ad u) t.heap) (cx_A L ad sz)
/-- the contracts of methods that answer or throw: thrown, the world is as it was -/
abbrev XI (l : Launch) (y : MethodName) (ws : List Cond) (rm : Room) (G : cx_G) (L : List Nat) (ad : Nat → Nat) (g : Nat → va_E) (av : List Value) (post : Int32 → (Nat → va_E) → Prop) (ex : String → Prop) (mc ms : Nat) : Prop := ∀ sz : Nat, vx_Met l y ws rm (va_Pc av (cx_PX G L ad g sz)) (va_Qi post (cx_B G L ad) (cx_A L ad sz)) (cx_XX G L ad g ex sz) mc ms (cx_A L ad sz)
abbrev XV (l : Launch) (y : MethodName) (ws : List Cond) (rm : Room) (G : cx_G) (L : List Nat) (ad : Nat → Nat) (g : Nat → va_E) (av : List Value) (post : (Nat → va_E) → Prop) (ex : String → Prop) (mc ms : Nat) : Prop := ∀ sz : Nat, vx_Met l y ws rm (va_Pc av (cx_PX G L ad g sz)) (va_Qv post (cx_B G L ad) (cx_A L ad sz)) (cx_XX G L ad g ex sz) mc ms (cx_A L ad sz)
section EX
variable {p : Program} {l : Launch} {e : Env} {R : Room} {s : State} {m : MethodId} {args : Array Value} {below : List Frame} {meth : Method} {c : Code} {H : Heap} {locs : List Loc} {cells slots : Nat} {Q : State → Prop}
variable {cc bytes : ByteArray} {maxL nL n index pc : Nat} {ls : Array Slot} {rest As st0 : List Value} {G : cx_G} {L : List Nat} {ad : Nat → Nat} {g : Nat → va_E} {sz mc ms : Nat} {H0 : Heap} {ret : Option FieldType} {own host : String} {y : MethodName} {ws Ts : List Cond} {rm : Room} {ex : String → Prop}
theorem cx_preX {av : List Value} {U : State} (hU : U.heap = H) (hW : s.WarmedH U.vm) (hP : va_P G.1 vwCl (wl L ad g) H) (hK : cx_K G s) (hX : cx_X (cx_A L ad sz) s H0) (hS : va_S (cx_A L ad sz) H0 H locs) (hz : sz ≤ H0.size) : va_Pc av (cx_PX G L ad g H.size) av.toArray U :=
  ⟨rfl, (cx_pre (av := av) hU hW hP hK).2, by rw [hU]; exact cx_X.warm hW ((hX.kept hS.2.1).narrow (fun q h => cx_A.mono (Nat.le_trans hz hS.1) h))⟩
theorem cx_goxi {post : Int32 → (Nat → va_E) → Prop} (hr : vx_Run p l e R s m args below meth c H locs cells slots mc ms (F0 m pc ls st0) rest (va_Qi post (cx_B G L ad) (cx_A L ad H.size) As.toArray) (cx_XX G L ad g ex H.size) (cx_A L ad H.size)) (hS : va_S (cx_A L ad sz) H0 H locs) (hz : sz ≤ H0.size)
    (kx : ∀ (E : String) (ce : Cell) (q9 : Addr) (H1 : Heap) (locs1 : List Loc), ex E → va_P G.1 vwCl (wl L ad g) H1 → va_S (cx_A L ad sz) H0 H1 locs1 → H1[q9]? = some ce → ce.vm = .none → s.vm.findClass E = some ce.cls → vx_W p l e R s m args below meth c H1 locs1 (cells + mc) (slots + ms) Q (F0 m pc ls rest) q9)
    (kk : ∀ (r : Int32) (g1 : Nat → va_E) (H1 : Heap) (locs1 : List Loc), post r g1 → va_P G.1 vwCl (wl L ad g1) H1 → va_S (cx_A L ad sz) H0 H1 locs1 → W p l e R s m args below meth c H1 locs1 (cells + mc) (slots + ms) Q (F0 m (pc + 3) ls (.int r :: rest))) : W p l e R s m args below meth c H locs cells slots Q (F0 m pc ls st0) :=
  vx_calli hr hS (fun q _ h => cx_A.mono (Nat.le_trans hz hS.1) h) (fun q h => cx_A.mono (Nat.le_trans hz hS.1) h) (fun q _ h => cx_A.mono (Nat.le_trans hz hS.1) h)
    (fun E ce q9 u t H1 locs1 ht _ hu hB _ _ hS1 h1 h2 h3 => by subst hu; exact kx E ce q9 H1 locs1 hB.1 (by rw [← ht]; exact hB.2) hS1 h1 h2 h3)
    (fun r u t H1 locs1 ht _ hw hB _ _ hS1 => kk r u H1 locs1 hw (by rw [← ht]; exact hB.1) hS1)
theorem cx_goxv {post : (Nat → va_E) → Prop} (hr : vx_Run p l e R s m args below meth c H locs cells slots mc ms (F0 m pc ls st0) rest (va_Qv post (cx_B G L ad) (cx_A L ad H.size) As.toArray) (cx_XX G L ad g ex H.size) (cx_A L ad H.size)) (hS : va_S (cx_A L ad sz) H0 H locs) (hz : sz ≤ H0.size)
    (kx : ∀ (E : String) (ce : Cell) (q9 : Addr) (H1 : Heap) (locs1 : List Loc), ex E → va_P G.1 vwCl (wl L ad g) H1 → va_S (cx_A L ad sz) H0 H1 locs1 → H1[q9]? = some ce → ce.vm = .none → s.vm.findClass E = some ce.cls → vx_W p l e R s m args below meth c H1 locs1 (cells + mc) (slots + ms) Q (F0 m pc ls rest) q9)
    (kk : ∀ (g1 : Nat → va_E) (H1 : Heap) (locs1 : List Loc), post g1 → va_P G.1 vwCl (wl L ad g1) H1 → va_S (cx_A L ad sz) H0 H1 locs1 → W p l e R s m args below meth c H1 locs1 (cells + mc) (slots + ms) Q (F0 m (pc + 3) ls rest)) : W p l e R s m args below meth c H locs cells slots Q (F0 m pc ls st0) :=
  vx_callv hr hS (fun q _ h => cx_A.mono (Nat.le_trans hz hS.1) h) (fun q h => cx_A.mono (Nat.le_trans hz hS.1) h) (fun q _ h => cx_A.mono (Nat.le_trans hz hS.1) h)
    (fun E ce q9 u t H1 locs1 ht _ hu hB _ _ hS1 h1 h2 h3 => by subst hu; exact kx E ce q9 H1 locs1 hB.1 (by rw [← ht]; exact hB.2) hS1 h1 h2 h3)
    (fun u t H1 locs1 ht _ hw hB _ _ hS1 => kk u H1 locs1 hw (by rw [← ht]; exact hB.1) hS1)
theorem cx_XVi {post : Int32 → (Nat → va_E) → Prop} {C : String} {T : u_T} {N ci k : Nat} {fs : List Value} (S : CallFix p m c cc nL s args Ts own) (hM : XI l y ws rm G L ad g (.ref (ad k) :: As) post ex mc ms) (cw : CallW R s args own C index y bytes maxL ret ws rm mc ms n) (hK : cx_K G s) (hX : cx_X (cx_A L ad sz) s H0) (hP : va_P G.1 vwCl (wl L ad g) H) (hS : va_S (cx_A L ad sz) H0 H locs) (hz : sz ≤ H0.size) (hk : k ∈ L) (hg : g k = .inr (ci, fs)) (hcl : vwCl[ci]? = some (C, T, N)) (hc : cells + mc ≤ R.cells ∧ slots + ms ≤ R.slots) (hn : As.length = n) (hsize : ls.size = nL) (hst : st0 = As.reverse ++ .ref (ad k) :: rest) (hW : (rest.map fun v => v.category).sum ≤ 8) (hdg : decode cc pc = .ok (.invokevirtual index, 3))
    (kx : ∀ (E : String) (ce : Cell) (q9 : Addr) (H1 : Heap) (locs1 : List Loc), ex E → va_P G.1 vwCl (wl L ad g) H1 → va_S (cx_A L ad sz) H0 H1 locs1 → H1[q9]? = some ce → ce.vm = .none → s.vm.findClass E = some ce.cls → vx_W p l e R s m args below meth c H1 locs1 (cells + mc) (slots + ms) Q (F0 m pc ls rest) q9)
    (kk : ∀ (r : Int32) (g1 : Nat → va_E) (H1 : Heap) (locs1 : List Loc), post r g1 → va_P G.1 vwCl (wl L ad g1) H1 → va_S (cx_A L ad sz) H0 H1 locs1 → W p l e R s m args below meth c H1 locs1 (cells + mc) (slots + ms) Q (F0 m (pc + 3) ls (.int r :: rest))) : W p l e R s m args below meth c H locs cells slots Q (F0 m pc ls st0) :=
  cx_goxi (As := .ref (ad k) :: As) (vx_runV S (hM H.size) cw ⟨cx_blindX, cx_recv hK hP hk hg hcl, fun U hU hW => cx_preX hU hW hP hK hX hS hz⟩ rfl hn hsize hst (lv_room hW) hdg hc) hS hz kx kk
theorem cx_XVv {post : (Nat → va_E) → Prop} {C : String} {T : u_T} {N ci k : Nat} {fs : List Value} (S : CallFix p m c cc nL s args Ts own) (hM : XV l y ws rm G L ad g (.ref (ad k) :: As) post ex mc ms) (cw : CallW R s args own C index y bytes maxL ret ws rm mc ms n) (hK : cx_K G s) (hX : cx_X (cx_A L ad sz) s H0) (hP : va_P G.1 vwCl (wl L ad g) H) (hS : va_S (cx_A L ad sz) H0 H locs) (hz : sz ≤ H0.size) (hk : k ∈ L) (hg : g k = .inr (ci, fs)) (hcl : vwCl[ci]? = some (C, T, N)) (hc : cells + mc ≤ R.cells ∧ slots + ms ≤ R.slots) (hn : As.length = n) (hsize : ls.size = nL) (hst : st0 = As.reverse ++ .ref (ad k) :: rest) (hW : (rest.map fun v => v.category).sum ≤ 8) (hdg : decode cc pc = .ok (.invokevirtual index, 3))
    (kx : ∀ (E : String) (ce : Cell) (q9 : Addr) (H1 : Heap) (locs1 : List Loc), ex E → va_P G.1 vwCl (wl L ad g) H1 → va_S (cx_A L ad sz) H0 H1 locs1 → H1[q9]? = some ce → ce.vm = .none → s.vm.findClass E = some ce.cls → vx_W p l e R s m args below meth c H1 locs1 (cells + mc) (slots + ms) Q (F0 m pc ls rest) q9)
    (kk : ∀ (g1 : Nat → va_E) (H1 : Heap) (locs1 : List Loc), post g1 → va_P G.1 vwCl (wl L ad g1) H1 → va_S (cx_A L ad sz) H0 H1 locs1 → W p l e R s m args below meth c H1 locs1 (cells + mc) (slots + ms) Q (F0 m (pc + 3) ls rest)) : W p l e R s m args below meth c H locs cells slots Q (F0 m pc ls st0) :=
  cx_goxv (As := .ref (ad k) :: As) (vx_runV S (hM H.size) cw ⟨cx_blindX, cx_recv hK hP hk hg hcl, fun U hU hW => cx_preX hU hW hP hK hX hS hz⟩ rfl hn hsize hst (lv_room hW) hdg hc) hS hz kx kk
/-- out of the method, uncaught -/
theorem cx_leave {Qc : Array Value → State → Outcome → State → Prop} {E : String} {ce : Cell} {q : Addr} (hout : ∀ x ∈ c.exceptionTable.toList, False) (hlocks : meth.locks = false) (hcell : H[q]? = some ce) (hv : ce.vm = .none) (hcl : s.vm.findClass E = some ce.cls) (hE : ex E) (hP : va_P G.1 vwCl (wl L ad g) H) (hS : va_S (cx_A L ad s.heap.size) s.heap H locs) (hc : cells ≤ mc) (hs : slots ≤ ms) :
    vx_W p l e R s m args below meth c H locs cells slots (vx_MQ below Qc (cx_XX G L ad g ex s.heap.size) args s mc ms (cx_A L ad s.heap.size)) (F0 m pc ls rest) q :=
  vx_out (fun x hx => (hout x hx).elim) hlocks hcell hv hcl (fun t ht ha => ⟨g, rfl, ⟨hE, by rw [ht]; exact hP⟩, hS.F ht⟩) hS.2.2 hc hs
theorem cx_wide {gg : JFrame} {k n : Nat} (h : cells ≤ k ∧ slots ≤ n) (kk : W p l e R s m args below meth c H locs k n Q gg) : W p l e R s m args below meth c H locs cells slots Q gg := fun T hT X => kk T hT (stand_widen X h.1 h.2)
def cx_kinds : List (Nat × Nat × String) := [(79, 83, xIA), (92, 96, xIS), (133, 137, xIO), (192, 196, xUO)]
theorem cx_kfit : ∀ q ∈ cx_kinds, Bundle.fit q.2.2 = true := by decide +kernel
theorem cx_nfit : ∀ n ∈ xNm, Bundle.fit n = true := by decide +kernel
set_option maxRecDepth 20000 in
theorem cx_kot : ∀ q ∈ cx_kinds, ∀ w ∈ Cond.classLink RX5 q.1 q.2.2 :: Cond.initialized q.2.2 :: vx_atS RX5 q.2.1 q.2.2 xNm, vx_ot w = true := by decide +kernel
set_option maxRecDepth 20000 in
theorem cx_kbad : ∀ q ∈ cx_kinds, ∀ w ∈ (vx_atS RX5 q.2.1 q.2.2 xNm).filter (fun w => !goodWord w), w ∈ cx_bad := by decide +kernel
/-- throw new X(text) -/
theorem cx_throw {Qc : Array Value → State → Outcome → State → Prop} (hx : p.tables.exec = Jvm.exec) (hb : c.code = cc) (hl : l.stackTraces = false) (hown : s.vm.findClass RX5 = some m.cls) (hts : ∀ w ∈ Ts, w.before args s = true) {ik ic is : Nat} {X text : String} (hk : (ik, ic, X) ∈ cx_kinds) (ht : (is, text) ∈ cx_strs)
    (hin : ∀ w ∈ Cond.classLink RX5 ik X :: Cond.initialized X :: (vx_atS RX5 ic X xNm).filter goodWord, w ∈ Ts) (hX : cx_X (cx_A L ad s.heap.size) s s.heap) (hP : va_P G.1 vwCl (wl L ad g) H) (hS : va_S (cx_A L ad s.heap.size) s.heap H locs) (hsize : ls.size = c.maxLocals)
    (d0 : decode cc pc = .ok (.new ik, 3)) (d3 : decode cc (pc + 3) = .ok (.dup, 1)) (d4 : decode cc (pc + 4) = .ok (.ldc is, 2)) (d6 : decode cc (pc + 6) = .ok (.invokespecial ic, 3)) (d9 : decode cc (pc + 9) = .ok (.athrow, 1))
    (hout : ∀ x ∈ c.exceptionTable.toList, False) (hR : 5 < R.frames ∧ 82 ≤ R.locals ∧ cells + 1 ≤ R.cells ∧ slots + 6 ≤ R.slots) (hlocks : meth.locks = false) (hE : ex X) (hc : cells + 1 ≤ mc) (hs : slots + 6 ≤ ms) :
    W p l e R s m args below meth c H locs cells slots (vx_MQ below Qc (cx_XX G L ad g ex s.heap.size) args s mc ms (cx_A L ad s.heap.size)) (F0 m pc ls []) := by
  obtain ⟨sa, hstr⟩ := hX.1 _ ht
  refine vx_throwS (names := xNm) (text := text) (sa := sa) (A := cx_A L ad s.heap.size) hx hb hl hown (cx_kfit _ hk) cx_nfit (hts _ (hin _ (by simp))) (hts _ (hin _ (by simp))) hstr
    (vx_hat (fun w hw => hts _ (hin _ (List.mem_cons_of_mem _ (List.mem_cons_of_mem _ hw)))) (cx_kbad _ hk) (fun w hw => va_Nw.use (cx_bad_on w hw) (hX.2.1 w hw))) (cx_kot _ hk) hX.2.2.2.1 hX.2.2.2.2 hS hsize d0 d3 d4 d6 d9 (fun x h => (hout x h).elim) hR.1 hR.2.1 hR.2.2.1 hR.2.2.2 hlocks (fun t _ hz hq => ?_) hS.2.2 hc hs
  refine ⟨g, rfl, ⟨hE, hP.kept (fun k q hkq => hq _ ?_)⟩, Nat.le_trans hS.1 hz, fun q h1 h2 => (hq q (Nat.lt_of_lt_of_le h1 hS.1)).trans (hS.2.1 q h1 h2)⟩
  exact vx_lt hP hkq
end EX
section EO
variable {l : Launch} {y : MethodName} {ws ws' : List Cond} {rm : Room} {G : cx_G} {L : List Nat} {ad : Nat → Nat} {g : Nat → va_E} {av : List Value} {cc : ByteArray} {maxL mc ms : Nat} {ex : String → Prop}
theorem cx_ofXV {post : (Nat → va_E) → Prop} (hy : plainName y.cls = true) (hw : ws = Cond.code y cc maxL none :: ws') (hav : (lg_sl av).length ≤ maxL)
    (body : ∀ (p : Program) (e : Env) (s : State) (m : MethodId) (args : Array Value) (below : List Frame) (meth : Method) (c : Code) (Q : State → Prop), Q = vx_MQ below (va_Qv post (cx_B G L ad) (cx_A L ad s.heap.size)) (cx_XX G L ad g ex s.heap.size) args s mc ms (cx_A L ad s.heap.size) → p.tables.exec = Jvm.exec → c.code = cc → (∀ w ∈ ws, w.before args s = true) → s.vm.findClass y.cls = some m.cls → c.maxLocals = maxL → (∀ x ∈ c.exceptionTable.toList, False) → meth.locks = false → va_P G.1 vwCl (wl L ad g) s.heap → cx_K G s → cx_X (cx_A L ad s.heap.size) s s.heap → va_S (cx_A L ad s.heap.size) s.heap s.heap [] → s.heap.size ≤ s.heap.size →
      (∀ (g1 : Nat → va_E) (H : Heap) (locs : List Loc) (pc : Nat) (ls : Array Slot) (cells slots : Nat), cells ≤ mc ∧ slots ≤ ms → post g1 → va_P G.1 vwCl (wl L ad g1) H → va_S (cx_A L ad s.heap.size) s.heap H locs → decode cc pc = .ok (.return_, 1) → W p l e rm s m args below meth c H locs cells slots Q (F0 m pc ls [])) →
      ∀ ls : Array Slot, lv_has ls maxL (lv_args 0 av) → W p l e rm s m args below meth c s.heap [] 0 0 Q (F0 m 0 ls [])) : XV l y ws rm G L ad g av post ex mc ms := by
  intro sz
  refine vx_ofW hy hw ?_
  intro p e s m args below meth c s₁ B hml hexc hv
  obtain ⟨rfl, ⟨hsz, hP, hK⟩, hX⟩ := hv
  subst hsz
  rw [lg_entry_eq]
  refine body p e s m _ below meth c _ rfl B.exec B.bytes (atoms_spec B.pre) (findClass_of_methodNamed B.named) hml hexc B.notSynchronized hP hK hX va_S.rf (Nat.le_refl _) ?_ _ (lv_entry av hav)
  intro g1 H locs pc ls cells slots hcs hp hP1 hS1 hd
  exact cx_wide hcs (vx_ret (W.vret B.exec B.bytes B.returns (fun t ht hW => ⟨⟨g1, rfl, hp, cx_end ht hW hP1 hK⟩, hS1.F ht⟩) hS1.2.2 hd B.notSynchronized))
theorem cx_ofXI {ty : FieldType} {post : Int32 → (Nat → va_E) → Prop} (hy : plainName y.cls = true) (hw : ws = Cond.code y cc maxL (some ty) :: ws') (hav : (lg_sl av).length ≤ maxL)
    (body : ∀ (p : Program) (e : Env) (s : State) (m : MethodId) (args : Array Value) (below : List Frame) (meth : Method) (c : Code) (Q : State → Prop), Q = vx_MQ below (va_Qi post (cx_B G L ad) (cx_A L ad s.heap.size)) (cx_XX G L ad g ex s.heap.size) args s mc ms (cx_A L ad s.heap.size) → p.tables.exec = Jvm.exec → c.code = cc → (∀ w ∈ ws, w.before args s = true) → s.vm.findClass y.cls = some m.cls → c.maxLocals = maxL → (∀ x ∈ c.exceptionTable.toList, False) → meth.locks = false → va_P G.1 vwCl (wl L ad g) s.heap → cx_K G s → cx_X (cx_A L ad s.heap.size) s s.heap → va_S (cx_A L ad s.heap.size) s.heap s.heap [] → s.heap.size ≤ s.heap.size →
      (∀ (r : Int32) (g1 : Nat → va_E) (H : Heap) (locs : List Loc) (pc : Nat) (ls : Array Slot) (cells slots : Nat), cells ≤ mc ∧ slots ≤ ms → narrow ty (.int r) = .int r → post r g1 → va_P G.1 vwCl (wl L ad g1) H → va_S (cx_A L ad s.heap.size) s.heap H locs → decode cc pc = .ok (.ireturn, 1) → W p l e rm s m args below meth c H locs cells slots Q (F0 m pc ls [.int r])) →
      ∀ ls : Array Slot, lv_has ls maxL (lv_args 0 av) → W p l e rm s m args below meth c s.heap [] 0 0 Q (F0 m 0 ls [])) : XI l y ws rm G L ad g av post ex mc ms := by
  intro sz
  refine vx_ofW hy hw ?_
  intro p e s m args below meth c s₁ B hml hexc hv
  obtain ⟨rfl, ⟨hsz, hP, hK⟩, hX⟩ := hv
  subst hsz
  rw [lg_entry_eq]
  refine body p e s m _ below meth c _ rfl B.exec B.bytes (atoms_spec B.pre) (findClass_of_methodNamed B.named) hml hexc B.notSynchronized hP hK hX va_S.rf (Nat.le_refl _) ?_ _ (lv_entry av hav)
  intro r g1 H locs pc ls cells slots hcs hn hp hP1 hS1 hd
  exact cx_wide hcs (vx_ret (W.zret B.exec B.bytes B.returns hn (fun t ht hW => ⟨⟨r, g1, rfl, hp, cx_end ht hW hP1 hK⟩, hS1.F ht⟩) hS1.2.2 hd B.notSynchronized))
end EO
