section
-- ===== PART A: goes FIRST, ahead of the names: the tables' words, and 'selects' of the private methods out of them =====
/-- a private method of a class that the tables say can be made, by its rows of tables_1 -/
def lw_okq (q : MethodName × Nat) : Prop := (q.1.cls ≠ "java/lang/invoke/MethodHandle" ∧ q.1.cls ≠ "java/lang/invoke/VarHandle") ∧ Cond.instantiable q.1.cls q.2 ∈ tables_1 ∧ Cond.privateMethod q.1 ∈ tables_1 ∧ Cond.instanceMethod q.1 ∈ tables_1
theorem lw_p0 : lw_okq (⟨"AffineHulls", "forgetPoints", "()V"⟩, 15) := ⟨⟨by decide +kernel, by decide +kernel⟩, List.mem_of_getElem? (i := 19) (by decide +kernel), List.mem_of_getElem? (i := 192) (by decide +kernel), List.mem_of_getElem? (i := 193) (by decide +kernel)⟩
theorem lw_p1 : lw_okq (⟨"AffineHulls", "addFirstPoints", "()V"⟩, 15) := ⟨⟨by decide +kernel, by decide +kernel⟩, List.mem_of_getElem? (i := 19) (by decide +kernel), List.mem_of_getElem? (i := 204) (by decide +kernel), List.mem_of_getElem? (i := 205) (by decide +kernel)⟩
theorem lw_p2 : lw_okq (⟨"AffineHulls", "addPoint", "(I[II)V"⟩, 15) := ⟨⟨by decide +kernel, by decide +kernel⟩, List.mem_of_getElem? (i := 19) (by decide +kernel), List.mem_of_getElem? (i := 211) (by decide +kernel), List.mem_of_getElem? (i := 212) (by decide +kernel)⟩
theorem lw_p3 : lw_okq (⟨"AffineHulls$Span", "reduce", "([I)V"⟩, 3) := ⟨⟨by decide +kernel, by decide +kernel⟩, List.mem_of_getElem? (i := 33) (by decide +kernel), List.mem_of_getElem? (i := 219) (by decide +kernel), List.mem_of_getElem? (i := 220) (by decide +kernel)⟩
theorem lw_p4 : lw_okq (⟨"AffineHulls$Span", "leadingPlace", "()I"⟩, 3) := ⟨⟨by decide +kernel, by decide +kernel⟩, List.mem_of_getElem? (i := 33) (by decide +kernel), List.mem_of_getElem? (i := 234) (by decide +kernel), List.mem_of_getElem? (i := 235) (by decide +kernel)⟩
theorem lw_p5 : lw_okq (⟨"AffineHulls", "workOff", "(LAffineHulls$Point;)V"⟩, 15) := ⟨⟨by decide +kernel, by decide +kernel⟩, List.mem_of_getElem? (i := 19) (by decide +kernel), List.mem_of_getElem? (i := 248) (by decide +kernel), List.mem_of_getElem? (i := 249) (by decide +kernel)⟩
theorem lw_p6 : lw_okq (⟨"AffineHulls", "follow", "(ILAffineHulls$Point;I)V"⟩, 15) := ⟨⟨by decide +kernel, by decide +kernel⟩, List.mem_of_getElem? (i := 19) (by decide +kernel), List.mem_of_getElem? (i := 252) (by decide +kernel), List.mem_of_getElem? (i := 253) (by decide +kernel)⟩
theorem lw_p7 : lw_okq (⟨"AffineHulls", "keepsNotes", "(LAffineHulls$Edge;)Z"⟩, 15) := ⟨⟨by decide +kernel, by decide +kernel⟩, List.mem_of_getElem? (i := 19) (by decide +kernel), List.mem_of_getElem? (i := 272) (by decide +kernel), List.mem_of_getElem? (i := 273) (by decide +kernel)⟩
theorem lw_p8 : lw_okq (⟨"AffineHulls", "spanNotesBefore", "(LAffineHulls$Edge;)V"⟩, 15) := ⟨⟨by decide +kernel, by decide +kernel⟩, List.mem_of_getElem? (i := 19) (by decide +kernel), List.mem_of_getElem? (i := 276) (by decide +kernel), List.mem_of_getElem? (i := 277) (by decide +kernel)⟩
theorem lw_p9 : lw_okq (⟨"AffineHulls", "followsBefore", "(LAffineHulls$Edge;LAffineHulls$Note;I)Z"⟩, 15) := ⟨⟨by decide +kernel, by decide +kernel⟩, List.mem_of_getElem? (i := 19) (by decide +kernel), List.mem_of_getElem? (i := 281) (by decide +kernel), List.mem_of_getElem? (i := 282) (by decide +kernel)⟩
theorem lw_p10 : lw_okq (⟨"AffineHulls", "requirePlace", "(I)V"⟩, 15) := ⟨⟨by decide +kernel, by decide +kernel⟩, List.mem_of_getElem? (i := 19) (by decide +kernel), List.mem_of_getElem? (i := 312) (by decide +kernel), List.mem_of_getElem? (i := 313) (by decide +kernel)⟩
theorem lw_p11 : lw_okq (⟨"java/lang/Throwable", "fillInStackTrace", "(I)Ljava/lang/Throwable;"⟩, 6) := ⟨⟨by decide +kernel, by decide +kernel⟩, List.mem_of_getElem? (i := 355) (by decide +kernel), List.mem_of_getElem? (i := 353) (by decide +kernel), List.mem_of_getElem? (i := 354) (by decide +kernel)⟩
theorem lw_p12 : lw_okq (⟨"AffineHulls", "requireNode", "(I)V"⟩, 15) := ⟨⟨by decide +kernel, by decide +kernel⟩, List.mem_of_getElem? (i := 19) (by decide +kernel), List.mem_of_getElem? (i := 394) (by decide +kernel), List.mem_of_getElem? (i := 395) (by decide +kernel)⟩
theorem lw_p13 : lw_okq (⟨"AffineHulls", "requireVariable", "(I)V"⟩, 15) := ⟨⟨by decide +kernel, by decide +kernel⟩, List.mem_of_getElem? (i := 19) (by decide +kernel), List.mem_of_getElem? (i := 400) (by decide +kernel), List.mem_of_getElem? (i := 401) (by decide +kernel)⟩
theorem lw_p14 : lw_okq (⟨"AffineHulls", "clearDraft", "()V"⟩, 15) := ⟨⟨by decide +kernel, by decide +kernel⟩, List.mem_of_getElem? (i := 19) (by decide +kernel), List.mem_of_getElem? (i := 426) (by decide +kernel), List.mem_of_getElem? (i := 427) (by decide +kernel)⟩
theorem lw_p15 : lw_okq (⟨"AffineHulls", "requireAnalysed", "()V"⟩, 15) := ⟨⟨by decide +kernel, by decide +kernel⟩, List.mem_of_getElem? (i := 19) (by decide +kernel), List.mem_of_getElem? (i := 444) (by decide +kernel), List.mem_of_getElem? (i := 445) (by decide +kernel)⟩
def lw_privs_1 : List (MethodName × Nat) := [(⟨"AffineHulls", "forgetPoints", "()V"⟩, 15), (⟨"AffineHulls", "addFirstPoints", "()V"⟩, 15), (⟨"AffineHulls", "addPoint", "(I[II)V"⟩, 15), (⟨"AffineHulls$Span", "reduce", "([I)V"⟩, 3), (⟨"AffineHulls$Span", "leadingPlace", "()I"⟩, 3), (⟨"AffineHulls", "workOff", "(LAffineHulls$Point;)V"⟩, 15), (⟨"AffineHulls", "follow", "(ILAffineHulls$Point;I)V"⟩, 15), (⟨"AffineHulls", "keepsNotes", "(LAffineHulls$Edge;)Z"⟩, 15), (⟨"AffineHulls", "spanNotesBefore", "(LAffineHulls$Edge;)V"⟩, 15), (⟨"AffineHulls", "followsBefore", "(LAffineHulls$Edge;LAffineHulls$Note;I)Z"⟩, 15), (⟨"AffineHulls", "requirePlace", "(I)V"⟩, 15), (⟨"java/lang/Throwable", "fillInStackTrace", "(I)Ljava/lang/Throwable;"⟩, 6), (⟨"AffineHulls", "requireNode", "(I)V"⟩, 15), (⟨"AffineHulls", "requireVariable", "(I)V"⟩, 15), (⟨"AffineHulls", "clearDraft", "()V"⟩, 15), (⟨"AffineHulls", "requireAnalysed", "()V"⟩, 15)]
theorem lw_r1 : ∀ q ∈ lw_privs_1, lw_okq q := List.forall_mem_cons.mpr ⟨lw_p0, List.forall_mem_cons.mpr ⟨lw_p1, List.forall_mem_cons.mpr ⟨lw_p2, List.forall_mem_cons.mpr ⟨lw_p3, List.forall_mem_cons.mpr ⟨lw_p4, List.forall_mem_cons.mpr ⟨lw_p5, List.forall_mem_cons.mpr ⟨lw_p6, List.forall_mem_cons.mpr ⟨lw_p7, List.forall_mem_cons.mpr ⟨lw_p8, List.forall_mem_cons.mpr ⟨lw_p9, List.forall_mem_cons.mpr ⟨lw_p10, List.forall_mem_cons.mpr ⟨lw_p11, List.forall_mem_cons.mpr ⟨lw_p12, List.forall_mem_cons.mpr ⟨lw_p13, List.forall_mem_cons.mpr ⟨lw_p14, List.forall_mem_cons.mpr ⟨lw_p15, fun _ h => absurd h List.not_mem_nil⟩⟩⟩⟩⟩⟩⟩⟩⟩⟩⟩⟩⟩⟩⟩⟩
theorem lw_p16 : lw_okq (⟨"AffineHulls", "holdsAtPoints", "(LAffineHulls$Hull;)Z"⟩, 15) := ⟨⟨by decide +kernel, by decide +kernel⟩, List.mem_of_getElem? (i := 19) (by decide +kernel), List.mem_of_getElem? (i := 508) (by decide +kernel), List.mem_of_getElem? (i := 509) (by decide +kernel)⟩
theorem lw_p17 : lw_okq (⟨"AffineHulls", "noteEquations", "(I)V"⟩, 15) := ⟨⟨by decide +kernel, by decide +kernel⟩, List.mem_of_getElem? (i := 19) (by decide +kernel), List.mem_of_getElem? (i := 577) (by decide +kernel), List.mem_of_getElem? (i := 578) (by decide +kernel)⟩
theorem lw_p18 : lw_okq (⟨"AffineHullsModel", "isNode", "(I)Z"⟩, 29) := ⟨⟨by decide +kernel, by decide +kernel⟩, List.mem_of_getElem? (i := 581) (by decide +kernel), List.mem_of_getElem? (i := 691) (by decide +kernel), List.mem_of_getElem? (i := 692) (by decide +kernel)⟩
theorem lw_p19 : lw_okq (⟨"AffineHullsModel", "clearDraft", "()V"⟩, 29) := ⟨⟨by decide +kernel, by decide +kernel⟩, List.mem_of_getElem? (i := 581) (by decide +kernel), List.mem_of_getElem? (i := 695) (by decide +kernel), List.mem_of_getElem? (i := 696) (by decide +kernel)⟩
theorem lw_p20 : lw_okq (⟨"AffineHullsModel", "meet", "(II)V"⟩, 29) := ⟨⟨by decide +kernel, by decide +kernel⟩, List.mem_of_getElem? (i := 581) (by decide +kernel), List.mem_of_getElem? (i := 707) (by decide +kernel), List.mem_of_getElem? (i := 708) (by decide +kernel)⟩
theorem lw_p21 : lw_okq (⟨"AffineHullsModel", "layPoints", "(I)V"⟩, 29) := ⟨⟨by decide +kernel, by decide +kernel⟩, List.mem_of_getElem? (i := 581) (by decide +kernel), List.mem_of_getElem? (i := 711) (by decide +kernel), List.mem_of_getElem? (i := 712) (by decide +kernel)⟩
theorem lw_p22 : lw_okq (⟨"AffineHullsModel", "put", "(II)V"⟩, 29) := ⟨⟨by decide +kernel, by decide +kernel⟩, List.mem_of_getElem? (i := 581) (by decide +kernel), List.mem_of_getElem? (i := 715) (by decide +kernel), List.mem_of_getElem? (i := 716) (by decide +kernel)⟩
theorem lw_p23 : lw_okq (⟨"AffineHullsModel", "rank", "()I"⟩, 29) := ⟨⟨by decide +kernel, by decide +kernel⟩, List.mem_of_getElem? (i := 581) (by decide +kernel), List.mem_of_getElem? (i := 719) (by decide +kernel), List.mem_of_getElem? (i := 720) (by decide +kernel)⟩
theorem lw_p24 : lw_okq (⟨"AffineHullsModel", "exchange", "(II)V"⟩, 29) := ⟨⟨by decide +kernel, by decide +kernel⟩, List.mem_of_getElem? (i := 581) (by decide +kernel), List.mem_of_getElem? (i := 723) (by decide +kernel), List.mem_of_getElem? (i := 724) (by decide +kernel)⟩
theorem lw_p25 : lw_okq (⟨"AffineHullsModel", "minus", "(III)V"⟩, 29) := ⟨⟨by decide +kernel, by decide +kernel⟩, List.mem_of_getElem? (i := 581) (by decide +kernel), List.mem_of_getElem? (i := 731) (by decide +kernel), List.mem_of_getElem? (i := 732) (by decide +kernel)⟩
theorem lw_p26 : lw_okq (⟨"AffineHullsModel", "pass", "(III)V"⟩, 29) := ⟨⟨by decide +kernel, by decide +kernel⟩, List.mem_of_getElem? (i := 581) (by decide +kernel), List.mem_of_getElem? (i := 735) (by decide +kernel), List.mem_of_getElem? (i := 736) (by decide +kernel)⟩
theorem lw_p27 : lw_okq (⟨"AffineHullsModel", "change", "(II)V"⟩, 29) := ⟨⟨by decide +kernel, by decide +kernel⟩, List.mem_of_getElem? (i := 581) (by decide +kernel), List.mem_of_getElem? (i := 739) (by decide +kernel), List.mem_of_getElem? (i := 740) (by decide +kernel)⟩
theorem lw_p28 : lw_okq (⟨"AffineHullsModel", "formValue", "(I)I"⟩, 29) := ⟨⟨by decide +kernel, by decide +kernel⟩, List.mem_of_getElem? (i := 581) (by decide +kernel), List.mem_of_getElem? (i := 743) (by decide +kernel), List.mem_of_getElem? (i := 744) (by decide +kernel)⟩
theorem lw_p29 : lw_okq (⟨"AffineHullsModel", "readEquations", "(I)V"⟩, 29) := ⟨⟨by decide +kernel, by decide +kernel⟩, List.mem_of_getElem? (i := 581) (by decide +kernel), List.mem_of_getElem? (i := 747) (by decide +kernel), List.mem_of_getElem? (i := 748) (by decide +kernel)⟩
theorem lw_p30 : lw_okq (⟨"AffineHullsModel", "asked", "(I)I"⟩, 29) := ⟨⟨by decide +kernel, by decide +kernel⟩, List.mem_of_getElem? (i := 581) (by decide +kernel), List.mem_of_getElem? (i := 755) (by decide +kernel), List.mem_of_getElem? (i := 756) (by decide +kernel)⟩
theorem lw_p31 : lw_okq (⟨"AffineHullsModel", "follows", "(II)Z"⟩, 29) := ⟨⟨by decide +kernel, by decide +kernel⟩, List.mem_of_getElem? (i := 581) (by decide +kernel), List.mem_of_getElem? (i := 803) (by decide +kernel), List.mem_of_getElem? (i := 804) (by decide +kernel)⟩
def lw_privs_2 : List (MethodName × Nat) := [(⟨"AffineHulls", "holdsAtPoints", "(LAffineHulls$Hull;)Z"⟩, 15), (⟨"AffineHulls", "noteEquations", "(I)V"⟩, 15), (⟨"AffineHullsModel", "isNode", "(I)Z"⟩, 29), (⟨"AffineHullsModel", "clearDraft", "()V"⟩, 29), (⟨"AffineHullsModel", "meet", "(II)V"⟩, 29), (⟨"AffineHullsModel", "layPoints", "(I)V"⟩, 29), (⟨"AffineHullsModel", "put", "(II)V"⟩, 29), (⟨"AffineHullsModel", "rank", "()I"⟩, 29), (⟨"AffineHullsModel", "exchange", "(II)V"⟩, 29), (⟨"AffineHullsModel", "minus", "(III)V"⟩, 29), (⟨"AffineHullsModel", "pass", "(III)V"⟩, 29), (⟨"AffineHullsModel", "change", "(II)V"⟩, 29), (⟨"AffineHullsModel", "formValue", "(I)I"⟩, 29), (⟨"AffineHullsModel", "readEquations", "(I)V"⟩, 29), (⟨"AffineHullsModel", "asked", "(I)I"⟩, 29), (⟨"AffineHullsModel", "follows", "(II)Z"⟩, 29)]
theorem lw_r2 : ∀ q ∈ lw_privs_2, lw_okq q := List.forall_mem_cons.mpr ⟨lw_p16, List.forall_mem_cons.mpr ⟨lw_p17, List.forall_mem_cons.mpr ⟨lw_p18, List.forall_mem_cons.mpr ⟨lw_p19, List.forall_mem_cons.mpr ⟨lw_p20, List.forall_mem_cons.mpr ⟨lw_p21, List.forall_mem_cons.mpr ⟨lw_p22, List.forall_mem_cons.mpr ⟨lw_p23, List.forall_mem_cons.mpr ⟨lw_p24, List.forall_mem_cons.mpr ⟨lw_p25, List.forall_mem_cons.mpr ⟨lw_p26, List.forall_mem_cons.mpr ⟨lw_p27, List.forall_mem_cons.mpr ⟨lw_p28, List.forall_mem_cons.mpr ⟨lw_p29, List.forall_mem_cons.mpr ⟨lw_p30, List.forall_mem_cons.mpr ⟨lw_p31, fun _ h => absurd h List.not_mem_nil⟩⟩⟩⟩⟩⟩⟩⟩⟩⟩⟩⟩⟩⟩⟩⟩
theorem lw_p32 : lw_okq (⟨"AffineHullsModel", "layNotes", "(I)V"⟩, 29) := ⟨⟨by decide +kernel, by decide +kernel⟩, List.mem_of_getElem? (i := 581) (by decide +kernel), List.mem_of_getElem? (i := 807) (by decide +kernel), List.mem_of_getElem? (i := 808) (by decide +kernel)⟩
theorem lw_p33 : lw_okq (⟨"AffineHullsModel", "layBefore", "(III)V"⟩, 29) := ⟨⟨by decide +kernel, by decide +kernel⟩, List.mem_of_getElem? (i := 581) (by decide +kernel), List.mem_of_getElem? (i := 811) (by decide +kernel), List.mem_of_getElem? (i := 812) (by decide +kernel)⟩
def lw_privs_3 : List (MethodName × Nat) := [(⟨"AffineHullsModel", "layNotes", "(I)V"⟩, 29), (⟨"AffineHullsModel", "layBefore", "(III)V"⟩, 29)]
theorem lw_r3 : ∀ q ∈ lw_privs_3, lw_okq q := List.forall_mem_cons.mpr ⟨lw_p32, List.forall_mem_cons.mpr ⟨lw_p33, fun _ h => absurd h List.not_mem_nil⟩⟩
def lw_privs : List (MethodName × Nat) := lw_privs_1 ++ (lw_privs_2 ++ (lw_privs_3))
def lw_tbl : List Cond := k2_sels lw_privs ++ tables_1
theorem lw_privs_ok : ∀ q ∈ lw_privs, lw_okq q := by
  show ∀ q ∈ lw_privs_1 ++ (lw_privs_2 ++ (lw_privs_3)), lw_okq q
  exact List.forall_mem_append.mpr ⟨lw_r1, List.forall_mem_append.mpr ⟨lw_r2, lw_r3⟩⟩
-- ===== end of PART A; then your names; then what follows =====
/-! ===== BEGIN words of one list among another's, by their places ===== -/
theorem goodIn_r {big : List Cond} (ws : List Cond) (ps : List Nat) (hp : ws = ps.filterMap (fun i => big[i]?)) (h : ws.all goodWord = true) : GoodIn big ws := by
  intro w hw
  have h1 := List.all_eq_true.mp h w hw
  rw [hp] at hw
  obtain ⟨i, -, hi⟩ := List.mem_filterMap.mp hw
  have hm : w ∈ big := by first | exact List.mem_of_getElem? hi | exact List.getElem?_mem hi
  exact ⟨hm, good_of_word h1⟩
theorem goodIn_app {big a b : List Cond} (ha : GoodIn big a) (hb : GoodIn big b) : GoodIn big (a ++ b) := fun w h => (List.mem_append.mp h).elim (ha w) (hb w)
theorem goodIn_ca {big a b : List Cond} {c : Cond} (ha : GoodIn big (c :: a)) (hb : GoodIn big b) : GoodIn big (c :: (a ++ b)) := fun w h => (List.mem_cons.mp h).elim (fun e => ha w (List.mem_cons.mpr (Or.inl e))) (fun h => (List.mem_append.mp h).elim (fun h => ha w (List.mem_cons.mpr (Or.inr h))) (hb w))
theorem goodIn_sub {big ws : List Cond} (hm : ∀ w ∈ ws, w ∈ big) (h : ws.all goodWord = true) : GoodIn big ws := fun w hw => ⟨hm w hw, good_of_word (List.all_eq_true.mp h w hw)⟩
/-! ===== END ===== -/

/-! own rows: the words of an array over arrays (the printed names call va_AOA, which no kit file has) -/
def va_AOA (ty : FieldType) (U : State) : Prop := (Cond.arrayOver (.array ty)).before #[] U = true
theorem va_AOA.of {ty : FieldType} {A : Array Value} {U : State} (h : (Cond.arrayOver (.array ty)).before A U = true) : va_AOA ty U := h
theorem va_AOA.use {ty : FieldType} {A : Array Value} {U : State} (h : va_AOA ty U) : (Cond.arrayOver (.array ty)).before A U = true := h
theorem ax_overA {args : Array Value} {first s : State} {o : Option Outcome} {idx : List Nat} {t : FieldType} (h : (Cond.arrayOver (.array t)).holds args first o s idx = true) :
    ∃ comp c k, s.vm.findClass (FieldType.array t).toString = some comp ∧ (s.vm.classes.findIdx? fun (x : Class) => match x.kind with | .array component _ => component == comp | _ => false) = some c ∧ s.vm.classes[c]? = some k ∧ k.kind = .array comp (.array t) ∧ s.vm.findClass ("[" ++ (FieldType.array t).toString) = some c := by
  simp only [Cond.holds, Cond.value, beq_iff_eq] at h
  cases hc : s.vm.findClass (FieldType.array t).toString with
  | none => simp [hc] at h
  | some comp =>
    simp only [hc, Option.bind_some, Option.bind_eq_some_iff, Option.map_eq_some_iff] at h
    obtain ⟨c, hi, k, hk, hb⟩ := h
    obtain ⟨hlt, hp, -⟩ := Array.findIdx?_eq_some_iff_getElem.mp hi
    have hkk : s.vm.classes[c] = k := (Array.getElem?_eq_some_iff.mp hk).2
    rw [hkk] at hp
    cases hkind : k.kind with
    | array component ty =>
      rw [hkind] at hb hp
      simp at hb hp
      exact ⟨comp, c, k, rfl, hi, hk, by rw [hkind, hp, hb.1], hb.2⟩
    | _ => rw [hkind] at hb; simp at hb
theorem ax_idx_bare (vm : Vm) (comp : ClassId) : (vm.bare.classes.findIdx? fun (x : Class) => match x.kind with | .array component _ => component == comp | _ => false) = (vm.classes.findIdx? fun (x : Class) => match x.kind with | .array component _ => component == comp | _ => false) := by
  simp only [Vm.bare, Array.findIdx?_map]
  rfl
theorem va_AOA.moved {ty : FieldType} {u U : State} (hvm : u.vm.Alike U.vm) (h : va_AOA ty u) : va_AOA ty U := by
  obtain ⟨comp, c, k, h1, h2, h3, h4, h5⟩ := ax_overA h
  obtain ⟨k', hk', he⟩ := hvm.2.2 _ _ h3
  have hi : (U.vm.classes.findIdx? fun (x : Class) => match x.kind with | .array component _ => component == comp | _ => false) = some c := by
    rw [← ax_idx_bare]
    first | rw [hvm.bare_eq] | rw [← hvm.bare_eq]
    rw [ax_idx_bare]
    exact h2
  have hkind : k'.kind = .array comp (.array ty) := by rw [he]; exact h4
  have f1 : U.vm.findClass (FieldType.array ty).toString = some comp := by rw [hvm.findClass]; exact h1
  have f2 : U.vm.findClass ("[" ++ (FieldType.array ty).toString) = some c := by rw [hvm.findClass]; exact h5
  unfold va_AOA Cond.before Cond.holds
  simp only [Cond.value]
  rw [f1, Option.bind_some]
  refine (congrArg (fun o : Option Nat => (o.bind (fun c => (U.vm.classes[c]?).map fun (k : Class) => match k.kind with | .array _ t => decide (t = FieldType.array ty) && decide (U.vm.findClass ("[" ++ (FieldType.array ty).toString) = some c) | _ => false) == some true)) hi).trans ?_
  simp [hk', hkind, f2]
/-! ===== BEGIN new T[n][m]: the outer array a place, the inner ones among the pooled ===== -/
/-- f, but v at every address of l -/
def vr_up {α : Type} (f : Nat → α) (l : List Nat) (v : α) : Nat → α := fun a => if a ∈ l then v else f a
theorem vr_up_in {α : Type} {f : Nat → α} {l : List Nat} {v : α} {a : Nat} (h : a ∈ l) : vr_up f l v a = v := if_pos h
theorem vr_up_ne {α : Type} {f : Nat → α} {l : List Nat} {v : α} {a : Nat} (h : a ∉ l) : vr_up f l v a = f a := if_neg h
theorem vr_rows {L l : List Nat} {f : Nat → va_E} {e : va_E} (h : ∀ a, a ∈ l → a ∉ L) : va_pl L f ++ l.map (fun a => (a, e)) = va_pl (L ++ l) (vr_up f l e) := by
  unfold va_pl
  rw [List.map_append]
  congr 1
  · apply List.map_congr_left
    intro a ha
    rw [vr_up_ne (fun q => h a q ha)]
  · apply List.map_congr_left
    intro a ha
    rw [vr_up_in ha]
theorem vr_lay {X rows : va_W} {x : Nat × va_E} {pl : va_W} {D : va_G} {cl : List vw_C} {H : Heap} (hP : va_P D cl (((X ++ pl) ++ [x]) ++ rows) H) : va_P D cl ((X ++ [x]) ++ (pl ++ rows)) H := by
  rw [List.append_assoc (X ++ pl)] at hP
  have h := va_P.swap hP
  rw [← List.append_assoc X] at h
  have h2 := va_P.swap h
  rw [List.append_assoc (X ++ [x])] at h2
  exact h2
theorem vr_layD {X rows : va_W} {x : Nat × va_E} {pl : va_W} {A : Nat → Prop} (hD : va_D A (((X ++ pl) ++ [x]) ++ rows)) : va_D A ((X ++ [x]) ++ (pl ++ rows)) := by
  rw [List.append_assoc (X ++ pl)] at hD
  have h := va_D.swap hD
  rw [← List.append_assoc X] at h
  have h2 := va_D.swap h
  rw [List.append_assoc (X ++ [x])] at h2
  exact h2
theorem vr_outer (c : ClassId) (N h0 : Nat) : ∀ i : Nat, Jvm.Free.Multi.outerC c N h0 i = arrV c N (fun j => va_rf (if j < i then some (h0 + 1 + j) else none))
  | 0 => by
    show ({ cls := c, slots := Array.replicate N .null, vm := .none } : Cell) = _
    rw [arrV_new]
    refine congrArg (arrV c N) (funext fun j => ?_)
    simp [va_rf]
  | i + 1 => by
    show (Jvm.Free.Multi.outerC c N h0 i).setSlot i (.ref (h0 + 1 + i)) = _
    rw [vr_outer c N h0 i, arrV_store]
    refine congrArg (arrV c N) (funext fun j => ?_)
    by_cases e : j = i
    · subst e
      simp [updV, va_rf]
    · by_cases h : j < i
      · simp [updV, e, h, Nat.lt_succ_of_lt h]
      · simp [updV, e, h, show ¬ j < i + 1 by omega]
section VGM
variable {p : Program} {l : Launch} {e : Env} {R : Room} {s : State} {m : MethodId} {args : Array Value} {below : List Frame} {meth : Method} {c : Code} {H : Heap} {locs : List Loc} {cells slots : Nat} {Q : State → Prop}
variable {cc : ByteArray} {pc : Nat} {ls : Array Slot} {rest : List Value} {D : va_G} {cl : List vw_C} {A : Nat → Prop} {a : Nat} {tys : List (ClassId × FieldType)} {ws : va_W} {H0 : Heap}
theorem va_mna {X : va_W} {L : List Nat} {f : Nat → va_E} {cc : ByteArray} (hexec : p.tables.exec = Jvm.exec) (hb : c.code = cc) {own : String} {index : Nat} {ty : FieldType} {cy : ClassId} (hown : s.vm.findClass own = some m.cls) (hclink : (Cond.classLink own index ("[" ++ (FieldType.array ty).toString)).before args s = true) (hover : va_AOA ty s) (harr : (Cond.arrayClass ty).before args s = true) (hcy : s.vm.findClass (FieldType.array ty).toString = some cy)
    (hK : va_K D cl tys s) (hP : va_P D cl (X ++ va_pl L f) H) (hD : va_D A (X ++ va_pl L f)) (hS : va_S A H0 H locs) (hA : ∀ q, H0.size ≤ q → A q) {n k : Int32} {N' K' : Nat} {z : vp_A} (hn : ¬ n < 0) (hk : ¬ k < 0) (hN : n.toNatClampNeg = N') (hM : k.toNatClampNeg = K')
    (hb1 : N' * 4 ≤ 536870912) (hb2 : K' * componentBytes ty ≤ 536870912) (hb3 : K' ≤ 536870912) (hdf : fits ty (defaultValue ty) = true) (hdd : (defaultValue ty).isDefault = true) (hcells : cells + (1 + N') ≤ R.cells) (hslots : slots + (N' + N' * K') ≤ R.slots) (hz : ∀ c : ClassId, Jvm.Free.Multi.innerC c K' (defaultValue ty) = vp_cell c z) (hdg : decode cc pc = .ok (.multianewarray index 2, 4))
    (kk : ∀ (q : Nat) (r : Nat → Nat) (cA : ClassId) (H1 : Heap), (∀ i j : Nat, i < N' → j < N' → r i = r j → i = j) → (∀ i : Nat, i < N' → r i ∉ L) → va_K D cl (tys ++ [(cA, .array ty)]) s →
      va_P D cl ((X ++ [(q, .inl (cA, N', .inr (.inr (.inr (.inr (fun i => if i < N' then some (r i) else none))))))]) ++ va_pl (L ++ (List.range N').map r) (vr_up f ((List.range N').map r) (.inl (cy, z)))) H1 → va_D A ((X ++ [(q, .inl (cA, N', .inr (.inr (.inr (.inr (fun i => if i < N' then some (r i) else none))))))]) ++ va_pl (L ++ (List.range N').map r) (vr_up f ((List.range N').map r) (.inl (cy, z)))) → va_S A H0 H1 locs →
      W p l e R s m args below meth c H1 locs (cells + 1 + N') (slots + N' + N' * K') Q (F0 m (pc + 4) ls (.ref q :: rest))) : W p l e R s m args below meth c H locs cells slots Q (F0 m pc ls (.int k :: .int n :: rest)) := by
  subst hN
  subst hM
  intro T hT Xs
  obtain ⟨vm₁, cA, comp, -, fA, fC, hO, -, X', step⟩ := Xs.multianewarray2F hexec hown hclink (va_AOA.use hover) harr (g := F0 m pc ls (.int k :: .int n :: rest)) rfl (by rw [hb]; exact hdg) rfl hn hk hb1 hb2 hb3 hdf hdd hcells hslots
  have ec : some cy = some comp := hcy.symm.trans fC
  cases ec
  generalize hF : Jvm.Free.Multi.fill (T.setVm vm₁) cA cy n.toNatClampNeg k.toNatClampNeg (defaultValue ty) n.toNatClampNeg = F at X' step
  have hTh : (T.setVm vm₁).heap = H := hT
  obtain ⟨f1, f2, -, -⟩ := Jvm.Free.Multi.fill_facts (T.setVm vm₁) cA cy n.toNatClampNeg k.toNatClampNeg (defaultValue ty) n.toNatClampNeg
  rw [hF, hTh] at f1 f2
  have hold : ∀ x : Nat, x < H.size → F.heap[x]? = H[x]? := fun x hx => by
    have := Jvm.Free.Multi.fill_old (T.setVm vm₁) cA cy n.toNatClampNeg k.toNatClampNeg (defaultValue ty) (a := x) (by rw [hTh]; exact hx) n.toNatClampNeg
    rw [hF, hTh] at this
    exact this
  have hrow : ∀ j : Nat, j < n.toNatClampNeg → F.heap[H.size + 1 + j]? = some (vp_cell cy z) := fun j hj => by
    have := Jvm.Free.Multi.fill_inner (T.setVm vm₁) cA cy n.toNatClampNeg k.toNatClampNeg (defaultValue ty) n.toNatClampNeg j hj
    rw [hF, hTh, hz] at this
    exact this
  have hout : Jvm.Free.Multi.outerC cA n.toNatClampNeg H.size n.toNatClampNeg = vp_cell cA (n.toNatClampNeg, .inr (.inr (.inr (.inr (fun i => if i < n.toNatClampNeg then some (H.size + 1 + i) else none))))) := by
    rw [vp_cell_q]
    exact vr_outer cA n.toNatClampNeg H.size n.toNatClampNeg
  rw [hout] at f2
  have hlt : ∀ a, a ∈ L → a < H.size := fun a ha => by
    obtain ⟨k9, hk9⟩ := va_pl_get (X := X) (f := f) ha
    exact (hP k9 _ hk9).lt
  have hnl : ∀ i : Nat, i < n.toNatClampNeg → H.size + 1 + i ∉ L := fun i _ h => by
    have := hlt _ h
    omega
  have hnm : ∀ a, a ∈ (List.range n.toNatClampNeg).map (fun i => H.size + 1 + i) → a ∉ L := fun a ha h => by
    obtain ⟨i, -, rfl⟩ := List.mem_map.mp ha
    have := hlt _ h
    omega
  have hP0 : va_P D cl (X ++ va_pl L f) F.heap := hP.kept (fun k9 x hx => hold x.1 ((hP k9 x hx).lt))
  have hP1 : va_P D cl ((X ++ va_pl L f) ++ [(H.size, .inl (cA, n.toNatClampNeg, .inr (.inr (.inr (.inr (fun i => if i < n.toNatClampNeg then some (H.size + 1 + i) else none))))))]) F.heap := hP0.app (fun k9 x hx => by
    have h0 : k9 < 1 := (List.getElem?_eq_some_iff.mp hx).1
    rw [show k9 = 0 by omega] at hx
    cases hx
    exact f2)
  have hP2 : va_P D cl (((X ++ va_pl L f) ++ [(H.size, .inl (cA, n.toNatClampNeg, .inr (.inr (.inr (.inr (fun i => if i < n.toNatClampNeg then some (H.size + 1 + i) else none))))))]) ++ ((List.range n.toNatClampNeg).map (fun i => H.size + 1 + i)).map (fun a => (a, .inl (cy, z)))) F.heap := hP1.app (fun k9 x hx => by
    obtain ⟨a, ha, rfl⟩ := List.mem_map.mp (List.mem_of_getElem? hx)
    obtain ⟨i, hi, rfl⟩ := List.mem_map.mp ha
    exact hrow i (List.mem_range.mp hi))
  have hD2 : va_D A (((X ++ va_pl L f) ++ [(H.size, .inl (cA, n.toNatClampNeg, .inr (.inr (.inr (.inr (fun i => if i < n.toNatClampNeg then some (H.size + 1 + i) else none))))))]) ++ ((List.range n.toNatClampNeg).map (fun i => H.size + 1 + i)).map (fun a => (a, .inl (cy, z)))) := by
    have hD1 := hD.push (e := .inl (cA, n.toNatClampNeg, .inr (.inr (.inr (.inr (fun i => if i < n.toNatClampNeg then some (H.size + 1 + i) else none)))))) hP rfl (hA _ hS.1)
    generalize hW1 : (X ++ va_pl L f) ++ [(H.size, .inl (cA, n.toNatClampNeg, .inr (.inr (.inr (.inr (fun i => if i < n.toNatClampNeg then some (H.size + 1 + i) else none))))))] = W1 at hD1 hP1 ⊢
    have hle : ∀ (k9 : Nat) (x : Nat × va_E), W1[k9]? = some x → x.1 ≤ H.size := fun k9 x hx => by
      rw [← hW1] at hx
      by_cases hl : k9 < (X ++ va_pl L f).length
      · rw [List.getElem?_append_left hl] at hx
        exact Nat.le_of_lt ((hP k9 x hx).lt)
      · rw [List.getElem?_append_right (by omega)] at hx
        have h0 : k9 - (X ++ va_pl L f).length < 1 := (List.getElem?_eq_some_iff.mp hx).1
        rw [show k9 - (X ++ va_pl L f).length = 0 by omega] at hx
        cases hx
        exact Nat.le_refl _
    have hr : ∀ (k9 : Nat) (x : Nat × va_E), (((List.range n.toNatClampNeg).map (fun i => H.size + 1 + i)).map (fun a => ((a, .inl (cy, z)) : Nat × va_E)))[k9]? = some x → x.1 = H.size + 1 + k9 := fun k9 x hx => by
      rw [List.getElem?_map, List.getElem?_map] at hx
      by_cases h9 : k9 < n.toNatClampNeg
      · rw [List.getElem?_range h9] at hx
        cases hx
        rfl
      · have hn0 : (List.range n.toNatClampNeg)[k9]? = none := List.getElem?_eq_none (by rw [List.length_range]; omega)
        rw [hn0] at hx
        cases hx
    refine ⟨fun i j x y hi hj hxy => ?_, fun k9 x hx => ?_⟩
    · by_cases h1 : i < W1.length <;> by_cases h2 : j < W1.length
      · rw [List.getElem?_append_left h1] at hi
        rw [List.getElem?_append_left h2] at hj
        exact hD1.1 i j x y hi hj hxy
      · rw [List.getElem?_append_left h1] at hi
        rw [List.getElem?_append_right (by omega)] at hj
        have := hle _ _ hi
        have := hr _ _ hj
        omega
      · rw [List.getElem?_append_right (by omega)] at hi
        rw [List.getElem?_append_left h2] at hj
        have := hle _ _ hj
        have := hr _ _ hi
        omega
      · rw [List.getElem?_append_right (by omega)] at hi hj
        have := hr _ _ hi
        have := hr _ _ hj
        omega
    · by_cases h1 : k9 < W1.length
      · rw [List.getElem?_append_left h1] at hx
        exact hD1.2 k9 x hx
      · rw [List.getElem?_append_right (by omega)] at hx
        have := hr _ _ hx
        exact hA _ (by have := hS.1; omega)
  have hAr : ArrOfT s cA (.array ty) := fun N9 z9 => by
    obtain ⟨-, k9, hk9, cm9, hkk9⟩ := (hO 0 0 0).1
    exact ⟨(fun q hq => by cases hq), k9, hk9, cm9, hkk9⟩
  have hK2 : va_K D cl (tys ++ [(cA, .array ty)]) s := ⟨hK.1, fun k9 x hx => by
    by_cases hl : k9 < tys.length
    · rw [List.getElem?_append_left hl] at hx
      exact hK.2 k9 x hx
    · rw [List.getElem?_append_right (by omega)] at hx
      have h0 : k9 - tys.length < 1 := (List.getElem?_eq_some_iff.mp hx).1
      rw [show k9 - tys.length = 0 by omega] at hx
      cases hx
      exact ⟨hAr, fA⟩⟩
  obtain ⟨t, a1, b1⟩ := kk H.size (fun i => H.size + 1 + i) cA F.heap (fun i j _ _ h => by have h9 : H.size + 1 + i = H.size + 1 + j := h; omega) hnl hK2 (by rw [← vr_rows hnm]; exact vr_lay hP2) (by rw [← vr_rows hnm]; exact vr_layD hD2) ⟨by rw [f1]; have := hS.1; omega, fun x h1 h2 => (hold x (Nat.lt_of_lt_of_le h1 hS.1)).trans (hS.2.1 x h1 h2), hS.2.2⟩ F rfl X'
  refine ⟨t, step t ?_, b1⟩
  have e : T.heap.size = H.size := by rw [hT]
  rw [e]
  exact a1
end VGM
/-! ===== END ===== -/

/-! ===== BEGIN exceptions that leave a method, and their catching by the caller (launches without stack traces) ===== -/
section VXA
/-! The laws vx_back, vx_callV, vx_callS, vx_callSW, vx_throw0, vx_throwS follow proofs of the library, with one case more: JvmDerived/Free/Laws.lean (Back.of_free), Shelf42/LK1.lean (callV, callS), Shelf/KitTraced.lean (throwNew0V, throwNewS). -/
/-- where a method has thrown q: the class by its name, the cell, what was written, the world -/
def vx_T (XC : String → State → State → Prop) (st : State) (q : Addr) (t : State) (mc ms : Nat) (free : Addr → Prop) : Prop :=
  ∃ (E : String) (ce : Cell) (L : List Loc), XC E st t ∧ t.heap[q]? = some ce ∧ ce.vm = .none ∧ st.vm.findClass E = some ce.cls ∧ st.WarmedH t.vm ∧ st.sameButNew ({ t with vm := st.vm } : State) L mc ms ∧ ∀ z ∈ L, free z.base
def vx_Q (Qc : Array Value → State → Outcome → State → Prop) (XC : String → State → State → Prop) (mc ms : Nat) (free : Addr → Prop) : Array Value → State → Outcome → State → Prop := fun a st o t =>
  (Qc a st o t ∧ ∃ L, FrameEnd st o t L mc ms ∧ ∀ q ∈ L, free q.base) ∨ ∃ q, o = .threw q ∧ vx_T XC st q t mc ms free
/-- a callee that returns or throws -/
def vx_Met (l : Launch) (y : MethodName) (ws : List Cond) (rm : Room) (Pc : Array Value → State → Prop) (Qc : Array Value → State → Outcome → State → Prop) (XC : String → State → State → Prop) (mc ms : Nat) (free : Addr → Prop) : Prop :=
  MetFree l y (headSpec ws rm) Pc (fun _ _ _ _ _ => True) (vx_Q Qc XC mc ms free)
def vx_Post (XC : String → State → State → Prop) (mc ms : Nat) (free : Addr → Prop) : Pt → Array Value → Addr → Pt → Prop := fun A a q B =>
  ∃ (g : JFrame) (mk : MethodId) (t : State) (L : List Loc) (E : String) (ce : Cell), B.U.heap = t.heap ∧ B.U.vm = t.vm ∧ XC E (A.U.calling g mk a) t ∧ t.heap[q]? = some ce ∧ ce.vm = .none ∧ A.U.vm.findClass E = some ce.cls ∧ B.locs = A.locs ++ L ∧ (∀ z ∈ L, free z.base) ∧ B.cells = A.cells + mc ∧ B.slots = A.slots + ms
def vx_Back (l : Launch) (R : Room) (p : Program) (e : Env) (below : List Frame) (s : State) (sargs : Array Value) (y : MethodName) (len W9 : Nat)
    (Pre : Pt → Array Value → Prop) (Post : Pt → Array Value → Option Value → Pt → Prop) (PostX : Pt → Array Value → Addr → Pt → Prop) : Prop :=
  ∀ (m : MethodId) (meth : Method) (c : Code) (A : Pt) (g : JFrame) (ig : Instr) (mk : MethodId) (a : Array Value),
    Stand p l e R s m sargs below meth c A.U A.locs A.cells A.slots → g.method = m → g.locals.size = c.maxLocals → decode c.code g.pc = .ok (ig, len) →
    2 * g.monitorRoom + (g.stack.map fun v => v.category).sum ≤ W9 → A.U.methodNamed? y = some mk → Pre A a →
    (∃ (v : Option Value) (B : Pt), Stand p l e R s m sargs below meth c B.U B.locs B.cells B.slots ∧ Post A a v B ∧
      Steps p.tables e below (doInvoke e (A.U.setTop g) [] mk a).1 (B.U.setTop { g with pc := g.pc + len, stack := v.toList ++ g.stack })) ∨
    (∃ (q : Addr) (B : Pt), Stand p l e R s m sargs below meth c B.U B.locs B.cells B.slots ∧ PostX A a q B ∧
      Steps p.tables e below (doInvoke e (A.U.setTop g) [] mk a).1 ((B.U.setTop g).pushFrame (.throwing q)))
section Payer
variable {l : Launch} {R : Room} {p : Program} {e : Env} {below : List Frame} {s : State} {sargs : Array Value} {y : MethodName} {len W9 : Nat}
theorem vx_back {ws : List Cond} {rm : Room} {Pc : Array Value → State → Prop} {Qc : Array Value → State → Outcome → State → Prop} {XC : String → State → State → Prop} {mc ms : Nat} {free : Addr → Prop} {bytes : ByteArray} {maxL : Nat} {ret : Option FieldType}
    (hM : vx_Met l y ws rm Pc Qc XC mc ms free) (hblind : FrameBlind Pc) (hrc : rm.cells = mc) (hrs : rm.slots = ms)
    (hframes : rm.frames + 1 ≤ R.frames) (hlocals : W9 + (maxL + 11) + rm.locals ≤ R.locals)
    (hws : ∀ w ∈ ws, ∀ a' U, s.WarmedH U.vm → w.before a' U = true) (hcode : Cond.code y bytes maxL ret ∈ ws) (hinit : ∀ a' U, s.WarmedH U.vm → (Cond.initialized y.cls).before a' U = true) :
    vx_Back l R p e below s sargs y len W9 (PreOf R mc ms Pc) (PostOf Qc mc ms free) (vx_Post XC mc ms free) := by
  intro m meth c A g ig mk a X hg hsize hdg hW hn hp
  have h1 : (headSpec ws rm).pre.before a A.U = true := atoms_intro fun w hw => hws w hw _ _ X.warmed
  have h2 : (Cond.code y bytes maxL ret).before a A.U = true := hws _ hcode _ _ X.warmed
  have h3 : (Cond.initialized y.cls).before a A.U = true := hinit _ _ X.warmed
  have h4 : A.cells + (headSpec ws rm).room.cells ≤ R.cells := by rw [show (headSpec ws rm).room.cells = mc from hrc]; exact hp.1
  have h5 : A.slots + (headSpec ws rm).room.slots ≤ R.slots := by rw [show (headSpec ws rm).room.slots = ms from hrs]; exact hp.2.1
  have hPc : Pc a (A.U.calling g mk a) := hblind _ _ _ _ hp.2.2
  obtain ⟨U, Ls, c0, s0⟩ := A
  dsimp only [Pt.U, Pt.locs, Pt.cells, Pt.slots] at h1 h2 h3 h4 h5 X hn hPc ⊢
  obtain ⟨methY, cY, hmY, hcY, -, hlY, -, -, -, -⟩ := Cond.code_spec hn h2
  obtain ⟨kY, hkY, -⟩ := className_of_methodNamed hn
  have hinitY : kY.init = .initialized := Cond.initialized_spec (findClass_of_methodNamed hn) hkY h3
  have h : At U g.method c below := by rw [hg]; exact X.here
  have hlocals9 : W9 + (maxL + 11) + (headSpec ws rm).room.locals ≤ R.locals := hlocals
  have happ : (headSpec ws rm).appliesLoose y e.platform (U.calling g mk a) = true :=
    Spec.appliesLoose_calling (g := g) h hdg hn hkY hinitY
      (X.room_calling (g := g) (R' := (headSpec ws rm).room) hsize hmY hcY hframes (by rw [hlY]; omega) h4 h5) h1
  obtain ⟨mid, hmid⟩ := h.above
  have hfr : (U.setTop g).frames = (.java g :: mid) ++ below := by rw [State.frames_setTop' g h.top, hmid]; rfl
  obtain ⟨o, s₂, hsteps, -, hend, hq⟩ := Steps.callFree hM p X.admits X.cas X.clock (acts := []) hfr happ hPc trivial
  have hq' : vx_Q Qc XC mc ms free a (U.calling g mk a) o s₂ := hq
  rw [State.frames_setTop' g h.top] at hend
  obtain ⟨g₀, hg0⟩ := Option.isSome_iff_exists.mp h.top
  obtain ⟨r, hr⟩ := State.topJava?_eq_some.mp hg0
  have hr' : (({ U with heap := s₂.heap, slotsUsed := s₂.slotsUsed } : State).setVm s₂.vm).frames = .java g₀ :: r := hr
  rcases hq' with ⟨hqc, L, hfe, hL⟩ | ⟨q, rfl, E, ce, L, hx, hce, hcv, hcl, hW₂, hsm, hL⟩
  · obtain ⟨⟨v, rfl⟩, hW₂, e2, q2, q3, q4, q5, q6⟩ := id hfe
    have e3 : s₂ = ({ (U.calling g mk a).setFrames s₂.frames with heap := s₂.heap, slotsUsed := s₂.slotsUsed } : State).setVm s₂.vm := by
      have : s₂ = ({ s₂ with vm := (U.calling g mk a).vm } : State).setVm s₂.vm := rfl
      rw [e2] at this
      exact this
    obtain ⟨c₂, i₂, len₂, hc₂, hd₂, hf₂⟩ := hend
    have hW' : U.WarmedH s₂.vm := hW₂
    have hcc : c₂ = c := by
      have h1 : s₂.code? g.method = U.code? g.method := by
        rw [State.code?_eq, State.code?_eq, hW'.alike.method?]
      exact Option.some.inj (hc₂.symm.trans (h1.trans h.code))
    subst hcc
    have hlen : len₂ = len := by rw [hdg] at hd₂; cases hd₂; rfl
    subst hlen
    have hs₂ : s₂ = (({ U with heap := s₂.heap, slotsUsed := s₂.slotsUsed } : State).setVm s₂.vm).setTop { g with pc := g.pc + len₂, stack := v.toList ++ g.stack } := by
      refine e3.trans ?_
      rw [hf₂, State.calling_eq h.top, State.setFrames_setFrames, State.setTop_of_frames _ hr', hr]
      rfl
    have hsame : U.sameButNew ({ U with heap := s₂.heap, slotsUsed := s₂.slotsUsed } : State) L mc ms := by
      refine ⟨?_, q2, q3, q4, q5, q6⟩
      obtain ⟨t, ht, -⟩ := State.frames_cons hr
      show ({ U with heap := s₂.heap, slotsUsed := s₂.slotsUsed } : State) = { U.setFrames U.frames with heap := s₂.heap, slotsUsed := s₂.slotsUsed }
      rw [State.setFrames_self ht]
    subst hg
    refine Or.inl ⟨v, ⟨(({ U with heap := s₂.heap, slotsUsed := s₂.slotsUsed } : State).setVm s₂.vm), Ls ++ L, c0 + mc, s0 + ms⟩,
      ⟨X.admits, X.cas, X.clock, X.frames, X.room, X.hears, X.method, X.code, (X.here.setHeapUsed s₂.heap s₂.slotsUsed).setVm hW'.alike, X.tail, State.WarmedH.trans X.warmed hW', X.limits, X.bytes, X.same.trans (hsame.setVm s.vm)⟩,
      ⟨g, mk, s₂, L, rfl, rfl, hqc, rfl, hL, rfl, rfl⟩, ?_⟩
    show Steps p.tables e below _ ((({ U with heap := s₂.heap, slotsUsed := s₂.slotsUsed } : State).setVm s₂.vm).setTop { g with pc := g.pc + len₂, stack := v.toList ++ g.stack })
    rw [← hs₂]
    exact hsteps
  · obtain ⟨e2, q2, q3, q4, q5, q6⟩ := id hsm
    have e3 : s₂ = ({ (U.calling g mk a).setFrames s₂.frames with heap := s₂.heap, slotsUsed := s₂.slotsUsed } : State).setVm s₂.vm := by
      have : s₂ = ({ s₂ with vm := (U.calling g mk a).vm } : State).setVm s₂.vm := rfl
      rw [e2] at this
      exact this
    have hf₂ : s₂.frames = .throwing q :: .java g :: U.frames.tail := hend
    have hW' : U.WarmedH s₂.vm := hW₂
    have hs₂ : s₂ = ((({ U with heap := s₂.heap, slotsUsed := s₂.slotsUsed } : State).setVm s₂.vm).setTop g).pushFrame (.throwing q) := by
      refine e3.trans ?_
      rw [hf₂, State.calling_eq h.top, State.setFrames_setFrames, State.pushFrame, State.frames_setTop _ hr', State.setTop_of_frames _ hr', State.setFrames_setFrames, hr]
      rfl
    have hsame : U.sameButNew ({ U with heap := s₂.heap, slotsUsed := s₂.slotsUsed } : State) L mc ms := by
      refine ⟨?_, q2, q3, q4, q5, q6⟩
      obtain ⟨t, ht, -⟩ := State.frames_cons hr
      show ({ U with heap := s₂.heap, slotsUsed := s₂.slotsUsed } : State) = { U.setFrames U.frames with heap := s₂.heap, slotsUsed := s₂.slotsUsed }
      rw [State.setFrames_self ht]
    subst hg
    refine Or.inr ⟨q, ⟨(({ U with heap := s₂.heap, slotsUsed := s₂.slotsUsed } : State).setVm s₂.vm), Ls ++ L, c0 + mc, s0 + ms⟩,
      ⟨X.admits, X.cas, X.clock, X.frames, X.room, X.hears, X.method, X.code, (X.here.setHeapUsed s₂.heap s₂.slotsUsed).setVm hW'.alike, X.tail, State.WarmedH.trans X.warmed hW', X.limits, X.bytes, X.same.trans (hsame.setVm s.vm)⟩,
      ⟨g, mk, s₂, L, E, ce, rfl, rfl, hx, hce, hcv, hcl, rfl, hL, rfl, rfl⟩, ?_⟩
    show Steps p.tables e below _ (((({ U with heap := s₂.heap, slotsUsed := s₂.slotsUsed } : State).setVm s₂.vm).setTop g).pushFrame (.throwing q))
    rw [← hs₂]
    exact hsteps
end Payer
section Calls
variable {p : Program} {l : Launch} {e : Env} {R : Room} {s : State} {m : MethodId} {args : Array Value} {below : List Frame} {meth : Method} {c : Code} {T : State} {locs : List Loc} {cells slots : Nat}
theorem vx_callV (X : Stand p l e R s m args below meth c T locs cells slots) (hexec : p.tables.exec = Jvm.exec) {own C : String} {index : Nat} {y : MethodName} {bytes : ByteArray} {maxL : Nat} {ret : Option FieldType}
    (hown : s.vm.findClass own = some m.cls) (hlink : (Cond.methodLink own index y).before args s = true) (hinst : (Cond.instanceMethod y).before args s = true) (hsel : (Cond.selects C y y).before args s = true)
    (hcode : (Cond.code y bytes maxL ret).before args s = true) (hy : y.cls ≠ "java/lang/invoke/MethodHandle" ∧ y.cls ≠ "java/lang/invoke/VarHandle")
    {W9 : Nat} {Pre : Pt → Array Value → Prop} {Post : Pt → Array Value → Option Value → Pt → Prop} {PostX : Pt → Array Value → Addr → Pt → Prop} (hK : vx_Back l R p e below s args y 3 W9 Pre Post PostX)
    {b : Addr} {cellB : Cell} (hcell : T.heap[b]? = some cellB) (hobj : cellB.vm.isStatics = false) (hcls : s.vm.findClass C = some cellB.cls)
    {g : JFrame} (hg : g.method = m) (hsize : g.locals.size = c.maxLocals) {argsL rest : List Value} (hlen : ∀ sig, parseMethodDescriptor y.desc = some sig → argsL.length = sig.parameters.length)
    (hstack : g.stack = argsL.reverse ++ .ref b :: rest) (hW : 2 * g.monitorRoom + (rest.map fun v => v.category).sum ≤ W9) (hdg : decode c.code g.pc = .ok (.invokevirtual index, 3))
    (hpre : ∀ vm₁, s.WarmedH vm₁ → Pre ⟨T.setVm vm₁, locs, cells, slots⟩ (Value.ref b :: argsL).toArray) :
    (∃ (v : Option Value) (vm₁ : Vm) (B : Pt), s.WarmedH vm₁ ∧ Stand p l e R s m args below meth c B.U B.locs B.cells B.slots ∧ Post ⟨T.setVm vm₁, locs, cells, slots⟩ (Value.ref b :: argsL).toArray v B ∧
      ∀ target, Steps p.tables e below (B.U.setTop { g with pc := g.pc + 3, stack := v.toList ++ rest }) target → Steps p.tables e below (T.setTop g) target) ∨
    (∃ (q : Addr) (vm₁ : Vm) (B : Pt), s.WarmedH vm₁ ∧ Stand p l e R s m args below meth c B.U B.locs B.cells B.slots ∧ PostX ⟨T.setVm vm₁, locs, cells, slots⟩ (Value.ref b :: argsL).toArray q B ∧
      Steps p.tables e below (T.setTop g) ((B.U.setTop { g with stack := rest }).pushFrame (.throwing q))) := by
  obtain ⟨mk, methM, hnamed, hmethM, hstM, habM⟩ := Cond.instanceMethod_spec hinst
  obtain ⟨methM', cM, hmethM', -, -, -, -, -, -, hsigM⟩ := Cond.code_spec hnamed hcode
  cases hmethM.symm.trans hmethM'
  obtain ⟨c2, r2, m2, q1, q2, q3, q4, kP, hkP, hkPi⟩ := Cond.selects_spec hsel
  cases hcls.symm.trans q1
  cases (State.methodFound?_of_named hnamed hy).symm.trans q2
  cases hnamed.symm.trans q3
  have hselP : selectMethod e.platform s.vm cellB.cls mk = .method mk := by rw [Launch.admits_selectMethod X.admits]; exact q4
  obtain ⟨vm₁, X₁, hstep₁⟩ := X.invokevirtual hexec hown hlink hnamed hmethM hstM hkP hkPi hy (a := b) (cell := cellB) hcell
    (fun z h => by rw [h] at hobj; cases hobj) hselP hmethM habM hkP hkPi (g := g) hg (argsL := argsL) (rest := rest) (hlen _ hsigM) hstack hdg
  rcases hK m meth c ⟨T.setVm vm₁, locs, cells, slots⟩ { g with stack := rest } (.invokevirtual index) mk (Value.ref b :: argsL).toArray X₁ hg hsize hdg hW (X₁.named hnamed) (hpre vm₁ X₁.warmed) with ⟨v, B, X', hpost, hsteps⟩ | ⟨q, B, X', hpost, hsteps⟩
  · exact Or.inl ⟨v, vm₁, B, X₁.warmed, X', hpost, fun target h => hstep₁ _ fun acts => by rw [doInvoke_state]; exact hsteps.trans h⟩
  · exact Or.inr ⟨q, vm₁, B, X₁.warmed, X', hpost, hstep₁ _ fun acts => by rw [doInvoke_state]; exact hsteps⟩
theorem vx_callS (X : Stand p l e R s m args below meth c T locs cells slots) (hexec : p.tables.exec = Jvm.exec) {own : String} {index : Nat} {y : MethodName} {bytes : ByteArray} {maxL : Nat} {ret : Option FieldType}
    (hown : s.vm.findClass own = some m.cls) (hlink : (Cond.methodLink own index y).before args s = true) (hstat : (Cond.static y).before args s = true) (hinit : (Cond.initialized y.cls).before args s = true)
    (hcode : (Cond.code y bytes maxL ret).before args s = true) (hy : y.cls ≠ "java/lang/invoke/MethodHandle" ∧ y.cls ≠ "java/lang/invoke/VarHandle")
    {W9 : Nat} {Pre : Pt → Array Value → Prop} {Post : Pt → Array Value → Option Value → Pt → Prop} {PostX : Pt → Array Value → Addr → Pt → Prop} (hK : vx_Back l R p e below s args y 3 W9 Pre Post PostX)
    {g : JFrame} (hg : g.method = m) (hsize : g.locals.size = c.maxLocals) {argsL rest : List Value} (hlen : ∀ sig, parseMethodDescriptor y.desc = some sig → argsL.length = sig.parameters.length)
    (hstack : g.stack = argsL.reverse ++ rest) (hW : 2 * g.monitorRoom + (rest.map fun v => v.category).sum ≤ W9) (hdg : decode c.code g.pc = .ok (.invokestatic index, 3))
    (hpre : ∀ vm₁, s.WarmedH vm₁ → Pre ⟨T.setVm vm₁, locs, cells, slots⟩ argsL.toArray) :
    (∃ (v : Option Value) (vm₁ : Vm) (B : Pt), s.WarmedH vm₁ ∧ Stand p l e R s m args below meth c B.U B.locs B.cells B.slots ∧ Post ⟨T.setVm vm₁, locs, cells, slots⟩ argsL.toArray v B ∧
      ∀ target, Steps p.tables e below (B.U.setTop { g with pc := g.pc + 3, stack := v.toList ++ rest }) target → Steps p.tables e below (T.setTop g) target) ∨
    (∃ (q : Addr) (vm₁ : Vm) (B : Pt), s.WarmedH vm₁ ∧ Stand p l e R s m args below meth c B.U B.locs B.cells B.slots ∧ PostX ⟨T.setVm vm₁, locs, cells, slots⟩ argsL.toArray q B ∧
      Steps p.tables e below (T.setTop g) ((B.U.setTop { g with stack := rest }).pushFrame (.throwing q))) := by
  obtain ⟨mk, hnamed⟩ := Cond.code_named hcode
  obtain ⟨methM, cM, hmethM, -, -, -, -, -, -, hsigM⟩ := Cond.code_spec hnamed hcode
  have hstatic : methM.isStatic = true := Cond.static_spec hnamed hmethM hstat
  obtain ⟨kP, hkP, -⟩ := className_of_methodNamed hnamed
  have hinitP : kP.init = .initialized := Cond.initialized_spec (findClass_of_methodNamed hnamed) hkP hinit
  obtain ⟨vm₁, X₁, hstep₁⟩ := X.invokestatic hexec hown hlink hnamed hmethM hstatic hkP hinitP hy (g := g) hg (argsL := argsL) (rest := rest) (hlen _ hsigM) hstack hdg
  rcases hK m meth c ⟨T.setVm vm₁, locs, cells, slots⟩ { g with stack := rest } (.invokestatic index) mk argsL.toArray X₁ hg hsize hdg hW (X₁.named hnamed) (hpre vm₁ X₁.warmed) with ⟨v, B, X', hpost, hsteps⟩ | ⟨q, B, X', hpost, hsteps⟩
  · exact Or.inl ⟨v, vm₁, B, X₁.warmed, X', hpost, fun target h => hstep₁ _ fun acts => by rw [doInvoke_state]; exact hsteps.trans h⟩
  · exact Or.inr ⟨q, vm₁, B, X₁.warmed, X', hpost, hstep₁ _ fun acts => by rw [doInvoke_state]; exact hsteps⟩
end Calls
theorem vx_cls {s : State} {T : State} {vm₁ : Vm} {E : String} {k : ClassId} (hW : s.WarmedH vm₁) (h : (T.setVm vm₁).vm.findClass E = some k) : s.vm.findClass E = some k := by
  have h1 : vm₁.findClass E = some k := h
  rw [hW.alike.findClass] at h1
  exact h1
/-- the method's frame g, with q thrown over it -/
def vx_W (p : Program) (l : Launch) (e : Env) (R : Room) (s : State) (m : MethodId) (args : Array Value) (below : List Frame) (meth : Method) (c : Code) (H : Heap) (locs : List Loc) (cells slots : Nat) (Q : State → Prop) (g : JFrame) (q : Addr) : Prop :=
  ∀ T : State, T.heap = H → Stand p l e R s m args below meth c T locs cells slots → ∃ t, Steps p.tables e below ((T.setTop g).pushFrame (.throwing q)) t ∧ Q t
def vx_Run (p : Program) (l : Launch) (e : Env) (R : Room) (s : State) (m : MethodId) (args : Array Value) (below : List Frame) (meth : Method) (c : Code) (H : Heap) (locs : List Loc) (cells slots mc ms : Nat) (g : JFrame) (rest : List Value) (Qa : State → Outcome → State → Prop) (XC : String → State → State → Prop) (free : Addr → Prop) : Prop :=
  ∀ T : State, T.heap = H → Stand p l e R s m args below meth c T locs cells slots →
    (∃ (v : Option Value) (st₀ t T' : State) (L : List Loc), st₀.heap = H ∧ Stand p l e R s m args below meth c T' (locs ++ L) (cells + mc) (slots + ms) ∧ (∀ q ∈ L, free q.base) ∧ T'.heap = t.heap ∧ T'.vm = t.vm ∧ Qa st₀ (.returned v) t ∧
      Goes p e below T g T' { g with pc := g.pc + 3, stack := v.toList ++ rest }) ∨
    (∃ (q : Addr) (st₀ t T' : State) (L : List Loc) (E : String) (ce : Cell), st₀.heap = H ∧ Stand p l e R s m args below meth c T' (locs ++ L) (cells + mc) (slots + ms) ∧ (∀ z ∈ L, free z.base) ∧ T'.heap = t.heap ∧ T'.vm = t.vm ∧ XC E st₀ t ∧ t.heap[q]? = some ce ∧ ce.vm = .none ∧ s.vm.findClass E = some ce.cls ∧
      Steps p.tables e below (T.setTop g) ((T'.setTop { g with stack := rest }).pushFrame (.throwing q)))
def vx_X {S : Type} (px : S → Prop) (B : String → S → State → Prop) (A : Nat → Prop) : String → State → State → Prop := fun E st t => ∃ u : S, px u ∧ B E u t ∧ va_F A st t
section Runs
variable {p : Program} {l : Launch} {e : Env} {R : Room} {s : State} {m : MethodId} {args : Array Value} {below : List Frame} {meth : Method} {c : Code} {H : Heap} {locs : List Loc} {cells slots : Nat}
variable {y : MethodName} {bytes cc : ByteArray} {maxL nL mc ms n index : Nat} {ret : Option FieldType} {ws : List Cond} {rm : Room} {Pc : Array Value → State → Prop} {Qc : Array Value → State → Outcome → State → Prop} {XC : String → State → State → Prop} {free : Addr → Prop} {Ts : List Cond} {own C : String} {b : Addr} {As rest : List Value} {g : JFrame}
theorem vx_callBack (cb : CallB R s args own index y bytes maxL ret ws rm mc ms n) (hM : vx_Met l y ws rm Pc Qc XC mc ms free) (hbl : FrameBlind Pc) : vx_Back l R p e below s args y 3 8 (PreOf R mc ms Pc) (PostOf Qc mc ms free) (vx_Post XC mc ms free) := by
  obtain ⟨hrc, hrs, hfr, hlo, hws, hcw, -, hini, -⟩ := cb
  exact vx_back (bytes := bytes) (maxL := maxL) (ret := ret) hM hbl hrc hrs hfr hlo hws hcw (fun a' U hW => word_at hW (Or.inl (by first | rfl | simp [Cond.onTables, Cond.keeps, Cond.steady])) hini)
theorem vx_runV (S : CallFix p m c cc nL s args Ts own) (hM : vx_Met l y ws rm Pc Qc XC mc ms free) (cw : CallW R s args own C index y bytes maxL ret ws rm mc ms n) (hp : PreV s H C b Pc As)
    (hg : g.method = m) (hn : As.length = n) (hsize : g.locals.size = nL) (hstack : g.stack = As.reverse ++ .ref b :: rest) (hW : 2 * g.monitorRoom + (rest.map fun v => v.category).sum ≤ 8) (hdg : decode cc g.pc = .ok (.invokevirtual index, 3)) (hf : cells + mc ≤ R.cells ∧ slots + ms ≤ R.slots) :
    vx_Run p l e R s m args below meth c H locs cells slots mc ms g rest (Qc (Value.ref b :: As).toArray) XC free := by
  have hK : vx_Back l R p e below s args y 3 8 (PreOf R mc ms Pc) (PostOf Qc mc ms free) (vx_Post XC mc ms free) := vx_callBack cw.1 hM hp.1
  obtain ⟨⟨-, -, -, -, -, -, hcode, -, hy, hlen, hl⟩, hin, hse⟩ := cw
  obtain ⟨hx, hb, hml, ho, -⟩ := S
  obtain ⟨-, ⟨cellB, hcB, hoB, hclB⟩, hPc⟩ := hp
  intro T hT X
  rcases vx_callV X hx (C := C) (bytes := bytes) (maxL := maxL) (ret := ret) ho hl hin hse hcode hy hK (by rw [hT]; exact hcB) hoB hclB hg (hsize.trans hml.symm) (argsL := As) (rest := rest) (fun sig h => hn.trans (hlen sig h)) hstack hW (by rw [hb]; exact hdg)
    (fun vm₁ hW₁ => ⟨hf.1, hf.2, hPc (T.setVm vm₁) hT hW₁⟩) with ⟨v, vm₁, ⟨U', l2, c2, s2⟩, hW₁, X', ⟨g', mk, t, L, e1, e2, hq, h1, hL, h2, h3⟩, st⟩ | ⟨q, vm₁, ⟨U', l2, c2, s2⟩, hW₁, X', ⟨g', mk, t, L, E, ce, e1, e2, hq, hce, hcv, hcl, h1, hL, h2, h3⟩, st⟩
  · dsimp only [Pt.U, Pt.locs, Pt.cells, Pt.slots] at X' e1 e2 h1 h2 h3 st
    subst h1; subst h2; subst h3
    exact Or.inl ⟨v, (T.setVm vm₁).calling g' mk (Value.ref b :: As).toArray, t, U', L, hT, X', hL, e1, e2, hq, st⟩
  · dsimp only [Pt.U, Pt.locs, Pt.cells, Pt.slots] at X' e1 e2 h1 h2 h3 st hcl
    subst h1; subst h2; subst h3
    exact Or.inr ⟨q, (T.setVm vm₁).calling g' mk (Value.ref b :: As).toArray, t, U', L, E, ce, hT, X', hL, e1, e2, hq, hce, hcv, vx_cls hW₁ hcl, st⟩
theorem vx_runS (S : CallFix p m c cc nL s args Ts own) (hM : vx_Met l y ws rm Pc Qc XC mc ms free) (cw : CallB R s args own index y bytes maxL ret ws rm mc ms n ∧ (Cond.static y).before args s = true) (hp : PreS s H Pc As)
    (hg : g.method = m) (hn : As.length = n) (hsize : g.locals.size = nL) (hstack : g.stack = As.reverse ++ rest) (hW : 2 * g.monitorRoom + (rest.map fun v => v.category).sum ≤ 8) (hdg : decode cc g.pc = .ok (.invokestatic index, 3)) (hf : cells + mc ≤ R.cells ∧ slots + ms ≤ R.slots) :
    vx_Run p l e R s m args below meth c H locs cells slots mc ms g rest (Qc As.toArray) XC free := by
  have hK : vx_Back l R p e below s args y 3 8 (PreOf R mc ms Pc) (PostOf Qc mc ms free) (vx_Post XC mc ms free) := vx_callBack cw.1 hM hp.1
  obtain ⟨⟨-, -, -, -, -, -, hcode, hini, hy, hlen, hl⟩, hstt⟩ := cw
  obtain ⟨hx, hb, hml, ho, -⟩ := S
  intro T hT X
  rcases vx_callS X hx (bytes := bytes) (maxL := maxL) (ret := ret) ho hl hstt hini hcode hy hK hg (hsize.trans hml.symm) (argsL := As) (rest := rest) (fun sig h => hn.trans (hlen sig h)) hstack hW (by rw [hb]; exact hdg)
    (fun vm₁ hW₁ => ⟨hf.1, hf.2, hp.2 (T.setVm vm₁) hT hW₁⟩) with ⟨v, vm₁, ⟨U', l2, c2, s2⟩, hW₁, X', ⟨g', mk, t, L, e1, e2, hq, h1, hL, h2, h3⟩, st⟩ | ⟨q, vm₁, ⟨U', l2, c2, s2⟩, hW₁, X', ⟨g', mk, t, L, E, ce, e1, e2, hq, hce, hcv, hcl, h1, hL, h2, h3⟩, st⟩
  · dsimp only [Pt.U, Pt.locs, Pt.cells, Pt.slots] at X' e1 e2 h1 h2 h3 st
    subst h1; subst h2; subst h3
    exact Or.inl ⟨v, (T.setVm vm₁).calling g' mk As.toArray, t, U', L, hT, X', hL, e1, e2, hq, st⟩
  · dsimp only [Pt.U, Pt.locs, Pt.cells, Pt.slots] at X' e1 e2 h1 h2 h3 st hcl
    subst h1; subst h2; subst h3
    exact Or.inr ⟨q, (T.setVm vm₁).calling g' mk As.toArray, t, U', L, E, ce, hT, X', hL, e1, e2, hq, hce, hcv, vx_cls hW₁ hcl, st⟩
end Runs
section Rows
variable {p : Program} {l : Launch} {e : Env} {R : Room} {s : State} {m : MethodId} {args : Array Value} {below : List Frame} {meth : Method} {c : Code} {H : Heap} {locs : List Loc} {cells slots : Nat} {Q : State → Prop}
variable {mc ms : Nat} {free : Addr → Prop} {A0 A1 : Nat → Prop} {H0 : Heap} {a : Array Value} {pc : Nat} {ls : Array Slot} {st0 rest : List Value}
theorem vx_keep {st₀ t T' : State} {L : List Loc} (h0 : st₀.heap = H) (e1 : T'.heap = t.heap) (hS : va_S A0 H0 H locs) (hA : ∀ q, q < H.size → A1 q → A0 q) (hf : ∀ q, free q → A0 q) (hL : ∀ q ∈ L, free q.base) (hF : va_F A1 st₀ t) :
    H.size ≤ T'.heap.size ∧ (∀ q : Nat, q < H.size → ¬ A1 q → T'.heap[q]? = H[q]?) ∧ va_S A0 H0 T'.heap (locs ++ L) := by
  obtain ⟨hz, hk⟩ := hF
  rw [h0] at hz hk
  exact ⟨by rw [e1]; exact hz, fun q h1 h2 => by rw [e1]; exact hk q h1 h2,
    ⟨Nat.le_trans hS.1 (by rw [e1]; exact hz), fun q h1 h2 => by rw [e1, hk q (Nat.lt_of_lt_of_le h1 hS.1) (fun z => h2 (hA q (Nat.lt_of_lt_of_le h1 hS.1) z))]; exact hS.2.1 q h1 h2, fun q hq => by
      rcases List.mem_append.mp hq with h | h
      · exact hS.2.2 q h
      · exact hf _ (hL q h)⟩⟩
theorem vx_calli {S SX : Type} {post : Int32 → S → Prop} {px : SX → Prop} {B : S → State → Prop} {BX : String → SX → State → Prop} {AX : Nat → Prop} (hr : vx_Run p l e R s m args below meth c H locs cells slots mc ms (F0 m pc ls st0) rest (va_Qi post B A1 a) (vx_X px BX AX) free) (hS : va_S A0 H0 H locs) (hA : ∀ q, q < H.size → A1 q → A0 q) (hf : ∀ q, free q → A0 q) (hAX : ∀ q, q < H.size → AX q → A0 q)
    (kx : ∀ (E : String) (ce : Cell) (q9 : Addr) (u : SX) (t : State) (H1 : Heap) (locs1 : List Loc), t.heap = H1 → s.vm.Alike t.vm → px u → BX E u t → H.size ≤ H1.size → (∀ q : Nat, q < H.size → ¬ AX q → H1[q]? = H[q]?) → va_S A0 H0 H1 locs1 → H1[q9]? = some ce → ce.vm = .none → s.vm.findClass E = some ce.cls → vx_W p l e R s m args below meth c H1 locs1 (cells + mc) (slots + ms) Q (F0 m pc ls rest) q9)
    (kk : ∀ (r : Int32) (u : S) (t : State) (H1 : Heap) (locs1 : List Loc), t.heap = H1 → s.vm.Alike t.vm → post r u → B u t → H.size ≤ H1.size → (∀ q : Nat, q < H.size → ¬ A1 q → H1[q]? = H[q]?) → va_S A0 H0 H1 locs1 → W p l e R s m args below meth c H1 locs1 (cells + mc) (slots + ms) Q (F0 m (pc + 3) ls (.int r :: rest))) : W p l e R s m args below meth c H locs cells slots Q (F0 m pc ls st0) := by
  intro T hT X
  rcases hr T hT X with ⟨v, st₀, t, T', L, h0, X', hL, e1, e2, ⟨⟨r, u, hv, hp, hb⟩, hF⟩, st⟩ | ⟨q, st₀, t, T', L, E, ce, h0, X', hL, e1, e2, ⟨u, hp, hb, hF⟩, hce, hcv, hcl, st⟩
  · cases hv
    obtain ⟨k1, k2, k3⟩ := vx_keep h0 e1 hS hA hf hL hF
    obtain ⟨t2, a1, b1⟩ := kk r u t T'.heap (locs ++ L) e1.symm (by rw [← e2]; exact X'.warmed.alike) hp hb k1 k2 k3 T' rfl X'
    exact ⟨t2, st t2 a1, b1⟩
  · obtain ⟨k1, k2, k3⟩ := vx_keep h0 e1 hS hAX hf hL hF
    obtain ⟨t2, a1, b1⟩ := kx E ce q u t T'.heap (locs ++ L) e1.symm (by rw [← e2]; exact X'.warmed.alike) hp hb k1 k2 k3 (by rw [e1]; exact hce) hcv hcl T' rfl X'
    exact ⟨t2, st.trans a1, b1⟩
theorem vx_calll {S SX : Type} {post : Int64 → S → Prop} {px : SX → Prop} {B : S → State → Prop} {BX : String → SX → State → Prop} {AX : Nat → Prop} (hr : vx_Run p l e R s m args below meth c H locs cells slots mc ms (F0 m pc ls st0) rest (va_Ql post B A1 a) (vx_X px BX AX) free) (hS : va_S A0 H0 H locs) (hA : ∀ q, q < H.size → A1 q → A0 q) (hf : ∀ q, free q → A0 q) (hAX : ∀ q, q < H.size → AX q → A0 q)
    (kx : ∀ (E : String) (ce : Cell) (q9 : Addr) (u : SX) (t : State) (H1 : Heap) (locs1 : List Loc), t.heap = H1 → s.vm.Alike t.vm → px u → BX E u t → H.size ≤ H1.size → (∀ q : Nat, q < H.size → ¬ AX q → H1[q]? = H[q]?) → va_S A0 H0 H1 locs1 → H1[q9]? = some ce → ce.vm = .none → s.vm.findClass E = some ce.cls → vx_W p l e R s m args below meth c H1 locs1 (cells + mc) (slots + ms) Q (F0 m pc ls rest) q9)
    (kk : ∀ (r : Int64) (u : S) (t : State) (H1 : Heap) (locs1 : List Loc), t.heap = H1 → s.vm.Alike t.vm → post r u → B u t → H.size ≤ H1.size → (∀ q : Nat, q < H.size → ¬ A1 q → H1[q]? = H[q]?) → va_S A0 H0 H1 locs1 → W p l e R s m args below meth c H1 locs1 (cells + mc) (slots + ms) Q (F0 m (pc + 3) ls (.long r :: rest))) : W p l e R s m args below meth c H locs cells slots Q (F0 m pc ls st0) := by
  intro T hT X
  rcases hr T hT X with ⟨v, st₀, t, T', L, h0, X', hL, e1, e2, ⟨⟨r, u, hv, hp, hb⟩, hF⟩, st⟩ | ⟨q, st₀, t, T', L, E, ce, h0, X', hL, e1, e2, ⟨u, hp, hb, hF⟩, hce, hcv, hcl, st⟩
  · cases hv
    obtain ⟨k1, k2, k3⟩ := vx_keep h0 e1 hS hA hf hL hF
    obtain ⟨t2, a1, b1⟩ := kk r u t T'.heap (locs ++ L) e1.symm (by rw [← e2]; exact X'.warmed.alike) hp hb k1 k2 k3 T' rfl X'
    exact ⟨t2, st t2 a1, b1⟩
  · obtain ⟨k1, k2, k3⟩ := vx_keep h0 e1 hS hAX hf hL hF
    obtain ⟨t2, a1, b1⟩ := kx E ce q u t T'.heap (locs ++ L) e1.symm (by rw [← e2]; exact X'.warmed.alike) hp hb k1 k2 k3 (by rw [e1]; exact hce) hcv hcl T' rfl X'
    exact ⟨t2, st.trans a1, b1⟩
theorem vx_callf {S SX : Type} {post : UInt32 → S → Prop} {px : SX → Prop} {B : S → State → Prop} {BX : String → SX → State → Prop} {AX : Nat → Prop} (hr : vx_Run p l e R s m args below meth c H locs cells slots mc ms (F0 m pc ls st0) rest (va_Qf post B A1 a) (vx_X px BX AX) free) (hS : va_S A0 H0 H locs) (hA : ∀ q, q < H.size → A1 q → A0 q) (hf : ∀ q, free q → A0 q) (hAX : ∀ q, q < H.size → AX q → A0 q)
    (kx : ∀ (E : String) (ce : Cell) (q9 : Addr) (u : SX) (t : State) (H1 : Heap) (locs1 : List Loc), t.heap = H1 → s.vm.Alike t.vm → px u → BX E u t → H.size ≤ H1.size → (∀ q : Nat, q < H.size → ¬ AX q → H1[q]? = H[q]?) → va_S A0 H0 H1 locs1 → H1[q9]? = some ce → ce.vm = .none → s.vm.findClass E = some ce.cls → vx_W p l e R s m args below meth c H1 locs1 (cells + mc) (slots + ms) Q (F0 m pc ls rest) q9)
    (kk : ∀ (r : UInt32) (u : S) (t : State) (H1 : Heap) (locs1 : List Loc), t.heap = H1 → s.vm.Alike t.vm → post r u → B u t → H.size ≤ H1.size → (∀ q : Nat, q < H.size → ¬ A1 q → H1[q]? = H[q]?) → va_S A0 H0 H1 locs1 → W p l e R s m args below meth c H1 locs1 (cells + mc) (slots + ms) Q (F0 m (pc + 3) ls (.float r :: rest))) : W p l e R s m args below meth c H locs cells slots Q (F0 m pc ls st0) := by
  intro T hT X
  rcases hr T hT X with ⟨v, st₀, t, T', L, h0, X', hL, e1, e2, ⟨⟨r, u, hv, hp, hb⟩, hF⟩, st⟩ | ⟨q, st₀, t, T', L, E, ce, h0, X', hL, e1, e2, ⟨u, hp, hb, hF⟩, hce, hcv, hcl, st⟩
  · cases hv
    obtain ⟨k1, k2, k3⟩ := vx_keep h0 e1 hS hA hf hL hF
    obtain ⟨t2, a1, b1⟩ := kk r u t T'.heap (locs ++ L) e1.symm (by rw [← e2]; exact X'.warmed.alike) hp hb k1 k2 k3 T' rfl X'
    exact ⟨t2, st t2 a1, b1⟩
  · obtain ⟨k1, k2, k3⟩ := vx_keep h0 e1 hS hAX hf hL hF
    obtain ⟨t2, a1, b1⟩ := kx E ce q u t T'.heap (locs ++ L) e1.symm (by rw [← e2]; exact X'.warmed.alike) hp hb k1 k2 k3 (by rw [e1]; exact hce) hcv hcl T' rfl X'
    exact ⟨t2, st.trans a1, b1⟩
theorem vx_calld {S SX : Type} {post : UInt64 → S → Prop} {px : SX → Prop} {B : S → State → Prop} {BX : String → SX → State → Prop} {AX : Nat → Prop} (hr : vx_Run p l e R s m args below meth c H locs cells slots mc ms (F0 m pc ls st0) rest (va_Qd post B A1 a) (vx_X px BX AX) free) (hS : va_S A0 H0 H locs) (hA : ∀ q, q < H.size → A1 q → A0 q) (hf : ∀ q, free q → A0 q) (hAX : ∀ q, q < H.size → AX q → A0 q)
    (kx : ∀ (E : String) (ce : Cell) (q9 : Addr) (u : SX) (t : State) (H1 : Heap) (locs1 : List Loc), t.heap = H1 → s.vm.Alike t.vm → px u → BX E u t → H.size ≤ H1.size → (∀ q : Nat, q < H.size → ¬ AX q → H1[q]? = H[q]?) → va_S A0 H0 H1 locs1 → H1[q9]? = some ce → ce.vm = .none → s.vm.findClass E = some ce.cls → vx_W p l e R s m args below meth c H1 locs1 (cells + mc) (slots + ms) Q (F0 m pc ls rest) q9)
    (kk : ∀ (r : UInt64) (u : S) (t : State) (H1 : Heap) (locs1 : List Loc), t.heap = H1 → s.vm.Alike t.vm → post r u → B u t → H.size ≤ H1.size → (∀ q : Nat, q < H.size → ¬ A1 q → H1[q]? = H[q]?) → va_S A0 H0 H1 locs1 → W p l e R s m args below meth c H1 locs1 (cells + mc) (slots + ms) Q (F0 m (pc + 3) ls (.double r :: rest))) : W p l e R s m args below meth c H locs cells slots Q (F0 m pc ls st0) := by
  intro T hT X
  rcases hr T hT X with ⟨v, st₀, t, T', L, h0, X', hL, e1, e2, ⟨⟨r, u, hv, hp, hb⟩, hF⟩, st⟩ | ⟨q, st₀, t, T', L, E, ce, h0, X', hL, e1, e2, ⟨u, hp, hb, hF⟩, hce, hcv, hcl, st⟩
  · cases hv
    obtain ⟨k1, k2, k3⟩ := vx_keep h0 e1 hS hA hf hL hF
    obtain ⟨t2, a1, b1⟩ := kk r u t T'.heap (locs ++ L) e1.symm (by rw [← e2]; exact X'.warmed.alike) hp hb k1 k2 k3 T' rfl X'
    exact ⟨t2, st t2 a1, b1⟩
  · obtain ⟨k1, k2, k3⟩ := vx_keep h0 e1 hS hAX hf hL hF
    obtain ⟨t2, a1, b1⟩ := kx E ce q u t T'.heap (locs ++ L) e1.symm (by rw [← e2]; exact X'.warmed.alike) hp hb k1 k2 k3 (by rw [e1]; exact hce) hcv hcl T' rfl X'
    exact ⟨t2, st.trans a1, b1⟩
theorem vx_callv {S SX : Type} {post : S → Prop} {px : SX → Prop} {B : S → State → Prop} {BX : String → SX → State → Prop} {AX : Nat → Prop} (hr : vx_Run p l e R s m args below meth c H locs cells slots mc ms (F0 m pc ls st0) rest (va_Qv post B A1 a) (vx_X px BX AX) free) (hS : va_S A0 H0 H locs) (hA : ∀ q, q < H.size → A1 q → A0 q) (hf : ∀ q, free q → A0 q) (hAX : ∀ q, q < H.size → AX q → A0 q)
    (kx : ∀ (E : String) (ce : Cell) (q9 : Addr) (u : SX) (t : State) (H1 : Heap) (locs1 : List Loc), t.heap = H1 → s.vm.Alike t.vm → px u → BX E u t → H.size ≤ H1.size → (∀ q : Nat, q < H.size → ¬ AX q → H1[q]? = H[q]?) → va_S A0 H0 H1 locs1 → H1[q9]? = some ce → ce.vm = .none → s.vm.findClass E = some ce.cls → vx_W p l e R s m args below meth c H1 locs1 (cells + mc) (slots + ms) Q (F0 m pc ls rest) q9)
    (kk : ∀ (u : S) (t : State) (H1 : Heap) (locs1 : List Loc), t.heap = H1 → s.vm.Alike t.vm → post u → B u t → H.size ≤ H1.size → (∀ q : Nat, q < H.size → ¬ A1 q → H1[q]? = H[q]?) → va_S A0 H0 H1 locs1 → W p l e R s m args below meth c H1 locs1 (cells + mc) (slots + ms) Q (F0 m (pc + 3) ls (rest))) : W p l e R s m args below meth c H locs cells slots Q (F0 m pc ls st0) := by
  intro T hT X
  rcases hr T hT X with ⟨v, st₀, t, T', L, h0, X', hL, e1, e2, ⟨⟨u, hv, hp, hb⟩, hF⟩, st⟩ | ⟨q, st₀, t, T', L, E, ce, h0, X', hL, e1, e2, ⟨u, hp, hb, hF⟩, hce, hcv, hcl, st⟩
  · cases hv
    obtain ⟨k1, k2, k3⟩ := vx_keep h0 e1 hS hA hf hL hF
    obtain ⟨t2, a1, b1⟩ := kk u t T'.heap (locs ++ L) e1.symm (by rw [← e2]; exact X'.warmed.alike) hp hb k1 k2 k3 T' rfl X'
    exact ⟨t2, st t2 a1, b1⟩
  · obtain ⟨k1, k2, k3⟩ := vx_keep h0 e1 hS hAX hf hL hF
    obtain ⟨t2, a1, b1⟩ := kx E ce q u t T'.heap (locs ++ L) e1.symm (by rw [← e2]; exact X'.warmed.alike) hp hb k1 k2 k3 (by rw [e1]; exact hce) hcv hcl T' rfl X'
    exact ⟨t2, st.trans a1, b1⟩
/-- caught by the row x of this method's table; the rows ahead don't take it -/
theorem vx_catch {own name : String} {E : String} {ce : Cell} {q : Addr} (hown : s.vm.findClass own = some m.cls) (pre : List ExceptionTableEntry) (x : ExceptionTableEntry) (suf : List ExceptionTableEntry) (hsplit : c.exceptionTable.toList = pre ++ x :: suf)
    (hpass : ∀ z ∈ pre, covers z pc = false ∨ (z.catchType ≠ 0 ∧ ∃ nm : String, (Cond.classLink own z.catchType nm).before args s = true ∧ va_Nc E nm s)) (hx : covers x pc = true) (h0 : x.catchType ≠ 0)
    (hlink : (Cond.classLink own x.catchType name).before args s = true) (hcast : (Cond.castable E name).before args s = true) (hcell : H[q]? = some ce) (hv : ce.vm = .none) (hcl : s.vm.findClass E = some ce.cls)
    (kk : W p l e R s m args below meth c H locs cells slots Q (F0 m x.handlerPc ls [.ref q])) : vx_W p l e R s m args below meth c H locs cells slots Q (F0 m pc ls rest) q := by
  intro T hT X
  have hpl : e.platform.magicAccessors = ({} : Platform).magicAccessors := by rw [X.admits.platform]
  obtain ⟨c3, c4, hc3, hc4, hasg⟩ := Cond.castable_spec hcast
  cases Option.some.inj (hc3.symm.trans hcl)
  obtain ⟨c5, hc5, hcl5⟩ := Cond.classLink_spec hown hlink e.platform hpl
  cases Option.some.inj (hc4.symm.trans hc5)
  obtain ⟨vm', X', st⟩ := X.thenCaughtThrough q (g := F0 m pc ls rest) rfl (Steps.refl _) (by rw [hT]; exact hcell) (by rw [hv]; rfl) (by obtain ⟨k9, h9, -⟩ := Vm.findClass_spec hcl; exact ⟨k9, h9⟩) pre x suf hsplit
    (fun z hz => by
      rcases hpass z hz with h | ⟨hz0, nm, hl1, hn1⟩
      · exact Or.inl h
      · obtain ⟨c6, hc6, hcl6⟩ := Cond.classLink_spec hown hl1 e.platform hpl
        obtain ⟨a8, b8, h1, h2, h3⟩ := hn1
        cases Option.some.inj (h1.symm.trans hcl)
        cases Option.some.inj (h2.symm.trans hc6)
        exact Or.inr ⟨hz0, _, hcl6, h3⟩) hx (Or.inr ⟨h0, c4, hcl5, hasg⟩)
  obtain ⟨t, a1, b1⟩ := kk (T.setVm vm') hT X'
  exact ⟨t, st.trans a1, b1⟩
end Rows
section Ends
variable {p : Program} {l : Launch} {e : Env} {R : Room} {s : State} {m : MethodId} {args : Array Value} {below : List Frame} {meth : Method} {c : Code} {H : Heap} {locs : List Loc} {cells slots : Nat} {Q : State → Prop}
variable {mc ms : Nat} {free : Addr → Prop} {A0 A1 : Nat → Prop} {H0 : Heap} {a : Array Value} {ls : Array Slot} {st0 rest : List Value}
variable {Qc : Array Value → State → Outcome → State → Prop} {XC : String → State → State → Prop}
/-- what a body that may throw owes at its end -/
def vx_MQ (below : List Frame) (Qc : Array Value → State → Outcome → State → Prop) (XC : String → State → State → Prop) (a : Array Value) (s : State) (mc ms : Nat) (free : Addr → Prop) : State → Prop := fun t =>
  ∃ o, t.status = .running ∧ Ended t below o ∧ vx_Q Qc XC mc ms free a s o t
theorem vx_ret {g : JFrame} {mc ms : Nat} (k : W p l e R s m args below meth c H locs cells slots (MQ below Qc args s mc ms free) g) : W p l e R s m args below meth c H locs cells slots (vx_MQ below Qc XC args s mc ms free) g := by
  intro T hT X
  obtain ⟨t, a1, o, b1, b2, b3, b4⟩ := k T hT X
  exact ⟨t, a1, o, b1, b2, Or.inl ⟨b3, b4⟩⟩
/-- not caught here: it goes on to the caller -/
theorem vx_widen {g : JFrame} {q : Addr} {k n : Nat} (h1 : cells ≤ k) (h2 : slots ≤ n) (kk : vx_W p l e R s m args below meth c H locs k n Q g q) : vx_W p l e R s m args below meth c H locs cells slots Q g q := fun T hT X => kk T hT (stand_widen X h1 h2)
theorem vx_out {pc : Nat} {E : String} {ce : Cell} {q : Addr} {mc ms : Nat} (hout : ∀ x ∈ c.exceptionTable.toList, covers x pc = false) (hlocks : meth.locks = false) (hcell : H[q]? = some ce) (hv : ce.vm = .none) (hcl : s.vm.findClass E = some ce.cls)
    (hx : ∀ t : State, t.heap = H → s.vm.Alike t.vm → XC E s t) (hf : ∀ z ∈ locs, free z.base) (hc : cells ≤ mc) (hs : slots ≤ ms) :
    vx_W p l e R s m args below meth c H locs cells slots (vx_MQ below Qc XC args s mc ms free) (F0 m pc ls rest) q := by
  intro T hT X
  obtain ⟨st1, hrun, hend, hW, hsm⟩ := X.leaveThrown q (g := F0 m pc ls rest) rfl rfl rfl hout hlocks
  have hcell9 : (T.setFrames (.throwing q :: below)).heap[q]? = some ce := by
    show T.heap[q]? = some ce
    rw [hT]; exact hcell
  exact ⟨_, st1, .threw q, hrun, hend, Or.inr ⟨q, rfl, E, ce, locs, hx _ hT hW.alike, hcell9, hv, hcl, hW, hsm.mono hc hs, hf⟩⟩
theorem vx_frame {U : State} {k n : Nat} (h : s.sameButNew ({ U with vm := s.vm } : State) locs k n) : s.heap.size ≤ U.heap.size ∧ ∀ q : Nat, q < s.heap.size → (∀ z ∈ locs, z.base ≠ q) → U.heap[q]? = s.heap[q]? := by
  obtain ⟨-, h2, -, -, -, h6⟩ := h
  refine ⟨h2, fun q hq hz => ?_⟩
  obtain ⟨c9, e1, e2, e3, e4⟩ := h6 q _ (Array.getElem?_eq_getElem hq)
  have hs : c9.slots = (s.heap[q]).slots := Array.ext_getElem? fun i => e4 i fun hm => hz _ hm rfl
  have h9 : c9 = s.heap[q] := by
    rw [hs] at e2
    exact e2
  have e5 : U.heap[q]? = some c9 := e1
  rw [e5, h9, Array.getElem?_eq_getElem hq]
/-- the words of a throw but the four that speak of the heap -/
def vx_no (w : Cond) : Bool := decide (w ≠ .isRef (.static Bundle.tN "UNASSIGNED_STACK" Bundle.steD)) && decide (w ≠ .isRef (.static Bundle.tN "SUPPRESSED_SENTINEL" Bundle.listD)) && decide (w ≠ .laysStatic Bundle.tN "UNASSIGNED_STACK" Bundle.steD) && decide (w ≠ .laysStatic Bundle.tN "SUPPRESSED_SENTINEL" Bundle.listD)
def vx_at0 (own : String) (ic : Nat) (X : String) (names : List String) : List Cond := (Bundle.ownAtoms0 own ic X names).filter vx_no
def vx_atS (own : String) (ic : Nat) (X : String) (names : List String) : List Cond := (Bundle.ownAtoms own ic X names).filter vx_no
/-- a word that the tables alone decide, or a good one -/
def vx_ot (w : Cond) : Bool := w.onTables || goodWord w
theorem vx_ot_at {args a' : Array Value} {s U : State} {w : Cond} (hW : s.WarmedH U.vm) (hvm : s.vm = U.vm) (hg : vx_ot w = true) (h : w.before args s = true) : w.before a' U = true := by
  simp only [vx_ot, Bool.or_eq_true] at hg
  rcases hg with hg | hg
  · exact va_tabs hg hvm h
  · exact word_at hW (good_of_word hg) h
/-- a list's words: the good ones out of the method's own list, the others by premises of their own -/
theorem vx_hat {args : Array Value} {s : State} {L B : List Cond} (h1 : ∀ w ∈ L.filter goodWord, w.before args s = true) (h2 : ∀ w ∈ L.filter (fun w => !goodWord w), w ∈ B) (h3 : ∀ w ∈ B, w.before args s = true) : ∀ w ∈ L, w.before args s = true := by
  intro w hw
  by_cases g : goodWord w = true
  · exact h1 w (List.mem_filter.mpr ⟨hw, g⟩)
  · refine h3 w (h2 w (List.mem_filter.mpr ⟨hw, ?_⟩))
    show (!goodWord w) = true
    cases hgw : goodWord w
    · rfl
    · exact absurd hgw g
theorem vx_c {args : Array Value} {s : State} {w : Cond} {B : List Cond} (h : w.before args s = true) (t : ∀ w ∈ B, w.before args s = true) : ∀ w' ∈ w :: B, w'.before args s = true := fun w' h' => (List.mem_cons.mp h').elim (fun e => by rw [e]; exact h) (t w')
theorem vx_n {args : Array Value} {s : State} : ∀ w ∈ ([] : List Cond), w.before args s = true := fun _ h => nomatch h
theorem vx_own {args : Array Value} {s : State} {L : List Cond} (h1 : ∀ w ∈ L.filter vx_no, w.before args s = true)
    (hU : (Cond.isRef (.static Bundle.tN "UNASSIGNED_STACK" Bundle.steD)).before args s = true) (hN : (Cond.isRef (.static Bundle.tN "SUPPRESSED_SENTINEL" Bundle.listD)).before args s = true)
    (lU : (Cond.laysStatic Bundle.tN "UNASSIGNED_STACK" Bundle.steD).before args s = true) (lN : (Cond.laysStatic Bundle.tN "SUPPRESSED_SENTINEL" Bundle.listD).before args s = true) : ∀ w ∈ L, w.before args s = true := by
  intro w hw
  by_cases e1 : w = .isRef (.static Bundle.tN "UNASSIGNED_STACK" Bundle.steD)
  · rw [e1]; exact hU
  · by_cases e2 : w = .isRef (.static Bundle.tN "SUPPRESSED_SENTINEL" Bundle.listD)
    · rw [e2]; exact hN
    · by_cases e3 : w = .laysStatic Bundle.tN "UNASSIGNED_STACK" Bundle.steD
      · rw [e3]; exact lU
      · by_cases e4 : w = .laysStatic Bundle.tN "SUPPRESSED_SENTINEL" Bundle.listD
        · rw [e4]; exact lN
        · exact h1 w (List.mem_filter.mpr ⟨hw, by unfold vx_no; rw [decide_eq_true e1, decide_eq_true e2, decide_eq_true e3, decide_eq_true e4]; rfl⟩)
/-- where a static field lies, its class's statics cell in H -/
def vx_L (C n d : String) (A : Nat → Prop) (U : State) (H : Heap) : Prop := ∃ (c : ClassId) (k : Class) (i : Nat) (f : Field) (a : Nat) (cell : Cell), U.vm.findClass C = some c ∧ U.fieldFound? C n d = some (c, k, i, f) ∧ f.isStatic = true ∧ k.statics = some a ∧ H[a]? = some cell ∧ cell.vm.isStatics = true ∧ cell.cls = c ∧ f.slot < cell.slots.size ∧ k.staticTypes[f.slot]? = some f.type ∧ ¬ A a
theorem vx_L.moved {C n d : String} {A : Nat → Prop} {u U : State} {H : Heap} (hvm : u.vm.Alike U.vm) (h : vx_L C n d A u H) : vx_L C n d A U H := by
  obtain ⟨c, k, i, f, a, cell, h1, h2, h3, h4, h5, h6, h7, h8, h9, h10⟩ := h
  obtain ⟨k', hi', he⟩ := State.fieldFound?_setVm hvm h2
  exact ⟨c, k', i, f, a, cell, by rw [hvm.findClass]; exact h1, hi', h3, by rw [he]; exact h4, h5, h6, h7, h8, by rw [he]; exact h9, h10⟩
theorem vx_L.kept {C n d : String} {A : Nat → Prop} {U : State} {H H1 : Heap} (h : vx_L C n d A U H) (hq : ∀ a : Nat, a < H.size → ¬ A a → H1[a]? = H[a]?) : vx_L C n d A U H1 := by
  obtain ⟨c, k, i, f, a, cell, h1, h2, h3, h4, h5, h6, h7, h8, h9, h10⟩ := h
  exact ⟨c, k, i, f, a, cell, h1, h2, h3, h4, by rw [hq a (Array.getElem?_eq_some_iff.mp h5).1 h10]; exact h5, h6, h7, h8, h9, h10⟩
theorem vx_L.narrow {C n d : String} {A B : Nat → Prop} {U : State} {H : Heap} (h : vx_L C n d A U H) (hAB : ∀ q, B q → A q) : vx_L C n d B U H := by
  obtain ⟨c, k, i, f, a, cell, h1, h2, h3, h4, h5, h6, h7, h8, h9, h10⟩ := h
  exact ⟨c, k, i, f, a, cell, h1, h2, h3, h4, h5, h6, h7, h8, h9, fun z => h10 (hAB _ z)⟩
theorem vx_L.word {C n d : String} {A : Nat → Prop} {s : State} {args : Array Value} (h : vx_L C n d A s s.heap) : (Cond.laysStatic C n d).before args s = true := by
  obtain ⟨c, k, i, f, a, cell, h1, h2, h3, h4, h5, h6, h7, h8, h9, -⟩ := h
  show (Cond.laysStatic C n d).holds args s none s [] = true
  exact Cond.laysStatic_of h1 h2 h3 h4 h5 h6 h7 h8 h9
/-- .. and what it holds: null or some reference -/
def vx_Zq (C n d : String) (A : Nat → Prop) (U : State) (H : Heap) : Prop := va_Zq C n d A U H ∧ vx_L C n d A U H
theorem vx_Zq.moved {C n d : String} {A : Nat → Prop} {u U : State} {H : Heap} (hvm : u.vm.Alike U.vm) (h : vx_Zq C n d A u H) : vx_Zq C n d A U H := ⟨va_Zq.moved hvm h.1, vx_L.moved hvm h.2⟩
theorem vx_Zq.kept {C n d : String} {A : Nat → Prop} {U : State} {H H1 : Heap} (h : vx_Zq C n d A U H) (hq : ∀ a : Nat, a < H.size → ¬ A a → H1[a]? = H[a]?) : vx_Zq C n d A U H1 := ⟨va_Zq.kept h.1 hq, vx_L.kept h.2 hq⟩
theorem vx_Zq.narrow {C n d : String} {A B : Nat → Prop} {U : State} {H : Heap} (h : vx_Zq C n d A U H) (hAB : ∀ q, B q → A q) : vx_Zq C n d B U H := ⟨va_Zq.narrow h.1 hAB, vx_L.narrow h.2 hAB⟩
theorem vx_Zqof {args : Array Value} {s : State} {C n d : String} {A : Nat → Prop} (hl : (Cond.laysStatic C n d).before args s = true) (hini : (Cond.initialized C).before args s = true) (h : (Cond.isRef (.static C n d)).before args s = true) (hA : ∀ a : Nat, a < s.heap.size → ¬ A a) : vx_Zq C n d A s s.heap := by
  refine ⟨va_Zqof hl hini h hA, ?_⟩
  obtain ⟨c, k, i, f, a, cell, h1, h2, h3, h4, h5, h6, h7, h8, h9⟩ := Cond.laysStatic_spec hl
  exact ⟨c, k, i, f, a, cell, h1, h2, h3, h4, h5, h6, h7, h8, h9, hA a (Array.getElem?_eq_some_iff.mp h5).1⟩
theorem vx_isRef {C n d : String} {v : Value} {A : Nat → Prop} {s : State} {args : Array Value} (h : va_Z C n d v A s s.heap) (hv : v.isRef = true) : (Cond.isRef (.static C n d)).before args s = true := by
  obtain ⟨cf, kf, fi, f, a, cell, h1, h2, h3, h4, h5, h6, h7, -⟩ := h
  have he : (Term.static C n d).eval args s none [] s = some v := by
    simp [Term.eval, State.fieldNamed?, h1, h2, h4, h5, h6, h7]
  simp only [Cond.before, Cond.holds, Cond.value, he]
  cases v <;> simp_all [Value.isRef]
theorem vx_isRefq {C n d : String} {A : Nat → Prop} {s : State} {args : Array Value} (h : va_Zq C n d A s s.heap) : (Cond.isRef (.static C n d)).before args s = true := by
  rcases h with h | ⟨t, h⟩
  · exact vx_isRef h rfl
  · exact vx_isRef h rfl
/-- the same frame, seen from here: as if the method were called anew in this heap -/
theorem vx_rebase {T : State} (X : Stand p l e R s m args below meth c T locs cells slots) {R' : Room} (hf : R'.frames ≤ R.frames) (hl : R'.locals ≤ R.locals) (hc : cells + R'.cells ≤ R.cells) (hs : slots + R'.slots ≤ R.slots) :
    Stand p l e R' ((T.setVm s.vm).setFrames (.invoking m args :: below)) m args below meth c T [] 0 0 := by
  have htop : (T.setVm s.vm).topJava?.isSome := X.here.top
  have hF : ((T.setVm s.vm).setFrames (.invoking m args :: below)).frames = .invoking m args :: below := State.frames_setFrames _ (State.cur_lt_of_top htop)
  obtain ⟨g₀, hg0⟩ := Option.isSome_iff_exists.mp htop
  obtain ⟨r, hr⟩ := State.topJava?_eq_some.mp hg0
  have hl9 : e.platform.stackLimits (T.setVm s.vm).me = e.platform.stackLimits s.me := X.limits
  have hb9 : (T.setVm s.vm).me.stackBytes = s.me.stackBytes := X.bytes
  refine ⟨X.admits, X.cas, X.clock, hF, ?_, X.hears, X.method, X.code, X.here, X.tail, X.warmed, ?_, ?_, ?_⟩
  · have h := X.room
    have hU : ((T.setVm s.vm).setFrames (.invoking m args :: below)).localsInUse = s.localsInUse := by
      rw [State.localsInUse_invoking hF (meth := meth) (c := c) X.method X.code, State.localsInUse_invoking X.frames X.method X.code]
    simp only [State.hasRoom, Bool.and_eq_true, decide_eq_true_eq] at h ⊢
    obtain ⟨⟨⟨⟨h1, h2, h3, h4, h5, h6⟩, h7⟩, h8⟩, h9⟩ := h
    rw [X.frames, List.length_cons] at h2 h3
    have q1 := X.heapSize
    have q2 := X.used
    simp only [hF, hU, List.length_cons, State.stackLimits_setFrames, State.stackBytes_setFrames, hl9, hb9]
    refine ⟨⟨⟨⟨by omega, by omega, by omega, by omega, by omega, h6⟩, ?_⟩, ?_⟩, X.book⟩
    · show T.heap.size + R'.cells ≤ e.platform.maxCells
      omega
    · show T.slotsUsed + R'.slots ≤ e.platform.maxSlots
      omega
  · rw [State.stackLimits_setFrames]; rfl
  · rw [State.stackBytes_setFrames]; rfl
  · refine ⟨?_, Nat.le_refl _, Nat.le_refl _, ?_, ?_, fun a c9 h9 => ⟨c9, h9, rfl, rfl, fun _ _ => rfl⟩⟩
    · obtain ⟨t, ht, -⟩ := State.frames_cons hr
      show T.setVm s.vm = { ((T.setVm s.vm).setFrames (.invoking m args :: below)).setFrames (T.setVm s.vm).frames with heap := T.heap, slotsUsed := T.slotsUsed }
      rw [State.setFrames_setFrames, State.setFrames_self ht]
      rfl
    · show T.slotsUsed = T.slotsUsed + ((T.heap.toList.drop T.heap.size).map (·.slots.size)).sum
      rw [List.drop_eq_nil_of_le (Nat.le_of_eq Array.length_toList)]
      rfl
    · show ((T.heap.toList.drop T.heap.size).map (·.slots.size)).sum ≤ 0
      rw [List.drop_eq_nil_of_le (Nat.le_of_eq Array.length_toList)]
      exact Nat.le_refl _
/-- 'throw new E()': new; dup; invokespecial; athrow -/
theorem vx_throw0 {cc : ByteArray} {pc : Nat} (hexec : p.tables.exec = Jvm.exec) (hb : c.code = cc) (hl : l.stackTraces = false) {own cls : String} {names : List String} {ik ic mc ms : Nat} {A : Nat → Prop}
    (hown : s.vm.findClass own = some m.cls) (hcls : Bundle.fit cls = true) (hnames : ∀ n ∈ names, Bundle.fit n = true)
    (hk : (Cond.classLink own ik cls).before args s = true) (hini : (Cond.initialized cls).before args s = true) (hat : ∀ w ∈ vx_at0 own ic cls names, w.before args s = true)
    (hgood : ∀ w ∈ Cond.classLink own ik cls :: Cond.initialized cls :: vx_at0 own ic cls names, vx_ot w = true)
    (hU : vx_Zq Bundle.tN "UNASSIGNED_STACK" Bundle.steD A s s.heap) (hN : vx_Zq Bundle.tN "SUPPRESSED_SENTINEL" Bundle.listD A s s.heap) (hS : va_S A s.heap H locs) (hsize : ls.size = c.maxLocals)
    (d0 : decode cc pc = .ok (.new ik, 3)) (d3 : decode cc (pc + 3) = .ok (.dup, 1)) (d4 : decode cc (pc + 4) = .ok (.invokespecial ic, 3)) (d7 : decode cc (pc + 7) = .ok (.athrow, 1))
    (hout : ∀ x ∈ c.exceptionTable.toList, covers x (pc + 7) = false)
    (hRframes : names.length + 3 < R.frames) (hRlocals : (rest.map fun v => v.category).sum + (13 * (names.length + 1) + 42) ≤ R.locals) (hRcells : cells + 1 ≤ R.cells) (hRslots : slots + 6 ≤ R.slots) (hlocks : meth.locks = false)
    (hx : ∀ t : State, s.vm.Alike t.vm → H.size ≤ t.heap.size → (∀ q : Nat, q < H.size → t.heap[q]? = H[q]?) → XC cls s t)
    (hf : ∀ z ∈ locs, free z.base) (hc : cells + 1 ≤ mc) (hs : slots + 6 ≤ ms) :
    W p l e R s m args below meth c H locs cells slots (vx_MQ below Qc XC args s mc ms free) (F0 m pc ls rest) := by
  intro T hT X
  have htr : e.platform.stackTraces = false := (show e.platform.stackTraces = l.stackTraces by rw [X.admits.platform]).trans hl
  have Y := vx_rebase X (R' := { frames := R.frames, locals := R.locals, cells := 1, slots := 6 }) (Nat.le_refl _) (Nat.le_refl _) hRcells hRslots
  obtain ⟨s', hA⟩ : ∃ z, z = (T.setVm s.vm).setFrames (.invoking m args :: below) := ⟨_, rfl⟩
  rw [← hA] at Y
  have hvm : s'.vm = s.vm := by rw [hA]; rfl
  have hhp : s'.heap = H := by rw [hA]; exact hT
  have hW0 : s.WarmedH s'.vm := by rw [hvm]; exact State.WarmedH.refl s
  have hat' : ∀ w ∈ vx_at0 own ic cls names, w.before args s' = true := fun w hw => vx_ot_at hW0 hvm.symm (hgood w (List.mem_cons_of_mem _ (List.mem_cons_of_mem _ hw))) (hat w hw)
  have hk' : (Cond.classLink own ik cls).before args s' = true := vx_ot_at hW0 hvm.symm (hgood _ List.mem_cons_self) hk
  have hini' : (Cond.initialized cls).before args s' = true := vx_ot_at hW0 hvm.symm (hgood _ (List.mem_cons_of_mem _ List.mem_cons_self)) hini
  have hU' : vx_Zq Bundle.tN "UNASSIGNED_STACK" Bundle.steD A s' s'.heap := by rw [hhp]; exact vx_Zq.moved hW0.alike (hU.kept hS.2.1)
  have hN' : vx_Zq Bundle.tN "SUPPRESSED_SENTINEL" Bundle.listD A s' s'.heap := by rw [hhp]; exact vx_Zq.moved hW0.alike (hN.kept hS.2.1)
  have h : ∀ w ∈ Bundle.ownAtoms0 own ic cls names, w.before args s' = true := vx_own hat' (vx_isRefq hU'.1) (vx_isRefq hN'.1) hU'.2.word hN'.2.word
  have hown' : s'.vm.findClass own = some m.cls := by rw [hvm]; exact hown
  have hins : (Cond.instantiable cls 6).before args s' = true := h _ (by simp [Bundle.ownAtoms0])
  obtain ⟨vm₁, cX, kX, hfX, hkX, -, -, X₁, st1⟩ := Y.newCold hexec (own := own) (C := cls) (index := ik) (n := 6) hown' hk' hins hini'
    (g := F0 m pc ls rest) rfl (by rw [hb]; exact d0) (Nat.le_refl _) (Nat.le_refl _)
  generalize hT1 : (T.setVm vm₁).pushCell { cls := cX, slots := kX.instanceTypes.map defaultValue, vm := .none } = T1 at X₁ st1
  have hcat : (Value.ref T.heap.size).category = 1 := rfl
  have hcellA : T1.heap[T.heap.size]? = some (freshCell cX kX) := by rw [← hT1]; exact State.heap_pushCell_size _ _
  have d3' : decode c.code (pc + 3) = .ok (.dup, 1) := by rw [hb]; exact d3
  obtain ⟨U, hsteps, hrun, hend, hW, hsame, ce, hce, hO⟩ := X₁.ctorThrow0 hexec htr (own := own) (cls := cls) (names := names) (ic := ic) hown' hcls hnames h (fun x hx => nomatch hx) hfX hkX hcellA (by rw [hhp, hT]; exact Nat.le_refl _)
    (g := { method := m, pc := pc + 4, locals := ls, stack := .ref T.heap.size :: .ref T.heap.size :: rest, locked := none }) rfl hsize rfl rfl (rest := rest) rfl
    (by rw [hb]; exact d4) (by rw [hb]; exact d7) hout hRframes (by simp only [List.map_cons, List.sum_cons, hcat]; omega) hlocks
  obtain ⟨f1, f2⟩ := vx_frame hsame
  rw [hhp] at f1 f2
  have hWs : s.WarmedH U.vm := State.WarmedH.trans hW0 hW
  have hcl : s.vm.findClass cls = some ce.cls := by
    have h9 := hO.cls
    rw [hvm] at h9
    exact h9
  have hall : s.sameButNew ({ U with vm := s.vm } : State) locs mc ms := by
    subst hA
    obtain ⟨e1, e2⟩ := hsame
    rw [State.setFrames_setFrames] at e1
    have h2 : (T.setVm s.vm).sameButNew ({ U with vm := s.vm } : State) [] (0 + 1) (0 + 6) := ⟨e1, e2⟩
    have h3 := X.same.trans h2
    rw [List.append_nil] at h3
    exact h3.mono hc hs
  refine ⟨U, ?_, .threw T.heap.size, hrun, hend, Or.inr ⟨T.heap.size, rfl, cls, ce, locs, hx U hWs.alike f1 (fun q hq => f2 q hq (fun z hz => nomatch hz)), hce, hO.vm, hcl, hWs, hall, hf⟩⟩
  refine st1 _ ?_
  show Steps p.tables e below (T1.setTop { method := m, pc := pc + 3, locals := ls, stack := .ref T.heap.size :: rest, locked := none }) _
  jvm_step X₁.here [X₁.here.top, hexec, d3', Value.category]
  exact hsteps
/-- 'throw new E("text")': new; dup; ldc; invokespecial; athrow -/
theorem vx_throwS {cc : ByteArray} {pc : Nat} (hexec : p.tables.exec = Jvm.exec) (hb : c.code = cc) (hl : l.stackTraces = false) {own cls text : String} {names : List String} {ik is ic mc ms sa : Nat} {A : Nat → Prop}
    (hown : s.vm.findClass own = some m.cls) (hcls : Bundle.fit cls = true) (hnames : ∀ n ∈ names, Bundle.fit n = true)
    (hk : (Cond.classLink own ik cls).before args s = true) (hini : (Cond.initialized cls).before args s = true) (hstr : vk_R own is text sa s) (hat : ∀ w ∈ vx_atS own ic cls names, w.before args s = true)
    (hgood : ∀ w ∈ Cond.classLink own ik cls :: Cond.initialized cls :: vx_atS own ic cls names, vx_ot w = true)
    (hU : vx_Zq Bundle.tN "UNASSIGNED_STACK" Bundle.steD A s s.heap) (hN : vx_Zq Bundle.tN "SUPPRESSED_SENTINEL" Bundle.listD A s s.heap) (hS : va_S A s.heap H locs) (hsize : ls.size = c.maxLocals)
    (d0 : decode cc pc = .ok (.new ik, 3)) (d3 : decode cc (pc + 3) = .ok (.dup, 1)) (d4 : decode cc (pc + 4) = .ok (.ldc is, 2)) (d6 : decode cc (pc + 6) = .ok (.invokespecial ic, 3)) (d9 : decode cc (pc + 9) = .ok (.athrow, 1))
    (hout : ∀ x ∈ c.exceptionTable.toList, covers x (pc + 9) = false)
    (hRframes : names.length + 3 < R.frames) (hRlocals : (rest.map fun v => v.category).sum + (13 * (names.length + 1) + 43) ≤ R.locals) (hRcells : cells + 1 ≤ R.cells) (hRslots : slots + 6 ≤ R.slots) (hlocks : meth.locks = false)
    (hx : ∀ t : State, s.vm.Alike t.vm → H.size ≤ t.heap.size → (∀ q : Nat, q < H.size → t.heap[q]? = H[q]?) → XC cls s t)
    (hf : ∀ z ∈ locs, free z.base) (hc : cells + 1 ≤ mc) (hs : slots + 6 ≤ ms) :
    W p l e R s m args below meth c H locs cells slots (vx_MQ below Qc XC args s mc ms free) (F0 m pc ls rest) := by
  intro T hT X
  have htr : e.platform.stackTraces = false := (show e.platform.stackTraces = l.stackTraces by rw [X.admits.platform]).trans hl
  have Y := vx_rebase X (R' := { frames := R.frames, locals := R.locals, cells := 1, slots := 6 }) (Nat.le_refl _) (Nat.le_refl _) hRcells hRslots
  obtain ⟨s', hA⟩ : ∃ z, z = (T.setVm s.vm).setFrames (.invoking m args :: below) := ⟨_, rfl⟩
  rw [← hA] at Y
  have hvm : s'.vm = s.vm := by rw [hA]; rfl
  have hhp : s'.heap = H := by rw [hA]; exact hT
  have hW0 : s.WarmedH s'.vm := by rw [hvm]; exact State.WarmedH.refl s
  have hat' : ∀ w ∈ vx_atS own ic cls names, w.before args s' = true := fun w hw => vx_ot_at hW0 hvm.symm (hgood w (List.mem_cons_of_mem _ (List.mem_cons_of_mem _ hw))) (hat w hw)
  have hk' : (Cond.classLink own ik cls).before args s' = true := vx_ot_at hW0 hvm.symm (hgood _ List.mem_cons_self) hk
  have hini' : (Cond.initialized cls).before args s' = true := vx_ot_at hW0 hvm.symm (hgood _ (List.mem_cons_of_mem _ List.mem_cons_self)) hini
  have hU' : vx_Zq Bundle.tN "UNASSIGNED_STACK" Bundle.steD A s' s'.heap := by rw [hhp]; exact vx_Zq.moved hW0.alike (hU.kept hS.2.1)
  have hN' : vx_Zq Bundle.tN "SUPPRESSED_SENTINEL" Bundle.listD A s' s'.heap := by rw [hhp]; exact vx_Zq.moved hW0.alike (hN.kept hS.2.1)
  have h : ∀ w ∈ Bundle.ownAtoms own ic cls names, w.before args s' = true := vx_own hat' (vx_isRefq hU'.1) (vx_isRefq hN'.1) hU'.2.word hN'.2.word
  have hown' : s'.vm.findClass own = some m.cls := by rw [hvm]; exact hown
  have hins : (Cond.instantiable cls 6).before args s' = true := h _ (by simp [Bundle.ownAtoms])
  obtain ⟨vm₁, cX, kX, hfX, hkX, -, -, X₁, st1⟩ := Y.newCold hexec (own := own) (C := cls) (index := ik) (n := 6) hown' hk' hins hini'
    (g := F0 m pc ls rest) rfl (by rw [hb]; exact d0) (Nat.le_refl _) (Nat.le_refl _)
  generalize hT1 : (T.setVm vm₁).pushCell { cls := cX, slots := kX.instanceTypes.map defaultValue, vm := .none } = T1 at X₁ st1
  have hcat : (Value.ref T.heap.size).category = 1 := rfl
  have hcellA : T1.heap[T.heap.size]? = some (freshCell cX kX) := by rw [← hT1]; exact State.heap_pushCell_size _ _
  have d3' : decode c.code (pc + 3) = .ok (.dup, 1) := by rw [hb]; exact d3
  have d4' : decode c.code (pc + 4) = .ok (.ldc is, 2) := by rw [hb]; exact d4
  have hstr' : vk_R own is text sa s' := vk_R.warm hW0 hstr
  obtain ⟨U, hsteps, hrun, hend, hW, hsame, ce, hce, hO⟩ := X₁.ctorThrowS hexec htr (own := own) (cls := cls) (names := names) (ic := ic) hown' hcls hnames h (fun x hx => nomatch hx) hfX hkX hcellA (by rw [hhp, hT]; exact Nat.le_refl _) (msg := .ref sa) rfl
    (g := { method := m, pc := pc + 6, locals := ls, stack := .ref sa :: .ref T.heap.size :: .ref T.heap.size :: rest, locked := none }) rfl hsize rfl rfl (rest := rest) rfl
    (by rw [hb]; exact d6) (by rw [hb]; exact d9) hout hRframes (by simp only [List.map_cons, List.sum_cons, hcat]; omega) hlocks
  obtain ⟨f1, f2⟩ := vx_frame hsame
  rw [hhp] at f1 f2
  have hWs : s.WarmedH U.vm := State.WarmedH.trans hW0 hW
  have hcl : s.vm.findClass cls = some ce.cls := by
    have h9 := hO.cls
    rw [hvm] at h9
    exact h9
  have hall : s.sameButNew ({ U with vm := s.vm } : State) locs mc ms := by
    subst hA
    obtain ⟨e1, e2⟩ := hsame
    rw [State.setFrames_setFrames] at e1
    have h2 : (T.setVm s.vm).sameButNew ({ U with vm := s.vm } : State) [] (0 + 1) (0 + 6) := ⟨e1, e2⟩
    have h3 := X.same.trans h2
    rw [List.append_nil] at h3
    exact h3.mono hc hs
  refine ⟨U, ?_, .threw T.heap.size, hrun, hend, Or.inr ⟨T.heap.size, rfl, cls, ce, locs, hx U hWs.alike f1 (fun q hq => f2 q hq (fun z hz => nomatch hz)), hce, hO.vm, hcl, hWs, hall, hf⟩⟩
  refine st1 _ ?_
  show Steps p.tables e below (T1.setTop { method := m, pc := pc + 3, locals := ls, stack := .ref T.heap.size :: rest, locked := none }) _
  jvm_step X₁.here [X₁.here.top, hexec, d3', Value.category]
  exact X₁.ldcString hexec (own := own) (text := text) (index := is) (a := sa) hown' hstr'.1 hstr'.2
    (g := { method := m, pc := pc + 4, locals := ls, stack := .ref T.heap.size :: .ref T.heap.size :: rest, locked := none }) rfl d4' _ hsteps
/-- 'throw new E("text")', the text by a wide index -/
theorem vx_throwSW {cc : ByteArray} {pc : Nat} (hexec : p.tables.exec = Jvm.exec) (hb : c.code = cc) (hl : l.stackTraces = false) {own cls text : String} {names : List String} {ik is ic mc ms sa : Nat} {A : Nat → Prop}
    (hown : s.vm.findClass own = some m.cls) (hcls : Bundle.fit cls = true) (hnames : ∀ n ∈ names, Bundle.fit n = true)
    (hk : (Cond.classLink own ik cls).before args s = true) (hini : (Cond.initialized cls).before args s = true) (hstr : vk_R own is text sa s) (hat : ∀ w ∈ vx_atS own ic cls names, w.before args s = true)
    (hgood : ∀ w ∈ Cond.classLink own ik cls :: Cond.initialized cls :: vx_atS own ic cls names, vx_ot w = true)
    (hU : vx_Zq Bundle.tN "UNASSIGNED_STACK" Bundle.steD A s s.heap) (hN : vx_Zq Bundle.tN "SUPPRESSED_SENTINEL" Bundle.listD A s s.heap) (hS : va_S A s.heap H locs) (hsize : ls.size = c.maxLocals)
    (d0 : decode cc pc = .ok (.new ik, 3)) (d3 : decode cc (pc + 3) = .ok (.dup, 1)) (d4 : decode cc (pc + 4) = .ok (.ldc_w is, 3)) (d7 : decode cc (pc + 7) = .ok (.invokespecial ic, 3)) (d10 : decode cc (pc + 10) = .ok (.athrow, 1))
    (hout : ∀ x ∈ c.exceptionTable.toList, covers x (pc + 10) = false)
    (hRframes : names.length + 3 < R.frames) (hRlocals : (rest.map fun v => v.category).sum + (13 * (names.length + 1) + 43) ≤ R.locals) (hRcells : cells + 1 ≤ R.cells) (hRslots : slots + 6 ≤ R.slots) (hlocks : meth.locks = false)
    (hx : ∀ t : State, s.vm.Alike t.vm → H.size ≤ t.heap.size → (∀ q : Nat, q < H.size → t.heap[q]? = H[q]?) → XC cls s t)
    (hf : ∀ z ∈ locs, free z.base) (hc : cells + 1 ≤ mc) (hs : slots + 6 ≤ ms) :
    W p l e R s m args below meth c H locs cells slots (vx_MQ below Qc XC args s mc ms free) (F0 m pc ls rest) := by
  intro T hT X
  have htr : e.platform.stackTraces = false := (show e.platform.stackTraces = l.stackTraces by rw [X.admits.platform]).trans hl
  have Y := vx_rebase X (R' := { frames := R.frames, locals := R.locals, cells := 1, slots := 6 }) (Nat.le_refl _) (Nat.le_refl _) hRcells hRslots
  obtain ⟨s', hA⟩ : ∃ z, z = (T.setVm s.vm).setFrames (.invoking m args :: below) := ⟨_, rfl⟩
  rw [← hA] at Y
  have hvm : s'.vm = s.vm := by rw [hA]; rfl
  have hhp : s'.heap = H := by rw [hA]; exact hT
  have hW0 : s.WarmedH s'.vm := by rw [hvm]; exact State.WarmedH.refl s
  have hat' : ∀ w ∈ vx_atS own ic cls names, w.before args s' = true := fun w hw => vx_ot_at hW0 hvm.symm (hgood w (List.mem_cons_of_mem _ (List.mem_cons_of_mem _ hw))) (hat w hw)
  have hk' : (Cond.classLink own ik cls).before args s' = true := vx_ot_at hW0 hvm.symm (hgood _ List.mem_cons_self) hk
  have hini' : (Cond.initialized cls).before args s' = true := vx_ot_at hW0 hvm.symm (hgood _ (List.mem_cons_of_mem _ List.mem_cons_self)) hini
  have hU' : vx_Zq Bundle.tN "UNASSIGNED_STACK" Bundle.steD A s' s'.heap := by rw [hhp]; exact vx_Zq.moved hW0.alike (hU.kept hS.2.1)
  have hN' : vx_Zq Bundle.tN "SUPPRESSED_SENTINEL" Bundle.listD A s' s'.heap := by rw [hhp]; exact vx_Zq.moved hW0.alike (hN.kept hS.2.1)
  have h : ∀ w ∈ Bundle.ownAtoms own ic cls names, w.before args s' = true := vx_own hat' (vx_isRefq hU'.1) (vx_isRefq hN'.1) hU'.2.word hN'.2.word
  have hown' : s'.vm.findClass own = some m.cls := by rw [hvm]; exact hown
  have hins : (Cond.instantiable cls 6).before args s' = true := h _ (by simp [Bundle.ownAtoms])
  obtain ⟨vm₁, cX, kX, hfX, hkX, -, -, X₁, st1⟩ := Y.newCold hexec (own := own) (C := cls) (index := ik) (n := 6) hown' hk' hins hini'
    (g := F0 m pc ls rest) rfl (by rw [hb]; exact d0) (Nat.le_refl _) (Nat.le_refl _)
  generalize hT1 : (T.setVm vm₁).pushCell { cls := cX, slots := kX.instanceTypes.map defaultValue, vm := .none } = T1 at X₁ st1
  have hcat : (Value.ref T.heap.size).category = 1 := rfl
  have hcellA : T1.heap[T.heap.size]? = some (freshCell cX kX) := by rw [← hT1]; exact State.heap_pushCell_size _ _
  have d3' : decode c.code (pc + 3) = .ok (.dup, 1) := by rw [hb]; exact d3
  have d4' : decode c.code (pc + 4) = .ok (.ldc_w is, 3) := by rw [hb]; exact d4
  have hstr' : vk_R own is text sa s' := vk_R.warm hW0 hstr
  obtain ⟨U, hsteps, hrun, hend, hW, hsame, ce, hce, hO⟩ := X₁.ctorThrowS hexec htr (own := own) (cls := cls) (names := names) (ic := ic) hown' hcls hnames h (fun x hx => nomatch hx) hfX hkX hcellA (by rw [hhp, hT]; exact Nat.le_refl _) (msg := .ref sa) rfl
    (g := { method := m, pc := pc + 7, locals := ls, stack := .ref sa :: .ref T.heap.size :: .ref T.heap.size :: rest, locked := none }) rfl hsize rfl rfl (rest := rest) rfl
    (by rw [hb]; exact d7) (by rw [hb]; exact d10) hout hRframes (by simp only [List.map_cons, List.sum_cons, hcat]; omega) hlocks
  obtain ⟨f1, f2⟩ := vx_frame hsame
  rw [hhp] at f1 f2
  have hWs : s.WarmedH U.vm := State.WarmedH.trans hW0 hW
  have hcl : s.vm.findClass cls = some ce.cls := by
    have h9 := hO.cls
    rw [hvm] at h9
    exact h9
  have hall : s.sameButNew ({ U with vm := s.vm } : State) locs mc ms := by
    subst hA
    obtain ⟨e1, e2⟩ := hsame
    rw [State.setFrames_setFrames] at e1
    have h2 : (T.setVm s.vm).sameButNew ({ U with vm := s.vm } : State) [] (0 + 1) (0 + 6) := ⟨e1, e2⟩
    have h3 := X.same.trans h2
    rw [List.append_nil] at h3
    exact h3.mono hc hs
  refine ⟨U, ?_, .threw T.heap.size, hrun, hend, Or.inr ⟨T.heap.size, rfl, cls, ce, locs, hx U hWs.alike f1 (fun q hq => f2 q hq (fun z hz => nomatch hz)), hce, hO.vm, hcl, hWs, hall, hf⟩⟩
  refine st1 _ ?_
  show Steps p.tables e below (T1.setTop { method := m, pc := pc + 3, locals := ls, stack := .ref T.heap.size :: rest, locked := none }) _
  jvm_step X₁.here [X₁.here.top, hexec, d3', Value.category]
  exact X₁.ldcStringW hexec (own := own) (text := text) (index := is) (a := sa) hown' hstr'.1 hstr'.2
    (g := { method := m, pc := pc + 4, locals := ls, stack := .ref T.heap.size :: .ref T.heap.size :: rest, locked := none }) rfl d4' _ hsteps
end Ends
section Bodies
variable {l : Launch}
theorem vx_ofW {y : MethodName} {ws ws' : List Cond} {rm : Room} {Pc : Array Value → State → Prop} {Qc : Array Value → State → Outcome → State → Prop} {XC : String → State → State → Prop} {mc ms : Nat} {free : Addr → Prop} {cc : ByteArray} {maxL : Nat} {ret : Option FieldType}
    (hy : plainName y.cls = true) (hw : ws = Cond.code y cc maxL ret :: ws')
    (body : ∀ p e s m args below meth c s₁, BodyLoose p l y (headSpec ws rm) cc maxL ret e s m args below meth c s₁ → c.maxLocals = maxL → (∀ x ∈ c.exceptionTable.toList, False) → Pc args s →
      W p l e (headSpec ws rm).room s m args below meth c s.heap [] 0 0 (vx_MQ below Qc XC args s mc ms free) (entryFrame m args maxL)) : vx_Met l y ws rm Pc Qc XC mc ms free := by
  refine MetFree.of_bodyS (code := cc) (maxLocals := maxL) (ret := ret) hy ?_ ?_
  · intro args s m h hn
    obtain ⟨meth, c, h1, h2, h3, h4, h5, h6, -, -⟩ := Cond.code_spec hn (atoms_spec (ws := ws) h _ (by rw [hw]; exact List.mem_cons_self))
    exact ⟨meth, c, h1, h2, h3, h4, h5, h6⟩
  · intro p e s m args below meth c s₁ B hml hP _
    have hh0 : s₁.heap = s.heap := by rw [B.state]; rfl
    have ht : ∀ x ∈ c.exceptionTable.toList, False := by
      obtain ⟨meth9, c9, h1, h2, -, -, -, -, h7, -⟩ := Cond.code_spec B.named (atoms_spec (ws := ws) B.pre _ (by rw [hw]; exact List.mem_cons_self))
      cases Option.some.inj (h1.symm.trans B.method)
      cases Option.some.inj (h2.symm.trans (Stand.of_body B).code)
      intro x hx
      rw [Array.isEmpty_iff.mp h7] at hx
      cases hx
    obtain ⟨t, a1, o, b1, b2, b3⟩ := body p e s m args below meth c s₁ B hml ht hP s₁ hh0 (Stand.of_body B)
    exact ⟨t, o, a1, b1, b2, b3⟩
/-- the table of a body with handlers -/
theorem vx_table {p : Program} {x y : MethodName} {S : Spec} {cc bytes : ByteArray} {maxL maxL' : Nat} {ret ret' : Option FieldType} {e : Env} {s s₁ : State} {m : MethodId} {args : Array Value} {below : List Frame} {meth : Method} {c : Code} {hh : List (Nat × Nat × Nat × Nat)}
    (B : BodyLoose p l y S cc maxL ret e s m args below meth c s₁) (h : (Cond.codeWith y bytes maxL' ret' hh).before args s = true) : c.exceptionTable.toList = tableOf hh := by
  obtain ⟨m9, meth9, c9, hn9, h1, h2, -, -, h6, -⟩ := Cond.codeWith_spec h
  cases Option.some.inj (hn9.symm.trans B.named)
  cases Option.some.inj (h1.symm.trans B.method)
  cases Option.some.inj (h2.symm.trans (Stand.of_body B).code)
  rw [← h6, table_eq]
end Bodies
end VXA
/-! ===== END ===== -/
/-! ===== BEGIN a static call of a method with an exception table ===== -/
section VXS
variable {p : Program} {l : Launch} {e : Env} {R : Room} {s : State} {m : MethodId} {args : Array Value} {below : List Frame} {meth : Method} {c : Code} {T : State} {H : Heap} {locs : List Loc} {cells slots : Nat}
abbrev vx_CSW (R : Room) (s : State) (args : Array Value) (own : String) (index : Nat) (y : MethodName) (bytes : ByteArray) (maxL : Nat) (ret : Option FieldType) (hh : List (Nat × Nat × Nat × Nat)) (ws : List Cond) (rm : Room) (mc ms n : Nat) : Prop :=
  (rm.cells = mc ∧ rm.slots = ms ∧ rm.frames + 1 ≤ R.frames ∧ 8 + (maxL + 11) + rm.locals ≤ R.locals ∧ (∀ w ∈ ws, ∀ (a' : Array Value) (U : State), s.WarmedH U.vm → w.before a' U = true) ∧ Cond.codeWith y bytes maxL ret hh ∈ ws) ∧
  (Cond.codeWith y bytes maxL ret hh).before args s = true ∧ (Cond.initialized y.cls).before args s = true ∧ (y.cls ≠ "java/lang/invoke/MethodHandle" ∧ y.cls ≠ "java/lang/invoke/VarHandle") ∧
  (∀ sig, parseMethodDescriptor y.desc = some sig → n = sig.parameters.length) ∧ (Cond.methodLink own index y).before args s = true ∧ (Cond.static y).before args s = true
theorem vx_cwSW {own : String} {index maxL mc ms : Nat} {y : MethodName} {bytes : ByteArray} {ret : Option FieldType} {hh : List (Nat × Nat × Nat × Nat)} {Ts ws ws' : List Cond} {rm : Room} (n : Nat) (ht : ∀ w ∈ Ts, w.before args s = true) (hT : GoodIn Ts (va_wsS own index y ws)) (hw : ws = Cond.codeWith y bytes maxL ret hh :: ws') (hrc : rm.cells = mc) (hrs : rm.slots = ms)
    (hd : y.cls ≠ "java/lang/invoke/MethodHandle" ∧ y.cls ≠ "java/lang/invoke/VarHandle" ∧ (parseMethodDescriptor y.desc).map (fun d => d.parameters.length) = some n) (hR : rm.frames + 1 ≤ R.frames ∧ 8 + (maxL + 11) + rm.locals ≤ R.locals) :
    vx_CSW R s args own index y bytes maxL ret hh ws rm mc ms n := by
  have ok : ∀ w ∈ va_wsS own index y ws, w.before args s = true := fun w h => ht w (hT w h).1
  have hG : GoodIn Ts ws := fun w h => hT w (by unfold va_wsS; exact List.mem_append_right _ h)
  have hc : Cond.codeWith y bytes maxL ret hh ∈ ws := by rw [hw]; exact List.mem_cons_self
  refine ⟨⟨hrc, hrs, hR.1, hR.2, pay_in ht hG, hc⟩, ht _ (hG _ hc).1, ok _ (by simp [va_wsS]), ⟨hd.1, hd.2.1⟩, fun sig h => ?_, ok _ (by simp [va_wsS]), ok _ (by simp [va_wsS])⟩
  have h2 := hd.2.2
  rw [h] at h2
  exact (Option.some.inj h2).symm
theorem vx_callSW (X : Stand p l e R s m args below meth c T locs cells slots) (hexec : p.tables.exec = Jvm.exec) {own : String} {index : Nat} {y : MethodName} {bytes : ByteArray} {maxL : Nat} {ret : Option FieldType} {hh : List (Nat × Nat × Nat × Nat)}
    (hown : s.vm.findClass own = some m.cls) (hlink : (Cond.methodLink own index y).before args s = true) (hstat : (Cond.static y).before args s = true) (hinit : (Cond.initialized y.cls).before args s = true)
    (hcode : (Cond.codeWith y bytes maxL ret hh).before args s = true) (hy : y.cls ≠ "java/lang/invoke/MethodHandle" ∧ y.cls ≠ "java/lang/invoke/VarHandle")
    {W9 : Nat} {Pre : Pt → Array Value → Prop} {Post : Pt → Array Value → Option Value → Pt → Prop} (hK : Back l R p e below s args y 3 W9 Pre Post)
    {g : JFrame} (hg : g.method = m) (hsize : g.locals.size = c.maxLocals) {argsL rest : List Value} (hlen : ∀ sig, parseMethodDescriptor y.desc = some sig → argsL.length = sig.parameters.length)
    (hstack : g.stack = argsL.reverse ++ rest) (hW : 2 * g.monitorRoom + (rest.map fun v => v.category).sum ≤ W9) (hdg : decode c.code g.pc = .ok (.invokestatic index, 3))
    (hpre : ∀ vm₁, s.WarmedH vm₁ → Pre ⟨T.setVm vm₁, locs, cells, slots⟩ argsL.toArray) :
    ∃ (v : Option Value) (vm₁ : Vm) (B : Pt), s.WarmedH vm₁ ∧ Stand p l e R s m args below meth c B.U B.locs B.cells B.slots ∧ Post ⟨T.setVm vm₁, locs, cells, slots⟩ argsL.toArray v B ∧
      ∀ target, Steps p.tables e below (B.U.setTop { g with pc := g.pc + 3, stack := v.toList ++ rest }) target → Steps p.tables e below (T.setTop g) target := by
  obtain ⟨mk, methM, cM, hnamed, hmethM, -, -, -, -, -, -, hsigM⟩ := Cond.codeWith_spec hcode
  have hstatic : methM.isStatic = true := Cond.static_spec hnamed hmethM hstat
  obtain ⟨kP, hkP, -⟩ := className_of_methodNamed hnamed
  have hinitP : kP.init = .initialized := Cond.initialized_spec (findClass_of_methodNamed hnamed) hkP hinit
  obtain ⟨vm₁, X₁, hstep₁⟩ := X.invokestatic hexec hown hlink hnamed hmethM hstatic hkP hinitP hy (g := g) hg (argsL := argsL) (rest := rest) (hlen _ hsigM) hstack hdg
  obtain ⟨v, B, X', hpost, hsteps⟩ := hK m meth c ⟨T.setVm vm₁, locs, cells, slots⟩ { g with stack := rest } (.invokestatic index) mk argsL.toArray X₁ hg hsize hdg hW (X₁.named hnamed) (hpre vm₁ X₁.warmed)
  exact ⟨v, vm₁, B, X₁.warmed, X', hpost, fun target h => hstep₁ _ fun acts => by rw [doInvoke_state]; exact hsteps.trans h⟩
theorem vx_runSW {y : MethodName} {bytes cc : ByteArray} {maxL nL mc ms n index : Nat} {ret : Option FieldType} {hh : List (Nat × Nat × Nat × Nat)} {ws : List Cond} {rm : Room} {Pc : Array Value → State → Prop} {Qc : Array Value → State → Outcome → State → Prop} {free : Addr → Prop} {Ts : List Cond} {own : String} {As rest : List Value} {g : JFrame}
    (S : CallFix p m c cc nL s args Ts own) (hM : Met l y ws rm Pc Qc mc ms free) (cw : vx_CSW R s args own index y bytes maxL ret hh ws rm mc ms n) (hp : PreS s H Pc As)
    (hg : g.method = m) (hn : As.length = n) (hsize : g.locals.size = nL) (hstack : g.stack = As.reverse ++ rest) (hW : 2 * g.monitorRoom + (rest.map fun v => v.category).sum ≤ 8) (hdg : decode cc g.pc = .ok (.invokestatic index, 3)) (hf : cells + mc ≤ R.cells ∧ slots + ms ≤ R.slots) :
    va_Run p l e R s m args below meth c H locs cells slots mc ms g rest (Qc As.toArray) (free) := by
  obtain ⟨⟨hrc, hrs, hfr, hlo, hws, hcw⟩, hcode, hini, hy, hlen, hl, hstt⟩ := cw
  have hK : Back l R p e below s args y 3 8 (PreOf R mc ms Pc) (PostOf Qc mc ms free) := va_backW (hh := hh) (bytes := bytes) (maxL := maxL) (ret := ret) hM hp.1 hrc hrs hfr hlo hws hcw (fun a' U hW => word_at hW (Or.inl (by first | rfl | simp [Cond.onTables, Cond.keeps, Cond.steady])) hini)
  obtain ⟨hx, hb, hml, ho, -⟩ := S
  intro T hT X
  obtain ⟨v, vm₁, ⟨U', l2, c2, s2⟩, hW₁, X', ⟨g', mk, t, L, e1, e2, hq, h1, hL, h2, h3⟩, st⟩ := vx_callSW X hx (hh := hh) (bytes := bytes) (maxL := maxL) (ret := ret) ho hl hstt hini hcode hy hK hg (hsize.trans hml.symm) (argsL := As) (rest := rest) (fun sig h => hn.trans (hlen sig h)) hstack hW (by rw [hb]; exact hdg)
    (fun vm₁ hW₁ => ⟨hf.1, hf.2, hp.2 (T.setVm vm₁) hT hW₁⟩)
  dsimp only [Pt.U, Pt.locs, Pt.cells, Pt.slots] at X' e1 e2 h1 h2 h3 st
  subst h1; subst h2; subst h3
  exact ⟨v, (T.setVm vm₁).calling g' mk As.toArray, t, U', L, hT, X', hL, e1, e2, hq, st⟩
/-- not caught here, past rows that name other classes: it goes on to the caller -/
theorem vx_outP {p : Program} {l : Launch} {e : Env} {R : Room} {s : State} {m : MethodId} {args : Array Value} {below : List Frame} {meth : Method} {c : Code} {H : Heap} {locs : List Loc} {cells slots : Nat} {free : Addr → Prop} {ls : Array Slot} {rest : List Value} {Qc : Array Value → State → Outcome → State → Prop} {XC : String → State → State → Prop}
    {pc : Nat} {own E : String} {ce : Cell} {q : Addr} {mc ms : Nat} (hown : s.vm.findClass own = some m.cls) (hlocks : meth.locks = false)
    (hpass : ∀ z ∈ c.exceptionTable.toList, covers z pc = false ∨ (z.catchType ≠ 0 ∧ ∃ nm : String, (Cond.classLink own z.catchType nm).before args s = true ∧ va_Nc E nm s)) (hcell : H[q]? = some ce) (hv : ce.vm = .none) (hcl : s.vm.findClass E = some ce.cls)
    (hx : ∀ t : State, t.heap = H → s.vm.Alike t.vm → XC E s t) (hf : ∀ z ∈ locs, free z.base) (hc : cells ≤ mc) (hs : slots ≤ ms) :
    vx_W p l e R s m args below meth c H locs cells slots (vx_MQ below Qc XC args s mc ms free) (F0 m pc ls rest) q := by
  intro T hT X
  have hpl : e.platform.magicAccessors = ({} : Platform).magicAccessors := by rw [X.admits.platform]
  obtain ⟨vm', hW', X', st⟩ := X.outThrough hlocks q (g := F0 m pc ls rest) rfl rfl rfl (cell := ce) (by rw [hT]; exact hcell) (by rw [hv]; rfl)
    (by obtain ⟨k9, h9, -⟩ := Vm.findClass_spec hcl; exact ⟨k9, h9⟩) (fun z hz => by
      rcases hpass z hz with h | ⟨hz0, nm, hl1, hn1⟩
      · exact Or.inl h
      · obtain ⟨c6, hc6, hcl6⟩ := Cond.classLink_spec hown hl1 e.platform hpl
        obtain ⟨a8, b8, h1, h2, h3⟩ := hn1
        cases Option.some.inj (h1.symm.trans hcl)
        cases Option.some.inj (h2.symm.trans hc6)
        exact Or.inr ⟨hz0, _, hcl6, h3⟩)
  obtain ⟨g₀, hfr⟩ := X'.frames_eq
  have hcell9 : ((T.setVm vm').setFrames (.throwing q :: below)).heap[q]? = some ce := by
    show T.heap[q]? = some ce
    rw [hT]; exact hcell
  have hend : Ended ((T.setVm vm').setFrames (.throwing q :: below)) below (.threw q) := State.frames_setFrames _ (State.cur_lt_of_frames hfr)
  refine ⟨(T.setVm vm').setFrames (.throwing q :: below), ?_, .threw q, X'.here.running, hend, Or.inr ⟨q, rfl, E, ce, locs, hx _ hT (X'.ends _).1.alike, hcell9, hv, hcl, (X'.ends _).1, (X'.ends _).2.mono hc hs, hf⟩⟩
  rw [X.pushThrowing_eq]
  exact st
/-- a thing of a world lies in the heap -/
theorem vx_lt {D : va_G} {cl : List vw_C} {ws : va_W} {H1 : Heap} (h : va_P D cl ws H1) {k : Nat} {q : Nat × va_E} (hk : ws[k]? = some q) : q.1 < H1.size := (h k q hk).lt
end VXS
/-! ===== END ===== -/
/-! ===== BEGIN methods with a table of their own: called by a name, returning or throwing ===== -/
section VXH
/-! vx_backW, vx_callVX, vx_callSX, vx_callVW, vx_runVW, vx_runVX, vx_runSX, vx_ofWH follow the same proofs as their sisters above (Free/Laws.lean, Shelf42/LK1.lean); vx_outP calls Shelf42/NT130.lean (outThrough). -/
section
variable {l : Launch} {R : Room} {p : Program} {e : Env} {below : List Frame} {s : State} {sargs : Array Value} {y : MethodName} {len W9 : Nat}
theorem vx_backW {ws : List Cond} {rm : Room} {Pc : Array Value → State → Prop} {Qc : Array Value → State → Outcome → State → Prop} {XC : String → State → State → Prop} {mc ms : Nat} {free : Addr → Prop} {bytes : ByteArray} {maxL : Nat} {ret : Option FieldType} {hh : List (Nat × Nat × Nat × Nat)}
    (hM : vx_Met l y ws rm Pc Qc XC mc ms free) (hblind : FrameBlind Pc) (hrc : rm.cells = mc) (hrs : rm.slots = ms)
    (hframes : rm.frames + 1 ≤ R.frames) (hlocals : W9 + (maxL + 11) + rm.locals ≤ R.locals)
    (hws : ∀ w ∈ ws, ∀ a' U, s.WarmedH U.vm → w.before a' U = true) (hcode : Cond.codeWith y bytes maxL ret hh ∈ ws) (hinit : ∀ a' U, s.WarmedH U.vm → (Cond.initialized y.cls).before a' U = true) :
    vx_Back l R p e below s sargs y len W9 (PreOf R mc ms Pc) (PostOf Qc mc ms free) (vx_Post XC mc ms free) := by
  intro m meth c A g ig mk a X hg hsize hdg hW hn hp
  have h1 : (headSpec ws rm).pre.before a A.U = true := atoms_intro fun w hw => hws w hw _ _ X.warmed
  have h2 : (Cond.codeWith y bytes maxL ret hh).before a A.U = true := hws _ hcode _ _ X.warmed
  have h3 : (Cond.initialized y.cls).before a A.U = true := hinit _ _ X.warmed
  have h4 : A.cells + (headSpec ws rm).room.cells ≤ R.cells := by rw [show (headSpec ws rm).room.cells = mc from hrc]; exact hp.1
  have h5 : A.slots + (headSpec ws rm).room.slots ≤ R.slots := by rw [show (headSpec ws rm).room.slots = ms from hrs]; exact hp.2.1
  have hPc : Pc a (A.U.calling g mk a) := hblind _ _ _ _ hp.2.2
  obtain ⟨U, Ls, c0, s0⟩ := A
  dsimp only [Pt.U, Pt.locs, Pt.cells, Pt.slots] at h1 h2 h3 h4 h5 X hn hPc ⊢
  obtain ⟨m9, methY, cY, hn9, hmY, hcY, -, hlY, -⟩ := Cond.codeWith_spec h2
  cases Option.some.inj (hn9.symm.trans hn)
  obtain ⟨kY, hkY, -⟩ := className_of_methodNamed hn
  have hinitY : kY.init = .initialized := Cond.initialized_spec (findClass_of_methodNamed hn) hkY h3
  have h : At U g.method c below := by rw [hg]; exact X.here
  have hlocals9 : W9 + (maxL + 11) + (headSpec ws rm).room.locals ≤ R.locals := hlocals
  have happ : (headSpec ws rm).appliesLoose y e.platform (U.calling g mk a) = true :=
    Spec.appliesLoose_calling (g := g) h hdg hn hkY hinitY
      (X.room_calling (g := g) (R' := (headSpec ws rm).room) hsize hmY hcY hframes (by rw [hlY]; omega) h4 h5) h1
  obtain ⟨mid, hmid⟩ := h.above
  have hfr : (U.setTop g).frames = (.java g :: mid) ++ below := by rw [State.frames_setTop' g h.top, hmid]; rfl
  obtain ⟨o, s₂, hsteps, -, hend, hq⟩ := Steps.callFree hM p X.admits X.cas X.clock (acts := []) hfr happ hPc trivial
  have hq' : vx_Q Qc XC mc ms free a (U.calling g mk a) o s₂ := hq
  rw [State.frames_setTop' g h.top] at hend
  obtain ⟨g₀, hg0⟩ := Option.isSome_iff_exists.mp h.top
  obtain ⟨r, hr⟩ := State.topJava?_eq_some.mp hg0
  have hr' : (({ U with heap := s₂.heap, slotsUsed := s₂.slotsUsed } : State).setVm s₂.vm).frames = .java g₀ :: r := hr
  rcases hq' with ⟨hqc, L, hfe, hL⟩ | ⟨q, rfl, E, ce, L, hx, hce, hcv, hcl, hW₂, hsm, hL⟩
  · obtain ⟨⟨v, rfl⟩, hW₂, e2, q2, q3, q4, q5, q6⟩ := id hfe
    have e3 : s₂ = ({ (U.calling g mk a).setFrames s₂.frames with heap := s₂.heap, slotsUsed := s₂.slotsUsed } : State).setVm s₂.vm := by
      have : s₂ = ({ s₂ with vm := (U.calling g mk a).vm } : State).setVm s₂.vm := rfl
      rw [e2] at this
      exact this
    obtain ⟨c₂, i₂, len₂, hc₂, hd₂, hf₂⟩ := hend
    have hW' : U.WarmedH s₂.vm := hW₂
    have hcc : c₂ = c := by
      have h1 : s₂.code? g.method = U.code? g.method := by
        rw [State.code?_eq, State.code?_eq, hW'.alike.method?]
      exact Option.some.inj (hc₂.symm.trans (h1.trans h.code))
    subst hcc
    have hlen : len₂ = len := by rw [hdg] at hd₂; cases hd₂; rfl
    subst hlen
    have hs₂ : s₂ = (({ U with heap := s₂.heap, slotsUsed := s₂.slotsUsed } : State).setVm s₂.vm).setTop { g with pc := g.pc + len₂, stack := v.toList ++ g.stack } := by
      refine e3.trans ?_
      rw [hf₂, State.calling_eq h.top, State.setFrames_setFrames, State.setTop_of_frames _ hr', hr]
      rfl
    have hsame : U.sameButNew ({ U with heap := s₂.heap, slotsUsed := s₂.slotsUsed } : State) L mc ms := by
      refine ⟨?_, q2, q3, q4, q5, q6⟩
      obtain ⟨t, ht, -⟩ := State.frames_cons hr
      show ({ U with heap := s₂.heap, slotsUsed := s₂.slotsUsed } : State) = { U.setFrames U.frames with heap := s₂.heap, slotsUsed := s₂.slotsUsed }
      rw [State.setFrames_self ht]
    subst hg
    refine Or.inl ⟨v, ⟨(({ U with heap := s₂.heap, slotsUsed := s₂.slotsUsed } : State).setVm s₂.vm), Ls ++ L, c0 + mc, s0 + ms⟩,
      ⟨X.admits, X.cas, X.clock, X.frames, X.room, X.hears, X.method, X.code, (X.here.setHeapUsed s₂.heap s₂.slotsUsed).setVm hW'.alike, X.tail, State.WarmedH.trans X.warmed hW', X.limits, X.bytes, X.same.trans (hsame.setVm s.vm)⟩,
      ⟨g, mk, s₂, L, rfl, rfl, hqc, rfl, hL, rfl, rfl⟩, ?_⟩
    show Steps p.tables e below _ ((({ U with heap := s₂.heap, slotsUsed := s₂.slotsUsed } : State).setVm s₂.vm).setTop { g with pc := g.pc + len₂, stack := v.toList ++ g.stack })
    rw [← hs₂]
    exact hsteps
  · obtain ⟨e2, q2, q3, q4, q5, q6⟩ := id hsm
    have e3 : s₂ = ({ (U.calling g mk a).setFrames s₂.frames with heap := s₂.heap, slotsUsed := s₂.slotsUsed } : State).setVm s₂.vm := by
      have : s₂ = ({ s₂ with vm := (U.calling g mk a).vm } : State).setVm s₂.vm := rfl
      rw [e2] at this
      exact this
    have hf₂ : s₂.frames = .throwing q :: .java g :: U.frames.tail := hend
    have hW' : U.WarmedH s₂.vm := hW₂
    have hs₂ : s₂ = ((({ U with heap := s₂.heap, slotsUsed := s₂.slotsUsed } : State).setVm s₂.vm).setTop g).pushFrame (.throwing q) := by
      refine e3.trans ?_
      rw [hf₂, State.calling_eq h.top, State.setFrames_setFrames, State.pushFrame, State.frames_setTop _ hr', State.setTop_of_frames _ hr', State.setFrames_setFrames, hr]
      rfl
    have hsame : U.sameButNew ({ U with heap := s₂.heap, slotsUsed := s₂.slotsUsed } : State) L mc ms := by
      refine ⟨?_, q2, q3, q4, q5, q6⟩
      obtain ⟨t, ht, -⟩ := State.frames_cons hr
      show ({ U with heap := s₂.heap, slotsUsed := s₂.slotsUsed } : State) = { U.setFrames U.frames with heap := s₂.heap, slotsUsed := s₂.slotsUsed }
      rw [State.setFrames_self ht]
    subst hg
    refine Or.inr ⟨q, ⟨(({ U with heap := s₂.heap, slotsUsed := s₂.slotsUsed } : State).setVm s₂.vm), Ls ++ L, c0 + mc, s0 + ms⟩,
      ⟨X.admits, X.cas, X.clock, X.frames, X.room, X.hears, X.method, X.code, (X.here.setHeapUsed s₂.heap s₂.slotsUsed).setVm hW'.alike, X.tail, State.WarmedH.trans X.warmed hW', X.limits, X.bytes, X.same.trans (hsame.setVm s.vm)⟩,
      ⟨g, mk, s₂, L, E, ce, rfl, rfl, hx, hce, hcv, hcl, rfl, hL, rfl, rfl⟩, ?_⟩
    show Steps p.tables e below _ (((({ U with heap := s₂.heap, slotsUsed := s₂.slotsUsed } : State).setVm s₂.vm).setTop g).pushFrame (.throwing q))
    rw [← hs₂]
    exact hsteps
end
variable {p : Program} {l : Launch} {e : Env} {R : Room} {s : State} {m : MethodId} {args : Array Value} {below : List Frame} {meth : Method} {c : Code} {T : State} {H : Heap} {locs : List Loc} {cells slots : Nat}
theorem vx_callVX (X : Stand p l e R s m args below meth c T locs cells slots) (hexec : p.tables.exec = Jvm.exec) {own C : String} {index : Nat} {y : MethodName} {bytes : ByteArray} {maxL : Nat} {ret : Option FieldType} {hh : List (Nat × Nat × Nat × Nat)}
    (hown : s.vm.findClass own = some m.cls) (hlink : (Cond.methodLink own index y).before args s = true) (hinst : (Cond.instanceMethod y).before args s = true) (hsel : (Cond.selects C y y).before args s = true)
    (hcode : (Cond.codeWith y bytes maxL ret hh).before args s = true) (hy : y.cls ≠ "java/lang/invoke/MethodHandle" ∧ y.cls ≠ "java/lang/invoke/VarHandle")
    {W9 : Nat} {Pre : Pt → Array Value → Prop} {Post : Pt → Array Value → Option Value → Pt → Prop} {PostX : Pt → Array Value → Addr → Pt → Prop} (hK : vx_Back l R p e below s args y 3 W9 Pre Post PostX)
    {b : Addr} {cellB : Cell} (hcell : T.heap[b]? = some cellB) (hobj : cellB.vm.isStatics = false) (hcls : s.vm.findClass C = some cellB.cls)
    {g : JFrame} (hg : g.method = m) (hsize : g.locals.size = c.maxLocals) {argsL rest : List Value} (hlen : ∀ sig, parseMethodDescriptor y.desc = some sig → argsL.length = sig.parameters.length)
    (hstack : g.stack = argsL.reverse ++ .ref b :: rest) (hW : 2 * g.monitorRoom + (rest.map fun v => v.category).sum ≤ W9) (hdg : decode c.code g.pc = .ok (.invokevirtual index, 3))
    (hpre : ∀ vm₁, s.WarmedH vm₁ → Pre ⟨T.setVm vm₁, locs, cells, slots⟩ (Value.ref b :: argsL).toArray) :
    (∃ (v : Option Value) (vm₁ : Vm) (B : Pt), s.WarmedH vm₁ ∧ Stand p l e R s m args below meth c B.U B.locs B.cells B.slots ∧ Post ⟨T.setVm vm₁, locs, cells, slots⟩ (Value.ref b :: argsL).toArray v B ∧
      ∀ target, Steps p.tables e below (B.U.setTop { g with pc := g.pc + 3, stack := v.toList ++ rest }) target → Steps p.tables e below (T.setTop g) target) ∨
    (∃ (q : Addr) (vm₁ : Vm) (B : Pt), s.WarmedH vm₁ ∧ Stand p l e R s m args below meth c B.U B.locs B.cells B.slots ∧ PostX ⟨T.setVm vm₁, locs, cells, slots⟩ (Value.ref b :: argsL).toArray q B ∧
      Steps p.tables e below (T.setTop g) ((B.U.setTop { g with stack := rest }).pushFrame (.throwing q))) := by
  obtain ⟨mk, methM, hnamed, hmethM, hstM, habM⟩ := Cond.instanceMethod_spec hinst
  obtain ⟨m8, methM', cM, hn8, hmethM', -, -, -, -, -, -, hsigM⟩ := Cond.codeWith_spec hcode
  cases Option.some.inj (hn8.symm.trans hnamed)
  cases hmethM.symm.trans hmethM'
  obtain ⟨c2, r2, m2, q1, q2, q3, q4, kP, hkP, hkPi⟩ := Cond.selects_spec hsel
  cases hcls.symm.trans q1
  cases (State.methodFound?_of_named hnamed hy).symm.trans q2
  cases hnamed.symm.trans q3
  have hselP : selectMethod e.platform s.vm cellB.cls mk = .method mk := by rw [Launch.admits_selectMethod X.admits]; exact q4
  obtain ⟨vm₁, X₁, hstep₁⟩ := X.invokevirtual hexec hown hlink hnamed hmethM hstM hkP hkPi hy (a := b) (cell := cellB) hcell
    (fun z h => by rw [h] at hobj; cases hobj) hselP hmethM habM hkP hkPi (g := g) hg (argsL := argsL) (rest := rest) (hlen _ hsigM) hstack hdg
  rcases hK m meth c ⟨T.setVm vm₁, locs, cells, slots⟩ { g with stack := rest } (.invokevirtual index) mk (Value.ref b :: argsL).toArray X₁ hg hsize hdg hW (X₁.named hnamed) (hpre vm₁ X₁.warmed) with ⟨v, B, X', hpost, hsteps⟩ | ⟨q, B, X', hpost, hsteps⟩
  · exact Or.inl ⟨v, vm₁, B, X₁.warmed, X', hpost, fun target h => hstep₁ _ fun acts => by rw [doInvoke_state]; exact hsteps.trans h⟩
  · exact Or.inr ⟨q, vm₁, B, X₁.warmed, X', hpost, hstep₁ _ fun acts => by rw [doInvoke_state]; exact hsteps⟩
theorem vx_callSX (X : Stand p l e R s m args below meth c T locs cells slots) (hexec : p.tables.exec = Jvm.exec) {own : String} {index : Nat} {y : MethodName} {bytes : ByteArray} {maxL : Nat} {ret : Option FieldType} {hh : List (Nat × Nat × Nat × Nat)}
    (hown : s.vm.findClass own = some m.cls) (hlink : (Cond.methodLink own index y).before args s = true) (hstat : (Cond.static y).before args s = true) (hinit : (Cond.initialized y.cls).before args s = true)
    (hcode : (Cond.codeWith y bytes maxL ret hh).before args s = true) (hy : y.cls ≠ "java/lang/invoke/MethodHandle" ∧ y.cls ≠ "java/lang/invoke/VarHandle")
    {W9 : Nat} {Pre : Pt → Array Value → Prop} {Post : Pt → Array Value → Option Value → Pt → Prop} {PostX : Pt → Array Value → Addr → Pt → Prop} (hK : vx_Back l R p e below s args y 3 W9 Pre Post PostX)
    {g : JFrame} (hg : g.method = m) (hsize : g.locals.size = c.maxLocals) {argsL rest : List Value} (hlen : ∀ sig, parseMethodDescriptor y.desc = some sig → argsL.length = sig.parameters.length)
    (hstack : g.stack = argsL.reverse ++ rest) (hW : 2 * g.monitorRoom + (rest.map fun v => v.category).sum ≤ W9) (hdg : decode c.code g.pc = .ok (.invokestatic index, 3))
    (hpre : ∀ vm₁, s.WarmedH vm₁ → Pre ⟨T.setVm vm₁, locs, cells, slots⟩ argsL.toArray) :
    (∃ (v : Option Value) (vm₁ : Vm) (B : Pt), s.WarmedH vm₁ ∧ Stand p l e R s m args below meth c B.U B.locs B.cells B.slots ∧ Post ⟨T.setVm vm₁, locs, cells, slots⟩ argsL.toArray v B ∧
      ∀ target, Steps p.tables e below (B.U.setTop { g with pc := g.pc + 3, stack := v.toList ++ rest }) target → Steps p.tables e below (T.setTop g) target) ∨
    (∃ (q : Addr) (vm₁ : Vm) (B : Pt), s.WarmedH vm₁ ∧ Stand p l e R s m args below meth c B.U B.locs B.cells B.slots ∧ PostX ⟨T.setVm vm₁, locs, cells, slots⟩ argsL.toArray q B ∧
      Steps p.tables e below (T.setTop g) ((B.U.setTop { g with stack := rest }).pushFrame (.throwing q))) := by
  obtain ⟨mk, methM, cM, hnamed, hmethM, -, -, -, -, -, -, hsigM⟩ := Cond.codeWith_spec hcode
  have hstatic : methM.isStatic = true := Cond.static_spec hnamed hmethM hstat
  obtain ⟨kP, hkP, -⟩ := className_of_methodNamed hnamed
  have hinitP : kP.init = .initialized := Cond.initialized_spec (findClass_of_methodNamed hnamed) hkP hinit
  obtain ⟨vm₁, X₁, hstep₁⟩ := X.invokestatic hexec hown hlink hnamed hmethM hstatic hkP hinitP hy (g := g) hg (argsL := argsL) (rest := rest) (hlen _ hsigM) hstack hdg
  rcases hK m meth c ⟨T.setVm vm₁, locs, cells, slots⟩ { g with stack := rest } (.invokestatic index) mk argsL.toArray X₁ hg hsize hdg hW (X₁.named hnamed) (hpre vm₁ X₁.warmed) with ⟨v, B, X', hpost, hsteps⟩ | ⟨q, B, X', hpost, hsteps⟩
  · exact Or.inl ⟨v, vm₁, B, X₁.warmed, X', hpost, fun target h => hstep₁ _ fun acts => by rw [doInvoke_state]; exact hsteps.trans h⟩
  · exact Or.inr ⟨q, vm₁, B, X₁.warmed, X', hpost, hstep₁ _ fun acts => by rw [doInvoke_state]; exact hsteps⟩
theorem vx_callVW (X : Stand p l e R s m args below meth c T locs cells slots) (hexec : p.tables.exec = Jvm.exec) {own C : String} {index : Nat} {y : MethodName} {bytes : ByteArray} {maxL : Nat} {ret : Option FieldType} {hh : List (Nat × Nat × Nat × Nat)}
    (hown : s.vm.findClass own = some m.cls) (hlink : (Cond.methodLink own index y).before args s = true) (hinst : (Cond.instanceMethod y).before args s = true) (hsel : (Cond.selects C y y).before args s = true)
    (hcode : (Cond.codeWith y bytes maxL ret hh).before args s = true) (hy : y.cls ≠ "java/lang/invoke/MethodHandle" ∧ y.cls ≠ "java/lang/invoke/VarHandle")
    {W9 : Nat} {Pre : Pt → Array Value → Prop} {Post : Pt → Array Value → Option Value → Pt → Prop} (hK : Back l R p e below s args y 3 W9 Pre Post)
    {b : Addr} {cellB : Cell} (hcell : T.heap[b]? = some cellB) (hobj : cellB.vm.isStatics = false) (hcls : s.vm.findClass C = some cellB.cls)
    {g : JFrame} (hg : g.method = m) (hsize : g.locals.size = c.maxLocals) {argsL rest : List Value} (hlen : ∀ sig, parseMethodDescriptor y.desc = some sig → argsL.length = sig.parameters.length)
    (hstack : g.stack = argsL.reverse ++ .ref b :: rest) (hW : 2 * g.monitorRoom + (rest.map fun v => v.category).sum ≤ W9) (hdg : decode c.code g.pc = .ok (.invokevirtual index, 3))
    (hpre : ∀ vm₁, s.WarmedH vm₁ → Pre ⟨T.setVm vm₁, locs, cells, slots⟩ (Value.ref b :: argsL).toArray) :
    ∃ (v : Option Value) (vm₁ : Vm) (B : Pt), s.WarmedH vm₁ ∧ Stand p l e R s m args below meth c B.U B.locs B.cells B.slots ∧ Post ⟨T.setVm vm₁, locs, cells, slots⟩ (Value.ref b :: argsL).toArray v B ∧
      ∀ target, Steps p.tables e below (B.U.setTop { g with pc := g.pc + 3, stack := v.toList ++ rest }) target → Steps p.tables e below (T.setTop g) target := by
  obtain ⟨mk, methM, hnamed, hmethM, hstM, habM⟩ := Cond.instanceMethod_spec hinst
  obtain ⟨m8, methM', cM, hn8, hmethM', -, -, -, -, -, -, hsigM⟩ := Cond.codeWith_spec hcode
  cases Option.some.inj (hn8.symm.trans hnamed)
  cases hmethM.symm.trans hmethM'
  obtain ⟨c2, r2, m2, q1, q2, q3, q4, kP, hkP, hkPi⟩ := Cond.selects_spec hsel
  cases hcls.symm.trans q1
  cases (State.methodFound?_of_named hnamed hy).symm.trans q2
  cases hnamed.symm.trans q3
  have hselP : selectMethod e.platform s.vm cellB.cls mk = .method mk := by rw [Launch.admits_selectMethod X.admits]; exact q4
  obtain ⟨vm₁, X₁, hstep₁⟩ := X.invokevirtual hexec hown hlink hnamed hmethM hstM hkP hkPi hy (a := b) (cell := cellB) hcell
    (fun z h => by rw [h] at hobj; cases hobj) hselP hmethM habM hkP hkPi (g := g) hg (argsL := argsL) (rest := rest) (hlen _ hsigM) hstack hdg
  obtain ⟨v, B, X', hpost, hsteps⟩ := hK m meth c ⟨T.setVm vm₁, locs, cells, slots⟩ { g with stack := rest } (.invokevirtual index) mk (Value.ref b :: argsL).toArray X₁ hg hsize hdg hW (X₁.named hnamed) (hpre vm₁ X₁.warmed)
  exact ⟨v, vm₁, B, X₁.warmed, X', hpost, fun target h => hstep₁ _ fun acts => by rw [doInvoke_state]; exact hsteps.trans h⟩
abbrev vx_CVW (R : Room) (s : State) (args : Array Value) (own C : String) (index : Nat) (y : MethodName) (bytes : ByteArray) (maxL : Nat) (ret : Option FieldType) (hh : List (Nat × Nat × Nat × Nat)) (ws : List Cond) (rm : Room) (mc ms n : Nat) : Prop :=
  (rm.cells = mc ∧ rm.slots = ms ∧ rm.frames + 1 ≤ R.frames ∧ 8 + (maxL + 11) + rm.locals ≤ R.locals ∧ (∀ w ∈ ws, ∀ (a' : Array Value) (U : State), s.WarmedH U.vm → w.before a' U = true) ∧ Cond.codeWith y bytes maxL ret hh ∈ ws) ∧
  (Cond.codeWith y bytes maxL ret hh).before args s = true ∧ (Cond.initialized y.cls).before args s = true ∧ (y.cls ≠ "java/lang/invoke/MethodHandle" ∧ y.cls ≠ "java/lang/invoke/VarHandle") ∧
  (∀ sig, parseMethodDescriptor y.desc = some sig → n = sig.parameters.length) ∧ (Cond.methodLink own index y).before args s = true ∧ (Cond.instanceMethod y).before args s = true ∧ (Cond.selects C y y).before args s = true
theorem vx_cwVW {own C : String} {index maxL mc ms : Nat} {y : MethodName} {bytes : ByteArray} {ret : Option FieldType} {hh : List (Nat × Nat × Nat × Nat)} {Ts ws ws' : List Cond} {rm : Room} (n : Nat) (ht : ∀ w ∈ Ts, w.before args s = true) (hT : GoodIn Ts (wsV own index C y ws)) (hw : ws = Cond.codeWith y bytes maxL ret hh :: ws') (hrc : rm.cells = mc) (hrs : rm.slots = ms)
    (hd : y.cls = C ∧ y.cls ≠ "java/lang/invoke/MethodHandle" ∧ y.cls ≠ "java/lang/invoke/VarHandle" ∧ (parseMethodDescriptor y.desc).map (fun d => d.parameters.length) = some n) (hR : rm.frames + 1 ≤ R.frames ∧ 8 + (maxL + 11) + rm.locals ≤ R.locals) :
    vx_CVW R s args own C index y bytes maxL ret hh ws rm mc ms n := by
  obtain ⟨hC, hd⟩ := hd
  subst hC
  have ok : ∀ w ∈ wsV own index y.cls y ws, w.before args s = true := fun w h => ht w (hT w h).1
  have hG : GoodIn Ts ws := fun w h => hT w (by unfold wsV; exact List.mem_append_right _ h)
  have hc : Cond.codeWith y bytes maxL ret hh ∈ ws := by rw [hw]; exact List.mem_cons_self
  refine ⟨⟨hrc, hrs, hR.1, hR.2, pay_in ht hG, hc⟩, ht _ (hG _ hc).1, ok _ (by simp [wsV]), ⟨hd.1, hd.2.1⟩, fun sig h => ?_, ok _ (by simp [wsV]), ok _ (by simp [wsV]), ok _ (by simp [wsV])⟩
  have h2 := hd.2.2
  rw [h] at h2
  exact (Option.some.inj h2).symm
theorem vx_runVW {y : MethodName} {bytes cc : ByteArray} {maxL nL mc ms n index : Nat} {ret : Option FieldType} {hh : List (Nat × Nat × Nat × Nat)} {ws : List Cond} {rm : Room} {Pc : Array Value → State → Prop} {Qc : Array Value → State → Outcome → State → Prop} {free : Addr → Prop} {Ts : List Cond} {own C : String} {b : Addr} {As rest : List Value} {g : JFrame}
    (S : CallFix p m c cc nL s args Ts own) (hM : Met l y ws rm Pc Qc mc ms free) (cw : vx_CVW R s args own C index y bytes maxL ret hh ws rm mc ms n) (hp : PreV s H C b Pc As)
    (hg : g.method = m) (hn : As.length = n) (hsize : g.locals.size = nL) (hstack : g.stack = As.reverse ++ .ref b :: rest) (hW : 2 * g.monitorRoom + (rest.map fun v => v.category).sum ≤ 8) (hdg : decode cc g.pc = .ok (.invokevirtual index, 3)) (hf : cells + mc ≤ R.cells ∧ slots + ms ≤ R.slots) :
    va_Run p l e R s m args below meth c H locs cells slots mc ms g rest (Qc (Value.ref b :: As).toArray) free := by
  obtain ⟨⟨hrc, hrs, hfr, hlo, hws, hcw⟩, hcode, hini, hy, hlen, hl, hin, hse⟩ := cw
  have hK : Back l R p e below s args y 3 8 (PreOf R mc ms Pc) (PostOf Qc mc ms free) := va_backW (hh := hh) (bytes := bytes) (maxL := maxL) (ret := ret) hM hp.1 hrc hrs hfr hlo hws hcw (fun a' U hW => word_at hW (Or.inl (by first | rfl | simp [Cond.onTables, Cond.keeps, Cond.steady])) hini)
  obtain ⟨hx, hb, hml, ho, -⟩ := S
  obtain ⟨-, ⟨cellB, hcB, hoB, hclB⟩, hPc⟩ := hp
  intro T hT X
  obtain ⟨v, vm₁, ⟨U', l2, c2, s2⟩, hW₁, X', ⟨g', mk, t, L, e1, e2, hq, h1, hL, h2, h3⟩, st⟩ := vx_callVW X hx (C := C) (hh := hh) (bytes := bytes) (maxL := maxL) (ret := ret) ho hl hin hse hcode hy hK (by rw [hT]; exact hcB) hoB hclB hg (hsize.trans hml.symm) (argsL := As) (rest := rest) (fun sig h => hn.trans (hlen sig h)) hstack hW (by rw [hb]; exact hdg)
    (fun vm₁ hW₁ => ⟨hf.1, hf.2, hPc (T.setVm vm₁) hT hW₁⟩)
  dsimp only [Pt.U, Pt.locs, Pt.cells, Pt.slots] at X' e1 e2 h1 h2 h3 st
  subst h1; subst h2; subst h3
  exact ⟨v, (T.setVm vm₁).calling g' mk (Value.ref b :: As).toArray, t, U', L, hT, X', hL, e1, e2, hq, st⟩
section
variable {y : MethodName} {bytes cc : ByteArray} {maxL nL mc ms n index : Nat} {ret : Option FieldType} {ws : List Cond} {rm : Room} {Pc : Array Value → State → Prop} {Qc : Array Value → State → Outcome → State → Prop} {XC : String → State → State → Prop} {free : Addr → Prop} {Ts : List Cond} {own C : String} {b : Addr} {As rest : List Value} {g : JFrame}
theorem vx_runVX {hh : List (Nat × Nat × Nat × Nat)} (S : CallFix p m c cc nL s args Ts own) (hM : vx_Met l y ws rm Pc Qc XC mc ms free) (cw : vx_CVW R s args own C index y bytes maxL ret hh ws rm mc ms n) (hp : PreV s H C b Pc As)
    (hg : g.method = m) (hn : As.length = n) (hsize : g.locals.size = nL) (hstack : g.stack = As.reverse ++ .ref b :: rest) (hW : 2 * g.monitorRoom + (rest.map fun v => v.category).sum ≤ 8) (hdg : decode cc g.pc = .ok (.invokevirtual index, 3)) (hf : cells + mc ≤ R.cells ∧ slots + ms ≤ R.slots) :
    vx_Run p l e R s m args below meth c H locs cells slots mc ms g rest (Qc (Value.ref b :: As).toArray) XC free := by
  obtain ⟨⟨hrc, hrs, hfr, hlo, hws, hcw⟩, hcode, hini, hy, hlen, hl, hin, hse⟩ := cw
  have hK : vx_Back l R p e below s args y 3 8 (PreOf R mc ms Pc) (PostOf Qc mc ms free) (vx_Post XC mc ms free) := vx_backW (hh := hh) (bytes := bytes) (maxL := maxL) (ret := ret) hM hp.1 hrc hrs hfr hlo hws hcw (fun a' U hW => word_at hW (Or.inl (by first | rfl | simp [Cond.onTables, Cond.keeps, Cond.steady])) hini)
  obtain ⟨hx, hb, hml, ho, -⟩ := S
  obtain ⟨-, ⟨cellB, hcB, hoB, hclB⟩, hPc⟩ := hp
  intro T hT X
  rcases vx_callVX X hx (C := C) (hh := hh) (bytes := bytes) (maxL := maxL) (ret := ret) ho hl hin hse hcode hy hK (by rw [hT]; exact hcB) hoB hclB hg (hsize.trans hml.symm) (argsL := As) (rest := rest) (fun sig h => hn.trans (hlen sig h)) hstack hW (by rw [hb]; exact hdg)
    (fun vm₁ hW₁ => ⟨hf.1, hf.2, hPc (T.setVm vm₁) hT hW₁⟩) with ⟨v, vm₁, ⟨U', l2, c2, s2⟩, hW₁, X', ⟨g', mk, t, L, e1, e2, hq, h1, hL, h2, h3⟩, st⟩ | ⟨q, vm₁, ⟨U', l2, c2, s2⟩, hW₁, X', ⟨g', mk, t, L, E, ce, e1, e2, hq, hce, hcv, hcl, h1, hL, h2, h3⟩, st⟩
  · dsimp only [Pt.U, Pt.locs, Pt.cells, Pt.slots] at X' e1 e2 h1 h2 h3 st
    subst h1; subst h2; subst h3
    exact Or.inl ⟨v, (T.setVm vm₁).calling g' mk (Value.ref b :: As).toArray, t, U', L, hT, X', hL, e1, e2, hq, st⟩
  · dsimp only [Pt.U, Pt.locs, Pt.cells, Pt.slots] at X' e1 e2 h1 h2 h3 st hcl
    subst h1; subst h2; subst h3
    exact Or.inr ⟨q, (T.setVm vm₁).calling g' mk (Value.ref b :: As).toArray, t, U', L, E, ce, hT, X', hL, e1, e2, hq, hce, hcv, vx_cls hW₁ hcl, st⟩
theorem vx_runSX {hh : List (Nat × Nat × Nat × Nat)} (S : CallFix p m c cc nL s args Ts own) (hM : vx_Met l y ws rm Pc Qc XC mc ms free) (cw : vx_CSW R s args own index y bytes maxL ret hh ws rm mc ms n) (hp : PreS s H Pc As)
    (hg : g.method = m) (hn : As.length = n) (hsize : g.locals.size = nL) (hstack : g.stack = As.reverse ++ rest) (hW : 2 * g.monitorRoom + (rest.map fun v => v.category).sum ≤ 8) (hdg : decode cc g.pc = .ok (.invokestatic index, 3)) (hf : cells + mc ≤ R.cells ∧ slots + ms ≤ R.slots) :
    vx_Run p l e R s m args below meth c H locs cells slots mc ms g rest (Qc As.toArray) XC free := by
  obtain ⟨⟨hrc, hrs, hfr, hlo, hws, hcw⟩, hcode, hini, hy, hlen, hl, hstt⟩ := cw
  have hK : vx_Back l R p e below s args y 3 8 (PreOf R mc ms Pc) (PostOf Qc mc ms free) (vx_Post XC mc ms free) := vx_backW (hh := hh) (bytes := bytes) (maxL := maxL) (ret := ret) hM hp.1 hrc hrs hfr hlo hws hcw (fun a' U hW => word_at hW (Or.inl (by first | rfl | simp [Cond.onTables, Cond.keeps, Cond.steady])) hini)
  obtain ⟨hx, hb, hml, ho, -⟩ := S
  intro T hT X
  rcases vx_callSX X hx (hh := hh) (bytes := bytes) (maxL := maxL) (ret := ret) ho hl hstt hini hcode hy hK hg (hsize.trans hml.symm) (argsL := As) (rest := rest) (fun sig h => hn.trans (hlen sig h)) hstack hW (by rw [hb]; exact hdg)
    (fun vm₁ hW₁ => ⟨hf.1, hf.2, hp.2 (T.setVm vm₁) hT hW₁⟩) with ⟨v, vm₁, ⟨U', l2, c2, s2⟩, hW₁, X', ⟨g', mk, t, L, e1, e2, hq, h1, hL, h2, h3⟩, st⟩ | ⟨q, vm₁, ⟨U', l2, c2, s2⟩, hW₁, X', ⟨g', mk, t, L, E, ce, e1, e2, hq, hce, hcv, hcl, h1, hL, h2, h3⟩, st⟩
  · dsimp only [Pt.U, Pt.locs, Pt.cells, Pt.slots] at X' e1 e2 h1 h2 h3 st
    subst h1; subst h2; subst h3
    exact Or.inl ⟨v, (T.setVm vm₁).calling g' mk As.toArray, t, U', L, hT, X', hL, e1, e2, hq, st⟩
  · dsimp only [Pt.U, Pt.locs, Pt.cells, Pt.slots] at X' e1 e2 h1 h2 h3 st hcl
    subst h1; subst h2; subst h3
    exact Or.inr ⟨q, (T.setVm vm₁).calling g' mk As.toArray, t, U', L, E, ce, hT, X', hL, e1, e2, hq, hce, hcv, vx_cls hW₁ hcl, st⟩
end
end VXH
theorem vx_ofWH {l : Launch} {y : MethodName} {ws ws' : List Cond} {rm : Room} {Pc : Array Value → State → Prop} {Qc : Array Value → State → Outcome → State → Prop} {XC : String → State → State → Prop} {mc ms : Nat} {free : Addr → Prop} {cc : ByteArray} {maxL : Nat} {ret : Option FieldType} {hh : List (Nat × Nat × Nat × Nat)}
    (hy : plainName y.cls = true) (hw : ws = Cond.codeWith y cc maxL ret hh :: ws')
    (body : ∀ p e s m args below meth c s₁, BodyLoose p l y (headSpec ws rm) cc maxL ret e s m args below meth c s₁ → c.maxLocals = maxL → Pc args s →
      W p l e (headSpec ws rm).room s m args below meth c s.heap [] 0 0 (vx_MQ below Qc XC args s mc ms free) (entryFrame m args maxL)) : vx_Met l y ws rm Pc Qc XC mc ms free := by
  refine MetFree.of_bodyS (code := cc) (maxLocals := maxL) (ret := ret) hy ?_ ?_
  · intro args s m h hn
    obtain ⟨m9, meth, c, hn9, h1, h2, h3, h4, -, h5, h6, -⟩ := Cond.codeWith_spec (atoms_spec (ws := ws) h _ (by rw [hw]; exact List.mem_cons_self))
    cases hn.symm.trans hn9
    exact ⟨meth, c, h1, h2, h3, h4, h5, h6⟩
  · intro p e s m args below meth c s₁ B hml hP _
    have hh0 : s₁.heap = s.heap := by rw [B.state]; rfl
    obtain ⟨t, a1, o, b1, b2, b3⟩ := body p e s m args below meth c s₁ B hml hP s₁ hh0 (Stand.of_body B)
    exact ⟨t, o, a1, b1, b2, b3⟩
/-! ===== END ===== -/
end
section
/-! ===== BEGIN printed: names, fields, word lists, decode rows ===== -/
def RX0 : String := "AffineHulls$Edge"
def TX0 : u_T := fun k => match k with
  | 0 => ("AffineHulls$Edge", "from", "I", false)
  | 1 => ("AffineHulls$Edge", "to", "I", false)
  | 2 => ("AffineHulls$Edge", "kind", "I", false)
  | 3 => ("AffineHulls$Edge", "variable", "I", false)
  | _ => ("AffineHulls$Edge", "form", "[I", true)
def tyX0 : Nat → FieldType := fun k => match k with
  | 0 => .int
  | 1 => .int
  | 2 => .int
  | 3 => .int
  | _ => .array .int
abbrev wsX00 : List Cond := u_ws RX0 TX0 5
theorem nmX0 : ∀ a, a < 5 → ∀ b, b < 5 → a ≠ b → (TX0 a).2.1 ≠ (TX0 b).2.1 := by decide +kernel
theorem tyX0_ok : ∀ k, k < 5 → parseFieldDescriptor (TX0 k).2.2.1 = some (tyX0 k) := by decide +kernel
abbrev cX0_init : ByteArray := prog_2_method_1_code
def yX0_init : MethodName := ⟨RX0, "<init>", "(I)V"⟩
abbrev cX0_set : ByteArray := prog_2_method_2_code
def yX0_set : MethodName := ⟨RX0, "set", "(IIII[I)V"⟩
abbrev cX0_isOpen : ByteArray := prog_2_method_3_code
def yX0_isOpen : MethodName := ⟨RX0, "isOpen", "([I)Z"⟩
abbrev cX0_step : ByteArray := prog_2_method_4_code
def yX0_step : MethodName := ⟨RX0, "step", "([II)V"⟩
abbrev cX0_stepBack : ByteArray := prog_2_method_5_code
def yX0_stepBack : MethodName := ⟨RX0, "stepBack", "([II)V"⟩
def RX1 : String := "AffineHulls$Hull"
def TX1 : u_T := fun k => match k with
  | 0 => ("AffineHulls$Hull", "span", "LAffineHulls$Span;", true)
  | 1 => ("AffineHulls$Hull", "members", "[I", true)
  | _ => ("AffineHulls$Hull", "pointCount", "I", false)
def tyX1 : Nat → FieldType := fun k => match k with
  | 0 => .object "AffineHulls$Span"
  | 1 => .array .int
  | _ => .int
abbrev wsX10 : List Cond := u_ws RX1 TX1 3
theorem nmX1 : ∀ a, a < 3 → ∀ b, b < 3 → a ≠ b → (TX1 a).2.1 ≠ (TX1 b).2.1 := by decide +kernel
theorem tyX1_ok : ∀ k, k < 3 → parseFieldDescriptor (TX1 k).2.2.1 = some (tyX1 k) := by decide +kernel
abbrev cX1_init : ByteArray := prog_3_method_1_code
def yX1_init : MethodName := ⟨RX1, "<init>", "(I)V"⟩
abbrev cX1_clear : ByteArray := prog_3_method_2_code
def yX1_clear : MethodName := ⟨RX1, "clear", "()V"⟩
abbrev cX1_equationCount : ByteArray := prog_3_method_3_code
def yX1_equationCount : MethodName := ⟨RX1, "equationCount", "()I"⟩
def RX2 : String := "AffineHulls$Note"
def TX2 : u_T := fun k => match k with
  | 0 => ("AffineHulls$Note", "node", "I", false)
  | _ => ("AffineHulls$Note", "form", "[I", true)
def tyX2 : Nat → FieldType := fun k => match k with
  | 0 => .int
  | _ => .array .int
abbrev wsX20 : List Cond := u_ws RX2 TX2 2
theorem nmX2 : ∀ a, a < 2 → ∀ b, b < 2 → a ≠ b → (TX2 a).2.1 ≠ (TX2 b).2.1 := by decide +kernel
theorem tyX2_ok : ∀ k, k < 2 → parseFieldDescriptor (TX2 k).2.2.1 = some (tyX2 k) := by decide +kernel
abbrev cX2_init : ByteArray := prog_4_method_1_code
def yX2_init : MethodName := ⟨RX2, "<init>", "(I)V"⟩
abbrev cX2_set : ByteArray := prog_4_method_2_code
def yX2_set : MethodName := ⟨RX2, "set", "(I[I)V"⟩
def RX3 : String := "AffineHulls$Point"
def TX3 : u_T := fun k => match k with
  | 0 => ("AffineHulls$Point", "node", "I", false)
  | 1 => ("AffineHulls$Point", "index", "I", false)
  | 2 => ("AffineHulls$Point", "origin", "I", false)
  | _ => ("AffineHulls$Point", "row", "[I", true)
def tyX3 : Nat → FieldType := fun k => match k with
  | 0 => .int
  | 1 => .int
  | 2 => .int
  | _ => .array .int
abbrev wsX30 : List Cond := u_ws RX3 TX3 4
theorem nmX3 : ∀ a, a < 4 → ∀ b, b < 4 → a ≠ b → (TX3 a).2.1 ≠ (TX3 b).2.1 := by decide +kernel
theorem tyX3_ok : ∀ k, k < 4 → parseFieldDescriptor (TX3 k).2.2.1 = some (tyX3 k) := by decide +kernel
abbrev cX3_init : ByteArray := prog_5_method_1_code
def yX3_init : MethodName := ⟨RX3, "<init>", "(I)V"⟩
abbrev cX3_set : ByteArray := prog_5_method_2_code
def yX3_set : MethodName := ⟨RX3, "set", "(III[I)V"⟩
def RX4 : String := "AffineHulls$Span"
def TX4 : u_T := fun k => match k with
  | 0 => ("AffineHulls$Span", "kept", "[[I", true)
  | 1 => ("AffineHulls$Span", "taken", "[Z", true)
  | _ => ("AffineHulls$Span", "rest", "[I", true)
def tyX4 : Nat → FieldType := fun k => match k with
  | 0 => .array (.array .int)
  | 1 => .array .boolean
  | _ => .array .int
abbrev wsX40 : List Cond := u_ws RX4 TX4 3
theorem nmX4 : ∀ a, a < 3 → ∀ b, b < 3 → a ≠ b → (TX4 a).2.1 ≠ (TX4 b).2.1 := by decide +kernel
theorem tyX4_ok : ∀ k, k < 3 → parseFieldDescriptor (TX4 k).2.2.1 = some (tyX4 k) := by decide +kernel
abbrev cX4_init : ByteArray := prog_6_method_1_code
def yX4_init : MethodName := ⟨RX4, "<init>", "(I)V"⟩
abbrev cX4_clear : ByteArray := prog_6_method_2_code
def yX4_clear : MethodName := ⟨RX4, "clear", "()V"⟩
abbrev cX4_contains : ByteArray := prog_6_method_3_code
def yX4_contains : MethodName := ⟨RX4, "contains", "([I)Z"⟩
abbrev cX4_add : ByteArray := prog_6_method_4_code
def yX4_add : MethodName := ⟨RX4, "add", "([I)Z"⟩
abbrev cX4_reduce : ByteArray := prog_6_method_5_code
def yX4_reduce : MethodName := ⟨RX4, "reduce", "([I)V"⟩
abbrev cX4_leadingPlace : ByteArray := prog_6_method_6_code
def yX4_leadingPlace : MethodName := ⟨RX4, "leadingPlace", "()I"⟩
abbrev cX4_freePlace : ByteArray := prog_6_method_7_code
def yX4_freePlace : MethodName := ⟨RX4, "freePlace", "(I)I"⟩
abbrev cX4_vanishing : ByteArray := prog_6_method_8_code
def yX4_vanishing : MethodName := ⟨RX4, "vanishing", "(II)I"⟩
def RX5 : String := "AffineHulls"
def TX5 : u_T := fun k => match k with
  | 0 => ("AffineHulls", "variables", "I", true)
  | 1 => ("AffineHulls", "draft", "[I", true)
  | 2 => ("AffineHulls", "edges", "[LAffineHulls$Edge;", true)
  | 3 => ("AffineHulls", "edgeCount", "I", false)
  | 4 => ("AffineHulls", "entryNode", "I", false)
  | 5 => ("AffineHulls", "hulls", "[LAffineHulls$Hull;", true)
  | 6 => ("AffineHulls", "arrivals", "[LAffineHulls$Point;", true)
  | 7 => ("AffineHulls", "arrivalCount", "I", false)
  | 8 => ("AffineHulls", "analysed", "Z", false)
  | 9 => ("AffineHulls", "place", "I", false)
  | 10 => ("AffineHulls", "values", "[I", true)
  | 11 => ("AffineHulls", "notes", "[LAffineHulls$Note;", true)
  | 12 => ("AffineHulls", "noteCount", "I", false)
  | 13 => ("AffineHulls", "noteSpan", "LAffineHulls$Span;", true)
  | _ => ("AffineHulls", "work", "[I", true)
def tyX5 : Nat → FieldType := fun k => match k with
  | 0 => .int
  | 1 => .array .int
  | 2 => .array (.object "AffineHulls$Edge")
  | 3 => .int
  | 4 => .int
  | 5 => .array (.object "AffineHulls$Hull")
  | 6 => .array (.object "AffineHulls$Point")
  | 7 => .int
  | 8 => .boolean
  | 9 => .int
  | 10 => .array .int
  | 11 => .array (.object "AffineHulls$Note")
  | 12 => .int
  | 13 => .object "AffineHulls$Span"
  | _ => .array .int
abbrev wsX50 : List Cond := u_ws RX5 TX5 15
theorem nmX5 : ∀ a, a < 15 → ∀ b, b < 15 → a ≠ b → (TX5 a).2.1 ≠ (TX5 b).2.1 := by decide +kernel
theorem tyX5_ok : ∀ k, k < 15 → parseFieldDescriptor (TX5 k).2.2.1 = some (tyX5 k) := by decide +kernel
abbrev cX5_init : ByteArray := prog_1_method_1_code
def yX5_init : MethodName := ⟨RX5, "<init>", "(II)V"⟩
abbrev cX5_term : ByteArray := prog_1_method_2_code
def yX5_term : MethodName := ⟨RX5, "term", "(II)V"⟩
abbrev cX5_edge : ByteArray := prog_1_method_3_code
def yX5_edge : MethodName := ⟨RX5, "edge", "(IIII)I"⟩
abbrev cX5_entry : ByteArray := prog_1_method_4_code
def yX5_entry : MethodName := ⟨RX5, "entry", "(I)V"⟩
abbrev cX5_analyse : ByteArray := prog_1_method_5_code
def yX5_analyse : MethodName := ⟨RX5, "analyse", "()I"⟩
abbrev cX5_points : ByteArray := prog_1_method_6_code
def yX5_points : MethodName := ⟨RX5, "points", "(I)I"⟩
abbrev cX5_point : ByteArray := prog_1_method_7_code
def yX5_point : MethodName := ⟨RX5, "point", "(III)I"⟩
abbrev cX5_equations : ByteArray := prog_1_method_8_code
def yX5_equations : MethodName := ⟨RX5, "equations", "(I)I"⟩
abbrev cX5_coefficient : ByteArray := prog_1_method_9_code
def yX5_coefficient : MethodName := ⟨RX5, "coefficient", "(III)I"⟩
abbrev cX5_holds : ByteArray := prog_1_method_10_code
def yX5_holds : MethodName := ⟨RX5, "holds", "(I)Z"⟩
abbrev cX5_begin : ByteArray := prog_1_method_11_code
def yX5_begin : MethodName := ⟨RX5, "begin", "(II)V"⟩
abbrev cX5_go : ByteArray := prog_1_method_12_code
def yX5_go : MethodName := ⟨RX5, "go", "(II)Z"⟩
abbrev cX5_at : ByteArray := prog_1_method_13_code
def yX5_at : MethodName := ⟨RX5, "at", "(I)I"⟩
abbrev cX5_note : ByteArray := prog_1_method_14_code
def yX5_note : MethodName := ⟨RX5, "note", "(I)I"⟩
abbrev cX5_noteAll : ByteArray := prog_1_method_15_code
def yX5_noteAll : MethodName := ⟨RX5, "noteAll", "()I"⟩
abbrev cX5_forget : ByteArray := prog_1_method_16_code
def yX5_forget : MethodName := ⟨RX5, "forget", "()I"⟩
abbrev cX5_sound : ByteArray := prog_1_method_17_code
def yX5_sound : MethodName := ⟨RX5, "sound", "()Z"⟩
abbrev cX5_requireNode : ByteArray := prog_1_method_18_code
def yX5_requireNode : MethodName := ⟨RX5, "requireNode", "(I)V"⟩
abbrev cX5_requireVariable : ByteArray := prog_1_method_19_code
def yX5_requireVariable : MethodName := ⟨RX5, "requireVariable", "(I)V"⟩
abbrev cX5_requirePlace : ByteArray := prog_1_method_20_code
def yX5_requirePlace : MethodName := ⟨RX5, "requirePlace", "(I)V"⟩
abbrev cX5_requireAnalysed : ByteArray := prog_1_method_21_code
def yX5_requireAnalysed : MethodName := ⟨RX5, "requireAnalysed", "()V"⟩
abbrev cX5_clearDraft : ByteArray := prog_1_method_22_code
def yX5_clearDraft : MethodName := ⟨RX5, "clearDraft", "()V"⟩
abbrev cX5_forgetPoints : ByteArray := prog_1_method_23_code
def yX5_forgetPoints : MethodName := ⟨RX5, "forgetPoints", "()V"⟩
abbrev cX5_addFirstPoints : ByteArray := prog_1_method_24_code
def yX5_addFirstPoints : MethodName := ⟨RX5, "addFirstPoints", "()V"⟩
abbrev cX5_workOff : ByteArray := prog_1_method_25_code
def yX5_workOff : MethodName := ⟨RX5, "workOff", "(LAffineHulls$Point;)V"⟩
abbrev cX5_follow : ByteArray := prog_1_method_26_code
def yX5_follow : MethodName := ⟨RX5, "follow", "(ILAffineHulls$Point;I)V"⟩
abbrev cX5_addPoint : ByteArray := prog_1_method_27_code
def yX5_addPoint : MethodName := ⟨RX5, "addPoint", "(I[II)V"⟩
abbrev cX5_holdsAtPoints : ByteArray := prog_1_method_28_code
def yX5_holdsAtPoints : MethodName := ⟨RX5, "holdsAtPoints", "(LAffineHulls$Hull;)Z"⟩
abbrev cX5_noteEquations : ByteArray := prog_1_method_29_code
def yX5_noteEquations : MethodName := ⟨RX5, "noteEquations", "(I)V"⟩
abbrev cX5_keepsNotes : ByteArray := prog_1_method_30_code
def yX5_keepsNotes : MethodName := ⟨RX5, "keepsNotes", "(LAffineHulls$Edge;)Z"⟩
abbrev cX5_spanNotesBefore : ByteArray := prog_1_method_31_code
def yX5_spanNotesBefore : MethodName := ⟨RX5, "spanNotesBefore", "(LAffineHulls$Edge;)V"⟩
abbrev cX5_followsBefore : ByteArray := prog_1_method_32_code
def yX5_followsBefore : MethodName := ⟨RX5, "followsBefore", "(LAffineHulls$Edge;LAffineHulls$Note;I)Z"⟩
abbrev cX5_number : ByteArray := prog_1_method_33_code
def yX5_number : MethodName := ⟨RX5, "number", "(I)I"⟩
abbrev cX5_valueOf : ByteArray := prog_1_method_34_code
def yX5_valueOf : MethodName := ⟨RX5, "valueOf", "([I[I)I"⟩
abbrev cX5_addMultiple : ByteArray := prog_1_method_35_code
def yX5_addMultiple : MethodName := ⟨RX5, "addMultiple", "([II[I)V"⟩
abbrev cX5_copy : ByteArray := prog_1_method_36_code
def yX5_copy : MethodName := ⟨RX5, "copy", "([I[I)V"⟩
abbrev cX5_inverse : ByteArray := prog_1_method_37_code
def yX5_inverse : MethodName := ⟨RX5, "inverse", "(I)I"⟩
def RX6 : String := "AffineHullsModel"
def TX6 : u_T := fun k => match k with
  | 0 => ("AffineHullsModel", "n", "I", true)
  | 1 => ("AffineHullsModel", "v", "I", true)
  | 2 => ("AffineHullsModel", "thrown", "I", false)
  | 3 => ("AffineHullsModel", "draft", "[I", true)
  | 4 => ("AffineHullsModel", "edges", "I", false)
  | 5 => ("AffineHullsModel", "froms", "[I", true)
  | 6 => ("AffineHullsModel", "tos", "[I", true)
  | 7 => ("AffineHullsModel", "kinds", "[I", true)
  | 8 => ("AffineHullsModel", "targets", "[I", true)
  | 9 => ("AffineHullsModel", "forms", "[I", true)
  | 10 => ("AffineHullsModel", "entry", "I", false)
  | 11 => ("AffineHullsModel", "analysed", "Z", false)
  | 12 => ("AffineHullsModel", "many", "[I", true)
  | 13 => ("AffineHullsModel", "points", "[I", true)
  | 14 => ("AffineHullsModel", "came", "[I", true)
  | 15 => ("AffineHullsModel", "all", "I", false)
  | 16 => ("AffineHullsModel", "nodeOf", "[I", true)
  | 17 => ("AffineHullsModel", "numberOf", "[I", true)
  | 18 => ("AffineHullsModel", "rows", "[I", true)
  | 19 => ("AffineHullsModel", "equations", "[I", true)
  | 20 => ("AffineHullsModel", "where", "I", false)
  | 21 => ("AffineHullsModel", "values", "[I", true)
  | 22 => ("AffineHullsModel", "notes", "I", false)
  | 23 => ("AffineHullsModel", "noteNode", "[I", true)
  | 24 => ("AffineHullsModel", "noteForm", "[I", true)
  | 25 => ("AffineHullsModel", "size", "I", false)
  | 26 => ("AffineHullsModel", "table", "[I", true)
  | 27 => ("AffineHullsModel", "pivots", "[I", true)
  | _ => ("AffineHullsModel", "row", "[I", true)
def tyX6 : Nat → FieldType := fun k => match k with
  | 0 => .int
  | 1 => .int
  | 2 => .int
  | 3 => .array .int
  | 4 => .int
  | 5 => .array .int
  | 6 => .array .int
  | 7 => .array .int
  | 8 => .array .int
  | 9 => .array .int
  | 10 => .int
  | 11 => .boolean
  | 12 => .array .int
  | 13 => .array .int
  | 14 => .array .int
  | 15 => .int
  | 16 => .array .int
  | 17 => .array .int
  | 18 => .array .int
  | 19 => .array .int
  | 20 => .int
  | 21 => .array .int
  | 22 => .int
  | 23 => .array .int
  | 24 => .array .int
  | 25 => .int
  | 26 => .array .int
  | 27 => .array .int
  | _ => .array .int
abbrev wsX60 : List Cond := u_ws RX6 TX6 29
theorem nmX6 : ∀ a, a < 29 → ∀ b, b < 29 → a ≠ b → (TX6 a).2.1 ≠ (TX6 b).2.1 := by decide +kernel
theorem tyX6_ok : ∀ k, k < 29 → parseFieldDescriptor (TX6 k).2.2.1 = some (tyX6 k) := by decide +kernel
abbrev cX6_init : ByteArray := prog_8_method_1_code
def yX6_init : MethodName := ⟨RX6, "<init>", "(II)V"⟩
abbrev cX6_thrown : ByteArray := prog_8_method_2_code
def yX6_thrown : MethodName := ⟨RX6, "thrown", "()I"⟩
abbrev cX6_mod : ByteArray := prog_8_method_3_code
def yX6_mod : MethodName := ⟨RX6, "mod", "(J)I"⟩
abbrev cX6_inverse : ByteArray := prog_8_method_4_code
def yX6_inverse : MethodName := ⟨RX6, "inverse", "(I)I"⟩
abbrev cX6_put : ByteArray := prog_8_method_5_code
def yX6_put : MethodName := ⟨RX6, "put", "(II)V"⟩
abbrev cX6_minus : ByteArray := prog_8_method_6_code
def yX6_minus : MethodName := ⟨RX6, "minus", "(III)V"⟩
abbrev cX6_exchange : ByteArray := prog_8_method_7_code
def yX6_exchange : MethodName := ⟨RX6, "exchange", "(II)V"⟩
abbrev cX6_rank : ByteArray := prog_8_method_8_code
def yX6_rank : MethodName := ⟨RX6, "rank", "()I"⟩
abbrev cX6_isNode : ByteArray := prog_8_method_9_code
def yX6_isNode : MethodName := ⟨RX6, "isNode", "(I)Z"⟩
abbrev cX6_clearDraft : ByteArray := prog_8_method_10_code
def yX6_clearDraft : MethodName := ⟨RX6, "clearDraft", "()V"⟩
abbrev cX6_term : ByteArray := prog_8_method_11_code
def yX6_term : MethodName := ⟨RX6, "term", "(II)V"⟩
abbrev cX6_edge : ByteArray := prog_8_method_12_code
def yX6_edge : MethodName := ⟨RX6, "edge", "(IIII)I"⟩
abbrev cX6_entry : ByteArray := prog_8_method_13_code
def yX6_entry : MethodName := ⟨RX6, "entry", "(I)V"⟩
abbrev cX6_formValue : ByteArray := prog_8_method_14_code
def yX6_formValue : MethodName := ⟨RX6, "formValue", "(I)I"⟩
abbrev cX6_change : ByteArray := prog_8_method_15_code
def yX6_change : MethodName := ⟨RX6, "change", "(II)V"⟩
abbrev cX6_layPoints : ByteArray := prog_8_method_16_code
def yX6_layPoints : MethodName := ⟨RX6, "layPoints", "(I)V"⟩
abbrev cX6_meet : ByteArray := prog_8_method_17_code
def yX6_meet : MethodName := ⟨RX6, "meet", "(II)V"⟩
abbrev cX6_pass : ByteArray := prog_8_method_18_code
def yX6_pass : MethodName := ⟨RX6, "pass", "(III)V"⟩
abbrev cX6_readEquations : ByteArray := prog_8_method_19_code
def yX6_readEquations : MethodName := ⟨RX6, "readEquations", "(I)V"⟩
abbrev cX6_analyse : ByteArray := prog_8_method_20_code
def yX6_analyse : MethodName := ⟨RX6, "analyse", "()I"⟩
abbrev cX6_asked : ByteArray := prog_8_method_21_code
def yX6_asked : MethodName := ⟨RX6, "asked", "(I)I"⟩
abbrev cX6_points : ByteArray := prog_8_method_22_code
def yX6_points : MethodName := ⟨RX6, "points", "(I)I"⟩
abbrev cX6_point : ByteArray := prog_8_method_23_code
def yX6_point : MethodName := ⟨RX6, "point", "(III)I"⟩
abbrev cX6_equations : ByteArray := prog_8_method_24_code
def yX6_equations : MethodName := ⟨RX6, "equations", "(I)I"⟩
abbrev cX6_coefficient : ByteArray := prog_8_method_25_code
def yX6_coefficient : MethodName := ⟨RX6, "coefficient", "(III)I"⟩
abbrev cX6_holds : ByteArray := prog_8_method_26_code
def yX6_holds : MethodName := ⟨RX6, "holds", "(I)Z"⟩
abbrev cX6_begin : ByteArray := prog_8_method_27_code
def yX6_begin : MethodName := ⟨RX6, "begin", "(II)V"⟩
abbrev cX6_go : ByteArray := prog_8_method_28_code
def yX6_go : MethodName := ⟨RX6, "go", "(II)Z"⟩
abbrev cX6_at : ByteArray := prog_8_method_29_code
def yX6_at : MethodName := ⟨RX6, "at", "(I)I"⟩
abbrev cX6_note : ByteArray := prog_8_method_30_code
def yX6_note : MethodName := ⟨RX6, "note", "(I)I"⟩
abbrev cX6_noteAll : ByteArray := prog_8_method_31_code
def yX6_noteAll : MethodName := ⟨RX6, "noteAll", "()I"⟩
abbrev cX6_forget : ByteArray := prog_8_method_32_code
def yX6_forget : MethodName := ⟨RX6, "forget", "()I"⟩
abbrev cX6_layNotes : ByteArray := prog_8_method_33_code
def yX6_layNotes : MethodName := ⟨RX6, "layNotes", "(I)V"⟩
abbrev cX6_layBefore : ByteArray := prog_8_method_34_code
def yX6_layBefore : MethodName := ⟨RX6, "layBefore", "(III)V"⟩
abbrev cX6_follows : ByteArray := prog_8_method_35_code
def yX6_follows : MethodName := ⟨RX6, "follows", "(II)Z"⟩
abbrev cX6_sound : ByteArray := prog_8_method_36_code
def yX6_sound : MethodName := ⟨RX6, "sound", "()Z"⟩
def RJx145de : String := "java/io/Serializable"
def TJx145de : u_T := fun k => match k with
  | _ => ("", "", "", false)
def tyJx145de : Nat → FieldType := fun k => match k with
  | _ => .int
abbrev wsJx145de0 : List Cond := u_ws RJx145de TJx145de 0
theorem nmJx145de : ∀ a, a < 0 → ∀ b, b < 0 → a ≠ b → (TJx145de a).2.1 ≠ (TJx145de b).2.1 := by decide +kernel
theorem tyJx145de_ok : ∀ k, k < 0 → parseFieldDescriptor (TJx145de k).2.2.1 = some (tyJx145de k) := by decide +kernel
def RJ9 : String := "java/lang/Math"
def TJ9 : u_T := fun k => match k with
  | _ => ("", "", "", false)
def tyJ9 : Nat → FieldType := fun k => match k with
  | _ => .int
abbrev wsJ90 : List Cond := u_ws RJ9 TJ9 0
theorem nmJ9 : ∀ a, a < 0 → ∀ b, b < 0 → a ≠ b → (TJ9 a).2.1 ≠ (TJ9 b).2.1 := by decide +kernel
theorem tyJ9_ok : ∀ k, k < 0 → parseFieldDescriptor (TJ9 k).2.2.1 = some (tyJ9 k) := by decide +kernel
abbrev cJ9_floorMod_7cf53 : ByteArray := prog_13_method_50_code
def yJ9_floorMod_7cf53 : MethodName := ⟨RJ9, "floorMod", "(II)I"⟩
abbrev cJ9_max_7cf53 : ByteArray := prog_13_method_65_code
def yJ9_max_7cf53 : MethodName := ⟨RJ9, "max", "(II)I"⟩
abbrev cJ9_min_7cf53 : ByteArray := prog_13_method_69_code
def yJ9_min_7cf53 : MethodName := ⟨RJ9, "min", "(II)I"⟩
def RJ0 : String := "java/lang/String"
def TJ0 : u_T := fun k => match k with
  | _ => ("", "", "", false)
def tyJ0 : Nat → FieldType := fun k => match k with
  | _ => .int
abbrev wsJ00 : List Cond := u_ws RJ0 TJ0 0
theorem nmJ0 : ∀ a, a < 0 → ∀ b, b < 0 → a ≠ b → (TJ0 a).2.1 ≠ (TJ0 b).2.1 := by decide +kernel
theorem tyJ0_ok : ∀ k, k < 0 → parseFieldDescriptor (TJ0 k).2.2.1 = some (tyJ0 k) := by decide +kernel
def RJ10 : String := "java/lang/System"
def TJ10 : u_T := fun k => match k with
  | _ => ("", "", "", false)
def tyJ10 : Nat → FieldType := fun k => match k with
  | _ => .int
abbrev wsJ100 : List Cond := u_ws RJ10 TJ10 0
theorem nmJ10 : ∀ a, a < 0 → ∀ b, b < 0 → a ≠ b → (TJ10 a).2.1 ≠ (TJ10 b).2.1 := by decide +kernel
theorem tyJ10_ok : ∀ k, k < 0 → parseFieldDescriptor (TJ10 k).2.2.1 = some (tyJ10 k) := by decide +kernel
def RJ7 : String := "java/util/Arrays"
def TJ7 : u_T := fun k => match k with
  | _ => ("", "", "", false)
def tyJ7 : Nat → FieldType := fun k => match k with
  | _ => .int
abbrev wsJ70 : List Cond := u_ws RJ7 TJ7 0
theorem nmJ7 : ∀ a, a < 0 → ∀ b, b < 0 → a ≠ b → (TJ7 a).2.1 ≠ (TJ7 b).2.1 := by decide +kernel
theorem tyJ7_ok : ∀ k, k < 0 → parseFieldDescriptor (TJ7 k).2.2.1 = some (tyJ7 k) := by decide +kernel
abbrev cJ7_fill_53178 : ByteArray := prog_19_method_103_code
def yJ7_fill_53178 : MethodName := ⟨RJ7, "fill", "([II)V"⟩
def RL : String := "AffineHullsLaw"
abbrev cL_cell : ByteArray := method_2_code
def yL_cell : MethodName := ⟨RL, "cell", "([II)I"⟩
abbrev cL_term : ByteArray := method_3_code
def yL_term : MethodName := ⟨RL, "term", "(LAffineHulls;II)I"⟩
abbrev cL_edge : ByteArray := method_4_code
def yL_edge : MethodName := ⟨RL, "edge", "(LAffineHulls;IIII[J)I"⟩
abbrev cL_entry : ByteArray := method_5_code
def yL_entry : MethodName := ⟨RL, "entry", "(LAffineHulls;I)I"⟩
abbrev cL_points : ByteArray := method_6_code
def yL_points : MethodName := ⟨RL, "points", "(LAffineHulls;I[J)I"⟩
abbrev cL_point : ByteArray := method_7_code
def yL_point : MethodName := ⟨RL, "point", "(LAffineHulls;III[J)I"⟩
abbrev cL_equations : ByteArray := method_8_code
def yL_equations : MethodName := ⟨RL, "equations", "(LAffineHulls;I[J)I"⟩
abbrev cL_coefficient : ByteArray := method_9_code
def yL_coefficient : MethodName := ⟨RL, "coefficient", "(LAffineHulls;III[J)I"⟩
abbrev cL_holds : ByteArray := method_10_code
def yL_holds : MethodName := ⟨RL, "holds", "(LAffineHulls;I[J)I"⟩
abbrev cL_begin : ByteArray := method_11_code
def yL_begin : MethodName := ⟨RL, "begin", "(LAffineHulls;II)I"⟩
abbrev cL_go : ByteArray := method_12_code
def yL_go : MethodName := ⟨RL, "go", "(LAffineHulls;II[J)I"⟩
abbrev cL_at : ByteArray := method_13_code
def yL_at : MethodName := ⟨RL, "at", "(LAffineHulls;I[J)I"⟩
abbrev cL_note : ByteArray := method_14_code
def yL_note : MethodName := ⟨RL, "note", "(LAffineHulls;I[J)I"⟩
abbrev cL_noteAll : ByteArray := method_15_code
def yL_noteAll : MethodName := ⟨RL, "noteAll", "(LAffineHulls;[J)I"⟩
abbrev cL_law : ByteArray := code
def yL_law : MethodName := ⟨RL, "law", "([I)Z"⟩
def wsX0_init : List Cond := .code yX0_init cX0_init 2 none :: ([.methodLink RX0 3 objectInit, .instanceMethod objectInit, .code objectInit ⟨#[0xb1]⟩ 1 none, .arrayClass .int, .fieldLink RX0 9 "AffineHulls$Edge" "form" "[I"] ++ wsX00)
def wsX5_copy : List Cond := .code yX5_copy cX5_copy 2 none :: ([.methodLink RX5 277 arraycopyName, .native arraycopyName, .static arraycopyName, .initialized "java/lang/System"])
def wsX0_set : List Cond := .code yX0_set cX0_set 6 none :: ([.fieldLink RX0 15 "AffineHulls$Edge" "from" "I", .fieldLink RX0 19 "AffineHulls$Edge" "to" "I", .fieldLink RX0 22 "AffineHulls$Edge" "kind" "I", .fieldLink RX0 25 "AffineHulls$Edge" "variable" "I", .fieldLink RX0 9 "AffineHulls$Edge" "form" "[I", .static yX5_copy, .initialized RX5, .code yX5_copy cX5_copy 2 none, .methodLink RX5 277 arraycopyName, .native arraycopyName, .static arraycopyName, .initialized "java/lang/System"] ++ wsX00)
def wsX5_valueOf : List Cond := .code yX5_valueOf cX5_valueOf 5 (some .int) :: ([.constantLong RX5 275 (65521)])
def wsX0_isOpen : List Cond := .code yX0_isOpen cX0_isOpen 2 (some .boolean) :: ([.fieldLink RX0 22 "AffineHulls$Edge" "kind" "I", .fieldLink RX0 9 "AffineHulls$Edge" "form" "[I", .static yX5_valueOf, .initialized RX5, .code yX5_valueOf cX5_valueOf 5 (some .int), .constantLong RX5 275 (65521)] ++ wsX00)
def wsX0_step : List Cond := .code yX0_step cX0_step 3 none :: ([.fieldLink RX0 22 "AffineHulls$Edge" "kind" "I", .fieldLink RX0 25 "AffineHulls$Edge" "variable" "I", .fieldLink RX0 9 "AffineHulls$Edge" "form" "[I", .static yX5_valueOf, .initialized RX5, .code yX5_valueOf cX5_valueOf 5 (some .int), .constantLong RX5 275 (65521)] ++ wsX00)
def wsX5_addMultiple : List Cond := .code yX5_addMultiple cX5_addMultiple 4 none :: ([.constantLong RX5 275 (65521)])
def wsJ9_floorMod_7cf53 : List Cond := .code yJ9_floorMod_7cf53 cJ9_floorMod_7cf53 3 (some .int) :: ([])
def wsX5_number : List Cond := .code yX5_number cX5_number 1 (some .int) :: ([.constant RX5 271 (65521), .methodLink RX5 272 yJ9_floorMod_7cf53, .static yJ9_floorMod_7cf53, .initialized RJ9, .code yJ9_floorMod_7cf53 cJ9_floorMod_7cf53 3 (some .int)])
def wsX0_stepBack : List Cond := .code yX0_stepBack cX0_stepBack 4 none :: ([.fieldLink RX0 22 "AffineHulls$Edge" "kind" "I", .fieldLink RX0 25 "AffineHulls$Edge" "variable" "I", .fieldLink RX0 9 "AffineHulls$Edge" "form" "[I", .static yX5_addMultiple, .initialized RX5, .code yX5_addMultiple cX5_addMultiple 4 none, .constantLong RX5 275 (65521), .static yX5_number, .code yX5_number cX5_number 1 (some .int), .constant RX5 271 (65521), .methodLink RX5 272 yJ9_floorMod_7cf53, .static yJ9_floorMod_7cf53, .initialized RJ9, .code yJ9_floorMod_7cf53 cJ9_floorMod_7cf53 3 (some .int)] ++ wsX00)
def wsX4_init : List Cond := .code yX4_init cX4_init 2 none :: ([.methodLink RX4 3 objectInit, .instanceMethod objectInit, .code objectInit ⟨#[0xb1]⟩ 1 none, .classLink RX4 9 "[[I", .arrayClass .int, .fieldLink RX4 11 "AffineHulls$Span" "kept" "[[I", .arrayClass .boolean, .fieldLink RX4 16 "AffineHulls$Span" "taken" "[Z", .fieldLink RX4 20 "AffineHulls$Span" "rest" "[I"] ++ wsX40)
def wsX1_init : List Cond := .code yX1_init cX1_init 2 none :: ([.methodLink RX1 1 objectInit, .instanceMethod objectInit, .code objectInit ⟨#[0xb1]⟩ 1 none, .classLink RX1 7 RX4, .instantiable RX4 3, .initialized RX4, .fieldLink RX1 12 "AffineHulls$Hull" "span" "LAffineHulls$Span;", .arrayClass .int, .fieldLink RX1 18 "AffineHulls$Hull" "members" "[I", .methodLink RX1 9 yX4_init, .instanceMethod yX4_init, .code yX4_init cX4_init 2 none, .methodLink RX4 3 objectInit, .classLink RX4 9 "[[I", .fieldLink RX4 11 "AffineHulls$Span" "kept" "[[I", .arrayClass .boolean, .fieldLink RX4 16 "AffineHulls$Span" "taken" "[Z", .fieldLink RX4 20 "AffineHulls$Span" "rest" "[I"] ++ wsX40 ++ wsX10)
def wsX4_clear : List Cond := .code yX4_clear cX4_clear 2 none :: ([.fieldLink RX4 16 "AffineHulls$Span" "taken" "[Z"] ++ wsX40)
def wsX1_clear : List Cond := .code yX1_clear cX1_clear 1 none :: ([.fieldLink RX1 12 "AffineHulls$Hull" "span" "LAffineHulls$Span;", .fieldLink RX1 25 "AffineHulls$Hull" "pointCount" "I", .methodLink RX1 22 yX4_clear, .instanceMethod yX4_clear, .selects RX4 yX4_clear yX4_clear, .initialized RX4, .code yX4_clear cX4_clear 2 none, .fieldLink RX4 16 "AffineHulls$Span" "taken" "[Z"] ++ wsX10 ++ wsX40)
def wsX1_equationCount : List Cond := .code yX1_equationCount cX1_equationCount 1 (some .int) :: ([.fieldLink RX1 18 "AffineHulls$Hull" "members" "[I", .fieldLink RX1 25 "AffineHulls$Hull" "pointCount" "I"] ++ wsX10)
def wsX2_init : List Cond := .code yX2_init cX2_init 2 none :: ([.methodLink RX2 1 objectInit, .instanceMethod objectInit, .code objectInit ⟨#[0xb1]⟩ 1 none, .arrayClass .int, .fieldLink RX2 7 "AffineHulls$Note" "form" "[I"] ++ wsX20)
def wsX2_set : List Cond := .code yX2_set cX2_set 3 none :: ([.fieldLink RX2 13 "AffineHulls$Note" "node" "I", .fieldLink RX2 7 "AffineHulls$Note" "form" "[I", .static yX5_copy, .initialized RX5, .code yX5_copy cX5_copy 2 none, .methodLink RX5 277 arraycopyName, .native arraycopyName, .static arraycopyName, .initialized "java/lang/System"] ++ wsX20)
def wsX3_init : List Cond := .code yX3_init cX3_init 2 none :: ([.methodLink RX3 1 objectInit, .instanceMethod objectInit, .code objectInit ⟨#[0xb1]⟩ 1 none, .arrayClass .int, .fieldLink RX3 7 "AffineHulls$Point" "row" "[I"] ++ wsX30)
def wsX3_set : List Cond := .code yX3_set cX3_set 5 none :: ([.fieldLink RX3 13 "AffineHulls$Point" "node" "I", .fieldLink RX3 17 "AffineHulls$Point" "index" "I", .fieldLink RX3 20 "AffineHulls$Point" "origin" "I", .fieldLink RX3 7 "AffineHulls$Point" "row" "[I", .static yX5_copy, .initialized RX5, .code yX5_copy cX5_copy 2 none, .methodLink RX5 277 arraycopyName, .native arraycopyName, .static arraycopyName, .initialized "java/lang/System"] ++ wsX30)
def wsX4_reduce : List Cond := .code yX4_reduce cX4_reduce 3 none :: ([.fieldLink RX4 20 "AffineHulls$Span" "rest" "[I", .fieldLink RX4 16 "AffineHulls$Span" "taken" "[Z", .constant RX4 46 (65521), .fieldLink RX4 11 "AffineHulls$Span" "kept" "[[I", .static yX5_copy, .initialized RX5, .code yX5_copy cX5_copy 2 none, .methodLink RX5 277 arraycopyName, .native arraycopyName, .static arraycopyName, .initialized "java/lang/System", .static yX5_addMultiple, .code yX5_addMultiple cX5_addMultiple 4 none, .constantLong RX5 275 (65521)] ++ wsX40)
def wsX4_leadingPlace : List Cond := .code yX4_leadingPlace cX4_leadingPlace 2 (some .int) :: ([.fieldLink RX4 20 "AffineHulls$Span" "rest" "[I"] ++ wsX40)
def wsX4_contains : List Cond := .code yX4_contains cX4_contains 2 (some .boolean) :: ([.methodLink RX4 24 yX4_reduce, .instanceMethod yX4_reduce, .selects RX4 yX4_reduce yX4_reduce, .initialized RX4, .code yX4_reduce cX4_reduce 3 none, .fieldLink RX4 20 "AffineHulls$Span" "rest" "[I", .fieldLink RX4 16 "AffineHulls$Span" "taken" "[Z", .constant RX4 46 (65521), .fieldLink RX4 11 "AffineHulls$Span" "kept" "[[I", .static yX5_copy, .initialized RX5, .code yX5_copy cX5_copy 2 none, .methodLink RX5 277 arraycopyName, .native arraycopyName, .static arraycopyName, .initialized "java/lang/System", .static yX5_addMultiple, .code yX5_addMultiple cX5_addMultiple 4 none, .constantLong RX5 275 (65521), .methodLink RX4 28 yX4_leadingPlace, .instanceMethod yX4_leadingPlace, .selects RX4 yX4_leadingPlace yX4_leadingPlace, .code yX4_leadingPlace cX4_leadingPlace 2 (some .int)] ++ wsX40)
def wsJ7_fill_53178 : List Cond := .code yJ7_fill_53178 cJ7_fill_53178 4 none :: ([])
def wsX5_inverse : List Cond := .code yX5_inverse cX5_inverse 6 (some .int) :: ([.constant RX5 283 (65519), .constantLong RX5 275 (65521)])
def wsX4_add_r1 : List Cond := [Cond.fieldLink RX4 11 "AffineHulls$Span" "kept" "[[I", Cond.fieldLink RX4 20 "AffineHulls$Span" "rest" "[I", Cond.fieldLink RX4 16 "AffineHulls$Span" "taken" "[Z", Cond.constant RX4 46 (65521), Cond.methodLink RX4 24 yX4_reduce, Cond.instanceMethod yX4_reduce, Cond.selects RX4 yX4_reduce yX4_reduce, Cond.initialized RX4, Cond.code yX4_reduce cX4_reduce 3 none, Cond.static yX5_copy, Cond.initialized RX5, Cond.code yX5_copy cX5_copy 2 none, Cond.methodLink RX5 277 arraycopyName, Cond.native arraycopyName, Cond.static arraycopyName, Cond.initialized "java/lang/System", Cond.static yX5_addMultiple, Cond.code yX5_addMultiple cX5_addMultiple 4 none, Cond.constantLong RX5 275 (65521), Cond.methodLink RX4 28 yX4_leadingPlace, Cond.instanceMethod yX4_leadingPlace, Cond.selects RX4 yX4_leadingPlace yX4_leadingPlace, Cond.code yX4_leadingPlace cX4_leadingPlace 2 (some .int), Cond.methodLink RX4 32 yJ7_fill_53178]
def wsX4_add_r2 : List Cond := [Cond.static yJ7_fill_53178, Cond.initialized RJ7, Cond.code yJ7_fill_53178 cJ7_fill_53178 4 none, Cond.static yX5_inverse, Cond.code yX5_inverse cX5_inverse 6 (some .int), Cond.constant RX5 283 (65519)]
def wsX4_add : List Cond := .code yX4_add cX4_add 5 (some .boolean) :: ((wsX4_add_r1 ++ wsX4_add_r2) ++ wsX40)
def wsX4_freePlace : List Cond := .code yX4_freePlace cX4_freePlace 4 (some .int) :: ([.fieldLink RX4 16 "AffineHulls$Span" "taken" "[Z"] ++ wsX40)
def wsX4_vanishing : List Cond := .code yX4_vanishing cX4_vanishing 3 (some .int) :: ([.fieldLink RX4 16 "AffineHulls$Span" "taken" "[Z", .fieldLink RX4 11 "AffineHulls$Span" "kept" "[[I", .static yX5_number, .initialized RX5, .code yX5_number cX5_number 1 (some .int), .constant RX5 271 (65521), .methodLink RX5 272 yJ9_floorMod_7cf53, .static yJ9_floorMod_7cf53, .initialized RJ9, .code yJ9_floorMod_7cf53 cJ9_floorMod_7cf53 3 (some .int)] ++ wsX40)
def wsX5_init_r1 : List Cond := [Cond.methodLink RX5 1 objectInit, Cond.instanceMethod objectInit, Cond.code objectInit ⟨#[0xb1]⟩ 1 none, Cond.methodLink RX5 9 Lib.Math.min.name, Cond.static Lib.Math.min.name, Cond.initialized "java/lang/Math", Cond.code Lib.Math.min.name Lib.Math.min.code 2 (some .int), Cond.methodLink RX5 15 Lib.Math.max.name, Cond.static Lib.Math.max.name, Cond.code Lib.Math.max.name Lib.Math.max.code 2 (some .int), Cond.fieldLink RX5 18 "AffineHulls" "variables" "I", Cond.arrayClass .int, Cond.fieldLink RX5 22 "AffineHulls" "draft" "[I", Cond.fieldLink RX5 26 "AffineHulls" "work" "[I", Cond.fieldLink RX5 29 "AffineHulls" "values" "[I", Cond.classLink RX5 32 RX4, Cond.instantiable RX4 3, Cond.initialized RX4, Cond.fieldLink RX5 37 "AffineHulls" "noteSpan" "LAffineHulls$Span;", Cond.classLink RX5 41 RX0, Cond.fieldLink RX5 43 "AffineHulls" "edges" "[LAffineHulls$Edge;", Cond.instantiable RX0 5, Cond.initialized RX0, Cond.classLink RX5 48 RX2]
def wsX5_init_r2 : List Cond := [Cond.fieldLink RX5 50 "AffineHulls" "notes" "[LAffineHulls$Note;", Cond.instantiable RX2 2, Cond.initialized RX2, Cond.classLink RX5 55 RX1, Cond.fieldLink RX5 57 "AffineHulls" "hulls" "[LAffineHulls$Hull;", Cond.instantiable RX1 3, Cond.initialized RX1, Cond.classLink RX5 62 RX3, Cond.fieldLink RX5 64 "AffineHulls" "arrivals" "[LAffineHulls$Point;", Cond.instantiable RX3 4, Cond.initialized RX3, Cond.methodLink RX5 34 yX4_init, Cond.instanceMethod yX4_init, Cond.code yX4_init cX4_init 2 none, Cond.methodLink RX4 3 objectInit, Cond.classLink RX4 9 "[[I", Cond.fieldLink RX4 11 "AffineHulls$Span" "kept" "[[I", Cond.arrayClass .boolean, Cond.fieldLink RX4 16 "AffineHulls$Span" "taken" "[Z", Cond.fieldLink RX4 20 "AffineHulls$Span" "rest" "[I", Cond.methodLink RX5 47 yX0_init, Cond.instanceMethod yX0_init, Cond.code yX0_init cX0_init 2 none, Cond.methodLink RX0 3 objectInit]
def wsX5_init_r3 : List Cond := [Cond.fieldLink RX0 9 "AffineHulls$Edge" "form" "[I", Cond.methodLink RX5 54 yX2_init, Cond.instanceMethod yX2_init, Cond.code yX2_init cX2_init 2 none, Cond.methodLink RX2 1 objectInit, Cond.fieldLink RX2 7 "AffineHulls$Note" "form" "[I", Cond.methodLink RX5 61 yX1_init, Cond.instanceMethod yX1_init, Cond.code yX1_init cX1_init 2 none, Cond.methodLink RX1 1 objectInit, Cond.classLink RX1 7 RX4, Cond.fieldLink RX1 12 "AffineHulls$Hull" "span" "LAffineHulls$Span;", Cond.fieldLink RX1 18 "AffineHulls$Hull" "members" "[I", Cond.methodLink RX1 9 yX4_init, Cond.methodLink RX5 68 yX3_init, Cond.instanceMethod yX3_init, Cond.code yX3_init cX3_init 2 none, Cond.methodLink RX3 1 objectInit, Cond.fieldLink RX3 7 "AffineHulls$Point" "row" "[I"]
def wsX5_init : List Cond := .code yX5_init cX5_init 6 none :: ((wsX5_init_r1 ++ (wsX5_init_r2 ++ wsX5_init_r3)) ++ wsX50 ++ wsX40 ++ wsX00 ++ wsX20 ++ wsX10 ++ wsX30)
def wsX5_requirePlace : List Cond := .code yX5_requirePlace cX5_requirePlace 2 none :: ([.classLink RX5 79 "java/lang/IllegalArgumentException", .initialized "java/lang/IllegalArgumentException", .fieldLink RX5 18 "AffineHulls" "variables" "I"] ++ wsX50 ++ (vx_atS RX5 83 "java/lang/IllegalArgumentException" ["java/lang/RuntimeException", "java/lang/Exception"]).filter goodWord)
def wsX5_term : List Cond := .code yX5_term cX5_term 3 none :: ([.fieldLink RX5 22 "AffineHulls" "draft" "[I", .methodLink RX5 69 yX5_requirePlace, .instanceMethod yX5_requirePlace, .selects RX5 yX5_requirePlace yX5_requirePlace, .initialized RX5, .code yX5_requirePlace cX5_requirePlace 2 none, .classLink RX5 79 "java/lang/IllegalArgumentException", .initialized "java/lang/IllegalArgumentException", .fieldLink RX5 18 "AffineHulls" "variables" "I", .methodLink RX5 72 yX5_number, .static yX5_number, .code yX5_number cX5_number 1 (some .int), .constant RX5 271 (65521), .methodLink RX5 272 yJ9_floorMod_7cf53, .static yJ9_floorMod_7cf53, .initialized RJ9, .code yJ9_floorMod_7cf53 cJ9_floorMod_7cf53 3 (some .int)] ++ wsX50 ++ (vx_atS RX5 83 "java/lang/IllegalArgumentException" ["java/lang/RuntimeException", "java/lang/Exception"]).filter goodWord)
def wsX5_requireNode : List Cond := .code yX5_requireNode cX5_requireNode 2 none :: ([.classLink RX5 79 "java/lang/IllegalArgumentException", .initialized "java/lang/IllegalArgumentException", .fieldLink RX5 57 "AffineHulls" "hulls" "[LAffineHulls$Hull;"] ++ wsX50 ++ (vx_atS RX5 83 "java/lang/IllegalArgumentException" ["java/lang/RuntimeException", "java/lang/Exception"]).filter goodWord)
def wsX5_requireVariable : List Cond := .code yX5_requireVariable cX5_requireVariable 2 none :: ([.classLink RX5 79 "java/lang/IllegalArgumentException", .initialized "java/lang/IllegalArgumentException", .fieldLink RX5 18 "AffineHulls" "variables" "I"] ++ wsX50 ++ (vx_atS RX5 83 "java/lang/IllegalArgumentException" ["java/lang/RuntimeException", "java/lang/Exception"]).filter goodWord)
def wsX5_clearDraft : List Cond := .code yX5_clearDraft cX5_clearDraft 1 none :: ([.fieldLink RX5 22 "AffineHulls" "draft" "[I", .methodLink RX5 215 yJ7_fill_53178, .static yJ7_fill_53178, .initialized RJ7, .code yJ7_fill_53178 cJ7_fill_53178 4 none] ++ wsX50)
def wsX5_edge_r1 : List Cond := [Cond.classLink RX5 79 "java/lang/IllegalArgumentException", Cond.initialized "java/lang/IllegalArgumentException", Cond.classLink RX5 92 "java/lang/IllegalStateException", Cond.initialized "java/lang/IllegalStateException", Cond.fieldLink RX5 89 "AffineHulls" "edgeCount" "I", Cond.fieldLink RX5 43 "AffineHulls" "edges" "[LAffineHulls$Edge;", Cond.fieldLink RX5 22 "AffineHulls" "draft" "[I", Cond.fieldLink RX5 104 "AffineHulls" "analysed" "Z", Cond.methodLink RX5 76 yX5_requireNode, Cond.instanceMethod yX5_requireNode, Cond.selects RX5 yX5_requireNode yX5_requireNode, Cond.initialized RX5, Cond.code yX5_requireNode cX5_requireNode 2 none, Cond.fieldLink RX5 57 "AffineHulls" "hulls" "[LAffineHulls$Hull;", Cond.methodLink RX5 86 yX5_requireVariable, Cond.instanceMethod yX5_requireVariable, Cond.selects RX5 yX5_requireVariable yX5_requireVariable, Cond.code yX5_requireVariable cX5_requireVariable 2 none, Cond.fieldLink RX5 18 "AffineHulls" "variables" "I", Cond.methodLink RX5 97 yX0_set, Cond.instanceMethod yX0_set, Cond.selects RX0 yX0_set yX0_set, Cond.initialized RX0, Cond.code yX0_set cX0_set 6 none]
def wsX5_edge_r2 : List Cond := [Cond.fieldLink RX0 15 "AffineHulls$Edge" "from" "I", Cond.fieldLink RX0 19 "AffineHulls$Edge" "to" "I", Cond.fieldLink RX0 22 "AffineHulls$Edge" "kind" "I", Cond.fieldLink RX0 25 "AffineHulls$Edge" "variable" "I", Cond.fieldLink RX0 9 "AffineHulls$Edge" "form" "[I", Cond.static yX5_copy, Cond.code yX5_copy cX5_copy 2 none, Cond.methodLink RX5 277 arraycopyName, Cond.native arraycopyName, Cond.static arraycopyName, Cond.initialized "java/lang/System", Cond.methodLink RX5 101 yX5_clearDraft, Cond.instanceMethod yX5_clearDraft, Cond.selects RX5 yX5_clearDraft yX5_clearDraft, Cond.code yX5_clearDraft cX5_clearDraft 1 none, Cond.methodLink RX5 215 yJ7_fill_53178, Cond.static yJ7_fill_53178, Cond.initialized RJ7, Cond.code yJ7_fill_53178 cJ7_fill_53178 4 none]
def wsX5_edge : List Cond := .code yX5_edge cX5_edge 5 (some .int) :: ((wsX5_edge_r1 ++ wsX5_edge_r2) ++ wsX50 ++ wsX00 ++ (vx_atS RX5 83 "java/lang/IllegalArgumentException" ["java/lang/RuntimeException", "java/lang/Exception"]).filter goodWord ++ (vx_atS RX5 96 "java/lang/IllegalStateException" ["java/lang/RuntimeException", "java/lang/Exception"]).filter goodWord)
def wsX5_entry : List Cond := .code yX5_entry cX5_entry 2 none :: ([.fieldLink RX5 108 "AffineHulls" "entryNode" "I", .fieldLink RX5 111 "AffineHulls" "place" "I", .fieldLink RX5 104 "AffineHulls" "analysed" "Z", .methodLink RX5 76 yX5_requireNode, .instanceMethod yX5_requireNode, .selects RX5 yX5_requireNode yX5_requireNode, .initialized RX5, .code yX5_requireNode cX5_requireNode 2 none, .classLink RX5 79 "java/lang/IllegalArgumentException", .initialized "java/lang/IllegalArgumentException", .fieldLink RX5 57 "AffineHulls" "hulls" "[LAffineHulls$Hull;"] ++ wsX50 ++ (vx_atS RX5 83 "java/lang/IllegalArgumentException" ["java/lang/RuntimeException", "java/lang/Exception"]).filter goodWord)
def wsX5_forgetPoints : List Cond := .code yX5_forgetPoints cX5_forgetPoints 2 none :: ([.fieldLink RX5 120 "AffineHulls" "arrivalCount" "I", .fieldLink RX5 57 "AffineHulls" "hulls" "[LAffineHulls$Hull;", .methodLink RX5 220 yX1_clear, .instanceMethod yX1_clear, .selects RX1 yX1_clear yX1_clear, .initialized RX1, .code yX1_clear cX1_clear 1 none, .fieldLink RX1 12 "AffineHulls$Hull" "span" "LAffineHulls$Span;", .fieldLink RX1 25 "AffineHulls$Hull" "pointCount" "I", .methodLink RX1 22 yX4_clear, .instanceMethod yX4_clear, .selects RX4 yX4_clear yX4_clear, .initialized RX4, .code yX4_clear cX4_clear 2 none, .fieldLink RX4 16 "AffineHulls$Span" "taken" "[Z"] ++ wsX50 ++ wsX10 ++ wsX40)
def wsX5_addPoint_r1 : List Cond := [Cond.fieldLink RX5 57 "AffineHulls" "hulls" "[LAffineHulls$Hull;", Cond.fieldLink RX5 120 "AffineHulls" "arrivalCount" "I", Cond.fieldLink RX5 64 "AffineHulls" "arrivals" "[LAffineHulls$Point;", Cond.fieldLink RX5 153 "AffineHulls$Hull" "span" "LAffineHulls$Span;", Cond.fieldLink RX5 130 "AffineHulls$Hull" "pointCount" "I", Cond.fieldLink RX5 138 "AffineHulls$Hull" "members" "[I", Cond.methodLink RX5 242 yX4_add, Cond.instanceMethod yX4_add, Cond.selects RX4 yX4_add yX4_add, Cond.initialized RX4, Cond.code yX4_add cX4_add 5 (some .boolean), Cond.fieldLink RX4 11 "AffineHulls$Span" "kept" "[[I", Cond.fieldLink RX4 20 "AffineHulls$Span" "rest" "[I", Cond.fieldLink RX4 16 "AffineHulls$Span" "taken" "[Z", Cond.constant RX4 46 (65521), Cond.methodLink RX4 24 yX4_reduce, Cond.instanceMethod yX4_reduce, Cond.selects RX4 yX4_reduce yX4_reduce, Cond.code yX4_reduce cX4_reduce 3 none, Cond.static yX5_copy, Cond.initialized RX5, Cond.code yX5_copy cX5_copy 2 none, Cond.methodLink RX5 277 arraycopyName, Cond.native arraycopyName]
def wsX5_addPoint_r2 : List Cond := [Cond.static arraycopyName, Cond.initialized "java/lang/System", Cond.static yX5_addMultiple, Cond.code yX5_addMultiple cX5_addMultiple 4 none, Cond.constantLong RX5 275 (65521), Cond.methodLink RX4 28 yX4_leadingPlace, Cond.instanceMethod yX4_leadingPlace, Cond.selects RX4 yX4_leadingPlace yX4_leadingPlace, Cond.code yX4_leadingPlace cX4_leadingPlace 2 (some .int), Cond.methodLink RX4 32 yJ7_fill_53178, Cond.static yJ7_fill_53178, Cond.initialized RJ7, Cond.code yJ7_fill_53178 cJ7_fill_53178 4 none, Cond.static yX5_inverse, Cond.code yX5_inverse cX5_inverse 6 (some .int), Cond.constant RX5 283 (65519), Cond.methodLink RX5 245 yX3_set, Cond.instanceMethod yX3_set, Cond.selects RX3 yX3_set yX3_set, Cond.initialized RX3, Cond.code yX3_set cX3_set 5 none, Cond.fieldLink RX3 13 "AffineHulls$Point" "node" "I", Cond.fieldLink RX3 17 "AffineHulls$Point" "index" "I", Cond.fieldLink RX3 20 "AffineHulls$Point" "origin" "I"]
def wsX5_addPoint_r3 : List Cond := [Cond.fieldLink RX3 7 "AffineHulls$Point" "row" "[I"]
def wsX5_addPoint : List Cond := .code yX5_addPoint cX5_addPoint 5 none :: ((wsX5_addPoint_r1 ++ (wsX5_addPoint_r2 ++ wsX5_addPoint_r3)) ++ wsX50 ++ wsX10 ++ wsX40 ++ wsX30)
def wsX5_addFirstPoints_r1 : List Cond := [Cond.fieldLink RX5 18 "AffineHulls" "variables" "I", Cond.fieldLink RX5 26 "AffineHulls" "work" "[I", Cond.fieldLink RX5 108 "AffineHulls" "entryNode" "I", Cond.methodLink RX5 215 yJ7_fill_53178, Cond.static yJ7_fill_53178, Cond.initialized RJ7, Cond.code yJ7_fill_53178 cJ7_fill_53178 4 none, Cond.methodLink RX5 223 yX5_addPoint, Cond.instanceMethod yX5_addPoint, Cond.selects RX5 yX5_addPoint yX5_addPoint, Cond.initialized RX5, Cond.code yX5_addPoint cX5_addPoint 5 none, Cond.fieldLink RX5 57 "AffineHulls" "hulls" "[LAffineHulls$Hull;", Cond.fieldLink RX5 120 "AffineHulls" "arrivalCount" "I", Cond.fieldLink RX5 64 "AffineHulls" "arrivals" "[LAffineHulls$Point;", Cond.fieldLink RX5 153 "AffineHulls$Hull" "span" "LAffineHulls$Span;", Cond.fieldLink RX5 130 "AffineHulls$Hull" "pointCount" "I", Cond.fieldLink RX5 138 "AffineHulls$Hull" "members" "[I", Cond.methodLink RX5 242 yX4_add, Cond.instanceMethod yX4_add, Cond.selects RX4 yX4_add yX4_add, Cond.initialized RX4, Cond.code yX4_add cX4_add 5 (some .boolean), Cond.fieldLink RX4 11 "AffineHulls$Span" "kept" "[[I"]
def wsX5_addFirstPoints_r2 : List Cond := [Cond.fieldLink RX4 20 "AffineHulls$Span" "rest" "[I", Cond.fieldLink RX4 16 "AffineHulls$Span" "taken" "[Z", Cond.constant RX4 46 (65521), Cond.methodLink RX4 24 yX4_reduce, Cond.instanceMethod yX4_reduce, Cond.selects RX4 yX4_reduce yX4_reduce, Cond.code yX4_reduce cX4_reduce 3 none, Cond.static yX5_copy, Cond.code yX5_copy cX5_copy 2 none, Cond.methodLink RX5 277 arraycopyName, Cond.native arraycopyName, Cond.static arraycopyName, Cond.initialized "java/lang/System", Cond.static yX5_addMultiple, Cond.code yX5_addMultiple cX5_addMultiple 4 none, Cond.constantLong RX5 275 (65521), Cond.methodLink RX4 28 yX4_leadingPlace, Cond.instanceMethod yX4_leadingPlace, Cond.selects RX4 yX4_leadingPlace yX4_leadingPlace, Cond.code yX4_leadingPlace cX4_leadingPlace 2 (some .int), Cond.methodLink RX4 32 yJ7_fill_53178, Cond.static yX5_inverse, Cond.code yX5_inverse cX5_inverse 6 (some .int), Cond.constant RX5 283 (65519)]
def wsX5_addFirstPoints_r3 : List Cond := [Cond.methodLink RX5 245 yX3_set, Cond.instanceMethod yX3_set, Cond.selects RX3 yX3_set yX3_set, Cond.initialized RX3, Cond.code yX3_set cX3_set 5 none, Cond.fieldLink RX3 13 "AffineHulls$Point" "node" "I", Cond.fieldLink RX3 17 "AffineHulls$Point" "index" "I", Cond.fieldLink RX3 20 "AffineHulls$Point" "origin" "I", Cond.fieldLink RX3 7 "AffineHulls$Point" "row" "[I"]
def wsX5_addFirstPoints : List Cond := .code yX5_addFirstPoints cX5_addFirstPoints 2 none :: ((wsX5_addFirstPoints_r1 ++ (wsX5_addFirstPoints_r2 ++ wsX5_addFirstPoints_r3)) ++ wsX50 ++ wsX10 ++ wsX40 ++ wsX30)
def wsX5_follow_r1 : List Cond := [Cond.fieldLink RX5 144 "AffineHulls$Point" "row" "[I", Cond.fieldLink RX5 26 "AffineHulls" "work" "[I", Cond.fieldLink RX5 43 "AffineHulls" "edges" "[LAffineHulls$Edge;", Cond.fieldLink RX5 227 "AffineHulls$Point" "node" "I", Cond.fieldLink RX5 239 "AffineHulls$Point" "index" "I", Cond.fieldLink RX5 181 "AffineHulls$Edge" "to" "I", Cond.methodLink RX5 235 yX5_copy, Cond.static yX5_copy, Cond.initialized RX5, Cond.code yX5_copy cX5_copy 2 none, Cond.methodLink RX5 277 arraycopyName, Cond.native arraycopyName, Cond.static arraycopyName, Cond.initialized "java/lang/System", Cond.methodLink RX5 177 yX0_step, Cond.instanceMethod yX0_step, Cond.selects RX0 yX0_step yX0_step, Cond.initialized RX0, Cond.code yX0_step cX0_step 3 none, Cond.fieldLink RX0 22 "AffineHulls$Edge" "kind" "I", Cond.fieldLink RX0 25 "AffineHulls$Edge" "variable" "I", Cond.fieldLink RX0 9 "AffineHulls$Edge" "form" "[I", Cond.static yX5_valueOf, Cond.code yX5_valueOf cX5_valueOf 5 (some .int)]
def wsX5_follow_r2 : List Cond := [Cond.constantLong RX5 275 (65521), Cond.methodLink RX5 223 yX5_addPoint, Cond.instanceMethod yX5_addPoint, Cond.selects RX5 yX5_addPoint yX5_addPoint, Cond.code yX5_addPoint cX5_addPoint 5 none, Cond.fieldLink RX5 57 "AffineHulls" "hulls" "[LAffineHulls$Hull;", Cond.fieldLink RX5 120 "AffineHulls" "arrivalCount" "I", Cond.fieldLink RX5 64 "AffineHulls" "arrivals" "[LAffineHulls$Point;", Cond.fieldLink RX5 153 "AffineHulls$Hull" "span" "LAffineHulls$Span;", Cond.fieldLink RX5 130 "AffineHulls$Hull" "pointCount" "I", Cond.fieldLink RX5 138 "AffineHulls$Hull" "members" "[I", Cond.methodLink RX5 242 yX4_add, Cond.instanceMethod yX4_add, Cond.selects RX4 yX4_add yX4_add, Cond.initialized RX4, Cond.code yX4_add cX4_add 5 (some .boolean), Cond.fieldLink RX4 11 "AffineHulls$Span" "kept" "[[I", Cond.fieldLink RX4 20 "AffineHulls$Span" "rest" "[I", Cond.fieldLink RX4 16 "AffineHulls$Span" "taken" "[Z", Cond.constant RX4 46 (65521), Cond.methodLink RX4 24 yX4_reduce, Cond.instanceMethod yX4_reduce, Cond.selects RX4 yX4_reduce yX4_reduce, Cond.code yX4_reduce cX4_reduce 3 none]
def wsX5_follow_r3 : List Cond := [Cond.static yX5_addMultiple, Cond.code yX5_addMultiple cX5_addMultiple 4 none, Cond.methodLink RX4 28 yX4_leadingPlace, Cond.instanceMethod yX4_leadingPlace, Cond.selects RX4 yX4_leadingPlace yX4_leadingPlace, Cond.code yX4_leadingPlace cX4_leadingPlace 2 (some .int), Cond.methodLink RX4 32 yJ7_fill_53178, Cond.static yJ7_fill_53178, Cond.initialized RJ7, Cond.code yJ7_fill_53178 cJ7_fill_53178 4 none, Cond.static yX5_inverse, Cond.code yX5_inverse cX5_inverse 6 (some .int), Cond.constant RX5 283 (65519), Cond.methodLink RX5 245 yX3_set, Cond.instanceMethod yX3_set, Cond.selects RX3 yX3_set yX3_set, Cond.initialized RX3, Cond.code yX3_set cX3_set 5 none, Cond.fieldLink RX3 13 "AffineHulls$Point" "node" "I", Cond.fieldLink RX3 17 "AffineHulls$Point" "index" "I", Cond.fieldLink RX3 20 "AffineHulls$Point" "origin" "I", Cond.fieldLink RX3 7 "AffineHulls$Point" "row" "[I"]
def wsX5_follow : List Cond := .code yX5_follow cX5_follow 5 none :: ((wsX5_follow_r1 ++ (wsX5_follow_r2 ++ wsX5_follow_r3)) ++ wsX30 ++ wsX50 ++ wsX00 ++ wsX10 ++ wsX40)
def wsX5_workOff_r1 : List Cond := [Cond.fieldLink RX5 89 "AffineHulls" "edgeCount" "I", Cond.fieldLink RX5 43 "AffineHulls" "edges" "[LAffineHulls$Edge;", Cond.fieldLink RX5 168 "AffineHulls$Edge" "from" "I", Cond.fieldLink RX5 227 "AffineHulls$Point" "node" "I", Cond.fieldLink RX5 232 "AffineHulls$Edge" "kind" "I", Cond.methodLink RX5 228 yX5_follow, Cond.instanceMethod yX5_follow, Cond.selects RX5 yX5_follow yX5_follow, Cond.initialized RX5, Cond.code yX5_follow cX5_follow 5 none, Cond.fieldLink RX5 144 "AffineHulls$Point" "row" "[I", Cond.fieldLink RX5 26 "AffineHulls" "work" "[I", Cond.fieldLink RX5 239 "AffineHulls$Point" "index" "I", Cond.fieldLink RX5 181 "AffineHulls$Edge" "to" "I", Cond.methodLink RX5 235 yX5_copy, Cond.static yX5_copy, Cond.code yX5_copy cX5_copy 2 none, Cond.methodLink RX5 277 arraycopyName, Cond.native arraycopyName, Cond.static arraycopyName, Cond.initialized "java/lang/System", Cond.methodLink RX5 177 yX0_step, Cond.instanceMethod yX0_step, Cond.selects RX0 yX0_step yX0_step]
def wsX5_workOff_r2 : List Cond := [Cond.initialized RX0, Cond.code yX0_step cX0_step 3 none, Cond.fieldLink RX0 22 "AffineHulls$Edge" "kind" "I", Cond.fieldLink RX0 25 "AffineHulls$Edge" "variable" "I", Cond.fieldLink RX0 9 "AffineHulls$Edge" "form" "[I", Cond.static yX5_valueOf, Cond.code yX5_valueOf cX5_valueOf 5 (some .int), Cond.constantLong RX5 275 (65521), Cond.methodLink RX5 223 yX5_addPoint, Cond.instanceMethod yX5_addPoint, Cond.selects RX5 yX5_addPoint yX5_addPoint, Cond.code yX5_addPoint cX5_addPoint 5 none, Cond.fieldLink RX5 57 "AffineHulls" "hulls" "[LAffineHulls$Hull;", Cond.fieldLink RX5 120 "AffineHulls" "arrivalCount" "I", Cond.fieldLink RX5 64 "AffineHulls" "arrivals" "[LAffineHulls$Point;", Cond.fieldLink RX5 153 "AffineHulls$Hull" "span" "LAffineHulls$Span;", Cond.fieldLink RX5 130 "AffineHulls$Hull" "pointCount" "I", Cond.fieldLink RX5 138 "AffineHulls$Hull" "members" "[I", Cond.methodLink RX5 242 yX4_add, Cond.instanceMethod yX4_add, Cond.selects RX4 yX4_add yX4_add, Cond.initialized RX4, Cond.code yX4_add cX4_add 5 (some .boolean), Cond.fieldLink RX4 11 "AffineHulls$Span" "kept" "[[I"]
def wsX5_workOff_r3 : List Cond := [Cond.fieldLink RX4 20 "AffineHulls$Span" "rest" "[I", Cond.fieldLink RX4 16 "AffineHulls$Span" "taken" "[Z", Cond.constant RX4 46 (65521), Cond.methodLink RX4 24 yX4_reduce, Cond.instanceMethod yX4_reduce, Cond.selects RX4 yX4_reduce yX4_reduce, Cond.code yX4_reduce cX4_reduce 3 none, Cond.static yX5_addMultiple, Cond.code yX5_addMultiple cX5_addMultiple 4 none, Cond.methodLink RX4 28 yX4_leadingPlace, Cond.instanceMethod yX4_leadingPlace, Cond.selects RX4 yX4_leadingPlace yX4_leadingPlace, Cond.code yX4_leadingPlace cX4_leadingPlace 2 (some .int), Cond.methodLink RX4 32 yJ7_fill_53178, Cond.static yJ7_fill_53178, Cond.initialized RJ7, Cond.code yJ7_fill_53178 cJ7_fill_53178 4 none, Cond.static yX5_inverse, Cond.code yX5_inverse cX5_inverse 6 (some .int), Cond.constant RX5 283 (65519), Cond.methodLink RX5 245 yX3_set, Cond.instanceMethod yX3_set, Cond.selects RX3 yX3_set yX3_set, Cond.initialized RX3]
def wsX5_workOff_r4 : List Cond := [Cond.code yX3_set cX3_set 5 none, Cond.fieldLink RX3 13 "AffineHulls$Point" "node" "I", Cond.fieldLink RX3 17 "AffineHulls$Point" "index" "I", Cond.fieldLink RX3 20 "AffineHulls$Point" "origin" "I", Cond.fieldLink RX3 7 "AffineHulls$Point" "row" "[I"]
def wsX5_workOff : List Cond := .code yX5_workOff cX5_workOff 3 none :: ((wsX5_workOff_r1 ++ (wsX5_workOff_r2 ++ (wsX5_workOff_r3 ++ wsX5_workOff_r4))) ++ wsX50 ++ wsX00 ++ wsX30 ++ wsX10 ++ wsX40)
def wsX5_analyse_r1 : List Cond := [Cond.fieldLink RX5 64 "AffineHulls" "arrivals" "[LAffineHulls$Point;", Cond.fieldLink RX5 120 "AffineHulls" "arrivalCount" "I", Cond.fieldLink RX5 104 "AffineHulls" "analysed" "Z", Cond.methodLink RX5 114 yX5_forgetPoints, Cond.instanceMethod yX5_forgetPoints, Cond.selects RX5 yX5_forgetPoints yX5_forgetPoints, Cond.initialized RX5, Cond.code yX5_forgetPoints cX5_forgetPoints 2 none, Cond.fieldLink RX5 57 "AffineHulls" "hulls" "[LAffineHulls$Hull;", Cond.methodLink RX5 220 yX1_clear, Cond.instanceMethod yX1_clear, Cond.selects RX1 yX1_clear yX1_clear, Cond.initialized RX1, Cond.code yX1_clear cX1_clear 1 none, Cond.fieldLink RX1 12 "AffineHulls$Hull" "span" "LAffineHulls$Span;", Cond.fieldLink RX1 25 "AffineHulls$Hull" "pointCount" "I", Cond.methodLink RX1 22 yX4_clear, Cond.instanceMethod yX4_clear, Cond.selects RX4 yX4_clear yX4_clear, Cond.initialized RX4, Cond.code yX4_clear cX4_clear 2 none, Cond.fieldLink RX4 16 "AffineHulls$Span" "taken" "[Z", Cond.methodLink RX5 117 yX5_addFirstPoints, Cond.instanceMethod yX5_addFirstPoints]
def wsX5_analyse_r2 : List Cond := [Cond.selects RX5 yX5_addFirstPoints yX5_addFirstPoints, Cond.code yX5_addFirstPoints cX5_addFirstPoints 2 none, Cond.fieldLink RX5 18 "AffineHulls" "variables" "I", Cond.fieldLink RX5 26 "AffineHulls" "work" "[I", Cond.fieldLink RX5 108 "AffineHulls" "entryNode" "I", Cond.methodLink RX5 215 yJ7_fill_53178, Cond.static yJ7_fill_53178, Cond.initialized RJ7, Cond.code yJ7_fill_53178 cJ7_fill_53178 4 none, Cond.methodLink RX5 223 yX5_addPoint, Cond.instanceMethod yX5_addPoint, Cond.selects RX5 yX5_addPoint yX5_addPoint, Cond.code yX5_addPoint cX5_addPoint 5 none, Cond.fieldLink RX5 153 "AffineHulls$Hull" "span" "LAffineHulls$Span;", Cond.fieldLink RX5 130 "AffineHulls$Hull" "pointCount" "I", Cond.fieldLink RX5 138 "AffineHulls$Hull" "members" "[I", Cond.methodLink RX5 242 yX4_add, Cond.instanceMethod yX4_add, Cond.selects RX4 yX4_add yX4_add, Cond.code yX4_add cX4_add 5 (some .boolean), Cond.fieldLink RX4 11 "AffineHulls$Span" "kept" "[[I", Cond.fieldLink RX4 20 "AffineHulls$Span" "rest" "[I", Cond.constant RX4 46 (65521), Cond.methodLink RX4 24 yX4_reduce]
def wsX5_analyse_r3 : List Cond := [Cond.instanceMethod yX4_reduce, Cond.selects RX4 yX4_reduce yX4_reduce, Cond.code yX4_reduce cX4_reduce 3 none, Cond.static yX5_copy, Cond.code yX5_copy cX5_copy 2 none, Cond.methodLink RX5 277 arraycopyName, Cond.native arraycopyName, Cond.static arraycopyName, Cond.initialized "java/lang/System", Cond.static yX5_addMultiple, Cond.code yX5_addMultiple cX5_addMultiple 4 none, Cond.constantLong RX5 275 (65521), Cond.methodLink RX4 28 yX4_leadingPlace, Cond.instanceMethod yX4_leadingPlace, Cond.selects RX4 yX4_leadingPlace yX4_leadingPlace, Cond.code yX4_leadingPlace cX4_leadingPlace 2 (some .int), Cond.methodLink RX4 32 yJ7_fill_53178, Cond.static yX5_inverse, Cond.code yX5_inverse cX5_inverse 6 (some .int), Cond.constant RX5 283 (65519), Cond.methodLink RX5 245 yX3_set, Cond.instanceMethod yX3_set, Cond.selects RX3 yX3_set yX3_set, Cond.initialized RX3]
def wsX5_analyse_r4 : List Cond := [Cond.code yX3_set cX3_set 5 none, Cond.fieldLink RX3 13 "AffineHulls$Point" "node" "I", Cond.fieldLink RX3 17 "AffineHulls$Point" "index" "I", Cond.fieldLink RX3 20 "AffineHulls$Point" "origin" "I", Cond.fieldLink RX3 7 "AffineHulls$Point" "row" "[I", Cond.methodLink RX5 123 yX5_workOff, Cond.instanceMethod yX5_workOff, Cond.selects RX5 yX5_workOff yX5_workOff, Cond.code yX5_workOff cX5_workOff 3 none, Cond.fieldLink RX5 89 "AffineHulls" "edgeCount" "I", Cond.fieldLink RX5 43 "AffineHulls" "edges" "[LAffineHulls$Edge;", Cond.fieldLink RX5 168 "AffineHulls$Edge" "from" "I", Cond.fieldLink RX5 227 "AffineHulls$Point" "node" "I", Cond.fieldLink RX5 232 "AffineHulls$Edge" "kind" "I", Cond.methodLink RX5 228 yX5_follow, Cond.instanceMethod yX5_follow, Cond.selects RX5 yX5_follow yX5_follow, Cond.code yX5_follow cX5_follow 5 none, Cond.fieldLink RX5 144 "AffineHulls$Point" "row" "[I", Cond.fieldLink RX5 239 "AffineHulls$Point" "index" "I", Cond.fieldLink RX5 181 "AffineHulls$Edge" "to" "I", Cond.methodLink RX5 235 yX5_copy, Cond.methodLink RX5 177 yX0_step, Cond.instanceMethod yX0_step]
def wsX5_analyse_r5 : List Cond := [Cond.selects RX0 yX0_step yX0_step, Cond.initialized RX0, Cond.code yX0_step cX0_step 3 none, Cond.fieldLink RX0 22 "AffineHulls$Edge" "kind" "I", Cond.fieldLink RX0 25 "AffineHulls$Edge" "variable" "I", Cond.fieldLink RX0 9 "AffineHulls$Edge" "form" "[I", Cond.static yX5_valueOf, Cond.code yX5_valueOf cX5_valueOf 5 (some .int)]
def wsX5_analyse : List Cond := .code yX5_analyse cX5_analyse 2 (some .int) :: ((wsX5_analyse_r1 ++ (wsX5_analyse_r2 ++ (wsX5_analyse_r3 ++ (wsX5_analyse_r4 ++ wsX5_analyse_r5)))) ++ wsX50 ++ wsX10 ++ wsX40 ++ wsX30 ++ wsX00)
def wsX5_requireAnalysed : List Cond := .code yX5_requireAnalysed cX5_requireAnalysed 1 none :: ([.classLink RX5 92 "java/lang/IllegalStateException", .initialized "java/lang/IllegalStateException", .fieldLink RX5 104 "AffineHulls" "analysed" "Z"] ++ wsX50 ++ (vx_atS RX5 96 "java/lang/IllegalStateException" ["java/lang/RuntimeException", "java/lang/Exception"]).filter goodWord)
def wsX5_points : List Cond := .code yX5_points cX5_points 2 (some .int) :: ([.fieldLink RX5 57 "AffineHulls" "hulls" "[LAffineHulls$Hull;", .fieldLink RX5 130 "AffineHulls$Hull" "pointCount" "I", .methodLink RX5 76 yX5_requireNode, .instanceMethod yX5_requireNode, .selects RX5 yX5_requireNode yX5_requireNode, .initialized RX5, .code yX5_requireNode cX5_requireNode 2 none, .classLink RX5 79 "java/lang/IllegalArgumentException", .initialized "java/lang/IllegalArgumentException", .methodLink RX5 127 yX5_requireAnalysed, .instanceMethod yX5_requireAnalysed, .selects RX5 yX5_requireAnalysed yX5_requireAnalysed, .code yX5_requireAnalysed cX5_requireAnalysed 1 none, .classLink RX5 92 "java/lang/IllegalStateException", .initialized "java/lang/IllegalStateException", .fieldLink RX5 104 "AffineHulls" "analysed" "Z"] ++ wsX50 ++ wsX10 ++ (vx_atS RX5 83 "java/lang/IllegalArgumentException" ["java/lang/RuntimeException", "java/lang/Exception"]).filter goodWord ++ (vx_atS RX5 96 "java/lang/IllegalStateException" ["java/lang/RuntimeException", "java/lang/Exception"]).filter goodWord)
def wsX5_point_r1 : List Cond := [Cond.classLink RX5 133 "java/lang/IndexOutOfBoundsException", Cond.initialized "java/lang/IndexOutOfBoundsException", Cond.fieldLink RX5 57 "AffineHulls" "hulls" "[LAffineHulls$Hull;", Cond.fieldLink RX5 130 "AffineHulls$Hull" "pointCount" "I", Cond.fieldLink RX5 64 "AffineHulls" "arrivals" "[LAffineHulls$Point;", Cond.fieldLink RX5 138 "AffineHulls$Hull" "members" "[I", Cond.fieldLink RX5 141 "AffineHulls$Point" "origin" "I", Cond.fieldLink RX5 144 "AffineHulls$Point" "row" "[I", Cond.methodLink RX5 76 yX5_requireNode, Cond.instanceMethod yX5_requireNode, Cond.selects RX5 yX5_requireNode yX5_requireNode, Cond.initialized RX5, Cond.code yX5_requireNode cX5_requireNode 2 none, Cond.classLink RX5 79 "java/lang/IllegalArgumentException", Cond.initialized "java/lang/IllegalArgumentException", Cond.methodLink RX5 69 yX5_requirePlace, Cond.instanceMethod yX5_requirePlace, Cond.selects RX5 yX5_requirePlace yX5_requirePlace, Cond.code yX5_requirePlace cX5_requirePlace 2 none, Cond.fieldLink RX5 18 "AffineHulls" "variables" "I", Cond.methodLink RX5 127 yX5_requireAnalysed, Cond.instanceMethod yX5_requireAnalysed, Cond.selects RX5 yX5_requireAnalysed yX5_requireAnalysed, Cond.code yX5_requireAnalysed cX5_requireAnalysed 1 none]
def wsX5_point_r2 : List Cond := [Cond.classLink RX5 92 "java/lang/IllegalStateException", Cond.initialized "java/lang/IllegalStateException", Cond.fieldLink RX5 104 "AffineHulls" "analysed" "Z"]
def wsX5_point : List Cond := .code yX5_point cX5_point 6 (some .int) :: ((wsX5_point_r1 ++ wsX5_point_r2) ++ wsX50 ++ wsX10 ++ wsX30 ++ (vx_atS RX5 137 "java/lang/IndexOutOfBoundsException" ["java/lang/RuntimeException", "java/lang/Exception"]).filter goodWord ++ (vx_atS RX5 83 "java/lang/IllegalArgumentException" ["java/lang/RuntimeException", "java/lang/Exception"]).filter goodWord ++ (vx_atS RX5 96 "java/lang/IllegalStateException" ["java/lang/RuntimeException", "java/lang/Exception"]).filter goodWord)
def wsX5_equations : List Cond := .code yX5_equations cX5_equations 2 (some .int) :: ([.fieldLink RX5 57 "AffineHulls" "hulls" "[LAffineHulls$Hull;", .methodLink RX5 76 yX5_requireNode, .instanceMethod yX5_requireNode, .selects RX5 yX5_requireNode yX5_requireNode, .initialized RX5, .code yX5_requireNode cX5_requireNode 2 none, .classLink RX5 79 "java/lang/IllegalArgumentException", .initialized "java/lang/IllegalArgumentException", .methodLink RX5 127 yX5_requireAnalysed, .instanceMethod yX5_requireAnalysed, .selects RX5 yX5_requireAnalysed yX5_requireAnalysed, .code yX5_requireAnalysed cX5_requireAnalysed 1 none, .classLink RX5 92 "java/lang/IllegalStateException", .initialized "java/lang/IllegalStateException", .fieldLink RX5 104 "AffineHulls" "analysed" "Z", .methodLink RX5 147 yX1_equationCount, .instanceMethod yX1_equationCount, .selects RX1 yX1_equationCount yX1_equationCount, .initialized RX1, .code yX1_equationCount cX1_equationCount 1 (some .int), .fieldLink RX1 18 "AffineHulls$Hull" "members" "[I", .fieldLink RX1 25 "AffineHulls$Hull" "pointCount" "I"] ++ wsX50 ++ wsX10 ++ (vx_atS RX5 83 "java/lang/IllegalArgumentException" ["java/lang/RuntimeException", "java/lang/Exception"]).filter goodWord ++ (vx_atS RX5 96 "java/lang/IllegalStateException" ["java/lang/RuntimeException", "java/lang/Exception"]).filter goodWord)
def wsX5_coefficient_r1 : List Cond := [Cond.classLink RX5 133 "java/lang/IndexOutOfBoundsException", Cond.initialized "java/lang/IndexOutOfBoundsException", Cond.fieldLink RX5 57 "AffineHulls" "hulls" "[LAffineHulls$Hull;", Cond.fieldLink RX5 153 "AffineHulls$Hull" "span" "LAffineHulls$Span;", Cond.methodLink RX5 76 yX5_requireNode, Cond.instanceMethod yX5_requireNode, Cond.selects RX5 yX5_requireNode yX5_requireNode, Cond.initialized RX5, Cond.code yX5_requireNode cX5_requireNode 2 none, Cond.classLink RX5 79 "java/lang/IllegalArgumentException", Cond.initialized "java/lang/IllegalArgumentException", Cond.methodLink RX5 69 yX5_requirePlace, Cond.instanceMethod yX5_requirePlace, Cond.selects RX5 yX5_requirePlace yX5_requirePlace, Cond.code yX5_requirePlace cX5_requirePlace 2 none, Cond.fieldLink RX5 18 "AffineHulls" "variables" "I", Cond.methodLink RX5 127 yX5_requireAnalysed, Cond.instanceMethod yX5_requireAnalysed, Cond.selects RX5 yX5_requireAnalysed yX5_requireAnalysed, Cond.code yX5_requireAnalysed cX5_requireAnalysed 1 none, Cond.classLink RX5 92 "java/lang/IllegalStateException", Cond.initialized "java/lang/IllegalStateException", Cond.fieldLink RX5 104 "AffineHulls" "analysed" "Z", Cond.methodLink RX5 147 yX1_equationCount]
def wsX5_coefficient_r2 : List Cond := [Cond.instanceMethod yX1_equationCount, Cond.selects RX1 yX1_equationCount yX1_equationCount, Cond.initialized RX1, Cond.code yX1_equationCount cX1_equationCount 1 (some .int), Cond.fieldLink RX1 18 "AffineHulls$Hull" "members" "[I", Cond.fieldLink RX1 25 "AffineHulls$Hull" "pointCount" "I", Cond.methodLink RX5 156 yX4_freePlace, Cond.instanceMethod yX4_freePlace, Cond.selects RX4 yX4_freePlace yX4_freePlace, Cond.initialized RX4, Cond.code yX4_freePlace cX4_freePlace 4 (some .int), Cond.fieldLink RX4 16 "AffineHulls$Span" "taken" "[Z", Cond.methodLink RX5 159 yX4_vanishing, Cond.instanceMethod yX4_vanishing, Cond.selects RX4 yX4_vanishing yX4_vanishing, Cond.code yX4_vanishing cX4_vanishing 3 (some .int), Cond.fieldLink RX4 11 "AffineHulls$Span" "kept" "[[I", Cond.static yX5_number, Cond.code yX5_number cX5_number 1 (some .int), Cond.constant RX5 271 (65521), Cond.methodLink RX5 272 yJ9_floorMod_7cf53, Cond.static yJ9_floorMod_7cf53, Cond.initialized RJ9, Cond.code yJ9_floorMod_7cf53 cJ9_floorMod_7cf53 3 (some .int)]
def wsX5_coefficient : List Cond := .code yX5_coefficient cX5_coefficient 5 (some .int) :: ((wsX5_coefficient_r1 ++ wsX5_coefficient_r2) ++ wsX50 ++ wsX10 ++ wsX40 ++ (vx_atS RX5 137 "java/lang/IndexOutOfBoundsException" ["java/lang/RuntimeException", "java/lang/Exception"]).filter goodWord ++ (vx_atS RX5 83 "java/lang/IllegalArgumentException" ["java/lang/RuntimeException", "java/lang/Exception"]).filter goodWord ++ (vx_atS RX5 96 "java/lang/IllegalStateException" ["java/lang/RuntimeException", "java/lang/Exception"]).filter goodWord)
def wsX5_holdsAtPoints : List Cond := .code yX5_holdsAtPoints cX5_holdsAtPoints 3 (some .boolean) :: ([.fieldLink RX5 130 "AffineHulls$Hull" "pointCount" "I", .fieldLink RX5 22 "AffineHulls" "draft" "[I", .fieldLink RX5 64 "AffineHulls" "arrivals" "[LAffineHulls$Point;", .fieldLink RX5 138 "AffineHulls$Hull" "members" "[I", .fieldLink RX5 144 "AffineHulls$Point" "row" "[I", .methodLink RX5 248 yX5_valueOf, .static yX5_valueOf, .initialized RX5, .code yX5_valueOf cX5_valueOf 5 (some .int), .constantLong RX5 275 (65521)] ++ wsX10 ++ wsX50 ++ wsX30)
def wsX5_holds_r1 : List Cond := [Cond.fieldLink RX5 57 "AffineHulls" "hulls" "[LAffineHulls$Hull;", Cond.methodLink RX5 76 yX5_requireNode, Cond.instanceMethod yX5_requireNode, Cond.selects RX5 yX5_requireNode yX5_requireNode, Cond.initialized RX5, Cond.code yX5_requireNode cX5_requireNode 2 none, Cond.classLink RX5 79 "java/lang/IllegalArgumentException", Cond.initialized "java/lang/IllegalArgumentException", Cond.methodLink RX5 127 yX5_requireAnalysed, Cond.instanceMethod yX5_requireAnalysed, Cond.selects RX5 yX5_requireAnalysed yX5_requireAnalysed, Cond.code yX5_requireAnalysed cX5_requireAnalysed 1 none, Cond.classLink RX5 92 "java/lang/IllegalStateException", Cond.initialized "java/lang/IllegalStateException", Cond.fieldLink RX5 104 "AffineHulls" "analysed" "Z", Cond.methodLink RX5 162 yX5_holdsAtPoints, Cond.instanceMethod yX5_holdsAtPoints, Cond.selects RX5 yX5_holdsAtPoints yX5_holdsAtPoints, Cond.code yX5_holdsAtPoints cX5_holdsAtPoints 3 (some .boolean), Cond.fieldLink RX5 130 "AffineHulls$Hull" "pointCount" "I", Cond.fieldLink RX5 22 "AffineHulls" "draft" "[I", Cond.fieldLink RX5 64 "AffineHulls" "arrivals" "[LAffineHulls$Point;", Cond.fieldLink RX5 138 "AffineHulls$Hull" "members" "[I", Cond.fieldLink RX5 144 "AffineHulls$Point" "row" "[I"]
def wsX5_holds_r2 : List Cond := [Cond.methodLink RX5 248 yX5_valueOf, Cond.static yX5_valueOf, Cond.code yX5_valueOf cX5_valueOf 5 (some .int), Cond.constantLong RX5 275 (65521), Cond.methodLink RX5 101 yX5_clearDraft, Cond.instanceMethod yX5_clearDraft, Cond.selects RX5 yX5_clearDraft yX5_clearDraft, Cond.code yX5_clearDraft cX5_clearDraft 1 none, Cond.methodLink RX5 215 yJ7_fill_53178, Cond.static yJ7_fill_53178, Cond.initialized RJ7, Cond.code yJ7_fill_53178 cJ7_fill_53178 4 none]
def wsX5_holds : List Cond := .code yX5_holds cX5_holds 3 (some .boolean) :: ((wsX5_holds_r1 ++ wsX5_holds_r2) ++ wsX50 ++ wsX10 ++ wsX30 ++ (vx_atS RX5 83 "java/lang/IllegalArgumentException" ["java/lang/RuntimeException", "java/lang/Exception"]).filter goodWord ++ (vx_atS RX5 96 "java/lang/IllegalStateException" ["java/lang/RuntimeException", "java/lang/Exception"]).filter goodWord)
def wsX5_begin : List Cond := .code yX5_begin cX5_begin 3 none :: ([.fieldLink RX5 29 "AffineHulls" "values" "[I", .fieldLink RX5 108 "AffineHulls" "entryNode" "I", .fieldLink RX5 111 "AffineHulls" "place" "I", .methodLink RX5 86 yX5_requireVariable, .instanceMethod yX5_requireVariable, .selects RX5 yX5_requireVariable yX5_requireVariable, .initialized RX5, .code yX5_requireVariable cX5_requireVariable 2 none, .classLink RX5 79 "java/lang/IllegalArgumentException", .initialized "java/lang/IllegalArgumentException", .fieldLink RX5 18 "AffineHulls" "variables" "I", .methodLink RX5 72 yX5_number, .static yX5_number, .code yX5_number cX5_number 1 (some .int), .constant RX5 271 (65521), .methodLink RX5 272 yJ9_floorMod_7cf53, .static yJ9_floorMod_7cf53, .initialized RJ9, .code yJ9_floorMod_7cf53 cJ9_floorMod_7cf53 3 (some .int)] ++ wsX50 ++ (vx_atS RX5 83 "java/lang/IllegalArgumentException" ["java/lang/RuntimeException", "java/lang/Exception"]).filter goodWord)
def wsX5_go_r1 : List Cond := [Cond.classLink RX5 79 "java/lang/IllegalArgumentException", Cond.initialized "java/lang/IllegalArgumentException", Cond.fieldLink RX5 89 "AffineHulls" "edgeCount" "I", Cond.fieldLink RX5 43 "AffineHulls" "edges" "[LAffineHulls$Edge;", Cond.fieldLink RX5 168 "AffineHulls$Edge" "from" "I", Cond.fieldLink RX5 111 "AffineHulls" "place" "I", Cond.fieldLink RX5 29 "AffineHulls" "values" "[I", Cond.fieldLink RX5 181 "AffineHulls$Edge" "to" "I", Cond.methodLink RX5 173 yX0_isOpen, Cond.instanceMethod yX0_isOpen, Cond.selects RX0 yX0_isOpen yX0_isOpen, Cond.initialized RX0, Cond.code yX0_isOpen cX0_isOpen 2 (some .boolean), Cond.fieldLink RX0 22 "AffineHulls$Edge" "kind" "I", Cond.fieldLink RX0 9 "AffineHulls$Edge" "form" "[I", Cond.static yX5_valueOf, Cond.initialized RX5, Cond.code yX5_valueOf cX5_valueOf 5 (some .int), Cond.constantLong RX5 275 (65521), Cond.methodLink RX5 72 yX5_number, Cond.static yX5_number, Cond.code yX5_number cX5_number 1 (some .int), Cond.constant RX5 271 (65521), Cond.methodLink RX5 272 yJ9_floorMod_7cf53]
def wsX5_go_r2 : List Cond := [Cond.static yJ9_floorMod_7cf53, Cond.initialized RJ9, Cond.code yJ9_floorMod_7cf53 cJ9_floorMod_7cf53 3 (some .int), Cond.methodLink RX5 177 yX0_step, Cond.instanceMethod yX0_step, Cond.selects RX0 yX0_step yX0_step, Cond.code yX0_step cX0_step 3 none, Cond.fieldLink RX0 25 "AffineHulls$Edge" "variable" "I"]
def wsX5_go : List Cond := .code yX5_go cX5_go 4 (some .boolean) :: ((wsX5_go_r1 ++ wsX5_go_r2) ++ wsX50 ++ wsX00 ++ (vx_atS RX5 83 "java/lang/IllegalArgumentException" ["java/lang/RuntimeException", "java/lang/Exception"]).filter goodWord)
def wsX5_at : List Cond := .code yX5_at cX5_at 2 (some .int) :: ([.fieldLink RX5 111 "AffineHulls" "place" "I", .fieldLink RX5 29 "AffineHulls" "values" "[I", .methodLink RX5 69 yX5_requirePlace, .instanceMethod yX5_requirePlace, .selects RX5 yX5_requirePlace yX5_requirePlace, .initialized RX5, .code yX5_requirePlace cX5_requirePlace 2 none, .classLink RX5 79 "java/lang/IllegalArgumentException", .initialized "java/lang/IllegalArgumentException", .fieldLink RX5 18 "AffineHulls" "variables" "I"] ++ wsX50 ++ (vx_atS RX5 83 "java/lang/IllegalArgumentException" ["java/lang/RuntimeException", "java/lang/Exception"]).filter goodWord)
def wsX5_note_r1 : List Cond := [Cond.classLink RX5 92 "java/lang/IllegalStateException", Cond.initialized "java/lang/IllegalStateException", Cond.fieldLink RX5 184 "AffineHulls" "noteCount" "I", Cond.fieldLink RX5 50 "AffineHulls" "notes" "[LAffineHulls$Note;", Cond.fieldLink RX5 22 "AffineHulls" "draft" "[I", Cond.methodLink RX5 76 yX5_requireNode, Cond.instanceMethod yX5_requireNode, Cond.selects RX5 yX5_requireNode yX5_requireNode, Cond.initialized RX5, Cond.code yX5_requireNode cX5_requireNode 2 none, Cond.classLink RX5 79 "java/lang/IllegalArgumentException", Cond.initialized "java/lang/IllegalArgumentException", Cond.fieldLink RX5 57 "AffineHulls" "hulls" "[LAffineHulls$Hull;", Cond.methodLink RX5 189 yX2_set, Cond.instanceMethod yX2_set, Cond.selects RX2 yX2_set yX2_set, Cond.initialized RX2, Cond.code yX2_set cX2_set 3 none, Cond.fieldLink RX2 13 "AffineHulls$Note" "node" "I", Cond.fieldLink RX2 7 "AffineHulls$Note" "form" "[I", Cond.static yX5_copy, Cond.code yX5_copy cX5_copy 2 none, Cond.methodLink RX5 277 arraycopyName, Cond.native arraycopyName]
def wsX5_note_r2 : List Cond := [Cond.static arraycopyName, Cond.initialized "java/lang/System", Cond.methodLink RX5 101 yX5_clearDraft, Cond.instanceMethod yX5_clearDraft, Cond.selects RX5 yX5_clearDraft yX5_clearDraft, Cond.code yX5_clearDraft cX5_clearDraft 1 none, Cond.methodLink RX5 215 yJ7_fill_53178, Cond.static yJ7_fill_53178, Cond.initialized RJ7, Cond.code yJ7_fill_53178 cJ7_fill_53178 4 none]
def wsX5_note : List Cond := .code yX5_note cX5_note 2 (some .int) :: ((wsX5_note_r1 ++ wsX5_note_r2) ++ wsX50 ++ wsX20 ++ (vx_atS RX5 96 "java/lang/IllegalStateException" ["java/lang/RuntimeException", "java/lang/Exception"]).filter goodWord ++ (vx_atS RX5 83 "java/lang/IllegalArgumentException" ["java/lang/RuntimeException", "java/lang/Exception"]).filter goodWord)
def wsX5_noteEquations_r1 : List Cond := [Cond.fieldLink RX5 57 "AffineHulls" "hulls" "[LAffineHulls$Hull;", Cond.fieldLink RX5 153 "AffineHulls$Hull" "span" "LAffineHulls$Span;", Cond.fieldLink RX5 18 "AffineHulls" "variables" "I", Cond.fieldLink RX5 26 "AffineHulls" "work" "[I", Cond.fieldLink RX5 50 "AffineHulls" "notes" "[LAffineHulls$Note;", Cond.fieldLink RX5 184 "AffineHulls" "noteCount" "I", Cond.methodLink RX5 147 yX1_equationCount, Cond.instanceMethod yX1_equationCount, Cond.selects RX1 yX1_equationCount yX1_equationCount, Cond.initialized RX1, Cond.code yX1_equationCount cX1_equationCount 1 (some .int), Cond.fieldLink RX1 18 "AffineHulls$Hull" "members" "[I", Cond.fieldLink RX1 25 "AffineHulls$Hull" "pointCount" "I", Cond.methodLink RX5 156 yX4_freePlace, Cond.instanceMethod yX4_freePlace, Cond.selects RX4 yX4_freePlace yX4_freePlace, Cond.initialized RX4, Cond.code yX4_freePlace cX4_freePlace 4 (some .int), Cond.fieldLink RX4 16 "AffineHulls$Span" "taken" "[Z", Cond.methodLink RX5 159 yX4_vanishing, Cond.instanceMethod yX4_vanishing, Cond.selects RX4 yX4_vanishing yX4_vanishing, Cond.code yX4_vanishing cX4_vanishing 3 (some .int), Cond.fieldLink RX4 11 "AffineHulls$Span" "kept" "[[I"]
def wsX5_noteEquations_r2 : List Cond := [Cond.static yX5_number, Cond.initialized RX5, Cond.code yX5_number cX5_number 1 (some .int), Cond.constant RX5 271 (65521), Cond.methodLink RX5 272 yJ9_floorMod_7cf53, Cond.static yJ9_floorMod_7cf53, Cond.initialized RJ9, Cond.code yJ9_floorMod_7cf53 cJ9_floorMod_7cf53 3 (some .int), Cond.methodLink RX5 189 yX2_set, Cond.instanceMethod yX2_set, Cond.selects RX2 yX2_set yX2_set, Cond.initialized RX2, Cond.code yX2_set cX2_set 3 none, Cond.fieldLink RX2 13 "AffineHulls$Note" "node" "I", Cond.fieldLink RX2 7 "AffineHulls$Note" "form" "[I", Cond.static yX5_copy, Cond.code yX5_copy cX5_copy 2 none, Cond.methodLink RX5 277 arraycopyName, Cond.native arraycopyName, Cond.static arraycopyName, Cond.initialized "java/lang/System"]
def wsX5_noteEquations : List Cond := .code yX5_noteEquations cX5_noteEquations 7 none :: ((wsX5_noteEquations_r1 ++ wsX5_noteEquations_r2) ++ wsX50 ++ wsX10 ++ wsX40 ++ wsX20)
def wsX5_noteAll_r1 : List Cond := [Cond.classLink RX5 192 "java/lang/UnsupportedOperationException", Cond.initialized "java/lang/UnsupportedOperationException", Cond.fieldLink RX5 57 "AffineHulls" "hulls" "[LAffineHulls$Hull;", Cond.fieldLink RX5 184 "AffineHulls" "noteCount" "I", Cond.methodLink RX5 127 yX5_requireAnalysed, Cond.instanceMethod yX5_requireAnalysed, Cond.selects RX5 yX5_requireAnalysed yX5_requireAnalysed, Cond.initialized RX5, Cond.code yX5_requireAnalysed cX5_requireAnalysed 1 none, Cond.classLink RX5 92 "java/lang/IllegalStateException", Cond.initialized "java/lang/IllegalStateException", Cond.fieldLink RX5 104 "AffineHulls" "analysed" "Z", Cond.methodLink RX5 147 yX1_equationCount, Cond.instanceMethod yX1_equationCount, Cond.selects RX1 yX1_equationCount yX1_equationCount, Cond.initialized RX1, Cond.code yX1_equationCount cX1_equationCount 1 (some .int), Cond.fieldLink RX1 18 "AffineHulls$Hull" "members" "[I", Cond.fieldLink RX1 25 "AffineHulls$Hull" "pointCount" "I", Cond.methodLink RX5 197 yX5_noteEquations, Cond.instanceMethod yX5_noteEquations, Cond.selects RX5 yX5_noteEquations yX5_noteEquations, Cond.code yX5_noteEquations cX5_noteEquations 7 none, Cond.fieldLink RX5 153 "AffineHulls$Hull" "span" "LAffineHulls$Span;"]
def wsX5_noteAll_r2 : List Cond := [Cond.fieldLink RX5 18 "AffineHulls" "variables" "I", Cond.fieldLink RX5 26 "AffineHulls" "work" "[I", Cond.fieldLink RX5 50 "AffineHulls" "notes" "[LAffineHulls$Note;", Cond.methodLink RX5 156 yX4_freePlace, Cond.instanceMethod yX4_freePlace, Cond.selects RX4 yX4_freePlace yX4_freePlace, Cond.initialized RX4, Cond.code yX4_freePlace cX4_freePlace 4 (some .int), Cond.fieldLink RX4 16 "AffineHulls$Span" "taken" "[Z", Cond.methodLink RX5 159 yX4_vanishing, Cond.instanceMethod yX4_vanishing, Cond.selects RX4 yX4_vanishing yX4_vanishing, Cond.code yX4_vanishing cX4_vanishing 3 (some .int), Cond.fieldLink RX4 11 "AffineHulls$Span" "kept" "[[I", Cond.static yX5_number, Cond.code yX5_number cX5_number 1 (some .int), Cond.constant RX5 271 (65521), Cond.methodLink RX5 272 yJ9_floorMod_7cf53, Cond.static yJ9_floorMod_7cf53, Cond.initialized RJ9, Cond.code yJ9_floorMod_7cf53 cJ9_floorMod_7cf53 3 (some .int), Cond.methodLink RX5 189 yX2_set, Cond.instanceMethod yX2_set, Cond.selects RX2 yX2_set yX2_set]
def wsX5_noteAll_r3 : List Cond := [Cond.initialized RX2, Cond.code yX2_set cX2_set 3 none, Cond.fieldLink RX2 13 "AffineHulls$Note" "node" "I", Cond.fieldLink RX2 7 "AffineHulls$Note" "form" "[I", Cond.static yX5_copy, Cond.code yX5_copy cX5_copy 2 none, Cond.methodLink RX5 277 arraycopyName, Cond.native arraycopyName, Cond.static arraycopyName, Cond.initialized "java/lang/System"]
def wsX5_noteAll : List Cond := .code yX5_noteAll cX5_noteAll 3 (some .int) :: ((wsX5_noteAll_r1 ++ (wsX5_noteAll_r2 ++ wsX5_noteAll_r3)) ++ wsX50 ++ wsX10 ++ wsX40 ++ wsX20 ++ (vx_atS RX5 196 "java/lang/UnsupportedOperationException" ["java/lang/RuntimeException", "java/lang/Exception"]).filter goodWord ++ (vx_atS RX5 96 "java/lang/IllegalStateException" ["java/lang/RuntimeException", "java/lang/Exception"]).filter goodWord)
def wsX5_forget : List Cond := .code yX5_forget cX5_forget 2 (some .int) :: ([.fieldLink RX5 184 "AffineHulls" "noteCount" "I"] ++ wsX50)
def wsX5_spanNotesBefore_r1 : List Cond := [Cond.fieldLink RX5 37 "AffineHulls" "noteSpan" "LAffineHulls$Span;", Cond.fieldLink RX5 184 "AffineHulls" "noteCount" "I", Cond.fieldLink RX5 50 "AffineHulls" "notes" "[LAffineHulls$Note;", Cond.fieldLink RX5 200 "AffineHulls$Note" "node" "I", Cond.fieldLink RX5 168 "AffineHulls$Edge" "from" "I", Cond.fieldLink RX5 261 "AffineHulls$Note" "form" "[I", Cond.fieldLink RX5 232 "AffineHulls$Edge" "kind" "I", Cond.fieldLink RX5 264 "AffineHulls$Edge" "form" "[I", Cond.methodLink RX5 260 yX4_clear, Cond.instanceMethod yX4_clear, Cond.selects RX4 yX4_clear yX4_clear, Cond.initialized RX4, Cond.code yX4_clear cX4_clear 2 none, Cond.fieldLink RX4 16 "AffineHulls$Span" "taken" "[Z", Cond.methodLink RX5 242 yX4_add, Cond.instanceMethod yX4_add, Cond.selects RX4 yX4_add yX4_add, Cond.code yX4_add cX4_add 5 (some .boolean), Cond.fieldLink RX4 11 "AffineHulls$Span" "kept" "[[I", Cond.fieldLink RX4 20 "AffineHulls$Span" "rest" "[I", Cond.constant RX4 46 (65521), Cond.methodLink RX4 24 yX4_reduce, Cond.instanceMethod yX4_reduce, Cond.selects RX4 yX4_reduce yX4_reduce]
def wsX5_spanNotesBefore_r2 : List Cond := [Cond.code yX4_reduce cX4_reduce 3 none, Cond.static yX5_copy, Cond.initialized RX5, Cond.code yX5_copy cX5_copy 2 none, Cond.methodLink RX5 277 arraycopyName, Cond.native arraycopyName, Cond.static arraycopyName, Cond.initialized "java/lang/System", Cond.static yX5_addMultiple, Cond.code yX5_addMultiple cX5_addMultiple 4 none, Cond.constantLong RX5 275 (65521), Cond.methodLink RX4 28 yX4_leadingPlace, Cond.instanceMethod yX4_leadingPlace, Cond.selects RX4 yX4_leadingPlace yX4_leadingPlace, Cond.code yX4_leadingPlace cX4_leadingPlace 2 (some .int), Cond.methodLink RX4 32 yJ7_fill_53178, Cond.static yJ7_fill_53178, Cond.initialized RJ7, Cond.code yJ7_fill_53178 cJ7_fill_53178 4 none, Cond.static yX5_inverse, Cond.code yX5_inverse cX5_inverse 6 (some .int), Cond.constant RX5 283 (65519)]
def wsX5_spanNotesBefore : List Cond := .code yX5_spanNotesBefore cX5_spanNotesBefore 3 none :: ((wsX5_spanNotesBefore_r1 ++ wsX5_spanNotesBefore_r2) ++ wsX50 ++ wsX20 ++ wsX00 ++ wsX40)
def wsX5_followsBefore_r1 : List Cond := [Cond.fieldLink RX5 261 "AffineHulls$Note" "form" "[I", Cond.fieldLink RX5 26 "AffineHulls" "work" "[I", Cond.fieldLink RX5 37 "AffineHulls" "noteSpan" "LAffineHulls$Span;", Cond.methodLink RX5 235 yX5_copy, Cond.static yX5_copy, Cond.initialized RX5, Cond.code yX5_copy cX5_copy 2 none, Cond.methodLink RX5 277 arraycopyName, Cond.native arraycopyName, Cond.static arraycopyName, Cond.initialized "java/lang/System", Cond.methodLink RX5 265 yX0_stepBack, Cond.instanceMethod yX0_stepBack, Cond.selects RX0 yX0_stepBack yX0_stepBack, Cond.initialized RX0, Cond.code yX0_stepBack cX0_stepBack 4 none, Cond.fieldLink RX0 22 "AffineHulls$Edge" "kind" "I", Cond.fieldLink RX0 25 "AffineHulls$Edge" "variable" "I", Cond.fieldLink RX0 9 "AffineHulls$Edge" "form" "[I", Cond.static yX5_addMultiple, Cond.code yX5_addMultiple cX5_addMultiple 4 none, Cond.constantLong RX5 275 (65521), Cond.static yX5_number, Cond.code yX5_number cX5_number 1 (some .int)]
def wsX5_followsBefore_r2 : List Cond := [Cond.constant RX5 271 (65521), Cond.methodLink RX5 272 yJ9_floorMod_7cf53, Cond.static yJ9_floorMod_7cf53, Cond.initialized RJ9, Cond.code yJ9_floorMod_7cf53 cJ9_floorMod_7cf53 3 (some .int), Cond.methodLink RX5 268 yX4_contains, Cond.instanceMethod yX4_contains, Cond.selects RX4 yX4_contains yX4_contains, Cond.initialized RX4, Cond.code yX4_contains cX4_contains 2 (some .boolean), Cond.methodLink RX4 24 yX4_reduce, Cond.instanceMethod yX4_reduce, Cond.selects RX4 yX4_reduce yX4_reduce, Cond.code yX4_reduce cX4_reduce 3 none, Cond.fieldLink RX4 20 "AffineHulls$Span" "rest" "[I", Cond.fieldLink RX4 16 "AffineHulls$Span" "taken" "[Z", Cond.constant RX4 46 (65521), Cond.fieldLink RX4 11 "AffineHulls$Span" "kept" "[[I", Cond.methodLink RX4 28 yX4_leadingPlace, Cond.instanceMethod yX4_leadingPlace, Cond.selects RX4 yX4_leadingPlace yX4_leadingPlace, Cond.code yX4_leadingPlace cX4_leadingPlace 2 (some .int)]
def wsX5_followsBefore : List Cond := .code yX5_followsBefore cX5_followsBefore 4 (some .boolean) :: ((wsX5_followsBefore_r1 ++ wsX5_followsBefore_r2) ++ wsX20 ++ wsX50 ++ wsX00 ++ wsX40)
def wsX5_keepsNotes_r1 : List Cond := [Cond.fieldLink RX5 184 "AffineHulls" "noteCount" "I", Cond.fieldLink RX5 50 "AffineHulls" "notes" "[LAffineHulls$Note;", Cond.fieldLink RX5 200 "AffineHulls$Note" "node" "I", Cond.fieldLink RX5 181 "AffineHulls$Edge" "to" "I", Cond.fieldLink RX5 232 "AffineHulls$Edge" "kind" "I", Cond.methodLink RX5 252 yX5_spanNotesBefore, Cond.instanceMethod yX5_spanNotesBefore, Cond.selects RX5 yX5_spanNotesBefore yX5_spanNotesBefore, Cond.initialized RX5, Cond.code yX5_spanNotesBefore cX5_spanNotesBefore 3 none, Cond.fieldLink RX5 37 "AffineHulls" "noteSpan" "LAffineHulls$Span;", Cond.fieldLink RX5 168 "AffineHulls$Edge" "from" "I", Cond.fieldLink RX5 261 "AffineHulls$Note" "form" "[I", Cond.fieldLink RX5 264 "AffineHulls$Edge" "form" "[I", Cond.methodLink RX5 260 yX4_clear, Cond.instanceMethod yX4_clear, Cond.selects RX4 yX4_clear yX4_clear, Cond.initialized RX4, Cond.code yX4_clear cX4_clear 2 none, Cond.fieldLink RX4 16 "AffineHulls$Span" "taken" "[Z", Cond.methodLink RX5 242 yX4_add, Cond.instanceMethod yX4_add, Cond.selects RX4 yX4_add yX4_add, Cond.code yX4_add cX4_add 5 (some .boolean)]
def wsX5_keepsNotes_r2 : List Cond := [Cond.fieldLink RX4 11 "AffineHulls$Span" "kept" "[[I", Cond.fieldLink RX4 20 "AffineHulls$Span" "rest" "[I", Cond.constant RX4 46 (65521), Cond.methodLink RX4 24 yX4_reduce, Cond.instanceMethod yX4_reduce, Cond.selects RX4 yX4_reduce yX4_reduce, Cond.code yX4_reduce cX4_reduce 3 none, Cond.static yX5_copy, Cond.code yX5_copy cX5_copy 2 none, Cond.methodLink RX5 277 arraycopyName, Cond.native arraycopyName, Cond.static arraycopyName, Cond.initialized "java/lang/System", Cond.static yX5_addMultiple, Cond.code yX5_addMultiple cX5_addMultiple 4 none, Cond.constantLong RX5 275 (65521), Cond.methodLink RX4 28 yX4_leadingPlace, Cond.instanceMethod yX4_leadingPlace, Cond.selects RX4 yX4_leadingPlace yX4_leadingPlace, Cond.code yX4_leadingPlace cX4_leadingPlace 2 (some .int), Cond.methodLink RX4 32 yJ7_fill_53178, Cond.static yJ7_fill_53178, Cond.initialized RJ7, Cond.code yJ7_fill_53178 cJ7_fill_53178 4 none]
def wsX5_keepsNotes_r3 : List Cond := [Cond.static yX5_inverse, Cond.code yX5_inverse cX5_inverse 6 (some .int), Cond.constant RX5 283 (65519), Cond.methodLink RX5 256 yX5_followsBefore, Cond.instanceMethod yX5_followsBefore, Cond.selects RX5 yX5_followsBefore yX5_followsBefore, Cond.code yX5_followsBefore cX5_followsBefore 4 (some .boolean), Cond.fieldLink RX5 26 "AffineHulls" "work" "[I", Cond.methodLink RX5 235 yX5_copy, Cond.methodLink RX5 265 yX0_stepBack, Cond.instanceMethod yX0_stepBack, Cond.selects RX0 yX0_stepBack yX0_stepBack, Cond.initialized RX0, Cond.code yX0_stepBack cX0_stepBack 4 none, Cond.fieldLink RX0 22 "AffineHulls$Edge" "kind" "I", Cond.fieldLink RX0 25 "AffineHulls$Edge" "variable" "I", Cond.fieldLink RX0 9 "AffineHulls$Edge" "form" "[I", Cond.static yX5_number, Cond.code yX5_number cX5_number 1 (some .int), Cond.constant RX5 271 (65521), Cond.methodLink RX5 272 yJ9_floorMod_7cf53, Cond.static yJ9_floorMod_7cf53, Cond.initialized RJ9, Cond.code yJ9_floorMod_7cf53 cJ9_floorMod_7cf53 3 (some .int)]
def wsX5_keepsNotes_r4 : List Cond := [Cond.methodLink RX5 268 yX4_contains, Cond.instanceMethod yX4_contains, Cond.selects RX4 yX4_contains yX4_contains, Cond.code yX4_contains cX4_contains 2 (some .boolean)]
def wsX5_keepsNotes : List Cond := .code yX5_keepsNotes cX5_keepsNotes 4 (some .boolean) :: ((wsX5_keepsNotes_r1 ++ (wsX5_keepsNotes_r2 ++ (wsX5_keepsNotes_r3 ++ wsX5_keepsNotes_r4))) ++ wsX50 ++ wsX20 ++ wsX00 ++ wsX40)
def wsX5_sound_r1 : List Cond := [Cond.fieldLink RX5 184 "AffineHulls" "noteCount" "I", Cond.fieldLink RX5 50 "AffineHulls" "notes" "[LAffineHulls$Note;", Cond.fieldLink RX5 200 "AffineHulls$Note" "node" "I", Cond.fieldLink RX5 108 "AffineHulls" "entryNode" "I", Cond.fieldLink RX5 89 "AffineHulls" "edgeCount" "I", Cond.fieldLink RX5 43 "AffineHulls" "edges" "[LAffineHulls$Edge;", Cond.methodLink RX5 203 yX5_keepsNotes, Cond.instanceMethod yX5_keepsNotes, Cond.selects RX5 yX5_keepsNotes yX5_keepsNotes, Cond.initialized RX5, Cond.code yX5_keepsNotes cX5_keepsNotes 4 (some .boolean), Cond.fieldLink RX5 181 "AffineHulls$Edge" "to" "I", Cond.fieldLink RX5 232 "AffineHulls$Edge" "kind" "I", Cond.methodLink RX5 252 yX5_spanNotesBefore, Cond.instanceMethod yX5_spanNotesBefore, Cond.selects RX5 yX5_spanNotesBefore yX5_spanNotesBefore, Cond.code yX5_spanNotesBefore cX5_spanNotesBefore 3 none, Cond.fieldLink RX5 37 "AffineHulls" "noteSpan" "LAffineHulls$Span;", Cond.fieldLink RX5 168 "AffineHulls$Edge" "from" "I", Cond.fieldLink RX5 261 "AffineHulls$Note" "form" "[I", Cond.fieldLink RX5 264 "AffineHulls$Edge" "form" "[I", Cond.methodLink RX5 260 yX4_clear, Cond.instanceMethod yX4_clear, Cond.selects RX4 yX4_clear yX4_clear]
def wsX5_sound_r2 : List Cond := [Cond.initialized RX4, Cond.code yX4_clear cX4_clear 2 none, Cond.fieldLink RX4 16 "AffineHulls$Span" "taken" "[Z", Cond.methodLink RX5 242 yX4_add, Cond.instanceMethod yX4_add, Cond.selects RX4 yX4_add yX4_add, Cond.code yX4_add cX4_add 5 (some .boolean), Cond.fieldLink RX4 11 "AffineHulls$Span" "kept" "[[I", Cond.fieldLink RX4 20 "AffineHulls$Span" "rest" "[I", Cond.constant RX4 46 (65521), Cond.methodLink RX4 24 yX4_reduce, Cond.instanceMethod yX4_reduce, Cond.selects RX4 yX4_reduce yX4_reduce, Cond.code yX4_reduce cX4_reduce 3 none, Cond.static yX5_copy, Cond.code yX5_copy cX5_copy 2 none, Cond.methodLink RX5 277 arraycopyName, Cond.native arraycopyName, Cond.static arraycopyName, Cond.initialized "java/lang/System", Cond.static yX5_addMultiple, Cond.code yX5_addMultiple cX5_addMultiple 4 none, Cond.constantLong RX5 275 (65521), Cond.methodLink RX4 28 yX4_leadingPlace]
def wsX5_sound_r3 : List Cond := [Cond.instanceMethod yX4_leadingPlace, Cond.selects RX4 yX4_leadingPlace yX4_leadingPlace, Cond.code yX4_leadingPlace cX4_leadingPlace 2 (some .int), Cond.methodLink RX4 32 yJ7_fill_53178, Cond.static yJ7_fill_53178, Cond.initialized RJ7, Cond.code yJ7_fill_53178 cJ7_fill_53178 4 none, Cond.static yX5_inverse, Cond.code yX5_inverse cX5_inverse 6 (some .int), Cond.constant RX5 283 (65519), Cond.methodLink RX5 256 yX5_followsBefore, Cond.instanceMethod yX5_followsBefore, Cond.selects RX5 yX5_followsBefore yX5_followsBefore, Cond.code yX5_followsBefore cX5_followsBefore 4 (some .boolean), Cond.fieldLink RX5 26 "AffineHulls" "work" "[I", Cond.methodLink RX5 235 yX5_copy, Cond.methodLink RX5 265 yX0_stepBack, Cond.instanceMethod yX0_stepBack, Cond.selects RX0 yX0_stepBack yX0_stepBack, Cond.initialized RX0, Cond.code yX0_stepBack cX0_stepBack 4 none, Cond.fieldLink RX0 22 "AffineHulls$Edge" "kind" "I", Cond.fieldLink RX0 25 "AffineHulls$Edge" "variable" "I", Cond.fieldLink RX0 9 "AffineHulls$Edge" "form" "[I"]
def wsX5_sound_r4 : List Cond := [Cond.static yX5_number, Cond.code yX5_number cX5_number 1 (some .int), Cond.constant RX5 271 (65521), Cond.methodLink RX5 272 yJ9_floorMod_7cf53, Cond.static yJ9_floorMod_7cf53, Cond.initialized RJ9, Cond.code yJ9_floorMod_7cf53 cJ9_floorMod_7cf53 3 (some .int), Cond.methodLink RX5 268 yX4_contains, Cond.instanceMethod yX4_contains, Cond.selects RX4 yX4_contains yX4_contains, Cond.code yX4_contains cX4_contains 2 (some .boolean)]
def wsX5_sound : List Cond := .code yX5_sound cX5_sound 2 (some .boolean) :: ((wsX5_sound_r1 ++ (wsX5_sound_r2 ++ (wsX5_sound_r3 ++ wsX5_sound_r4))) ++ wsX50 ++ wsX20 ++ wsX00 ++ wsX40)
def wsX6_init_r1 : List Cond := [Cond.methodLink RX6 1 objectInit, Cond.instanceMethod objectInit, Cond.code objectInit ⟨#[0xb1]⟩ 1 none, Cond.arrayClass .int, Cond.fieldLink RX6 7 "AffineHullsModel" "draft" "[I", Cond.fieldLink RX6 13 "AffineHullsModel" "froms" "[I", Cond.fieldLink RX6 16 "AffineHullsModel" "tos" "[I", Cond.fieldLink RX6 19 "AffineHullsModel" "kinds" "[I", Cond.fieldLink RX6 22 "AffineHullsModel" "targets" "[I", Cond.fieldLink RX6 25 "AffineHullsModel" "forms" "[I", Cond.fieldLink RX6 28 "AffineHullsModel" "many" "[I", Cond.fieldLink RX6 31 "AffineHullsModel" "points" "[I", Cond.fieldLink RX6 34 "AffineHullsModel" "came" "[I", Cond.fieldLink RX6 37 "AffineHullsModel" "nodeOf" "[I", Cond.fieldLink RX6 40 "AffineHullsModel" "numberOf" "[I", Cond.fieldLink RX6 43 "AffineHullsModel" "rows" "[I", Cond.fieldLink RX6 46 "AffineHullsModel" "equations" "[I", Cond.fieldLink RX6 49 "AffineHullsModel" "values" "[I", Cond.fieldLink RX6 52 "AffineHullsModel" "noteNode" "[I", Cond.fieldLink RX6 55 "AffineHullsModel" "noteForm" "[I", Cond.fieldLink RX6 58 "AffineHullsModel" "table" "[I", Cond.fieldLink RX6 61 "AffineHullsModel" "pivots" "[I", Cond.fieldLink RX6 64 "AffineHullsModel" "row" "[I", Cond.fieldLink RX6 67 "AffineHullsModel" "n" "I"]
def wsX6_init_r2 : List Cond := [Cond.fieldLink RX6 71 "AffineHullsModel" "v" "I"]
def wsX6_init : List Cond := .code yX6_init cX6_init 3 none :: ((wsX6_init_r1 ++ wsX6_init_r2) ++ wsX60)
def wsX6_thrown : List Cond := .code yX6_thrown cX6_thrown 1 (some .int) :: ([.fieldLink RX6 74 "AffineHullsModel" "thrown" "I"] ++ wsX60)
def wsX6_mod : List Cond := .code yX6_mod cX6_mod 4 (some .int) :: ([.constantLong RX6 77 (65521)])
def wsX6_inverse : List Cond := .code yX6_inverse cX6_inverse 11 (some .int) :: ([.constant RX6 79 (65521), .methodLink RX6 80 yX6_mod, .static yX6_mod, .initialized RX6, .code yX6_mod cX6_mod 4 (some .int), .constantLong RX6 77 (65521)])
def wsX6_put : List Cond := .code yX6_put cX6_put 3 none :: ([.fieldLink RX6 58 "AffineHullsModel" "table" "[I", .fieldLink RX6 84 "AffineHullsModel" "size" "I"] ++ wsX60)
def wsX6_minus : List Cond := .code yX6_minus cX6_minus 5 none :: ([.fieldLink RX6 58 "AffineHullsModel" "table" "[I", .methodLink RX6 80 yX6_mod, .static yX6_mod, .initialized RX6, .code yX6_mod cX6_mod 4 (some .int), .constantLong RX6 77 (65521)] ++ wsX60)
def wsX6_exchange : List Cond := .code yX6_exchange cX6_exchange 5 none :: ([.fieldLink RX6 58 "AffineHullsModel" "table" "[I"] ++ wsX60)
def wsX6_rank : List Cond := .code yX6_rank cX6_rank 7 (some .int) :: ([.fieldLink RX6 71 "AffineHullsModel" "v" "I", .fieldLink RX6 61 "AffineHullsModel" "pivots" "[I", .fieldLink RX6 84 "AffineHullsModel" "size" "I", .fieldLink RX6 58 "AffineHullsModel" "table" "[I", .methodLink RX6 87 yX6_exchange, .instanceMethod yX6_exchange, .selects RX6 yX6_exchange yX6_exchange, .initialized RX6, .code yX6_exchange cX6_exchange 5 none, .methodLink RX6 91 yX6_inverse, .static yX6_inverse, .code yX6_inverse cX6_inverse 11 (some .int), .constant RX6 79 (65521), .methodLink RX6 80 yX6_mod, .static yX6_mod, .code yX6_mod cX6_mod 4 (some .int), .constantLong RX6 77 (65521), .methodLink RX6 95 yX6_minus, .instanceMethod yX6_minus, .selects RX6 yX6_minus yX6_minus, .code yX6_minus cX6_minus 5 none] ++ wsX60)
def wsX6_isNode : List Cond := .code yX6_isNode cX6_isNode 2 (some .boolean) :: ([.fieldLink RX6 67 "AffineHullsModel" "n" "I"] ++ wsX60)
def wsX6_clearDraft : List Cond := .code yX6_clearDraft cX6_clearDraft 2 none :: ([.fieldLink RX6 7 "AffineHullsModel" "draft" "[I"] ++ wsX60)
def wsX6_term : List Cond := .code yX6_term cX6_term 3 none :: ([.fieldLink RX6 71 "AffineHullsModel" "v" "I", .fieldLink RX6 74 "AffineHullsModel" "thrown" "I", .fieldLink RX6 7 "AffineHullsModel" "draft" "[I", .methodLink RX6 80 yX6_mod, .static yX6_mod, .initialized RX6, .code yX6_mod cX6_mod 4 (some .int), .constantLong RX6 77 (65521)] ++ wsX60)
def wsX6_edge : List Cond := .code yX6_edge cX6_edge 8 (some .int) :: ([.fieldLink RX6 71 "AffineHullsModel" "v" "I", .fieldLink RX6 103 "AffineHullsModel" "edges" "I", .fieldLink RX6 74 "AffineHullsModel" "thrown" "I", .fieldLink RX6 13 "AffineHullsModel" "froms" "[I", .fieldLink RX6 16 "AffineHullsModel" "tos" "[I", .fieldLink RX6 19 "AffineHullsModel" "kinds" "[I", .fieldLink RX6 22 "AffineHullsModel" "targets" "[I", .fieldLink RX6 25 "AffineHullsModel" "forms" "[I", .fieldLink RX6 7 "AffineHullsModel" "draft" "[I", .fieldLink RX6 109 "AffineHullsModel" "analysed" "Z", .methodLink RX6 99 yX6_isNode, .instanceMethod yX6_isNode, .selects RX6 yX6_isNode yX6_isNode, .initialized RX6, .code yX6_isNode cX6_isNode 2 (some .boolean), .fieldLink RX6 67 "AffineHullsModel" "n" "I", .methodLink RX6 106 yX6_clearDraft, .instanceMethod yX6_clearDraft, .selects RX6 yX6_clearDraft yX6_clearDraft, .code yX6_clearDraft cX6_clearDraft 2 none] ++ wsX60)
def wsX6_entry : List Cond := .code yX6_entry cX6_entry 2 none :: ([.fieldLink RX6 74 "AffineHullsModel" "thrown" "I", .fieldLink RX6 113 "AffineHullsModel" "entry" "I", .fieldLink RX6 116 "AffineHullsModel" "where" "I", .fieldLink RX6 109 "AffineHullsModel" "analysed" "Z", .methodLink RX6 99 yX6_isNode, .instanceMethod yX6_isNode, .selects RX6 yX6_isNode yX6_isNode, .initialized RX6, .code yX6_isNode cX6_isNode 2 (some .boolean), .fieldLink RX6 67 "AffineHullsModel" "n" "I"] ++ wsX60)
def wsX6_formValue : List Cond := .code yX6_formValue cX6_formValue 5 (some .int) :: ([.fieldLink RX6 25 "AffineHullsModel" "forms" "[I", .fieldLink RX6 64 "AffineHullsModel" "row" "[I", .methodLink RX6 80 yX6_mod, .static yX6_mod, .initialized RX6, .code yX6_mod cX6_mod 4 (some .int), .constantLong RX6 77 (65521)] ++ wsX60)
def wsX6_change : List Cond := .code yX6_change cX6_change 3 none :: ([.fieldLink RX6 19 "AffineHullsModel" "kinds" "[I", .fieldLink RX6 64 "AffineHullsModel" "row" "[I", .fieldLink RX6 22 "AffineHullsModel" "targets" "[I", .methodLink RX6 119 yX6_formValue, .instanceMethod yX6_formValue, .selects RX6 yX6_formValue yX6_formValue, .initialized RX6, .code yX6_formValue cX6_formValue 5 (some .int), .fieldLink RX6 25 "AffineHullsModel" "forms" "[I", .methodLink RX6 80 yX6_mod, .static yX6_mod, .code yX6_mod cX6_mod 4 (some .int), .constantLong RX6 77 (65521)] ++ wsX60)
def wsX6_layPoints : List Cond := .code yX6_layPoints cX6_layPoints 4 none :: ([.fieldLink RX6 84 "AffineHullsModel" "size" "I", .fieldLink RX6 28 "AffineHullsModel" "many" "[I", .fieldLink RX6 31 "AffineHullsModel" "points" "[I", .methodLink RX6 122 yX6_put, .instanceMethod yX6_put, .selects RX6 yX6_put yX6_put, .initialized RX6, .code yX6_put cX6_put 3 none, .fieldLink RX6 58 "AffineHullsModel" "table" "[I"] ++ wsX60)
def wsX6_meet_r1 : List Cond := [Cond.fieldLink RX6 64 "AffineHullsModel" "row" "[I", Cond.fieldLink RX6 84 "AffineHullsModel" "size" "I", Cond.fieldLink RX6 28 "AffineHullsModel" "many" "[I", Cond.fieldLink RX6 31 "AffineHullsModel" "points" "[I", Cond.fieldLink RX6 34 "AffineHullsModel" "came" "[I", Cond.fieldLink RX6 37 "AffineHullsModel" "nodeOf" "[I", Cond.fieldLink RX6 133 "AffineHullsModel" "all" "I", Cond.fieldLink RX6 40 "AffineHullsModel" "numberOf" "[I", Cond.methodLink RX6 125 yX6_layPoints, Cond.instanceMethod yX6_layPoints, Cond.selects RX6 yX6_layPoints yX6_layPoints, Cond.initialized RX6, Cond.code yX6_layPoints cX6_layPoints 4 none, Cond.methodLink RX6 122 yX6_put, Cond.instanceMethod yX6_put, Cond.selects RX6 yX6_put yX6_put, Cond.code yX6_put cX6_put 3 none, Cond.fieldLink RX6 58 "AffineHullsModel" "table" "[I", Cond.methodLink RX6 129 yX6_rank, Cond.instanceMethod yX6_rank, Cond.selects RX6 yX6_rank yX6_rank, Cond.code yX6_rank cX6_rank 7 (some .int), Cond.fieldLink RX6 71 "AffineHullsModel" "v" "I", Cond.fieldLink RX6 61 "AffineHullsModel" "pivots" "[I"]
def wsX6_meet_r2 : List Cond := [Cond.methodLink RX6 87 yX6_exchange, Cond.instanceMethod yX6_exchange, Cond.selects RX6 yX6_exchange yX6_exchange, Cond.code yX6_exchange cX6_exchange 5 none, Cond.methodLink RX6 91 yX6_inverse, Cond.static yX6_inverse, Cond.code yX6_inverse cX6_inverse 11 (some .int), Cond.constant RX6 79 (65521), Cond.methodLink RX6 80 yX6_mod, Cond.static yX6_mod, Cond.code yX6_mod cX6_mod 4 (some .int), Cond.constantLong RX6 77 (65521), Cond.methodLink RX6 95 yX6_minus, Cond.instanceMethod yX6_minus, Cond.selects RX6 yX6_minus yX6_minus, Cond.code yX6_minus cX6_minus 5 none]
def wsX6_meet : List Cond := .code yX6_meet cX6_meet 5 none :: ((wsX6_meet_r1 ++ wsX6_meet_r2) ++ wsX60)
def wsX6_pass_r1 : List Cond := [Cond.fieldLink RX6 19 "AffineHullsModel" "kinds" "[I", Cond.fieldLink RX6 64 "AffineHullsModel" "row" "[I", Cond.fieldLink RX6 31 "AffineHullsModel" "points" "[I", Cond.fieldLink RX6 16 "AffineHullsModel" "tos" "[I", Cond.methodLink RX6 136 yX6_change, Cond.instanceMethod yX6_change, Cond.selects RX6 yX6_change yX6_change, Cond.initialized RX6, Cond.code yX6_change cX6_change 3 none, Cond.fieldLink RX6 22 "AffineHullsModel" "targets" "[I", Cond.methodLink RX6 119 yX6_formValue, Cond.instanceMethod yX6_formValue, Cond.selects RX6 yX6_formValue yX6_formValue, Cond.code yX6_formValue cX6_formValue 5 (some .int), Cond.fieldLink RX6 25 "AffineHullsModel" "forms" "[I", Cond.methodLink RX6 80 yX6_mod, Cond.static yX6_mod, Cond.code yX6_mod cX6_mod 4 (some .int), Cond.constantLong RX6 77 (65521), Cond.methodLink RX6 139 yX6_meet, Cond.instanceMethod yX6_meet, Cond.selects RX6 yX6_meet yX6_meet, Cond.code yX6_meet cX6_meet 5 none, Cond.fieldLink RX6 84 "AffineHullsModel" "size" "I"]
def wsX6_pass_r2 : List Cond := [Cond.fieldLink RX6 28 "AffineHullsModel" "many" "[I", Cond.fieldLink RX6 34 "AffineHullsModel" "came" "[I", Cond.fieldLink RX6 37 "AffineHullsModel" "nodeOf" "[I", Cond.fieldLink RX6 133 "AffineHullsModel" "all" "I", Cond.fieldLink RX6 40 "AffineHullsModel" "numberOf" "[I", Cond.methodLink RX6 125 yX6_layPoints, Cond.instanceMethod yX6_layPoints, Cond.selects RX6 yX6_layPoints yX6_layPoints, Cond.code yX6_layPoints cX6_layPoints 4 none, Cond.methodLink RX6 122 yX6_put, Cond.instanceMethod yX6_put, Cond.selects RX6 yX6_put yX6_put, Cond.code yX6_put cX6_put 3 none, Cond.fieldLink RX6 58 "AffineHullsModel" "table" "[I", Cond.methodLink RX6 129 yX6_rank, Cond.instanceMethod yX6_rank, Cond.selects RX6 yX6_rank yX6_rank, Cond.code yX6_rank cX6_rank 7 (some .int), Cond.fieldLink RX6 71 "AffineHullsModel" "v" "I", Cond.fieldLink RX6 61 "AffineHullsModel" "pivots" "[I", Cond.methodLink RX6 87 yX6_exchange, Cond.instanceMethod yX6_exchange, Cond.selects RX6 yX6_exchange yX6_exchange, Cond.code yX6_exchange cX6_exchange 5 none]
def wsX6_pass_r3 : List Cond := [Cond.methodLink RX6 91 yX6_inverse, Cond.static yX6_inverse, Cond.code yX6_inverse cX6_inverse 11 (some .int), Cond.constant RX6 79 (65521), Cond.methodLink RX6 95 yX6_minus, Cond.instanceMethod yX6_minus, Cond.selects RX6 yX6_minus yX6_minus, Cond.code yX6_minus cX6_minus 5 none]
def wsX6_pass : List Cond := .code yX6_pass cX6_pass 7 none :: ((wsX6_pass_r1 ++ (wsX6_pass_r2 ++ wsX6_pass_r3)) ++ wsX60)
def wsX6_readEquations_r1 : List Cond := [Cond.fieldLink RX6 43 "AffineHullsModel" "rows" "[I", Cond.fieldLink RX6 71 "AffineHullsModel" "v" "I", Cond.fieldLink RX6 61 "AffineHullsModel" "pivots" "[I", Cond.fieldLink RX6 46 "AffineHullsModel" "equations" "[I", Cond.fieldLink RX6 58 "AffineHullsModel" "table" "[I", Cond.methodLink RX6 125 yX6_layPoints, Cond.instanceMethod yX6_layPoints, Cond.selects RX6 yX6_layPoints yX6_layPoints, Cond.initialized RX6, Cond.code yX6_layPoints cX6_layPoints 4 none, Cond.fieldLink RX6 84 "AffineHullsModel" "size" "I", Cond.fieldLink RX6 28 "AffineHullsModel" "many" "[I", Cond.fieldLink RX6 31 "AffineHullsModel" "points" "[I", Cond.methodLink RX6 122 yX6_put, Cond.instanceMethod yX6_put, Cond.selects RX6 yX6_put yX6_put, Cond.code yX6_put cX6_put 3 none, Cond.methodLink RX6 129 yX6_rank, Cond.instanceMethod yX6_rank, Cond.selects RX6 yX6_rank yX6_rank, Cond.code yX6_rank cX6_rank 7 (some .int), Cond.methodLink RX6 87 yX6_exchange, Cond.instanceMethod yX6_exchange, Cond.selects RX6 yX6_exchange yX6_exchange]
def wsX6_readEquations_r2 : List Cond := [Cond.code yX6_exchange cX6_exchange 5 none, Cond.methodLink RX6 91 yX6_inverse, Cond.static yX6_inverse, Cond.code yX6_inverse cX6_inverse 11 (some .int), Cond.constant RX6 79 (65521), Cond.methodLink RX6 80 yX6_mod, Cond.static yX6_mod, Cond.code yX6_mod cX6_mod 4 (some .int), Cond.constantLong RX6 77 (65521), Cond.methodLink RX6 95 yX6_minus, Cond.instanceMethod yX6_minus, Cond.selects RX6 yX6_minus yX6_minus, Cond.code yX6_minus cX6_minus 5 none]
def wsX6_readEquations : List Cond := .code yX6_readEquations cX6_readEquations 6 none :: ((wsX6_readEquations_r1 ++ wsX6_readEquations_r2) ++ wsX60)
def wsX6_analyse_r1 : List Cond := [Cond.fieldLink RX6 74 "AffineHullsModel" "thrown" "I", Cond.fieldLink RX6 133 "AffineHullsModel" "all" "I", Cond.fieldLink RX6 28 "AffineHullsModel" "many" "[I", Cond.fieldLink RX6 71 "AffineHullsModel" "v" "I", Cond.fieldLink RX6 64 "AffineHullsModel" "row" "[I", Cond.fieldLink RX6 113 "AffineHullsModel" "entry" "I", Cond.fieldLink RX6 103 "AffineHullsModel" "edges" "I", Cond.fieldLink RX6 13 "AffineHullsModel" "froms" "[I", Cond.fieldLink RX6 37 "AffineHullsModel" "nodeOf" "[I", Cond.fieldLink RX6 40 "AffineHullsModel" "numberOf" "[I", Cond.fieldLink RX6 67 "AffineHullsModel" "n" "I", Cond.fieldLink RX6 109 "AffineHullsModel" "analysed" "Z", Cond.methodLink RX6 139 yX6_meet, Cond.instanceMethod yX6_meet, Cond.selects RX6 yX6_meet yX6_meet, Cond.initialized RX6, Cond.code yX6_meet cX6_meet 5 none, Cond.fieldLink RX6 84 "AffineHullsModel" "size" "I", Cond.fieldLink RX6 31 "AffineHullsModel" "points" "[I", Cond.fieldLink RX6 34 "AffineHullsModel" "came" "[I", Cond.methodLink RX6 125 yX6_layPoints, Cond.instanceMethod yX6_layPoints, Cond.selects RX6 yX6_layPoints yX6_layPoints, Cond.code yX6_layPoints cX6_layPoints 4 none]
def wsX6_analyse_r2 : List Cond := [Cond.methodLink RX6 122 yX6_put, Cond.instanceMethod yX6_put, Cond.selects RX6 yX6_put yX6_put, Cond.code yX6_put cX6_put 3 none, Cond.fieldLink RX6 58 "AffineHullsModel" "table" "[I", Cond.methodLink RX6 129 yX6_rank, Cond.instanceMethod yX6_rank, Cond.selects RX6 yX6_rank yX6_rank, Cond.code yX6_rank cX6_rank 7 (some .int), Cond.fieldLink RX6 61 "AffineHullsModel" "pivots" "[I", Cond.methodLink RX6 87 yX6_exchange, Cond.instanceMethod yX6_exchange, Cond.selects RX6 yX6_exchange yX6_exchange, Cond.code yX6_exchange cX6_exchange 5 none, Cond.methodLink RX6 91 yX6_inverse, Cond.static yX6_inverse, Cond.code yX6_inverse cX6_inverse 11 (some .int), Cond.constant RX6 79 (65521), Cond.methodLink RX6 80 yX6_mod, Cond.static yX6_mod, Cond.code yX6_mod cX6_mod 4 (some .int), Cond.constantLong RX6 77 (65521), Cond.methodLink RX6 95 yX6_minus, Cond.instanceMethod yX6_minus]
def wsX6_analyse_r3 : List Cond := [Cond.selects RX6 yX6_minus yX6_minus, Cond.code yX6_minus cX6_minus 5 none, Cond.methodLink RX6 142 yX6_pass, Cond.instanceMethod yX6_pass, Cond.selects RX6 yX6_pass yX6_pass, Cond.code yX6_pass cX6_pass 7 none, Cond.fieldLink RX6 19 "AffineHullsModel" "kinds" "[I", Cond.fieldLink RX6 16 "AffineHullsModel" "tos" "[I", Cond.methodLink RX6 136 yX6_change, Cond.instanceMethod yX6_change, Cond.selects RX6 yX6_change yX6_change, Cond.code yX6_change cX6_change 3 none, Cond.fieldLink RX6 22 "AffineHullsModel" "targets" "[I", Cond.methodLink RX6 119 yX6_formValue, Cond.instanceMethod yX6_formValue, Cond.selects RX6 yX6_formValue yX6_formValue, Cond.code yX6_formValue cX6_formValue 5 (some .int), Cond.fieldLink RX6 25 "AffineHullsModel" "forms" "[I", Cond.methodLink RX6 145 yX6_readEquations, Cond.instanceMethod yX6_readEquations, Cond.selects RX6 yX6_readEquations yX6_readEquations, Cond.code yX6_readEquations cX6_readEquations 6 none, Cond.fieldLink RX6 43 "AffineHullsModel" "rows" "[I", Cond.fieldLink RX6 46 "AffineHullsModel" "equations" "[I"]
def wsX6_analyse : List Cond := .code yX6_analyse cX6_analyse 3 (some .int) :: ((wsX6_analyse_r1 ++ (wsX6_analyse_r2 ++ wsX6_analyse_r3)) ++ wsX60)
def wsX6_asked : List Cond := .code yX6_asked cX6_asked 2 (some .int) :: ([.fieldLink RX6 109 "AffineHullsModel" "analysed" "Z", .methodLink RX6 99 yX6_isNode, .instanceMethod yX6_isNode, .selects RX6 yX6_isNode yX6_isNode, .initialized RX6, .code yX6_isNode cX6_isNode 2 (some .boolean), .fieldLink RX6 67 "AffineHullsModel" "n" "I"] ++ wsX60)
def wsX6_points : List Cond := .code yX6_points cX6_points 2 (some .int) :: ([.fieldLink RX6 74 "AffineHullsModel" "thrown" "I", .fieldLink RX6 28 "AffineHullsModel" "many" "[I", .methodLink RX6 148 yX6_asked, .instanceMethod yX6_asked, .selects RX6 yX6_asked yX6_asked, .initialized RX6, .code yX6_asked cX6_asked 2 (some .int), .fieldLink RX6 109 "AffineHullsModel" "analysed" "Z", .methodLink RX6 99 yX6_isNode, .instanceMethod yX6_isNode, .selects RX6 yX6_isNode yX6_isNode, .code yX6_isNode cX6_isNode 2 (some .boolean), .fieldLink RX6 67 "AffineHullsModel" "n" "I"] ++ wsX60)
def wsX6_point : List Cond := .code yX6_point cX6_point 4 (some .int) :: ([.fieldLink RX6 71 "AffineHullsModel" "v" "I", .fieldLink RX6 74 "AffineHullsModel" "thrown" "I", .fieldLink RX6 28 "AffineHullsModel" "many" "[I", .fieldLink RX6 34 "AffineHullsModel" "came" "[I", .fieldLink RX6 31 "AffineHullsModel" "points" "[I", .methodLink RX6 148 yX6_asked, .instanceMethod yX6_asked, .selects RX6 yX6_asked yX6_asked, .initialized RX6, .code yX6_asked cX6_asked 2 (some .int), .fieldLink RX6 109 "AffineHullsModel" "analysed" "Z", .methodLink RX6 99 yX6_isNode, .instanceMethod yX6_isNode, .selects RX6 yX6_isNode yX6_isNode, .code yX6_isNode cX6_isNode 2 (some .boolean), .fieldLink RX6 67 "AffineHullsModel" "n" "I"] ++ wsX60)
def wsX6_equations : List Cond := .code yX6_equations cX6_equations 2 (some .int) :: ([.fieldLink RX6 74 "AffineHullsModel" "thrown" "I", .fieldLink RX6 43 "AffineHullsModel" "rows" "[I", .methodLink RX6 148 yX6_asked, .instanceMethod yX6_asked, .selects RX6 yX6_asked yX6_asked, .initialized RX6, .code yX6_asked cX6_asked 2 (some .int), .fieldLink RX6 109 "AffineHullsModel" "analysed" "Z", .methodLink RX6 99 yX6_isNode, .instanceMethod yX6_isNode, .selects RX6 yX6_isNode yX6_isNode, .code yX6_isNode cX6_isNode 2 (some .boolean), .fieldLink RX6 67 "AffineHullsModel" "n" "I"] ++ wsX60)
def wsX6_coefficient : List Cond := .code yX6_coefficient cX6_coefficient 4 (some .int) :: ([.fieldLink RX6 71 "AffineHullsModel" "v" "I", .fieldLink RX6 74 "AffineHullsModel" "thrown" "I", .fieldLink RX6 43 "AffineHullsModel" "rows" "[I", .fieldLink RX6 46 "AffineHullsModel" "equations" "[I", .methodLink RX6 148 yX6_asked, .instanceMethod yX6_asked, .selects RX6 yX6_asked yX6_asked, .initialized RX6, .code yX6_asked cX6_asked 2 (some .int), .fieldLink RX6 109 "AffineHullsModel" "analysed" "Z", .methodLink RX6 99 yX6_isNode, .instanceMethod yX6_isNode, .selects RX6 yX6_isNode yX6_isNode, .code yX6_isNode cX6_isNode 2 (some .boolean), .fieldLink RX6 67 "AffineHullsModel" "n" "I"] ++ wsX60)
def wsX6_holds : List Cond := .code yX6_holds cX6_holds 7 (some .boolean) :: ([.fieldLink RX6 74 "AffineHullsModel" "thrown" "I", .fieldLink RX6 28 "AffineHullsModel" "many" "[I", .fieldLink RX6 7 "AffineHullsModel" "draft" "[I", .fieldLink RX6 31 "AffineHullsModel" "points" "[I", .methodLink RX6 148 yX6_asked, .instanceMethod yX6_asked, .selects RX6 yX6_asked yX6_asked, .initialized RX6, .code yX6_asked cX6_asked 2 (some .int), .fieldLink RX6 109 "AffineHullsModel" "analysed" "Z", .methodLink RX6 99 yX6_isNode, .instanceMethod yX6_isNode, .selects RX6 yX6_isNode yX6_isNode, .code yX6_isNode cX6_isNode 2 (some .boolean), .fieldLink RX6 67 "AffineHullsModel" "n" "I", .methodLink RX6 80 yX6_mod, .static yX6_mod, .code yX6_mod cX6_mod 4 (some .int), .constantLong RX6 77 (65521), .methodLink RX6 106 yX6_clearDraft, .instanceMethod yX6_clearDraft, .selects RX6 yX6_clearDraft yX6_clearDraft, .code yX6_clearDraft cX6_clearDraft 2 none] ++ wsX60)
def wsX6_begin : List Cond := .code yX6_begin cX6_begin 3 none :: ([.fieldLink RX6 71 "AffineHullsModel" "v" "I", .fieldLink RX6 74 "AffineHullsModel" "thrown" "I", .fieldLink RX6 49 "AffineHullsModel" "values" "[I", .fieldLink RX6 113 "AffineHullsModel" "entry" "I", .fieldLink RX6 116 "AffineHullsModel" "where" "I", .methodLink RX6 80 yX6_mod, .static yX6_mod, .initialized RX6, .code yX6_mod cX6_mod 4 (some .int), .constantLong RX6 77 (65521)] ++ wsX60)
def wsX6_go : List Cond := .code yX6_go cX6_go 4 (some .boolean) :: ([.fieldLink RX6 103 "AffineHullsModel" "edges" "I", .fieldLink RX6 13 "AffineHullsModel" "froms" "[I", .fieldLink RX6 116 "AffineHullsModel" "where" "I", .fieldLink RX6 74 "AffineHullsModel" "thrown" "I", .fieldLink RX6 64 "AffineHullsModel" "row" "[I", .fieldLink RX6 49 "AffineHullsModel" "values" "[I", .fieldLink RX6 19 "AffineHullsModel" "kinds" "[I", .fieldLink RX6 16 "AffineHullsModel" "tos" "[I", .methodLink RX6 119 yX6_formValue, .instanceMethod yX6_formValue, .selects RX6 yX6_formValue yX6_formValue, .initialized RX6, .code yX6_formValue cX6_formValue 5 (some .int), .fieldLink RX6 25 "AffineHullsModel" "forms" "[I", .methodLink RX6 80 yX6_mod, .static yX6_mod, .code yX6_mod cX6_mod 4 (some .int), .constantLong RX6 77 (65521), .methodLink RX6 136 yX6_change, .instanceMethod yX6_change, .selects RX6 yX6_change yX6_change, .code yX6_change cX6_change 3 none, .fieldLink RX6 22 "AffineHullsModel" "targets" "[I"] ++ wsX60)
def wsX6_at : List Cond := .code yX6_at cX6_at 2 (some .int) :: ([.fieldLink RX6 71 "AffineHullsModel" "v" "I", .fieldLink RX6 74 "AffineHullsModel" "thrown" "I", .fieldLink RX6 116 "AffineHullsModel" "where" "I", .fieldLink RX6 49 "AffineHullsModel" "values" "[I"] ++ wsX60)
def wsX6_note : List Cond := .code yX6_note cX6_note 3 (some .int) :: ([.fieldLink RX6 151 "AffineHullsModel" "notes" "I", .fieldLink RX6 74 "AffineHullsModel" "thrown" "I", .fieldLink RX6 52 "AffineHullsModel" "noteNode" "[I", .fieldLink RX6 55 "AffineHullsModel" "noteForm" "[I", .fieldLink RX6 7 "AffineHullsModel" "draft" "[I", .methodLink RX6 99 yX6_isNode, .instanceMethod yX6_isNode, .selects RX6 yX6_isNode yX6_isNode, .initialized RX6, .code yX6_isNode cX6_isNode 2 (some .boolean), .fieldLink RX6 67 "AffineHullsModel" "n" "I", .methodLink RX6 106 yX6_clearDraft, .instanceMethod yX6_clearDraft, .selects RX6 yX6_clearDraft yX6_clearDraft, .code yX6_clearDraft cX6_clearDraft 2 none] ++ wsX60)
def wsX6_noteAll : List Cond := .code yX6_noteAll cX6_noteAll 5 (some .int) :: ([.fieldLink RX6 67 "AffineHullsModel" "n" "I", .fieldLink RX6 109 "AffineHullsModel" "analysed" "Z", .fieldLink RX6 43 "AffineHullsModel" "rows" "[I", .fieldLink RX6 74 "AffineHullsModel" "thrown" "I", .fieldLink RX6 151 "AffineHullsModel" "notes" "I", .fieldLink RX6 52 "AffineHullsModel" "noteNode" "[I", .fieldLink RX6 55 "AffineHullsModel" "noteForm" "[I", .fieldLink RX6 46 "AffineHullsModel" "equations" "[I"] ++ wsX60)
def wsX6_forget : List Cond := .code yX6_forget cX6_forget 2 (some .int) :: ([.fieldLink RX6 74 "AffineHullsModel" "thrown" "I", .fieldLink RX6 151 "AffineHullsModel" "notes" "I"] ++ wsX60)
def wsX6_layNotes : List Cond := .code yX6_layNotes cX6_layNotes 4 none :: ([.fieldLink RX6 84 "AffineHullsModel" "size" "I", .fieldLink RX6 151 "AffineHullsModel" "notes" "I", .fieldLink RX6 52 "AffineHullsModel" "noteNode" "[I", .fieldLink RX6 13 "AffineHullsModel" "froms" "[I", .fieldLink RX6 55 "AffineHullsModel" "noteForm" "[I", .fieldLink RX6 19 "AffineHullsModel" "kinds" "[I", .fieldLink RX6 25 "AffineHullsModel" "forms" "[I", .methodLink RX6 122 yX6_put, .instanceMethod yX6_put, .selects RX6 yX6_put yX6_put, .initialized RX6, .code yX6_put cX6_put 3 none, .fieldLink RX6 58 "AffineHullsModel" "table" "[I"] ++ wsX60)
def wsX6_layBefore : List Cond := .code yX6_layBefore cX6_layBefore 8 none :: ([.fieldLink RX6 22 "AffineHullsModel" "targets" "[I", .fieldLink RX6 55 "AffineHullsModel" "noteForm" "[I", .fieldLink RX6 19 "AffineHullsModel" "kinds" "[I", .fieldLink RX6 25 "AffineHullsModel" "forms" "[I", .fieldLink RX6 58 "AffineHullsModel" "table" "[I", .fieldLink RX6 84 "AffineHullsModel" "size" "I", .methodLink RX6 122 yX6_put, .instanceMethod yX6_put, .selects RX6 yX6_put yX6_put, .initialized RX6, .code yX6_put cX6_put 3 none, .methodLink RX6 80 yX6_mod, .static yX6_mod, .code yX6_mod cX6_mod 4 (some .int), .constantLong RX6 77 (65521)] ++ wsX60)
def wsX6_follows_r1 : List Cond := [Cond.methodLink RX6 154 yX6_layNotes, Cond.instanceMethod yX6_layNotes, Cond.selects RX6 yX6_layNotes yX6_layNotes, Cond.initialized RX6, Cond.code yX6_layNotes cX6_layNotes 4 none, Cond.fieldLink RX6 84 "AffineHullsModel" "size" "I", Cond.fieldLink RX6 151 "AffineHullsModel" "notes" "I", Cond.fieldLink RX6 52 "AffineHullsModel" "noteNode" "[I", Cond.fieldLink RX6 13 "AffineHullsModel" "froms" "[I", Cond.fieldLink RX6 55 "AffineHullsModel" "noteForm" "[I", Cond.fieldLink RX6 19 "AffineHullsModel" "kinds" "[I", Cond.fieldLink RX6 25 "AffineHullsModel" "forms" "[I", Cond.methodLink RX6 122 yX6_put, Cond.instanceMethod yX6_put, Cond.selects RX6 yX6_put yX6_put, Cond.code yX6_put cX6_put 3 none, Cond.fieldLink RX6 58 "AffineHullsModel" "table" "[I", Cond.methodLink RX6 129 yX6_rank, Cond.instanceMethod yX6_rank, Cond.selects RX6 yX6_rank yX6_rank, Cond.code yX6_rank cX6_rank 7 (some .int), Cond.fieldLink RX6 71 "AffineHullsModel" "v" "I", Cond.fieldLink RX6 61 "AffineHullsModel" "pivots" "[I", Cond.methodLink RX6 87 yX6_exchange]
def wsX6_follows_r2 : List Cond := [Cond.instanceMethod yX6_exchange, Cond.selects RX6 yX6_exchange yX6_exchange, Cond.code yX6_exchange cX6_exchange 5 none, Cond.methodLink RX6 91 yX6_inverse, Cond.static yX6_inverse, Cond.code yX6_inverse cX6_inverse 11 (some .int), Cond.constant RX6 79 (65521), Cond.methodLink RX6 80 yX6_mod, Cond.static yX6_mod, Cond.code yX6_mod cX6_mod 4 (some .int), Cond.constantLong RX6 77 (65521), Cond.methodLink RX6 95 yX6_minus, Cond.instanceMethod yX6_minus, Cond.selects RX6 yX6_minus yX6_minus, Cond.code yX6_minus cX6_minus 5 none, Cond.methodLink RX6 157 yX6_layBefore, Cond.instanceMethod yX6_layBefore, Cond.selects RX6 yX6_layBefore yX6_layBefore, Cond.code yX6_layBefore cX6_layBefore 8 none, Cond.fieldLink RX6 22 "AffineHullsModel" "targets" "[I"]
def wsX6_follows : List Cond := .code yX6_follows cX6_follows 6 (some .boolean) :: ((wsX6_follows_r1 ++ wsX6_follows_r2) ++ wsX60)
def wsX6_sound_r1 : List Cond := [Cond.fieldLink RX6 74 "AffineHullsModel" "thrown" "I", Cond.fieldLink RX6 151 "AffineHullsModel" "notes" "I", Cond.fieldLink RX6 52 "AffineHullsModel" "noteNode" "[I", Cond.fieldLink RX6 113 "AffineHullsModel" "entry" "I", Cond.fieldLink RX6 103 "AffineHullsModel" "edges" "I", Cond.fieldLink RX6 16 "AffineHullsModel" "tos" "[I", Cond.methodLink RX6 160 yX6_follows, Cond.instanceMethod yX6_follows, Cond.selects RX6 yX6_follows yX6_follows, Cond.initialized RX6, Cond.code yX6_follows cX6_follows 6 (some .boolean), Cond.methodLink RX6 154 yX6_layNotes, Cond.instanceMethod yX6_layNotes, Cond.selects RX6 yX6_layNotes yX6_layNotes, Cond.code yX6_layNotes cX6_layNotes 4 none, Cond.fieldLink RX6 84 "AffineHullsModel" "size" "I", Cond.fieldLink RX6 13 "AffineHullsModel" "froms" "[I", Cond.fieldLink RX6 55 "AffineHullsModel" "noteForm" "[I", Cond.fieldLink RX6 19 "AffineHullsModel" "kinds" "[I", Cond.fieldLink RX6 25 "AffineHullsModel" "forms" "[I", Cond.methodLink RX6 122 yX6_put, Cond.instanceMethod yX6_put, Cond.selects RX6 yX6_put yX6_put, Cond.code yX6_put cX6_put 3 none]
def wsX6_sound_r2 : List Cond := [Cond.fieldLink RX6 58 "AffineHullsModel" "table" "[I", Cond.methodLink RX6 129 yX6_rank, Cond.instanceMethod yX6_rank, Cond.selects RX6 yX6_rank yX6_rank, Cond.code yX6_rank cX6_rank 7 (some .int), Cond.fieldLink RX6 71 "AffineHullsModel" "v" "I", Cond.fieldLink RX6 61 "AffineHullsModel" "pivots" "[I", Cond.methodLink RX6 87 yX6_exchange, Cond.instanceMethod yX6_exchange, Cond.selects RX6 yX6_exchange yX6_exchange, Cond.code yX6_exchange cX6_exchange 5 none, Cond.methodLink RX6 91 yX6_inverse, Cond.static yX6_inverse, Cond.code yX6_inverse cX6_inverse 11 (some .int), Cond.constant RX6 79 (65521), Cond.methodLink RX6 80 yX6_mod, Cond.static yX6_mod, Cond.code yX6_mod cX6_mod 4 (some .int), Cond.constantLong RX6 77 (65521), Cond.methodLink RX6 95 yX6_minus, Cond.instanceMethod yX6_minus, Cond.selects RX6 yX6_minus yX6_minus, Cond.code yX6_minus cX6_minus 5 none, Cond.methodLink RX6 157 yX6_layBefore]
def wsX6_sound_r3 : List Cond := [Cond.instanceMethod yX6_layBefore, Cond.selects RX6 yX6_layBefore yX6_layBefore, Cond.code yX6_layBefore cX6_layBefore 8 none, Cond.fieldLink RX6 22 "AffineHullsModel" "targets" "[I"]
def wsX6_sound : List Cond := .code yX6_sound cX6_sound 4 (some .boolean) :: ((wsX6_sound_r1 ++ (wsX6_sound_r2 ++ wsX6_sound_r3)) ++ wsX60)
def wsJ9_max_7cf53 : List Cond := .code yJ9_max_7cf53 cJ9_max_7cf53 2 (some .int) :: ([])
def wsJ9_min_7cf53 : List Cond := .code yJ9_min_7cf53 cJ9_min_7cf53 2 (some .int) :: ([])
def wsL_cell : List Cond := .code yL_cell cL_cell 2 (some .int) :: ([])
def wsL_term : List Cond := .codeWith yL_term cL_term 4 (some .int) [(0, 6, 9, 13)] :: ([.classLink RL 13 "java/lang/IllegalArgumentException", .methodLink RL 7 yX5_term, .instanceMethod yX5_term, .selects RX5 yX5_term yX5_term, .initialized RX5, .code yX5_term cX5_term 3 none, .fieldLink RX5 22 "AffineHulls" "draft" "[I", .methodLink RX5 69 yX5_requirePlace, .instanceMethod yX5_requirePlace, .selects RX5 yX5_requirePlace yX5_requirePlace, .code yX5_requirePlace cX5_requirePlace 2 none, .classLink RX5 79 "java/lang/IllegalArgumentException", .initialized "java/lang/IllegalArgumentException", .fieldLink RX5 18 "AffineHulls" "variables" "I", .methodLink RX5 72 yX5_number, .static yX5_number, .code yX5_number cX5_number 1 (some .int), .constant RX5 271 (65521), .methodLink RX5 272 yJ9_floorMod_7cf53, .static yJ9_floorMod_7cf53, .initialized RJ9, .code yJ9_floorMod_7cf53 cJ9_floorMod_7cf53 3 (some .int)] ++ wsX50 ++ (vx_atS RX5 83 "java/lang/IllegalArgumentException" ["java/lang/RuntimeException", "java/lang/Exception"]).filter goodWord)
def wsL_edge_r1 : List Cond := [Cond.classLink RL 13 "java/lang/IllegalArgumentException", Cond.classLink RL 19 "java/lang/IllegalStateException", Cond.methodLink RL 15 yX5_edge, Cond.instanceMethod yX5_edge, Cond.selects RX5 yX5_edge yX5_edge, Cond.initialized RX5, Cond.code yX5_edge cX5_edge 5 (some .int), Cond.classLink RX5 79 "java/lang/IllegalArgumentException", Cond.initialized "java/lang/IllegalArgumentException", Cond.classLink RX5 92 "java/lang/IllegalStateException", Cond.initialized "java/lang/IllegalStateException", Cond.fieldLink RX5 89 "AffineHulls" "edgeCount" "I", Cond.fieldLink RX5 43 "AffineHulls" "edges" "[LAffineHulls$Edge;", Cond.fieldLink RX5 22 "AffineHulls" "draft" "[I", Cond.fieldLink RX5 104 "AffineHulls" "analysed" "Z", Cond.methodLink RX5 76 yX5_requireNode, Cond.instanceMethod yX5_requireNode, Cond.selects RX5 yX5_requireNode yX5_requireNode, Cond.code yX5_requireNode cX5_requireNode 2 none, Cond.fieldLink RX5 57 "AffineHulls" "hulls" "[LAffineHulls$Hull;", Cond.methodLink RX5 86 yX5_requireVariable, Cond.instanceMethod yX5_requireVariable, Cond.selects RX5 yX5_requireVariable yX5_requireVariable, Cond.code yX5_requireVariable cX5_requireVariable 2 none]
def wsL_edge_r2 : List Cond := [Cond.fieldLink RX5 18 "AffineHulls" "variables" "I", Cond.methodLink RX5 97 yX0_set, Cond.instanceMethod yX0_set, Cond.selects RX0 yX0_set yX0_set, Cond.initialized RX0, Cond.code yX0_set cX0_set 6 none, Cond.fieldLink RX0 15 "AffineHulls$Edge" "from" "I", Cond.fieldLink RX0 19 "AffineHulls$Edge" "to" "I", Cond.fieldLink RX0 22 "AffineHulls$Edge" "kind" "I", Cond.fieldLink RX0 25 "AffineHulls$Edge" "variable" "I", Cond.fieldLink RX0 9 "AffineHulls$Edge" "form" "[I", Cond.static yX5_copy, Cond.code yX5_copy cX5_copy 2 none, Cond.methodLink RX5 277 arraycopyName, Cond.native arraycopyName, Cond.static arraycopyName, Cond.initialized "java/lang/System", Cond.methodLink RX5 101 yX5_clearDraft, Cond.instanceMethod yX5_clearDraft, Cond.selects RX5 yX5_clearDraft yX5_clearDraft, Cond.code yX5_clearDraft cX5_clearDraft 1 none, Cond.methodLink RX5 215 yJ7_fill_53178, Cond.static yJ7_fill_53178, Cond.initialized RJ7]
def wsL_edge_r3 : List Cond := [Cond.code yJ7_fill_53178 cJ7_fill_53178 4 none]
def wsL_edge : List Cond := .codeWith yL_edge cL_edge 7 (some .int) [(0, 14, 17, 13), (0, 14, 21, 19)] :: ((wsL_edge_r1 ++ (wsL_edge_r2 ++ wsL_edge_r3)) ++ wsX50 ++ wsX00 ++ (vx_atS RX5 83 "java/lang/IllegalArgumentException" ["java/lang/RuntimeException", "java/lang/Exception"]).filter goodWord ++ (vx_atS RX5 96 "java/lang/IllegalStateException" ["java/lang/RuntimeException", "java/lang/Exception"]).filter goodWord)
def wsL_entry : List Cond := .codeWith yL_entry cL_entry 3 (some .int) [(0, 5, 8, 13)] :: ([.classLink RL 13 "java/lang/IllegalArgumentException", .methodLink RL 21 yX5_entry, .instanceMethod yX5_entry, .selects RX5 yX5_entry yX5_entry, .initialized RX5, .code yX5_entry cX5_entry 2 none, .fieldLink RX5 108 "AffineHulls" "entryNode" "I", .fieldLink RX5 111 "AffineHulls" "place" "I", .fieldLink RX5 104 "AffineHulls" "analysed" "Z", .methodLink RX5 76 yX5_requireNode, .instanceMethod yX5_requireNode, .selects RX5 yX5_requireNode yX5_requireNode, .code yX5_requireNode cX5_requireNode 2 none, .classLink RX5 79 "java/lang/IllegalArgumentException", .initialized "java/lang/IllegalArgumentException", .fieldLink RX5 57 "AffineHulls" "hulls" "[LAffineHulls$Hull;"] ++ wsX50 ++ (vx_atS RX5 83 "java/lang/IllegalArgumentException" ["java/lang/RuntimeException", "java/lang/Exception"]).filter goodWord)
def wsL_points : List Cond := .codeWith yL_points cL_points 4 (some .int) [(0, 9, 12, 13), (0, 9, 15, 19)] :: ([.classLink RL 13 "java/lang/IllegalArgumentException", .classLink RL 19 "java/lang/IllegalStateException", .methodLink RL 25 yX5_points, .instanceMethod yX5_points, .selects RX5 yX5_points yX5_points, .initialized RX5, .code yX5_points cX5_points 2 (some .int), .fieldLink RX5 57 "AffineHulls" "hulls" "[LAffineHulls$Hull;", .fieldLink RX5 130 "AffineHulls$Hull" "pointCount" "I", .methodLink RX5 76 yX5_requireNode, .instanceMethod yX5_requireNode, .selects RX5 yX5_requireNode yX5_requireNode, .code yX5_requireNode cX5_requireNode 2 none, .classLink RX5 79 "java/lang/IllegalArgumentException", .initialized "java/lang/IllegalArgumentException", .methodLink RX5 127 yX5_requireAnalysed, .instanceMethod yX5_requireAnalysed, .selects RX5 yX5_requireAnalysed yX5_requireAnalysed, .code yX5_requireAnalysed cX5_requireAnalysed 1 none, .classLink RX5 92 "java/lang/IllegalStateException", .initialized "java/lang/IllegalStateException", .fieldLink RX5 104 "AffineHulls" "analysed" "Z"] ++ wsX50 ++ wsX10 ++ (vx_atS RX5 83 "java/lang/IllegalArgumentException" ["java/lang/RuntimeException", "java/lang/Exception"]).filter goodWord ++ (vx_atS RX5 96 "java/lang/IllegalStateException" ["java/lang/RuntimeException", "java/lang/Exception"]).filter goodWord)
def wsL_point_r1 : List Cond := [Cond.classLink RL 13 "java/lang/IllegalArgumentException", Cond.classLink RL 19 "java/lang/IllegalStateException", Cond.classLink RL 33 "java/lang/IndexOutOfBoundsException", Cond.methodLink RL 29 yX5_point, Cond.instanceMethod yX5_point, Cond.selects RX5 yX5_point yX5_point, Cond.initialized RX5, Cond.code yX5_point cX5_point 6 (some .int), Cond.classLink RX5 133 "java/lang/IndexOutOfBoundsException", Cond.initialized "java/lang/IndexOutOfBoundsException", Cond.fieldLink RX5 57 "AffineHulls" "hulls" "[LAffineHulls$Hull;", Cond.fieldLink RX5 130 "AffineHulls$Hull" "pointCount" "I", Cond.fieldLink RX5 64 "AffineHulls" "arrivals" "[LAffineHulls$Point;", Cond.fieldLink RX5 138 "AffineHulls$Hull" "members" "[I", Cond.fieldLink RX5 141 "AffineHulls$Point" "origin" "I", Cond.fieldLink RX5 144 "AffineHulls$Point" "row" "[I", Cond.methodLink RX5 76 yX5_requireNode, Cond.instanceMethod yX5_requireNode, Cond.selects RX5 yX5_requireNode yX5_requireNode, Cond.code yX5_requireNode cX5_requireNode 2 none, Cond.classLink RX5 79 "java/lang/IllegalArgumentException", Cond.initialized "java/lang/IllegalArgumentException", Cond.methodLink RX5 69 yX5_requirePlace, Cond.instanceMethod yX5_requirePlace]
def wsL_point_r2 : List Cond := [Cond.selects RX5 yX5_requirePlace yX5_requirePlace, Cond.code yX5_requirePlace cX5_requirePlace 2 none, Cond.fieldLink RX5 18 "AffineHulls" "variables" "I", Cond.methodLink RX5 127 yX5_requireAnalysed, Cond.instanceMethod yX5_requireAnalysed, Cond.selects RX5 yX5_requireAnalysed yX5_requireAnalysed, Cond.code yX5_requireAnalysed cX5_requireAnalysed 1 none, Cond.classLink RX5 92 "java/lang/IllegalStateException", Cond.initialized "java/lang/IllegalStateException", Cond.fieldLink RX5 104 "AffineHulls" "analysed" "Z"]
def wsL_point : List Cond := .codeWith yL_point cL_point 6 (some .int) [(0, 12, 15, 13), (0, 12, 19, 19), (0, 12, 23, 33)] :: ((wsL_point_r1 ++ wsL_point_r2) ++ wsX50 ++ wsX10 ++ wsX30 ++ (vx_atS RX5 137 "java/lang/IndexOutOfBoundsException" ["java/lang/RuntimeException", "java/lang/Exception"]).filter goodWord ++ (vx_atS RX5 83 "java/lang/IllegalArgumentException" ["java/lang/RuntimeException", "java/lang/Exception"]).filter goodWord ++ (vx_atS RX5 96 "java/lang/IllegalStateException" ["java/lang/RuntimeException", "java/lang/Exception"]).filter goodWord)
def wsL_equations_r1 : List Cond := [Cond.classLink RL 13 "java/lang/IllegalArgumentException", Cond.classLink RL 19 "java/lang/IllegalStateException", Cond.methodLink RL 35 yX5_equations, Cond.instanceMethod yX5_equations, Cond.selects RX5 yX5_equations yX5_equations, Cond.initialized RX5, Cond.code yX5_equations cX5_equations 2 (some .int), Cond.fieldLink RX5 57 "AffineHulls" "hulls" "[LAffineHulls$Hull;", Cond.methodLink RX5 76 yX5_requireNode, Cond.instanceMethod yX5_requireNode, Cond.selects RX5 yX5_requireNode yX5_requireNode, Cond.code yX5_requireNode cX5_requireNode 2 none, Cond.classLink RX5 79 "java/lang/IllegalArgumentException", Cond.initialized "java/lang/IllegalArgumentException", Cond.methodLink RX5 127 yX5_requireAnalysed, Cond.instanceMethod yX5_requireAnalysed, Cond.selects RX5 yX5_requireAnalysed yX5_requireAnalysed, Cond.code yX5_requireAnalysed cX5_requireAnalysed 1 none, Cond.classLink RX5 92 "java/lang/IllegalStateException", Cond.initialized "java/lang/IllegalStateException", Cond.fieldLink RX5 104 "AffineHulls" "analysed" "Z", Cond.methodLink RX5 147 yX1_equationCount, Cond.instanceMethod yX1_equationCount, Cond.selects RX1 yX1_equationCount yX1_equationCount]
def wsL_equations_r2 : List Cond := [Cond.initialized RX1, Cond.code yX1_equationCount cX1_equationCount 1 (some .int), Cond.fieldLink RX1 18 "AffineHulls$Hull" "members" "[I", Cond.fieldLink RX1 25 "AffineHulls$Hull" "pointCount" "I"]
def wsL_equations : List Cond := .codeWith yL_equations cL_equations 4 (some .int) [(0, 9, 12, 13), (0, 9, 15, 19)] :: ((wsL_equations_r1 ++ wsL_equations_r2) ++ wsX50 ++ wsX10 ++ (vx_atS RX5 83 "java/lang/IllegalArgumentException" ["java/lang/RuntimeException", "java/lang/Exception"]).filter goodWord ++ (vx_atS RX5 96 "java/lang/IllegalStateException" ["java/lang/RuntimeException", "java/lang/Exception"]).filter goodWord)
def wsL_coefficient_r1 : List Cond := [Cond.classLink RL 13 "java/lang/IllegalArgumentException", Cond.classLink RL 19 "java/lang/IllegalStateException", Cond.classLink RL 33 "java/lang/IndexOutOfBoundsException", Cond.methodLink RL 38 yX5_coefficient, Cond.instanceMethod yX5_coefficient, Cond.selects RX5 yX5_coefficient yX5_coefficient, Cond.initialized RX5, Cond.code yX5_coefficient cX5_coefficient 5 (some .int), Cond.classLink RX5 133 "java/lang/IndexOutOfBoundsException", Cond.initialized "java/lang/IndexOutOfBoundsException", Cond.fieldLink RX5 57 "AffineHulls" "hulls" "[LAffineHulls$Hull;", Cond.fieldLink RX5 153 "AffineHulls$Hull" "span" "LAffineHulls$Span;", Cond.methodLink RX5 76 yX5_requireNode, Cond.instanceMethod yX5_requireNode, Cond.selects RX5 yX5_requireNode yX5_requireNode, Cond.code yX5_requireNode cX5_requireNode 2 none, Cond.classLink RX5 79 "java/lang/IllegalArgumentException", Cond.initialized "java/lang/IllegalArgumentException", Cond.methodLink RX5 69 yX5_requirePlace, Cond.instanceMethod yX5_requirePlace, Cond.selects RX5 yX5_requirePlace yX5_requirePlace, Cond.code yX5_requirePlace cX5_requirePlace 2 none, Cond.fieldLink RX5 18 "AffineHulls" "variables" "I", Cond.methodLink RX5 127 yX5_requireAnalysed]
def wsL_coefficient_r2 : List Cond := [Cond.instanceMethod yX5_requireAnalysed, Cond.selects RX5 yX5_requireAnalysed yX5_requireAnalysed, Cond.code yX5_requireAnalysed cX5_requireAnalysed 1 none, Cond.classLink RX5 92 "java/lang/IllegalStateException", Cond.initialized "java/lang/IllegalStateException", Cond.fieldLink RX5 104 "AffineHulls" "analysed" "Z", Cond.methodLink RX5 147 yX1_equationCount, Cond.instanceMethod yX1_equationCount, Cond.selects RX1 yX1_equationCount yX1_equationCount, Cond.initialized RX1, Cond.code yX1_equationCount cX1_equationCount 1 (some .int), Cond.fieldLink RX1 18 "AffineHulls$Hull" "members" "[I", Cond.fieldLink RX1 25 "AffineHulls$Hull" "pointCount" "I", Cond.methodLink RX5 156 yX4_freePlace, Cond.instanceMethod yX4_freePlace, Cond.selects RX4 yX4_freePlace yX4_freePlace, Cond.initialized RX4, Cond.code yX4_freePlace cX4_freePlace 4 (some .int), Cond.fieldLink RX4 16 "AffineHulls$Span" "taken" "[Z", Cond.methodLink RX5 159 yX4_vanishing, Cond.instanceMethod yX4_vanishing, Cond.selects RX4 yX4_vanishing yX4_vanishing, Cond.code yX4_vanishing cX4_vanishing 3 (some .int), Cond.fieldLink RX4 11 "AffineHulls$Span" "kept" "[[I"]
def wsL_coefficient_r3 : List Cond := [Cond.static yX5_number, Cond.code yX5_number cX5_number 1 (some .int), Cond.constant RX5 271 (65521), Cond.methodLink RX5 272 yJ9_floorMod_7cf53, Cond.static yJ9_floorMod_7cf53, Cond.initialized RJ9, Cond.code yJ9_floorMod_7cf53 cJ9_floorMod_7cf53 3 (some .int)]
def wsL_coefficient : List Cond := .codeWith yL_coefficient cL_coefficient 6 (some .int) [(0, 12, 15, 13), (0, 12, 19, 19), (0, 12, 23, 33)] :: ((wsL_coefficient_r1 ++ (wsL_coefficient_r2 ++ wsL_coefficient_r3)) ++ wsX50 ++ wsX10 ++ wsX40 ++ (vx_atS RX5 137 "java/lang/IndexOutOfBoundsException" ["java/lang/RuntimeException", "java/lang/Exception"]).filter goodWord ++ (vx_atS RX5 83 "java/lang/IllegalArgumentException" ["java/lang/RuntimeException", "java/lang/Exception"]).filter goodWord ++ (vx_atS RX5 96 "java/lang/IllegalStateException" ["java/lang/RuntimeException", "java/lang/Exception"]).filter goodWord)
def wsL_holds_r1 : List Cond := [Cond.classLink RL 13 "java/lang/IllegalArgumentException", Cond.classLink RL 19 "java/lang/IllegalStateException", Cond.methodLink RL 41 yX5_holds, Cond.instanceMethod yX5_holds, Cond.selects RX5 yX5_holds yX5_holds, Cond.initialized RX5, Cond.code yX5_holds cX5_holds 3 (some .boolean), Cond.fieldLink RX5 57 "AffineHulls" "hulls" "[LAffineHulls$Hull;", Cond.methodLink RX5 76 yX5_requireNode, Cond.instanceMethod yX5_requireNode, Cond.selects RX5 yX5_requireNode yX5_requireNode, Cond.code yX5_requireNode cX5_requireNode 2 none, Cond.classLink RX5 79 "java/lang/IllegalArgumentException", Cond.initialized "java/lang/IllegalArgumentException", Cond.methodLink RX5 127 yX5_requireAnalysed, Cond.instanceMethod yX5_requireAnalysed, Cond.selects RX5 yX5_requireAnalysed yX5_requireAnalysed, Cond.code yX5_requireAnalysed cX5_requireAnalysed 1 none, Cond.classLink RX5 92 "java/lang/IllegalStateException", Cond.initialized "java/lang/IllegalStateException", Cond.fieldLink RX5 104 "AffineHulls" "analysed" "Z", Cond.methodLink RX5 162 yX5_holdsAtPoints, Cond.instanceMethod yX5_holdsAtPoints, Cond.selects RX5 yX5_holdsAtPoints yX5_holdsAtPoints]
def wsL_holds_r2 : List Cond := [Cond.code yX5_holdsAtPoints cX5_holdsAtPoints 3 (some .boolean), Cond.fieldLink RX5 130 "AffineHulls$Hull" "pointCount" "I", Cond.fieldLink RX5 22 "AffineHulls" "draft" "[I", Cond.fieldLink RX5 64 "AffineHulls" "arrivals" "[LAffineHulls$Point;", Cond.fieldLink RX5 138 "AffineHulls$Hull" "members" "[I", Cond.fieldLink RX5 144 "AffineHulls$Point" "row" "[I", Cond.methodLink RX5 248 yX5_valueOf, Cond.static yX5_valueOf, Cond.code yX5_valueOf cX5_valueOf 5 (some .int), Cond.constantLong RX5 275 (65521), Cond.methodLink RX5 101 yX5_clearDraft, Cond.instanceMethod yX5_clearDraft, Cond.selects RX5 yX5_clearDraft yX5_clearDraft, Cond.code yX5_clearDraft cX5_clearDraft 1 none, Cond.methodLink RX5 215 yJ7_fill_53178, Cond.static yJ7_fill_53178, Cond.initialized RJ7, Cond.code yJ7_fill_53178 cJ7_fill_53178 4 none]
def wsL_holds : List Cond := .codeWith yL_holds cL_holds 4 (some .int) [(0, 16, 19, 13), (0, 16, 22, 19)] :: ((wsL_holds_r1 ++ wsL_holds_r2) ++ wsX50 ++ wsX10 ++ wsX30 ++ (vx_atS RX5 83 "java/lang/IllegalArgumentException" ["java/lang/RuntimeException", "java/lang/Exception"]).filter goodWord ++ (vx_atS RX5 96 "java/lang/IllegalStateException" ["java/lang/RuntimeException", "java/lang/Exception"]).filter goodWord)
def wsL_begin : List Cond := .codeWith yL_begin cL_begin 4 (some .int) [(0, 6, 9, 13)] :: ([.classLink RL 13 "java/lang/IllegalArgumentException", .methodLink RL 45 yX5_begin, .instanceMethod yX5_begin, .selects RX5 yX5_begin yX5_begin, .initialized RX5, .code yX5_begin cX5_begin 3 none, .fieldLink RX5 29 "AffineHulls" "values" "[I", .fieldLink RX5 108 "AffineHulls" "entryNode" "I", .fieldLink RX5 111 "AffineHulls" "place" "I", .methodLink RX5 86 yX5_requireVariable, .instanceMethod yX5_requireVariable, .selects RX5 yX5_requireVariable yX5_requireVariable, .code yX5_requireVariable cX5_requireVariable 2 none, .classLink RX5 79 "java/lang/IllegalArgumentException", .initialized "java/lang/IllegalArgumentException", .fieldLink RX5 18 "AffineHulls" "variables" "I", .methodLink RX5 72 yX5_number, .static yX5_number, .code yX5_number cX5_number 1 (some .int), .constant RX5 271 (65521), .methodLink RX5 272 yJ9_floorMod_7cf53, .static yJ9_floorMod_7cf53, .initialized RJ9, .code yJ9_floorMod_7cf53 cJ9_floorMod_7cf53 3 (some .int)] ++ wsX50 ++ (vx_atS RX5 83 "java/lang/IllegalArgumentException" ["java/lang/RuntimeException", "java/lang/Exception"]).filter goodWord)
def wsL_go_r1 : List Cond := [Cond.classLink RL 13 "java/lang/IllegalArgumentException", Cond.methodLink RL 48 yX5_go, Cond.instanceMethod yX5_go, Cond.selects RX5 yX5_go yX5_go, Cond.initialized RX5, Cond.code yX5_go cX5_go 4 (some .boolean), Cond.classLink RX5 79 "java/lang/IllegalArgumentException", Cond.initialized "java/lang/IllegalArgumentException", Cond.fieldLink RX5 89 "AffineHulls" "edgeCount" "I", Cond.fieldLink RX5 43 "AffineHulls" "edges" "[LAffineHulls$Edge;", Cond.fieldLink RX5 168 "AffineHulls$Edge" "from" "I", Cond.fieldLink RX5 111 "AffineHulls" "place" "I", Cond.fieldLink RX5 29 "AffineHulls" "values" "[I", Cond.fieldLink RX5 181 "AffineHulls$Edge" "to" "I", Cond.methodLink RX5 173 yX0_isOpen, Cond.instanceMethod yX0_isOpen, Cond.selects RX0 yX0_isOpen yX0_isOpen, Cond.initialized RX0, Cond.code yX0_isOpen cX0_isOpen 2 (some .boolean), Cond.fieldLink RX0 22 "AffineHulls$Edge" "kind" "I", Cond.fieldLink RX0 9 "AffineHulls$Edge" "form" "[I", Cond.static yX5_valueOf, Cond.code yX5_valueOf cX5_valueOf 5 (some .int), Cond.constantLong RX5 275 (65521)]
def wsL_go_r2 : List Cond := [Cond.methodLink RX5 72 yX5_number, Cond.static yX5_number, Cond.code yX5_number cX5_number 1 (some .int), Cond.constant RX5 271 (65521), Cond.methodLink RX5 272 yJ9_floorMod_7cf53, Cond.static yJ9_floorMod_7cf53, Cond.initialized RJ9, Cond.code yJ9_floorMod_7cf53 cJ9_floorMod_7cf53 3 (some .int), Cond.methodLink RX5 177 yX0_step, Cond.instanceMethod yX0_step, Cond.selects RX0 yX0_step yX0_step, Cond.code yX0_step cX0_step 3 none, Cond.fieldLink RX0 25 "AffineHulls$Edge" "variable" "I"]
def wsL_go : List Cond := .codeWith yL_go cL_go 5 (some .int) [(0, 17, 20, 13)] :: ((wsL_go_r1 ++ wsL_go_r2) ++ wsX50 ++ wsX00 ++ (vx_atS RX5 83 "java/lang/IllegalArgumentException" ["java/lang/RuntimeException", "java/lang/Exception"]).filter goodWord)
def wsL_at : List Cond := .codeWith yL_at cL_at 4 (some .int) [(0, 9, 12, 13)] :: ([.classLink RL 13 "java/lang/IllegalArgumentException", .methodLink RL 52 yX5_at, .instanceMethod yX5_at, .selects RX5 yX5_at yX5_at, .initialized RX5, .code yX5_at cX5_at 2 (some .int), .fieldLink RX5 111 "AffineHulls" "place" "I", .fieldLink RX5 29 "AffineHulls" "values" "[I", .methodLink RX5 69 yX5_requirePlace, .instanceMethod yX5_requirePlace, .selects RX5 yX5_requirePlace yX5_requirePlace, .code yX5_requirePlace cX5_requirePlace 2 none, .classLink RX5 79 "java/lang/IllegalArgumentException", .initialized "java/lang/IllegalArgumentException", .fieldLink RX5 18 "AffineHulls" "variables" "I"] ++ wsX50 ++ (vx_atS RX5 83 "java/lang/IllegalArgumentException" ["java/lang/RuntimeException", "java/lang/Exception"]).filter goodWord)
def wsL_note_r1 : List Cond := [Cond.classLink RL 13 "java/lang/IllegalArgumentException", Cond.classLink RL 19 "java/lang/IllegalStateException", Cond.methodLink RL 55 yX5_note, Cond.instanceMethod yX5_note, Cond.selects RX5 yX5_note yX5_note, Cond.initialized RX5, Cond.code yX5_note cX5_note 2 (some .int), Cond.classLink RX5 92 "java/lang/IllegalStateException", Cond.initialized "java/lang/IllegalStateException", Cond.fieldLink RX5 184 "AffineHulls" "noteCount" "I", Cond.fieldLink RX5 50 "AffineHulls" "notes" "[LAffineHulls$Note;", Cond.fieldLink RX5 22 "AffineHulls" "draft" "[I", Cond.methodLink RX5 76 yX5_requireNode, Cond.instanceMethod yX5_requireNode, Cond.selects RX5 yX5_requireNode yX5_requireNode, Cond.code yX5_requireNode cX5_requireNode 2 none, Cond.classLink RX5 79 "java/lang/IllegalArgumentException", Cond.initialized "java/lang/IllegalArgumentException", Cond.fieldLink RX5 57 "AffineHulls" "hulls" "[LAffineHulls$Hull;", Cond.methodLink RX5 189 yX2_set, Cond.instanceMethod yX2_set, Cond.selects RX2 yX2_set yX2_set, Cond.initialized RX2, Cond.code yX2_set cX2_set 3 none]
def wsL_note_r2 : List Cond := [Cond.fieldLink RX2 13 "AffineHulls$Note" "node" "I", Cond.fieldLink RX2 7 "AffineHulls$Note" "form" "[I", Cond.static yX5_copy, Cond.code yX5_copy cX5_copy 2 none, Cond.methodLink RX5 277 arraycopyName, Cond.native arraycopyName, Cond.static arraycopyName, Cond.initialized "java/lang/System", Cond.methodLink RX5 101 yX5_clearDraft, Cond.instanceMethod yX5_clearDraft, Cond.selects RX5 yX5_clearDraft yX5_clearDraft, Cond.code yX5_clearDraft cX5_clearDraft 1 none, Cond.methodLink RX5 215 yJ7_fill_53178, Cond.static yJ7_fill_53178, Cond.initialized RJ7, Cond.code yJ7_fill_53178 cJ7_fill_53178 4 none]
def wsL_note : List Cond := .codeWith yL_note cL_note 4 (some .int) [(0, 9, 12, 13), (0, 9, 15, 19)] :: ((wsL_note_r1 ++ wsL_note_r2) ++ wsX50 ++ wsX20 ++ (vx_atS RX5 96 "java/lang/IllegalStateException" ["java/lang/RuntimeException", "java/lang/Exception"]).filter goodWord ++ (vx_atS RX5 83 "java/lang/IllegalArgumentException" ["java/lang/RuntimeException", "java/lang/Exception"]).filter goodWord)
def wsL_noteAll_r1 : List Cond := [Cond.classLink RL 19 "java/lang/IllegalStateException", Cond.classLink RL 62 "java/lang/UnsupportedOperationException", Cond.methodLink RL 58 yX5_noteAll, Cond.instanceMethod yX5_noteAll, Cond.selects RX5 yX5_noteAll yX5_noteAll, Cond.initialized RX5, Cond.code yX5_noteAll cX5_noteAll 3 (some .int), Cond.classLink RX5 192 "java/lang/UnsupportedOperationException", Cond.initialized "java/lang/UnsupportedOperationException", Cond.fieldLink RX5 57 "AffineHulls" "hulls" "[LAffineHulls$Hull;", Cond.fieldLink RX5 184 "AffineHulls" "noteCount" "I", Cond.methodLink RX5 127 yX5_requireAnalysed, Cond.instanceMethod yX5_requireAnalysed, Cond.selects RX5 yX5_requireAnalysed yX5_requireAnalysed, Cond.code yX5_requireAnalysed cX5_requireAnalysed 1 none, Cond.classLink RX5 92 "java/lang/IllegalStateException", Cond.initialized "java/lang/IllegalStateException", Cond.fieldLink RX5 104 "AffineHulls" "analysed" "Z", Cond.methodLink RX5 147 yX1_equationCount, Cond.instanceMethod yX1_equationCount, Cond.selects RX1 yX1_equationCount yX1_equationCount, Cond.initialized RX1, Cond.code yX1_equationCount cX1_equationCount 1 (some .int), Cond.fieldLink RX1 18 "AffineHulls$Hull" "members" "[I"]
def wsL_noteAll_r2 : List Cond := [Cond.fieldLink RX1 25 "AffineHulls$Hull" "pointCount" "I", Cond.methodLink RX5 197 yX5_noteEquations, Cond.instanceMethod yX5_noteEquations, Cond.selects RX5 yX5_noteEquations yX5_noteEquations, Cond.code yX5_noteEquations cX5_noteEquations 7 none, Cond.fieldLink RX5 153 "AffineHulls$Hull" "span" "LAffineHulls$Span;", Cond.fieldLink RX5 18 "AffineHulls" "variables" "I", Cond.fieldLink RX5 26 "AffineHulls" "work" "[I", Cond.fieldLink RX5 50 "AffineHulls" "notes" "[LAffineHulls$Note;", Cond.methodLink RX5 156 yX4_freePlace, Cond.instanceMethod yX4_freePlace, Cond.selects RX4 yX4_freePlace yX4_freePlace, Cond.initialized RX4, Cond.code yX4_freePlace cX4_freePlace 4 (some .int), Cond.fieldLink RX4 16 "AffineHulls$Span" "taken" "[Z", Cond.methodLink RX5 159 yX4_vanishing, Cond.instanceMethod yX4_vanishing, Cond.selects RX4 yX4_vanishing yX4_vanishing, Cond.code yX4_vanishing cX4_vanishing 3 (some .int), Cond.fieldLink RX4 11 "AffineHulls$Span" "kept" "[[I", Cond.static yX5_number, Cond.code yX5_number cX5_number 1 (some .int), Cond.constant RX5 271 (65521), Cond.methodLink RX5 272 yJ9_floorMod_7cf53]
def wsL_noteAll_r3 : List Cond := [Cond.static yJ9_floorMod_7cf53, Cond.initialized RJ9, Cond.code yJ9_floorMod_7cf53 cJ9_floorMod_7cf53 3 (some .int), Cond.methodLink RX5 189 yX2_set, Cond.instanceMethod yX2_set, Cond.selects RX2 yX2_set yX2_set, Cond.initialized RX2, Cond.code yX2_set cX2_set 3 none, Cond.fieldLink RX2 13 "AffineHulls$Note" "node" "I", Cond.fieldLink RX2 7 "AffineHulls$Note" "form" "[I", Cond.static yX5_copy, Cond.code yX5_copy cX5_copy 2 none, Cond.methodLink RX5 277 arraycopyName, Cond.native arraycopyName, Cond.static arraycopyName, Cond.initialized "java/lang/System"]
def wsL_noteAll : List Cond := .codeWith yL_noteAll cL_noteAll 3 (some .int) [(0, 8, 11, 19), (0, 8, 14, 62)] :: ((wsL_noteAll_r1 ++ (wsL_noteAll_r2 ++ wsL_noteAll_r3)) ++ wsX50 ++ wsX10 ++ wsX40 ++ wsX20 ++ (vx_atS RX5 196 "java/lang/UnsupportedOperationException" ["java/lang/RuntimeException", "java/lang/Exception"]).filter goodWord ++ (vx_atS RX5 96 "java/lang/IllegalStateException" ["java/lang/RuntimeException", "java/lang/Exception"]).filter goodWord)
def wsL_law0_r1 : List Cond := [Cond.classLink RL 8 RX5, Cond.instantiable RX5 15, Cond.initialized RX5, Cond.classLink RL 72 RX6, Cond.instantiable RX6 29, Cond.initialized RX6, Cond.arrayClass .long, Cond.methodLink RL 64 yL_cell, Cond.static yL_cell, Cond.initialized RL, Cond.code yL_cell cL_cell 2 (some .int), Cond.methodLink RL 70 yX5_init, Cond.instanceMethod yX5_init, Cond.code yX5_init cX5_init 6 none, Cond.methodLink RX5 1 objectInit, Cond.instanceMethod objectInit, Cond.code objectInit ⟨#[0xb1]⟩ 1 none, Cond.methodLink RX5 9 Lib.Math.min.name, Cond.static Lib.Math.min.name, Cond.initialized "java/lang/Math", Cond.code Lib.Math.min.name Lib.Math.min.code 2 (some .int), Cond.methodLink RX5 15 Lib.Math.max.name, Cond.static Lib.Math.max.name, Cond.code Lib.Math.max.name Lib.Math.max.code 2 (some .int)]
def wsL_law0_r2 : List Cond := [Cond.fieldLink RX5 18 "AffineHulls" "variables" "I", Cond.arrayClass .int, Cond.fieldLink RX5 22 "AffineHulls" "draft" "[I", Cond.fieldLink RX5 26 "AffineHulls" "work" "[I", Cond.fieldLink RX5 29 "AffineHulls" "values" "[I", Cond.classLink RX5 32 RX4, Cond.instantiable RX4 3, Cond.initialized RX4, Cond.fieldLink RX5 37 "AffineHulls" "noteSpan" "LAffineHulls$Span;", Cond.classLink RX5 41 RX0, Cond.fieldLink RX5 43 "AffineHulls" "edges" "[LAffineHulls$Edge;", Cond.instantiable RX0 5, Cond.initialized RX0, Cond.classLink RX5 48 RX2, Cond.fieldLink RX5 50 "AffineHulls" "notes" "[LAffineHulls$Note;", Cond.instantiable RX2 2, Cond.initialized RX2, Cond.classLink RX5 55 RX1, Cond.fieldLink RX5 57 "AffineHulls" "hulls" "[LAffineHulls$Hull;", Cond.instantiable RX1 3, Cond.initialized RX1, Cond.classLink RX5 62 RX3, Cond.fieldLink RX5 64 "AffineHulls" "arrivals" "[LAffineHulls$Point;", Cond.instantiable RX3 4]
def wsL_law0_r3 : List Cond := [Cond.initialized RX3, Cond.methodLink RX5 34 yX4_init, Cond.instanceMethod yX4_init, Cond.code yX4_init cX4_init 2 none, Cond.methodLink RX4 3 objectInit, Cond.classLink RX4 9 "[[I", Cond.fieldLink RX4 11 "AffineHulls$Span" "kept" "[[I", Cond.arrayClass .boolean, Cond.fieldLink RX4 16 "AffineHulls$Span" "taken" "[Z", Cond.fieldLink RX4 20 "AffineHulls$Span" "rest" "[I", Cond.methodLink RX5 47 yX0_init, Cond.instanceMethod yX0_init, Cond.code yX0_init cX0_init 2 none, Cond.methodLink RX0 3 objectInit, Cond.fieldLink RX0 9 "AffineHulls$Edge" "form" "[I", Cond.methodLink RX5 54 yX2_init, Cond.instanceMethod yX2_init, Cond.code yX2_init cX2_init 2 none, Cond.methodLink RX2 1 objectInit, Cond.fieldLink RX2 7 "AffineHulls$Note" "form" "[I", Cond.methodLink RX5 61 yX1_init, Cond.instanceMethod yX1_init, Cond.code yX1_init cX1_init 2 none, Cond.methodLink RX1 1 objectInit]
def wsL_law0_r4 : List Cond := [Cond.classLink RX1 7 RX4, Cond.fieldLink RX1 12 "AffineHulls$Hull" "span" "LAffineHulls$Span;", Cond.fieldLink RX1 18 "AffineHulls$Hull" "members" "[I", Cond.methodLink RX1 9 yX4_init, Cond.methodLink RX5 68 yX3_init, Cond.instanceMethod yX3_init, Cond.code yX3_init cX3_init 2 none, Cond.methodLink RX3 1 objectInit, Cond.fieldLink RX3 7 "AffineHulls$Point" "row" "[I", Cond.methodLink RL 74 yX6_init, Cond.instanceMethod yX6_init, Cond.code yX6_init cX6_init 3 none, Cond.methodLink RX6 1 objectInit, Cond.fieldLink RX6 7 "AffineHullsModel" "draft" "[I", Cond.fieldLink RX6 13 "AffineHullsModel" "froms" "[I", Cond.fieldLink RX6 16 "AffineHullsModel" "tos" "[I", Cond.fieldLink RX6 19 "AffineHullsModel" "kinds" "[I", Cond.fieldLink RX6 22 "AffineHullsModel" "targets" "[I", Cond.fieldLink RX6 25 "AffineHullsModel" "forms" "[I", Cond.fieldLink RX6 28 "AffineHullsModel" "many" "[I", Cond.fieldLink RX6 31 "AffineHullsModel" "points" "[I", Cond.fieldLink RX6 34 "AffineHullsModel" "came" "[I", Cond.fieldLink RX6 37 "AffineHullsModel" "nodeOf" "[I", Cond.fieldLink RX6 40 "AffineHullsModel" "numberOf" "[I"]
def wsL_law0_r5 : List Cond := [Cond.fieldLink RX6 43 "AffineHullsModel" "rows" "[I", Cond.fieldLink RX6 46 "AffineHullsModel" "equations" "[I", Cond.fieldLink RX6 49 "AffineHullsModel" "values" "[I", Cond.fieldLink RX6 52 "AffineHullsModel" "noteNode" "[I", Cond.fieldLink RX6 55 "AffineHullsModel" "noteForm" "[I", Cond.fieldLink RX6 58 "AffineHullsModel" "table" "[I", Cond.fieldLink RX6 61 "AffineHullsModel" "pivots" "[I", Cond.fieldLink RX6 64 "AffineHullsModel" "row" "[I", Cond.fieldLink RX6 67 "AffineHullsModel" "n" "I", Cond.fieldLink RX6 71 "AffineHullsModel" "v" "I", Cond.methodLink RL 75 yL_term, Cond.static yL_term, Cond.codeWith yL_term cL_term 4 (some .int) [(0, 6, 9, 13)], Cond.classLink RL 13 "java/lang/IllegalArgumentException", Cond.methodLink RL 7 yX5_term, Cond.instanceMethod yX5_term, Cond.selects RX5 yX5_term yX5_term, Cond.code yX5_term cX5_term 3 none, Cond.methodLink RX5 69 yX5_requirePlace, Cond.instanceMethod yX5_requirePlace, Cond.selects RX5 yX5_requirePlace yX5_requirePlace, Cond.code yX5_requirePlace cX5_requirePlace 2 none, Cond.classLink RX5 79 "java/lang/IllegalArgumentException", Cond.initialized "java/lang/IllegalArgumentException"]
def wsL_law0_r6 : List Cond := [Cond.methodLink RX5 72 yX5_number, Cond.static yX5_number, Cond.code yX5_number cX5_number 1 (some .int), Cond.constant RX5 271 (65521), Cond.methodLink RX5 272 yJ9_floorMod_7cf53, Cond.static yJ9_floorMod_7cf53, Cond.initialized RJ9, Cond.code yJ9_floorMod_7cf53 cJ9_floorMod_7cf53 3 (some .int), Cond.methodLink RL 78 yX6_term, Cond.instanceMethod yX6_term, Cond.selects RX6 yX6_term yX6_term, Cond.code yX6_term cX6_term 3 none, Cond.fieldLink RX6 74 "AffineHullsModel" "thrown" "I", Cond.methodLink RX6 80 yX6_mod, Cond.static yX6_mod, Cond.code yX6_mod cX6_mod 4 (some .int), Cond.constantLong RX6 77 (65521), Cond.methodLink RL 79 yX6_thrown, Cond.instanceMethod yX6_thrown, Cond.selects RX6 yX6_thrown yX6_thrown, Cond.code yX6_thrown cX6_thrown 1 (some .int), Cond.methodLink RL 82 yL_edge, Cond.static yL_edge, Cond.codeWith yL_edge cL_edge 7 (some .int) [(0, 14, 17, 13), (0, 14, 21, 19)]]
def wsL_law0_r7 : List Cond := [Cond.classLink RL 19 "java/lang/IllegalStateException", Cond.methodLink RL 15 yX5_edge, Cond.instanceMethod yX5_edge, Cond.selects RX5 yX5_edge yX5_edge, Cond.code yX5_edge cX5_edge 5 (some .int), Cond.classLink RX5 92 "java/lang/IllegalStateException", Cond.initialized "java/lang/IllegalStateException", Cond.fieldLink RX5 89 "AffineHulls" "edgeCount" "I", Cond.fieldLink RX5 104 "AffineHulls" "analysed" "Z", Cond.methodLink RX5 76 yX5_requireNode, Cond.instanceMethod yX5_requireNode, Cond.selects RX5 yX5_requireNode yX5_requireNode, Cond.code yX5_requireNode cX5_requireNode 2 none, Cond.methodLink RX5 86 yX5_requireVariable, Cond.instanceMethod yX5_requireVariable, Cond.selects RX5 yX5_requireVariable yX5_requireVariable, Cond.code yX5_requireVariable cX5_requireVariable 2 none, Cond.methodLink RX5 97 yX0_set, Cond.instanceMethod yX0_set, Cond.selects RX0 yX0_set yX0_set, Cond.code yX0_set cX0_set 6 none, Cond.fieldLink RX0 15 "AffineHulls$Edge" "from" "I", Cond.fieldLink RX0 19 "AffineHulls$Edge" "to" "I", Cond.fieldLink RX0 22 "AffineHulls$Edge" "kind" "I"]
def wsL_law0_r8 : List Cond := [Cond.fieldLink RX0 25 "AffineHulls$Edge" "variable" "I", Cond.static yX5_copy, Cond.code yX5_copy cX5_copy 2 none, Cond.methodLink RX5 277 arraycopyName, Cond.native arraycopyName, Cond.static arraycopyName, Cond.initialized "java/lang/System", Cond.methodLink RX5 101 yX5_clearDraft, Cond.instanceMethod yX5_clearDraft, Cond.selects RX5 yX5_clearDraft yX5_clearDraft, Cond.code yX5_clearDraft cX5_clearDraft 1 none, Cond.methodLink RX5 215 yJ7_fill_53178, Cond.static yJ7_fill_53178, Cond.initialized RJ7, Cond.code yJ7_fill_53178 cJ7_fill_53178 4 none, Cond.methodLink RL 85 yX6_edge, Cond.instanceMethod yX6_edge, Cond.selects RX6 yX6_edge yX6_edge, Cond.code yX6_edge cX6_edge 8 (some .int), Cond.fieldLink RX6 103 "AffineHullsModel" "edges" "I", Cond.fieldLink RX6 109 "AffineHullsModel" "analysed" "Z", Cond.methodLink RX6 99 yX6_isNode, Cond.instanceMethod yX6_isNode, Cond.selects RX6 yX6_isNode yX6_isNode]
def wsL_law0_r9 : List Cond := [Cond.code yX6_isNode cX6_isNode 2 (some .boolean), Cond.methodLink RX6 106 yX6_clearDraft, Cond.instanceMethod yX6_clearDraft, Cond.selects RX6 yX6_clearDraft yX6_clearDraft, Cond.code yX6_clearDraft cX6_clearDraft 2 none, Cond.methodLink RL 86 yL_entry, Cond.static yL_entry, Cond.codeWith yL_entry cL_entry 3 (some .int) [(0, 5, 8, 13)], Cond.methodLink RL 21 yX5_entry, Cond.instanceMethod yX5_entry, Cond.selects RX5 yX5_entry yX5_entry, Cond.code yX5_entry cX5_entry 2 none, Cond.fieldLink RX5 108 "AffineHulls" "entryNode" "I", Cond.fieldLink RX5 111 "AffineHulls" "place" "I", Cond.methodLink RL 89 yX6_entry, Cond.instanceMethod yX6_entry, Cond.selects RX6 yX6_entry yX6_entry, Cond.code yX6_entry cX6_entry 2 none, Cond.fieldLink RX6 113 "AffineHullsModel" "entry" "I", Cond.fieldLink RX6 116 "AffineHullsModel" "where" "I", Cond.methodLink RL 90 yX5_analyse, Cond.instanceMethod yX5_analyse, Cond.selects RX5 yX5_analyse yX5_analyse, Cond.code yX5_analyse cX5_analyse 2 (some .int)]
def wsL_law0_r10 : List Cond := [Cond.fieldLink RX5 120 "AffineHulls" "arrivalCount" "I", Cond.methodLink RX5 114 yX5_forgetPoints, Cond.instanceMethod yX5_forgetPoints, Cond.selects RX5 yX5_forgetPoints yX5_forgetPoints, Cond.code yX5_forgetPoints cX5_forgetPoints 2 none, Cond.methodLink RX5 220 yX1_clear, Cond.instanceMethod yX1_clear, Cond.selects RX1 yX1_clear yX1_clear, Cond.code yX1_clear cX1_clear 1 none, Cond.fieldLink RX1 25 "AffineHulls$Hull" "pointCount" "I", Cond.methodLink RX1 22 yX4_clear, Cond.instanceMethod yX4_clear, Cond.selects RX4 yX4_clear yX4_clear, Cond.code yX4_clear cX4_clear 2 none, Cond.methodLink RX5 117 yX5_addFirstPoints, Cond.instanceMethod yX5_addFirstPoints, Cond.selects RX5 yX5_addFirstPoints yX5_addFirstPoints, Cond.code yX5_addFirstPoints cX5_addFirstPoints 2 none, Cond.methodLink RX5 223 yX5_addPoint, Cond.instanceMethod yX5_addPoint, Cond.selects RX5 yX5_addPoint yX5_addPoint, Cond.code yX5_addPoint cX5_addPoint 5 none, Cond.fieldLink RX5 153 "AffineHulls$Hull" "span" "LAffineHulls$Span;", Cond.fieldLink RX5 130 "AffineHulls$Hull" "pointCount" "I"]
def wsL_law0_r11 : List Cond := [Cond.fieldLink RX5 138 "AffineHulls$Hull" "members" "[I", Cond.methodLink RX5 242 yX4_add, Cond.instanceMethod yX4_add, Cond.selects RX4 yX4_add yX4_add, Cond.code yX4_add cX4_add 5 (some .boolean), Cond.constant RX4 46 (65521), Cond.methodLink RX4 24 yX4_reduce, Cond.instanceMethod yX4_reduce, Cond.selects RX4 yX4_reduce yX4_reduce, Cond.code yX4_reduce cX4_reduce 3 none, Cond.static yX5_addMultiple, Cond.code yX5_addMultiple cX5_addMultiple 4 none, Cond.constantLong RX5 275 (65521), Cond.methodLink RX4 28 yX4_leadingPlace, Cond.instanceMethod yX4_leadingPlace, Cond.selects RX4 yX4_leadingPlace yX4_leadingPlace, Cond.code yX4_leadingPlace cX4_leadingPlace 2 (some .int), Cond.methodLink RX4 32 yJ7_fill_53178, Cond.static yX5_inverse, Cond.code yX5_inverse cX5_inverse 6 (some .int), Cond.constant RX5 283 (65519), Cond.methodLink RX5 245 yX3_set, Cond.instanceMethod yX3_set, Cond.selects RX3 yX3_set yX3_set]
def wsL_law0_r12 : List Cond := [Cond.code yX3_set cX3_set 5 none, Cond.fieldLink RX3 13 "AffineHulls$Point" "node" "I", Cond.fieldLink RX3 17 "AffineHulls$Point" "index" "I", Cond.fieldLink RX3 20 "AffineHulls$Point" "origin" "I", Cond.methodLink RX5 123 yX5_workOff, Cond.instanceMethod yX5_workOff, Cond.selects RX5 yX5_workOff yX5_workOff, Cond.code yX5_workOff cX5_workOff 3 none, Cond.fieldLink RX5 168 "AffineHulls$Edge" "from" "I", Cond.fieldLink RX5 227 "AffineHulls$Point" "node" "I", Cond.fieldLink RX5 232 "AffineHulls$Edge" "kind" "I", Cond.methodLink RX5 228 yX5_follow, Cond.instanceMethod yX5_follow, Cond.selects RX5 yX5_follow yX5_follow, Cond.code yX5_follow cX5_follow 5 none, Cond.fieldLink RX5 144 "AffineHulls$Point" "row" "[I", Cond.fieldLink RX5 239 "AffineHulls$Point" "index" "I", Cond.fieldLink RX5 181 "AffineHulls$Edge" "to" "I", Cond.methodLink RX5 235 yX5_copy, Cond.methodLink RX5 177 yX0_step, Cond.instanceMethod yX0_step, Cond.selects RX0 yX0_step yX0_step, Cond.code yX0_step cX0_step 3 none, Cond.static yX5_valueOf]
def wsL_law0_r13 : List Cond := [Cond.code yX5_valueOf cX5_valueOf 5 (some .int), Cond.methodLink RL 93 yX6_analyse, Cond.instanceMethod yX6_analyse, Cond.selects RX6 yX6_analyse yX6_analyse, Cond.code yX6_analyse cX6_analyse 3 (some .int), Cond.fieldLink RX6 133 "AffineHullsModel" "all" "I", Cond.methodLink RX6 139 yX6_meet, Cond.instanceMethod yX6_meet, Cond.selects RX6 yX6_meet yX6_meet, Cond.code yX6_meet cX6_meet 5 none, Cond.fieldLink RX6 84 "AffineHullsModel" "size" "I", Cond.methodLink RX6 125 yX6_layPoints, Cond.instanceMethod yX6_layPoints, Cond.selects RX6 yX6_layPoints yX6_layPoints, Cond.code yX6_layPoints cX6_layPoints 4 none, Cond.methodLink RX6 122 yX6_put, Cond.instanceMethod yX6_put, Cond.selects RX6 yX6_put yX6_put, Cond.code yX6_put cX6_put 3 none, Cond.methodLink RX6 129 yX6_rank, Cond.instanceMethod yX6_rank, Cond.selects RX6 yX6_rank yX6_rank, Cond.code yX6_rank cX6_rank 7 (some .int), Cond.methodLink RX6 87 yX6_exchange]
def wsL_law0_r14 : List Cond := [Cond.instanceMethod yX6_exchange, Cond.selects RX6 yX6_exchange yX6_exchange, Cond.code yX6_exchange cX6_exchange 5 none, Cond.methodLink RX6 91 yX6_inverse, Cond.static yX6_inverse, Cond.code yX6_inverse cX6_inverse 11 (some .int), Cond.constant RX6 79 (65521), Cond.methodLink RX6 95 yX6_minus, Cond.instanceMethod yX6_minus, Cond.selects RX6 yX6_minus yX6_minus, Cond.code yX6_minus cX6_minus 5 none, Cond.methodLink RX6 142 yX6_pass, Cond.instanceMethod yX6_pass, Cond.selects RX6 yX6_pass yX6_pass, Cond.code yX6_pass cX6_pass 7 none, Cond.methodLink RX6 136 yX6_change, Cond.instanceMethod yX6_change, Cond.selects RX6 yX6_change yX6_change, Cond.code yX6_change cX6_change 3 none, Cond.methodLink RX6 119 yX6_formValue, Cond.instanceMethod yX6_formValue, Cond.selects RX6 yX6_formValue yX6_formValue, Cond.code yX6_formValue cX6_formValue 5 (some .int), Cond.methodLink RX6 145 yX6_readEquations]
def wsL_law0_r15 : List Cond := [Cond.instanceMethod yX6_readEquations, Cond.selects RX6 yX6_readEquations yX6_readEquations, Cond.code yX6_readEquations cX6_readEquations 6 none, Cond.methodLink RL 94 yL_points, Cond.static yL_points, Cond.codeWith yL_points cL_points 4 (some .int) [(0, 9, 12, 13), (0, 9, 15, 19)], Cond.methodLink RL 25 yX5_points, Cond.instanceMethod yX5_points, Cond.selects RX5 yX5_points yX5_points, Cond.code yX5_points cX5_points 2 (some .int), Cond.methodLink RX5 127 yX5_requireAnalysed, Cond.instanceMethod yX5_requireAnalysed, Cond.selects RX5 yX5_requireAnalysed yX5_requireAnalysed, Cond.code yX5_requireAnalysed cX5_requireAnalysed 1 none, Cond.methodLink RL 97 yX6_points, Cond.instanceMethod yX6_points, Cond.selects RX6 yX6_points yX6_points, Cond.code yX6_points cX6_points 2 (some .int), Cond.methodLink RX6 148 yX6_asked, Cond.instanceMethod yX6_asked, Cond.selects RX6 yX6_asked yX6_asked, Cond.code yX6_asked cX6_asked 2 (some .int), Cond.methodLink RL 98 yL_point, Cond.static yL_point]
def wsL_law0_r16 : List Cond := [Cond.codeWith yL_point cL_point 6 (some .int) [(0, 12, 15, 13), (0, 12, 19, 19), (0, 12, 23, 33)], Cond.classLink RL 33 "java/lang/IndexOutOfBoundsException", Cond.methodLink RL 29 yX5_point, Cond.instanceMethod yX5_point, Cond.selects RX5 yX5_point yX5_point, Cond.code yX5_point cX5_point 6 (some .int), Cond.classLink RX5 133 "java/lang/IndexOutOfBoundsException", Cond.initialized "java/lang/IndexOutOfBoundsException", Cond.fieldLink RX5 141 "AffineHulls$Point" "origin" "I", Cond.methodLink RL 101 yX6_point, Cond.instanceMethod yX6_point, Cond.selects RX6 yX6_point yX6_point, Cond.code yX6_point cX6_point 4 (some .int), Cond.methodLink RL 102 yL_equations, Cond.static yL_equations, Cond.codeWith yL_equations cL_equations 4 (some .int) [(0, 9, 12, 13), (0, 9, 15, 19)], Cond.methodLink RL 35 yX5_equations, Cond.instanceMethod yX5_equations, Cond.selects RX5 yX5_equations yX5_equations, Cond.code yX5_equations cX5_equations 2 (some .int), Cond.methodLink RX5 147 yX1_equationCount, Cond.instanceMethod yX1_equationCount, Cond.selects RX1 yX1_equationCount yX1_equationCount, Cond.code yX1_equationCount cX1_equationCount 1 (some .int)]
def wsL_law0_r17 : List Cond := [Cond.methodLink RL 104 yX6_equations, Cond.instanceMethod yX6_equations, Cond.selects RX6 yX6_equations yX6_equations, Cond.code yX6_equations cX6_equations 2 (some .int), Cond.methodLink RL 105 yL_coefficient, Cond.static yL_coefficient, Cond.codeWith yL_coefficient cL_coefficient 6 (some .int) [(0, 12, 15, 13), (0, 12, 19, 19), (0, 12, 23, 33)], Cond.methodLink RL 38 yX5_coefficient, Cond.instanceMethod yX5_coefficient, Cond.selects RX5 yX5_coefficient yX5_coefficient, Cond.code yX5_coefficient cX5_coefficient 5 (some .int), Cond.methodLink RX5 156 yX4_freePlace, Cond.instanceMethod yX4_freePlace, Cond.selects RX4 yX4_freePlace yX4_freePlace, Cond.code yX4_freePlace cX4_freePlace 4 (some .int), Cond.methodLink RX5 159 yX4_vanishing, Cond.instanceMethod yX4_vanishing, Cond.selects RX4 yX4_vanishing yX4_vanishing, Cond.code yX4_vanishing cX4_vanishing 3 (some .int), Cond.methodLink RL 107 yX6_coefficient, Cond.instanceMethod yX6_coefficient, Cond.selects RX6 yX6_coefficient yX6_coefficient, Cond.code yX6_coefficient cX6_coefficient 4 (some .int), Cond.methodLink RL 108 yL_holds]
def wsL_law0_r18 : List Cond := [Cond.static yL_holds, Cond.codeWith yL_holds cL_holds 4 (some .int) [(0, 16, 19, 13), (0, 16, 22, 19)], Cond.methodLink RL 41 yX5_holds, Cond.instanceMethod yX5_holds, Cond.selects RX5 yX5_holds yX5_holds, Cond.code yX5_holds cX5_holds 3 (some .boolean), Cond.methodLink RX5 162 yX5_holdsAtPoints, Cond.instanceMethod yX5_holdsAtPoints, Cond.selects RX5 yX5_holdsAtPoints yX5_holdsAtPoints, Cond.code yX5_holdsAtPoints cX5_holdsAtPoints 3 (some .boolean), Cond.methodLink RX5 248 yX5_valueOf, Cond.methodLink RL 110 yX6_holds, Cond.instanceMethod yX6_holds, Cond.selects RX6 yX6_holds yX6_holds, Cond.code yX6_holds cX6_holds 7 (some .boolean), Cond.methodLink RL 111 yL_begin, Cond.static yL_begin, Cond.codeWith yL_begin cL_begin 4 (some .int) [(0, 6, 9, 13)], Cond.methodLink RL 45 yX5_begin, Cond.instanceMethod yX5_begin, Cond.selects RX5 yX5_begin yX5_begin, Cond.code yX5_begin cX5_begin 3 none, Cond.methodLink RL 113 yX6_begin, Cond.instanceMethod yX6_begin]
def wsL_law0_r19 : List Cond := [Cond.selects RX6 yX6_begin yX6_begin, Cond.code yX6_begin cX6_begin 3 none, Cond.methodLink RL 114 yL_go, Cond.static yL_go, Cond.codeWith yL_go cL_go 5 (some .int) [(0, 17, 20, 13)], Cond.methodLink RL 48 yX5_go, Cond.instanceMethod yX5_go, Cond.selects RX5 yX5_go yX5_go, Cond.code yX5_go cX5_go 4 (some .boolean), Cond.methodLink RX5 173 yX0_isOpen, Cond.instanceMethod yX0_isOpen, Cond.selects RX0 yX0_isOpen yX0_isOpen, Cond.code yX0_isOpen cX0_isOpen 2 (some .boolean), Cond.methodLink RL 117 yX6_go, Cond.instanceMethod yX6_go, Cond.selects RX6 yX6_go yX6_go, Cond.code yX6_go cX6_go 4 (some .boolean), Cond.methodLink RL 118 yL_at, Cond.static yL_at, Cond.codeWith yL_at cL_at 4 (some .int) [(0, 9, 12, 13)], Cond.methodLink RL 52 yX5_at, Cond.instanceMethod yX5_at, Cond.selects RX5 yX5_at yX5_at, Cond.code yX5_at cX5_at 2 (some .int)]
def wsL_law0_r20 : List Cond := [Cond.methodLink RL 120 yX6_at, Cond.instanceMethod yX6_at, Cond.selects RX6 yX6_at yX6_at, Cond.code yX6_at cX6_at 2 (some .int), Cond.methodLink RL 121 yL_note, Cond.static yL_note, Cond.codeWith yL_note cL_note 4 (some .int) [(0, 9, 12, 13), (0, 9, 15, 19)], Cond.methodLink RL 55 yX5_note, Cond.instanceMethod yX5_note, Cond.selects RX5 yX5_note yX5_note, Cond.code yX5_note cX5_note 2 (some .int), Cond.fieldLink RX5 184 "AffineHulls" "noteCount" "I", Cond.methodLink RX5 189 yX2_set, Cond.instanceMethod yX2_set, Cond.selects RX2 yX2_set yX2_set, Cond.code yX2_set cX2_set 3 none, Cond.fieldLink RX2 13 "AffineHulls$Note" "node" "I", Cond.methodLink RL 123 yX6_note, Cond.instanceMethod yX6_note, Cond.selects RX6 yX6_note yX6_note, Cond.code yX6_note cX6_note 3 (some .int), Cond.fieldLink RX6 151 "AffineHullsModel" "notes" "I", Cond.methodLink RL 124 yL_noteAll, Cond.static yL_noteAll]
def wsL_law0_r21 : List Cond := [Cond.codeWith yL_noteAll cL_noteAll 3 (some .int) [(0, 8, 11, 19), (0, 8, 14, 62)], Cond.classLink RL 62 "java/lang/UnsupportedOperationException", Cond.methodLink RL 58 yX5_noteAll, Cond.instanceMethod yX5_noteAll, Cond.selects RX5 yX5_noteAll yX5_noteAll, Cond.code yX5_noteAll cX5_noteAll 3 (some .int), Cond.classLink RX5 192 "java/lang/UnsupportedOperationException", Cond.initialized "java/lang/UnsupportedOperationException", Cond.methodLink RX5 197 yX5_noteEquations, Cond.instanceMethod yX5_noteEquations, Cond.selects RX5 yX5_noteEquations yX5_noteEquations, Cond.code yX5_noteEquations cX5_noteEquations 7 none, Cond.methodLink RL 127 yX6_noteAll, Cond.instanceMethod yX6_noteAll, Cond.selects RX6 yX6_noteAll yX6_noteAll, Cond.code yX6_noteAll cX6_noteAll 5 (some .int), Cond.methodLink RL 128 yX5_forget, Cond.instanceMethod yX5_forget, Cond.selects RX5 yX5_forget yX5_forget, Cond.code yX5_forget cX5_forget 2 (some .int), Cond.methodLink RL 131 yX6_forget, Cond.instanceMethod yX6_forget, Cond.selects RX6 yX6_forget yX6_forget, Cond.code yX6_forget cX6_forget 2 (some .int)]
def wsL_law0_r22 : List Cond := [Cond.methodLink RL 132 yX5_sound, Cond.instanceMethod yX5_sound, Cond.selects RX5 yX5_sound yX5_sound, Cond.code yX5_sound cX5_sound 2 (some .boolean), Cond.fieldLink RX5 200 "AffineHulls$Note" "node" "I", Cond.methodLink RX5 203 yX5_keepsNotes, Cond.instanceMethod yX5_keepsNotes, Cond.selects RX5 yX5_keepsNotes yX5_keepsNotes, Cond.code yX5_keepsNotes cX5_keepsNotes 4 (some .boolean), Cond.methodLink RX5 252 yX5_spanNotesBefore, Cond.instanceMethod yX5_spanNotesBefore, Cond.selects RX5 yX5_spanNotesBefore yX5_spanNotesBefore, Cond.code yX5_spanNotesBefore cX5_spanNotesBefore 3 none, Cond.fieldLink RX5 261 "AffineHulls$Note" "form" "[I", Cond.fieldLink RX5 264 "AffineHulls$Edge" "form" "[I", Cond.methodLink RX5 260 yX4_clear, Cond.methodLink RX5 256 yX5_followsBefore, Cond.instanceMethod yX5_followsBefore, Cond.selects RX5 yX5_followsBefore yX5_followsBefore, Cond.code yX5_followsBefore cX5_followsBefore 4 (some .boolean), Cond.methodLink RX5 265 yX0_stepBack, Cond.instanceMethod yX0_stepBack, Cond.selects RX0 yX0_stepBack yX0_stepBack, Cond.code yX0_stepBack cX0_stepBack 4 none]
def wsL_law0_r23 : List Cond := [Cond.methodLink RX5 268 yX4_contains, Cond.instanceMethod yX4_contains, Cond.selects RX4 yX4_contains yX4_contains, Cond.code yX4_contains cX4_contains 2 (some .boolean), Cond.methodLink RL 136 yX6_sound, Cond.instanceMethod yX6_sound, Cond.selects RX6 yX6_sound yX6_sound, Cond.code yX6_sound cX6_sound 4 (some .boolean), Cond.methodLink RX6 160 yX6_follows, Cond.instanceMethod yX6_follows, Cond.selects RX6 yX6_follows yX6_follows, Cond.code yX6_follows cX6_follows 6 (some .boolean), Cond.methodLink RX6 154 yX6_layNotes, Cond.instanceMethod yX6_layNotes, Cond.selects RX6 yX6_layNotes yX6_layNotes, Cond.code yX6_layNotes cX6_layNotes 4 none, Cond.methodLink RX6 157 yX6_layBefore, Cond.instanceMethod yX6_layBefore, Cond.selects RX6 yX6_layBefore yX6_layBefore, Cond.code yX6_layBefore cX6_layBefore 8 none]
def wsL_law0 : List Cond := (wsL_law0_r1 ++ (wsL_law0_r2 ++ (wsL_law0_r3 ++ (wsL_law0_r4 ++ (wsL_law0_r5 ++ (wsL_law0_r6 ++ (wsL_law0_r7 ++ (wsL_law0_r8 ++ (wsL_law0_r9 ++ (wsL_law0_r10 ++ (wsL_law0_r11 ++ (wsL_law0_r12 ++ (wsL_law0_r13 ++ (wsL_law0_r14 ++ (wsL_law0_r15 ++ (wsL_law0_r16 ++ (wsL_law0_r17 ++ (wsL_law0_r18 ++ (wsL_law0_r19 ++ (wsL_law0_r20 ++ (wsL_law0_r21 ++ (wsL_law0_r22 ++ wsL_law0_r23)))))))))))))))))))))) ++ wsX50 ++ wsX60 ++ wsX40 ++ wsX00 ++ wsX20 ++ wsX10 ++ wsX30 ++ ([] : List Cond)
def wsL_law : List Cond := wsL_law0 ++ (vx_atS RX5 83 "java/lang/IllegalArgumentException" ["java/lang/RuntimeException", "java/lang/Exception"]).filter goodWord ++ (vx_atS RX5 96 "java/lang/IllegalStateException" ["java/lang/RuntimeException", "java/lang/Exception"]).filter goodWord ++ (vx_atS RX5 137 "java/lang/IndexOutOfBoundsException" ["java/lang/RuntimeException", "java/lang/Exception"]).filter goodWord ++ (vx_atS RX5 196 "java/lang/UnsupportedOperationException" ["java/lang/RuntimeException", "java/lang/Exception"]).filter goodWord
abbrev vwCl : List vw_C := [(RX0, TX0, 5), (RX1, TX1, 3), (RX2, TX2, 2), (RX3, TX3, 4), (RX4, TX4, 3), (RX5, TX5, 15), (RX6, TX6, 29)]
end
section
/-! THE FRAME: a world is a list of labels L, an address for each label (ad), a cell for each label (g). Every contract speaks of the whole world, and of which labels it changes. -/
abbrev cx_G : Type := va_G × (Nat → ClassId)
abbrev cx_t (G : cx_G) : List (ClassId × FieldType) := [(G.2 0, .int), (G.2 1, .boolean), (G.2 2, .object RX0), (G.2 3, .object RX1), (G.2 4, .object RX2), (G.2 5, .object RX3), (G.2 6, .array .int), (G.2 7, .long)]
def cx_nest : List Cond := [.methodLinkNest RX0 28 yX5_copy RX5, .methodLinkNest RX0 32 yX5_valueOf RX5, .methodLinkNest RX0 36 yX5_addMultiple RX5, .methodLinkNest RX0 40 yX5_number RX5, .methodLinkNest RX2 17 yX5_copy RX5, .methodLinkNest RX3 23 yX5_copy RX5, .methodLinkNest RX4 38 yX5_inverse RX5, .methodLinkNest RX4 42 yX5_addMultiple RX5, .methodLinkNest RX4 47 yX5_copy RX5, .methodLinkNest RX4 51 yX5_number RX5]
def cx_K (G : cx_G) (U : State) : Prop := va_K G.1 vwCl (cx_t G) U ∧ ∀ w ∈ cx_nest, va_Nw w U
theorem cx_K.warm {G : cx_G} {s U : State} (hW : s.WarmedH U.vm) (h : cx_K G s) : cx_K G U := by
  refine ⟨va_K.moved hW.alike h.1, fun w hw => ?_⟩
  have h1 := h.2 w hw
  simp only [cx_nest, List.mem_cons, List.not_mem_nil, or_false] at hw
  rcases hw with rfl | rfl | rfl | rfl | rfl | rfl | rfl | rfl | rfl | rfl <;> exact va_Nw.warmM hW h1
theorem cx_K.same {G : cx_G} {u U : State} (hv : u.vm = U.vm) (h : cx_K G u) : cx_K G U := by
  refine ⟨va_K.moved (by rw [hv]; exact Vm.Alike.refl _) h.1, fun w hw => ?_⟩
  have h1 := h.2 w hw
  simp only [cx_nest, List.mem_cons, List.not_mem_nil, or_false] at hw
  rcases hw with rfl | rfl | rfl | rfl | rfl | rfl | rfl | rfl | rfl | rfl <;> exact va_Nw.same rfl hv h1
def wl (L : List Nat) (ad : Nat → Nat) (g : Nat → va_E) : va_W := L.map (fun k => (ad k, g k))
/-- labels and addresses: each label once, the addresses apart -/
def cx_D (L : List Nat) (ad : Nat → Nat) : Prop := (∀ i j k : Nat, L[i]? = some k → L[j]? = some k → i = j) ∧ ∀ i j : Nat, i ∈ L → j ∈ L → ad i = ad j → i = j
/-- what a method may change: the world's cells and new ones -/
def cx_A (L : List Nat) (ad : Nat → Nat) (sz : Nat) : Nat → Prop := fun q => (∃ k : Nat, k ∈ L ∧ q = ad k) ∨ sz ≤ q
theorem wl_get {L : List Nat} {ad : Nat → Nat} {g : Nat → va_E} {k : Nat} (h : k ∈ L) : ∃ q : Nat, (wl L ad g)[q]? = some (ad k, g k) := by
  obtain ⟨q, hq⟩ := List.getElem?_of_mem h
  exact ⟨q, by simp [wl, hq]⟩
theorem wl_at {L : List Nat} {ad : Nat → Nat} {g : Nat → va_E} {q : Nat} {x : Nat × va_E} (h : (wl L ad g)[q]? = some x) : ∃ k : Nat, L[q]? = some k ∧ x = (ad k, g k) := by
  simp only [wl, List.getElem?_map, Option.map_eq_some_iff] at h
  obtain ⟨k, h1, h2⟩ := h
  exact ⟨k, h1, h2.symm⟩
theorem wl_set {L : List Nat} {ad : Nat → Nat} {g : Nat → va_E} {k q : Nat} {e : va_E} (hD : cx_D L ad) (hk : k ∈ L) (hq : (wl L ad g)[q]? = some (ad k, g k)) : (wl L ad g).set q (ad k, e) = wl L ad (va_up g k e) := by
  obtain ⟨k2, h1, h2⟩ := wl_at hq
  have hkk : k2 = k := hD.2 k2 k (List.mem_of_getElem? h1) hk (congrArg Prod.fst h2).symm
  subst hkk
  have hl := (List.getElem?_eq_some_iff.mp hq).1
  apply List.ext_getElem?
  intro j
  by_cases hj : j = q
  · subst hj
    rw [List.getElem?_set_self hl]
    simp [wl, h1, va_up]
  · rw [List.getElem?_set_ne (Ne.symm hj)]
    simp only [wl, List.getElem?_map]
    cases hb : L[j]? with
    | none => rfl
    | some b =>
      have hbk : b ≠ k2 := fun z => hj (hD.1 _ _ _ hb (z ▸ h1))
      simp [va_up, hbk]
theorem cx_D.world {L : List Nat} {ad : Nat → Nat} (hD : cx_D L ad) (g : Nat → va_E) (sz : Nat) : va_D (cx_A L ad sz) (wl L ad g) := by
  refine ⟨fun i j x y hi hj hxy => ?_, fun k x hx => ?_⟩
  · obtain ⟨a, h1, h2⟩ := wl_at hi
    obtain ⟨b, h3, h4⟩ := wl_at hj
    rw [h2, h4] at hxy
    have hab : a = b := hD.2 a b (List.mem_of_getElem? h1) (List.mem_of_getElem? h3) hxy
    subst hab
    exact hD.1 _ _ _ h1 h3
  · obtain ⟨a, h1, h2⟩ := wl_at hx
    exact Or.inl ⟨a, List.mem_of_getElem? h1, by rw [h2]⟩
theorem cx_A.mono {L : List Nat} {ad : Nat → Nat} {a b : Nat} (h : a ≤ b) {q : Nat} (hq : cx_A L ad b q) : cx_A L ad a q := hq.elim Or.inl (fun z => Or.inr (Nat.le_trans h z))
/-- a contract's start and end -/
def cx_P (G : cx_G) (L : List Nat) (ad : Nat → Nat) (g : Nat → va_E) (sz : Nat) (U : State) : Prop := U.heap.size = sz ∧ va_P G.1 vwCl (wl L ad g) U.heap ∧ cx_K G U
def cx_B (G : cx_G) (L : List Nat) (ad : Nat → Nat) (g : Nat → va_E) (t : State) : Prop := va_P G.1 vwCl (wl L ad g) t.heap ∧ cx_K G t
theorem cx_blind {G : cx_G} {L : List Nat} {ad : Nat → Nat} {g : Nat → va_E} {sz : Nat} {av : List Value} : FrameBlind (va_Pc av (cx_P G L ad g sz)) := fun a U gg mk q => by
  obtain ⟨q0, q1, qP, qK⟩ := q
  exact ⟨q0, q1, qP, cx_K.same (u := U) (U := U.calling gg mk a) rfl qK⟩
-- contents
abbrev iA (G : cx_G) (n : Nat) (f : Nat → Int32) : va_E := .inl (G.2 0, n, .inl f)
abbrev nA (G : cx_G) (n : Nat) (f : Nat → Nat) : va_E := .inl (G.2 0, n, .inl (fun j => nI (f j)))
abbrev zA (G : cx_G) (n : Nat) (f : Nat → Bool) : va_E := .inl (G.2 1, n, .inl (fun j => if f j = true then 1 else 0))
abbrev rA (c : ClassId) (n : Nat) (f : Nat → Option Nat) : va_E := .inl (c, n, .inr (.inr (.inr (.inr f))))
abbrev jA (G : cx_G) (n : Nat) (f : Nat → Int64) : va_E := .inl (G.2 7, n, .inr (.inl f))
def nu {α : Type} (f : Nat → α) (k : Nat) (x : α) : Nat → α := fun j => if j = k then x else f j
theorem nu_s {α : Type} (f : Nat → α) (k : Nat) (x : α) : nu f k x k = x := if_pos rfl
theorem nu_n {α : Type} {f : Nat → α} {k j : Nat} {x : α} (h : j ≠ k) : nu f k x j = f j := if_neg h
theorem up_n (f : Nat → Nat) (k x : Nat) : upd (fun j => nI (f j)) k (nI x) = fun j => nI (nu f k x j) := by
  funext j
  by_cases h : j = k <;> simp [upd, nu, h]
theorem up_i (f : Nat → Int32) (k : Nat) (x : Int32) : upd f k x = nu f k x := by
  funext j
  simp [upd, nu]
theorem cx_eq {g g1 : Nat → va_E} {k : Nat} {e : va_E} (h : g1 = va_up g k e) : g1 k = e := by rw [h]; exact va_up_self _ _ _
theorem cx_ne {g g1 : Nat → va_E} {k : Nat} {e : va_E} (h : g1 = va_up g k e) (j : Nat) (hj : j ≠ k) : g1 j = g j := by rw [h]; exact va_up_ne _ _ hj
section AX
variable {p : Program} {l : Launch} {e : Env} {R : Room} {s : State} {m : MethodId} {args : Array Value} {below : List Frame} {meth : Method} {c : Code} {H : Heap} {locs : List Loc} {cells slots : Nat} {Q : State → Prop}
variable {cc : ByteArray} {pc : Nat} {ls : Array Slot} {rest : List Value} {G : cx_G} {L : List Nat} {ad : Nat → Nat} {g : Nat → va_E} {sz : Nat} {H0 : Heap}
theorem ax_get (hx : p.tables.exec = Jvm.exec) (hb : c.code = cc) {own ref C : String} {T : u_T} {N ci index : Nat} {Ts : List Cond} (hts : ∀ w ∈ Ts, w.before args s = true) (hin : ∀ w ∈ u_ws C T N, w ∈ Ts) (hown : s.vm.findClass own = some m.cls) (hK : cx_K G s) (hP : va_P G.1 vwCl (wl L ad g) H) {k : Nat} (hk : k ∈ L) {fs : List Value} (hg : g k = .inr (ci, fs)) (hc : vwCl[ci]? = some (C, T, N)) (j : Nat) (hj : j < N) (hlink : (Cond.fieldLink own index ref (T j).2.1 (T j).2.2.1).before args s = true) (hsame : ∀ x, s.fieldFound? (T j).1 (T j).2.1 (T j).2.2.1 = some x → s.fieldFound? ref (T j).2.1 (T j).2.2.1 = some x) {v : Value} (hv : fs[j]? = some v) (hdg : decode cc pc = .ok (.getfield index, 3))
    (kk : W p l e R s m args below meth c H locs cells slots Q (F0 m (pc + 3) ls (v :: rest))) : W p l e R s m args below meth c H locs cells slots Q (F0 m pc ls (.ref (ad k) :: rest)) := by
  obtain ⟨q, hq⟩ := wl_get (ad := ad) (g := g) hk
  rw [hg] at hq
  exact va_get hx hb hts hin hown hK.1 hP q hq hc j hj hlink hsame hv hdg kk
theorem ax_put (hx : p.tables.exec = Jvm.exec) (hb : c.code = cc) {own ref C : String} {T : u_T} {N ci index : Nat} {Ts : List Cond} (hts : ∀ w ∈ Ts, w.before args s = true) (hin : ∀ w ∈ u_ws C T N, w ∈ Ts) (ty0 : Nat → FieldType) (hty : ∀ k, k < N → parseFieldDescriptor (T k).2.2.1 = some (ty0 k)) (hnm : ∀ a, a < N → ∀ b, b < N → a ≠ b → (T a).2.1 ≠ (T b).2.1) (hown : s.vm.findClass own = some m.cls) (hK : cx_K G s) (hP : va_P G.1 vwCl (wl L ad g) H) (hD : cx_D L ad) (hS : va_S (cx_A L ad sz) H0 H locs) {k : Nat} (hk : k ∈ L) {fs fs' : List Value} (hg : g k = .inr (ci, fs)) (hc : vwCl[ci]? = some (C, T, N)) (j : Nat) (hj : j < N) (hlink : (Cond.fieldLink own index ref (T j).2.1 (T j).2.2.1).before args s = true) (hsame : ∀ x, s.fieldFound? (T j).1 (T j).2.1 (T j).2.2.1 = some x → s.fieldFound? ref (T j).2.1 (T j).2.2.1 = some x) (hfin : (T j).2.2.2 = false) {ty : FieldType} {v : Value} (hd : parseFieldDescriptor (T j).2.2.1 = some ty) (hn : narrow ty v = v) (hfit : fits ty v = true) (hl : j < fs.length) (hfs : fs.set j v = fs')
    (hdg : decode cc pc = .ok (.putfield index, 3)) (kk : ∀ (H1 : Heap) (locs1 : List Loc) (g1 : Nat → va_E), g1 = va_up g k (.inr (ci, fs')) → va_P G.1 vwCl (wl L ad g1) H1 → va_S (cx_A L ad sz) H0 H1 locs1 → W p l e R s m args below meth c H1 locs1 cells slots Q (F0 m (pc + 3) ls rest)) : W p l e R s m args below meth c H locs cells slots Q (F0 m pc ls (v :: .ref (ad k) :: rest)) := by
  obtain ⟨q, hq⟩ := wl_get (ad := ad) (g := g) hk
  have hq2 := hq
  rw [hg] at hq
  refine va_put hx hb hts hin ty0 hty hnm hown hK.1 hP (hD.world g sz) hS q hq hc j hj hlink hsame hfin hd hn hfit hl hdg (fun H1 locs1 h1 _ h3 => ?_)
  rw [wl_set hD hk hq2, hfs] at h1
  exact kk H1 locs1 _ rfl h1 h3
theorem ax_putF (hx : p.tables.exec = Jvm.exec) (hb : c.code = cc) {own ref C : String} {T : u_T} {N ci index : Nat} {Ts : List Cond} (hts : ∀ w ∈ Ts, w.before args s = true) (hin : ∀ w ∈ u_ws C T N, w ∈ Ts) (ty0 : Nat → FieldType) (hty : ∀ k, k < N → parseFieldDescriptor (T k).2.2.1 = some (ty0 k)) (hnm : ∀ a, a < N → ∀ b, b < N → a ≠ b → (T a).2.1 ≠ (T b).2.1) (hown : s.vm.findClass own = some m.cls) (hK : cx_K G s) (hP : va_P G.1 vwCl (wl L ad g) H) (hD : cx_D L ad) (hS : va_S (cx_A L ad sz) H0 H locs) {k : Nat} (hk : k ∈ L) {fs fs' : List Value} (hg : g k = .inr (ci, fs)) (hc : vwCl[ci]? = some (C, T, N)) (j : Nat) (hj : j < N) (hlink : (Cond.fieldLink own index ref (T j).2.1 (T j).2.2.1).before args s = true) (hsame : ∀ x, s.fieldFound? (T j).1 (T j).2.1 (T j).2.2.1 = some x → s.fieldFound? ref (T j).2.1 (T j).2.2.1 = some x) (hfin : (T j).2.2.2 = true) (hin2 : meth.name = "<init>") (hdecl : (T j).1 = own) {ty : FieldType} {v : Value} (hd : parseFieldDescriptor (T j).2.2.1 = some ty) (hn : narrow ty v = v) (hfit : fits ty v = true) (hl : j < fs.length) (hfs : fs.set j v = fs')
    (hdg : decode cc pc = .ok (.putfield index, 3)) (kk : ∀ (H1 : Heap) (locs1 : List Loc) (g1 : Nat → va_E), g1 = va_up g k (.inr (ci, fs')) → va_P G.1 vwCl (wl L ad g1) H1 → va_S (cx_A L ad sz) H0 H1 locs1 → W p l e R s m args below meth c H1 locs1 cells slots Q (F0 m (pc + 3) ls rest)) : W p l e R s m args below meth c H locs cells slots Q (F0 m pc ls (v :: .ref (ad k) :: rest)) := by
  obtain ⟨q, hq⟩ := wl_get (ad := ad) (g := g) hk
  have hq2 := hq
  rw [hg] at hq
  refine va_putF hx hb hts hin ty0 hty hnm hown hK.1 hP (hD.world g sz) hS q hq hc j hj hlink hsame hfin hin2 hdecl hd hn hfit hl hdg (fun H1 locs1 h1 _ h3 => ?_)
  rw [wl_set hD hk hq2, hfs] at h1
  exact kk H1 locs1 _ rfl h1 h3
theorem ax_iald (hx : p.tables.exec = Jvm.exec) (hb : c.code = cc) (hK : cx_K G s) (hP : va_P G.1 vwCl (wl L ad g) H) {k : Nat} (hk : k ∈ L) {n : Nat} {f : Nat → Int32} (hg : g k = iA G n f) {i : Nat} (hi : i < n) (hn : n < 2147483648) {v : Int32} (hv : f i = v) (hdg : decode cc pc = .ok (.iaload, 1))
    (kk : W p l e R s m args below meth c H locs cells slots Q (F0 m (pc + 1) ls (.int v :: rest))) : W p l e R s m args below meth c H locs cells slots Q (F0 m pc ls (.int (nI i) :: .ref (ad k) :: rest)) := by
  obtain ⟨q, hq⟩ := wl_get (ad := ad) (g := g) hk
  rw [hg] at hq
  refine va_iald hx hb hK.1 hP q 0 hq rfl (vp_in_nI hi hn) hdg ?_
  rw [nI_clamp (Nat.lt_trans hi hn), hv]
  exact kk
theorem ax_zald (hx : p.tables.exec = Jvm.exec) (hb : c.code = cc) (hK : cx_K G s) (hP : va_P G.1 vwCl (wl L ad g) H) {k : Nat} (hk : k ∈ L) {n : Nat} {f : Nat → Bool} (hg : g k = zA G n f) {i : Nat} (hi : i < n) (hn : n < 2147483648) (hdg : decode cc pc = .ok (.baload, 1))
    (kk : W p l e R s m args below meth c H locs cells slots Q (F0 m (pc + 1) ls (.int (if f i = true then 1 else 0) :: rest))) : W p l e R s m args below meth c H locs cells slots Q (F0 m pc ls (.int (nI i) :: .ref (ad k) :: rest)) := by
  obtain ⟨q, hq⟩ := wl_get (ad := ad) (g := g) hk
  rw [hg] at hq
  refine va_zald hx hb hK.1 hP q 1 hq rfl (vp_in_nI hi hn) hdg ?_
  rw [nI_clamp (Nat.lt_trans hi hn)]
  exact kk
theorem ax_jald (hx : p.tables.exec = Jvm.exec) (hb : c.code = cc) (hK : cx_K G s) (hP : va_P G.1 vwCl (wl L ad g) H) {k : Nat} (hk : k ∈ L) {n : Nat} {f : Nat → Int64} (hg : g k = jA G n f) {i : Nat} (hi : i < n) (hn : n < 2147483648) (hdg : decode cc pc = .ok (.laload, 1))
    (kk : W p l e R s m args below meth c H locs cells slots Q (F0 m (pc + 1) ls (.long (f i) :: rest))) : W p l e R s m args below meth c H locs cells slots Q (F0 m pc ls (.int (nI i) :: .ref (ad k) :: rest)) := by
  obtain ⟨q, hq⟩ := wl_get (ad := ad) (g := g) hk
  rw [hg] at hq
  refine va_lald hx hb hK.1 hP q 7 hq rfl (vp_in_nI hi hn) hdg ?_
  rw [nI_clamp (Nat.lt_trans hi hn)]
  exact kk
/-- a reference out of an array of objects (kinds 2 to 5) or of arrays (kind 6) -/
theorem ax_aald (hx : p.tables.exec = Jvm.exec) (hb : c.code = cc) (hK : cx_K G s) (hP : va_P G.1 vwCl (wl L ad g) H) {k : Nat} (hk : k ∈ L) (t : Nat) {cA : ClassId} {ty : FieldType} (ht : (cx_t G)[t]? = some (cA, ty)) (hty : ty.isReference = true) {n : Nat} {f : Nat → Option Nat} (hg : g k = rA cA n f) {i : Nat} (hi : i < n) (hn : n < 2147483648) {b : Nat} (hv : f i = some b) (hdg : decode cc pc = .ok (.aaload, 1))
    (kk : W p l e R s m args below meth c H locs cells slots Q (F0 m (pc + 1) ls (.ref b :: rest))) : W p l e R s m args below meth c H locs cells slots Q (F0 m pc ls (.int (nI i) :: .ref (ad k) :: rest)) := by
  obtain ⟨q, hq⟩ := wl_get (ad := ad) (g := g) hk
  rw [hg] at hq
  have hlt : (nI i).toNatClampNeg < n := by rw [nI_clamp (Nat.lt_trans hi hn)]; exact hi
  refine W.aald (v := .ref b) (ty := ty) hx hb (hP q _ hq) ((hK.1.2 t _ ht).1 n (fun j => va_rf (f j))) hty (fun q => by cases q) (by show ¬ ((nI i) < 0 ∨ (arrV _ _ _).slots.size ≤ _); rw [arrV_size]; exact vp_in_nI hi hn) (by show (arrV _ _ _).slots[_]? = _; rw [arrV_read _ _ hlt, nI_clamp (Nat.lt_trans hi hn), hv]; rfl) rfl rfl hdg kk
theorem ax_iast (hx : p.tables.exec = Jvm.exec) (hb : c.code = cc) (hK : cx_K G s) (hP : va_P G.1 vwCl (wl L ad g) H) (hD : cx_D L ad) (hS : va_S (cx_A L ad sz) H0 H locs) {k : Nat} (hk : k ∈ L) {n : Nat} {f f' : Nat → Int32} (hg : g k = iA G n f) {i : Nat} {v : Int32} (hi : i < n) (hn : n < 2147483648) (hf : upd f i v = f') (hdg : decode cc pc = .ok (.iastore, 1))
    (kk : ∀ (H1 : Heap) (locs1 : List Loc) (g1 : Nat → va_E), g1 = va_up g k (iA G n f') → va_P G.1 vwCl (wl L ad g1) H1 → va_S (cx_A L ad sz) H0 H1 locs1 → W p l e R s m args below meth c H1 locs1 cells slots Q (F0 m (pc + 1) ls rest)) : W p l e R s m args below meth c H locs cells slots Q (F0 m pc ls (.int v :: .int (nI i) :: .ref (ad k) :: rest)) := by
  obtain ⟨q, hq⟩ := wl_get (ad := ad) (g := g) hk
  have hq2 := hq
  rw [hg] at hq
  refine va_iast hx hb hK.1 hP (hD.world g sz) hS q 0 hq rfl (vp_in_nI hi hn) hdg (fun H1 locs1 h1 _ h3 => ?_)
  rw [nI_clamp (Nat.lt_trans hi hn), wl_set hD hk hq2, hf] at h1
  exact kk H1 locs1 _ rfl h1 h3
theorem ax_zast (hx : p.tables.exec = Jvm.exec) (hb : c.code = cc) (hK : cx_K G s) (hP : va_P G.1 vwCl (wl L ad g) H) (hD : cx_D L ad) (hS : va_S (cx_A L ad sz) H0 H locs) {k : Nat} (hk : k ∈ L) {n : Nat} {f : Nat → Bool} (hg : g k = zA G n f) {i : Nat} {b : Bool} (hi : i < n) (hn : n < 2147483648) {v : Int32} (hv : v = if b = true then 1 else 0) (hdg : decode cc pc = .ok (.bastore, 1))
    (kk : ∀ (H1 : Heap) (locs1 : List Loc) (g1 : Nat → va_E), g1 = va_up g k (zA G n (nu f i b)) → va_P G.1 vwCl (wl L ad g1) H1 → va_S (cx_A L ad sz) H0 H1 locs1 → W p l e R s m args below meth c H1 locs1 cells slots Q (F0 m (pc + 1) ls rest)) : W p l e R s m args below meth c H locs cells slots Q (F0 m pc ls (.int v :: .int (nI i) :: .ref (ad k) :: rest)) := by
  obtain ⟨q, hq⟩ := wl_get (ad := ad) (g := g) hk
  have hq2 := hq
  rw [hg] at hq
  refine va_zast hx hb hK.1 hP (hD.world g sz) hS q 1 hq rfl (vp_in_nI hi hn) hdg (fun H1 locs1 h1 _ h3 => ?_)
  have hnar : vp_nar .boolean v = if b = true then 1 else 0 := by
    subst hv
    cases b <;> decide
  have hf : upd (fun j => if f j = true then (1 : Int32) else 0) i (vp_nar .boolean v) = fun j => if nu f i b j = true then 1 else 0 := by
    rw [hnar]
    funext j
    by_cases h : j = i <;> simp [upd, nu, h]
  rw [nI_clamp (Nat.lt_trans hi hn), wl_set hD hk hq2, hf] at h1
  exact kk H1 locs1 _ rfl h1 h3
theorem ax_jast (hx : p.tables.exec = Jvm.exec) (hb : c.code = cc) (hK : cx_K G s) (hP : va_P G.1 vwCl (wl L ad g) H) (hD : cx_D L ad) (hS : va_S (cx_A L ad sz) H0 H locs) {k : Nat} (hk : k ∈ L) {n : Nat} {f : Nat → Int64} (hg : g k = jA G n f) {i : Nat} {v : Int64} (hi : i < n) (hn : n < 2147483648) (hdg : decode cc pc = .ok (.lastore, 1))
    (kk : ∀ (H1 : Heap) (locs1 : List Loc) (g1 : Nat → va_E), g1 = va_up g k (jA G n (vp_updL f i v)) → va_P G.1 vwCl (wl L ad g1) H1 → va_S (cx_A L ad sz) H0 H1 locs1 → W p l e R s m args below meth c H1 locs1 cells slots Q (F0 m (pc + 1) ls rest)) : W p l e R s m args below meth c H locs cells slots Q (F0 m pc ls (.long v :: .int (nI i) :: .ref (ad k) :: rest)) := by
  obtain ⟨q, hq⟩ := wl_get (ad := ad) (g := g) hk
  have hq2 := hq
  rw [hg] at hq
  refine va_last hx hb hK.1 hP (hD.world g sz) hS q 7 hq rfl (vp_in_nI hi hn) hdg (fun H1 locs1 h1 _ h3 => ?_)
  rw [nI_clamp (Nat.lt_trans hi hn), wl_set hD hk hq2] at h1
  exact kk H1 locs1 _ rfl h1 h3
theorem ax_alen (hx : p.tables.exec = Jvm.exec) (hb : c.code = cc) (hK : cx_K G s) (hP : va_P G.1 vwCl (wl L ad g) H) {k : Nat} (hk : k ∈ L) (t : Nat) {cA : ClassId} {ty : FieldType} (ht : (cx_t G)[t]? = some (cA, ty)) {x : vp_A} (hg : g k = .inl (cA, x)) {n : Nat} (hn : x.1 = n) (hdg : decode cc pc = .ok (.arraylength, 1))
    (kk : W p l e R s m args below meth c H locs cells slots Q (F0 m (pc + 1) ls (.int (nI n) :: rest))) : W p l e R s m args below meth c H locs cells slots Q (F0 m pc ls (.ref (ad k) :: rest)) := by
  obtain ⟨q, hq⟩ := wl_get (ad := ad) (g := g) hk
  rw [hg] at hq
  exact va_alen hx hb hK.1 hP q t hq ht (v := nI n) (by rw [hn]; rfl) hdg kk
theorem ax_copy (hx : p.tables.exec = Jvm.exec) (hb : c.code = cc) (hml : c.maxLocals = ls.size) {own : String} {index : Nat} (hown : s.vm.findClass own = some m.cls) (hlink : (Cond.methodLink own index arraycopyName).before args s = true) (hnat : (Cond.native arraycopyName).before args s = true) (hstat : (Cond.static arraycopyName).before args s = true) (hini : (Cond.initialized "java/lang/System").before args s = true)
    (hK : cx_K G s) (hP : va_P G.1 vwCl (wl L ad g) H) (hD : cx_D L ad) (hS : va_S (cx_A L ad sz) H0 H locs) {k0 k1 : Nat} (hk0 : k0 ∈ L) (hk1 : k1 ∈ L) {n : Nat} {f f1 : Nat → Int32} (hg0 : g k0 = iA G n f) (hg1 : g k1 = iA G n f1) (hn : n < 2147483648)
    (hframes : 1 ≤ R.frames) (hlocals : (rest.map fun v => v.category).sum + (nativeFrameWords "java/lang/System" "arraycopy" 5 + 11) ≤ R.locals) (hdg : decode cc pc = .ok (.invokestatic index, 3))
    (kk : ∀ (H1 : Heap) (locs1 : List Loc) (g1 : Nat → va_E), g1 = va_up g k1 (iA G n (fun j => if j < n then f j else f1 j)) → va_P G.1 vwCl (wl L ad g1) H1 → va_S (cx_A L ad sz) H0 H1 locs1 → W p l e R s m args below meth c H1 locs1 cells slots Q (F0 m (pc + 3) ls rest)) : W p l e R s m args below meth c H locs cells slots Q (F0 m pc ls (.int (nI n) :: .int (nI 0) :: .ref (ad k1) :: .int (nI 0) :: .ref (ad k0) :: rest)) := by
  obtain ⟨q0, hq0⟩ := wl_get (ad := ad) (g := g) hk0
  obtain ⟨q1, hq1⟩ := wl_get (ad := ad) (g := g) hk1
  have hq2 := hq1
  rw [hg0] at hq0
  rw [hg1] at hq1
  have e0 : (nI 0).toNatClampNeg = 0 := by decide
  have en : (nI n).toNatClampNeg = n := nI_clamp hn
  refine va_copyi hx hb hml hown hlink hnat hstat hini hK.1 hP (hD.world g sz) hS q0 q1 0 0 hq0 hq1 rfl rfl rfl (by decide) (by decide) (nI_pos hn) (by rw [e0, en]; omega) (by rw [e0, en]; omega) (fun i _ => rfl) hframes hlocals hdg (fun H1 locs1 h1 _ h3 => ?_)
  have ef : va_cpy f f1 (nI 0).toNatClampNeg (nI 0).toNatClampNeg (nI n).toNatClampNeg = fun j => if j < n then f j else f1 j := by
    rw [e0, en]
    funext j
    unfold va_cpy
    simp
  rw [ef, wl_set hD hk1 hq2] at h1
  exact kk H1 locs1 _ rfl h1 h3
-- numbers
theorem ax_const (hx : p.tables.exec = Jvm.exec) (hb : c.code = cc) {n : Int} {v : Nat} (hdg : decode cc pc = .ok (.iconst n, 1)) (hv : Int32.ofInt n = nI v)
    (k : W p l e R s m args below meth c H locs cells slots Q (F0 m (pc + 1) ls (.int (nI v) :: rest))) : W p l e R s m args below meth c H locs cells slots Q (F0 m pc ls (rest)) := lv_iconst hx hb hdg hv k
theorem ax_add (hx : p.tables.exec = Jvm.exec) (hb : c.code = cc) {a b : Nat} (hdg : decode cc pc = .ok (.iadd, 1))
    (k : W p l e R s m args below meth c H locs cells slots Q (F0 m (pc + 1) ls (.int (nI (a + b)) :: rest))) : W p l e R s m args below meth c H locs cells slots Q (F0 m pc ls (.int (nI b) :: .int (nI a) :: rest)) := lv_iadd hx hb hdg (by rw [nI_add]; exact k)
theorem ax_sub (hx : p.tables.exec = Jvm.exec) (hb : c.code = cc) {a b : Nat} (hdg : decode cc pc = .ok (.isub, 1)) (h : b ≤ a)
    (k : W p l e R s m args below meth c H locs cells slots Q (F0 m (pc + 1) ls (.int (nI (a - b)) :: rest))) : W p l e R s m args below meth c H locs cells slots Q (F0 m pc ls (.int (nI b) :: .int (nI a) :: rest)) := lv_isub hx hb hdg (by rw [pk_sub h]; exact k)
theorem ax_mul (hx : p.tables.exec = Jvm.exec) (hb : c.code = cc) {a b : Nat} (hdg : decode cc pc = .ok (.imul, 1))
    (k : W p l e R s m args below meth c H locs cells slots Q (F0 m (pc + 1) ls (.int (nI (a * b)) :: rest))) : W p l e R s m args below meth c H locs cells slots Q (F0 m pc ls (.int (nI b) :: .int (nI a) :: rest)) := lv_imul hx hb hdg (by rw [pk_mul]; exact k)
theorem ax_i2l (hx : p.tables.exec = Jvm.exec) (hb : c.code = cc) {a : Nat} (hdg : decode cc pc = .ok (.i2l, 1)) (h : a < 2147483648)
    (k : W p l e R s m args below meth c H locs cells slots Q (F0 m (pc + 1) ls (.long (lN a) :: rest))) : W p l e R s m args below meth c H locs cells slots Q (F0 m pc ls (.int (nI a) :: rest)) := lv_i2l hx hb hdg (nI_l h) k
theorem ax_l2i (hx : p.tables.exec = Jvm.exec) (hb : c.code = cc) {a : Nat} (hdg : decode cc pc = .ok (.l2i, 1))
    (k : W p l e R s m args below meth c H locs cells slots Q (F0 m (pc + 1) ls (.int (nI a) :: rest))) : W p l e R s m args below meth c H locs cells slots Q (F0 m pc ls (.long (lN a) :: rest)) := lv_l2i hx hb hdg (lN_i a) k
theorem ax_ladd (hx : p.tables.exec = Jvm.exec) (hb : c.code = cc) {a b : Nat} (hdg : decode cc pc = .ok (.ladd, 1))
    (k : W p l e R s m args below meth c H locs cells slots Q (F0 m (pc + 1) ls (.long (lN (a + b)) :: rest))) : W p l e R s m args below meth c H locs cells slots Q (F0 m pc ls (.long (lN b) :: .long (lN a) :: rest)) := lv_ladd hx hb hdg (by rw [lN_add]; exact k)
theorem ax_lmul (hx : p.tables.exec = Jvm.exec) (hb : c.code = cc) {a b : Nat} (hdg : decode cc pc = .ok (.lmul, 1))
    (k : W p l e R s m args below meth c H locs cells slots Q (F0 m (pc + 1) ls (.long (lN (a * b)) :: rest))) : W p l e R s m args below meth c H locs cells slots Q (F0 m pc ls (.long (lN b) :: .long (lN a) :: rest)) := lv_lmul hx hb hdg (by rw [lN_mul]; exact k)
theorem ax_lremM (hx : p.tables.exec = Jvm.exec) (hb : c.code = cc) {a : Nat} (hdg : decode cc pc = .ok (.lrem, 1)) (h : a < 9223372036854775808)
    (k : W p l e R s m args below meth c H locs cells slots Q (F0 m (pc + 1) ls (.long (lN (a % 65521)) :: rest))) : W p l e R s m args below meth c H locs cells slots Q (F0 m pc ls (.long 65521 :: .long (lN a) :: rest)) := by
  refine lv_lrem hx hb hdg (by decide) ?_
  have h1 : lN a - lN a / lN 65521 * lN 65521 = lN (a % 65521) := pk_lRem h (by decide) (by decide)
  have h2 : (65521 : Int64) = lN 65521 := by decide
  rw [h2, h1]
  exact k
/-- branches over natural numbers -/
theorem ax_icge (hx : p.tables.exec = Jvm.exec) (hb : c.code = cc) {a b : Nat} {off : Int} {tgt : Nat} (hdg : decode cc pc = .ok (.if_icmp .ge off, 3)) (ht : (pc : Int) + off = (tgt : Int)) (ha : a < 2147483648) (hb' : b < 2147483648)
    (kt : b ≤ a → W p l e R s m args below meth c H locs cells slots Q (F0 m tgt ls rest)) (kf : a < b → W p l e R s m args below meth c H locs cells slots Q (F0 m (pc + 3) ls rest)) : W p l e R s m args below meth c H locs cells slots Q (F0 m pc ls (.int (nI b) :: .int (nI a) :: rest)) :=
  lv_icmp_ge hx hb hdg ht (fun h => kt ((nI_leI hb' ha).mp h)) (fun h => kf (Nat.not_le.mp fun z => h ((nI_leI hb' ha).mpr z)))
theorem ax_icgt (hx : p.tables.exec = Jvm.exec) (hb : c.code = cc) {a b : Nat} {off : Int} {tgt : Nat} (hdg : decode cc pc = .ok (.if_icmp .gt off, 3)) (ht : (pc : Int) + off = (tgt : Int)) (ha : a < 2147483648) (hb' : b < 2147483648)
    (kt : b < a → W p l e R s m args below meth c H locs cells slots Q (F0 m tgt ls rest)) (kf : a ≤ b → W p l e R s m args below meth c H locs cells slots Q (F0 m (pc + 3) ls rest)) : W p l e R s m args below meth c H locs cells slots Q (F0 m pc ls (.int (nI b) :: .int (nI a) :: rest)) :=
  lv_icmp_gt hx hb hdg ht (fun h => kt ((nI_ltI hb' ha).mp h)) (fun h => kf (Nat.not_lt.mp fun z => h ((nI_ltI hb' ha).mpr z)))
theorem ax_iclt (hx : p.tables.exec = Jvm.exec) (hb : c.code = cc) {a b : Nat} {off : Int} {tgt : Nat} (hdg : decode cc pc = .ok (.if_icmp .lt off, 3)) (ht : (pc : Int) + off = (tgt : Int)) (ha : a < 2147483648) (hb' : b < 2147483648)
    (kt : a < b → W p l e R s m args below meth c H locs cells slots Q (F0 m tgt ls rest)) (kf : b ≤ a → W p l e R s m args below meth c H locs cells slots Q (F0 m (pc + 3) ls rest)) : W p l e R s m args below meth c H locs cells slots Q (F0 m pc ls (.int (nI b) :: .int (nI a) :: rest)) :=
  lv_icmp_lt hx hb hdg ht (fun h => kt ((nI_ltI ha hb').mp h)) (fun h => kf (Nat.not_lt.mp fun z => h ((nI_ltI ha hb').mpr z)))
theorem ax_icle (hx : p.tables.exec = Jvm.exec) (hb : c.code = cc) {a b : Nat} {off : Int} {tgt : Nat} (hdg : decode cc pc = .ok (.if_icmp .le off, 3)) (ht : (pc : Int) + off = (tgt : Int)) (ha : a < 2147483648) (hb' : b < 2147483648)
    (kt : a ≤ b → W p l e R s m args below meth c H locs cells slots Q (F0 m tgt ls rest)) (kf : b < a → W p l e R s m args below meth c H locs cells slots Q (F0 m (pc + 3) ls rest)) : W p l e R s m args below meth c H locs cells slots Q (F0 m pc ls (.int (nI b) :: .int (nI a) :: rest)) :=
  lv_icmp_le hx hb hdg ht (fun h => kt ((nI_leI ha hb').mp h)) (fun h => kf (Nat.not_le.mp fun z => h ((nI_leI ha hb').mpr z)))
theorem ax_iceq (hx : p.tables.exec = Jvm.exec) (hb : c.code = cc) {a b : Nat} {off : Int} {tgt : Nat} (hdg : decode cc pc = .ok (.if_icmp .eq off, 3)) (ht : (pc : Int) + off = (tgt : Int)) (ha : a < 2147483648) (hb' : b < 2147483648)
    (kt : a = b → W p l e R s m args below meth c H locs cells slots Q (F0 m tgt ls rest)) (kf : a ≠ b → W p l e R s m args below meth c H locs cells slots Q (F0 m (pc + 3) ls rest)) : W p l e R s m args below meth c H locs cells slots Q (F0 m pc ls (.int (nI b) :: .int (nI a) :: rest)) :=
  lv_icmp_eq hx hb hdg ht (fun h => kt ((nI_eq ha hb').mp h)) (fun h => kf (fun z => h ((nI_eq ha hb').mpr z)))
theorem ax_icne (hx : p.tables.exec = Jvm.exec) (hb : c.code = cc) {a b : Nat} {off : Int} {tgt : Nat} (hdg : decode cc pc = .ok (.if_icmp .ne off, 3)) (ht : (pc : Int) + off = (tgt : Int)) (ha : a < 2147483648) (hb' : b < 2147483648)
    (kt : a ≠ b → W p l e R s m args below meth c H locs cells slots Q (F0 m tgt ls rest)) (kf : a = b → W p l e R s m args below meth c H locs cells slots Q (F0 m (pc + 3) ls rest)) : W p l e R s m args below meth c H locs cells slots Q (F0 m pc ls (.int (nI b) :: .int (nI a) :: rest)) :=
  lv_icmp_ne hx hb hdg ht (fun h => kt (fun z => h ((nI_eq ha hb').mpr z))) (fun h => kf ((nI_eq ha hb').mp h))
theorem ax_ifeq (hx : p.tables.exec = Jvm.exec) (hb : c.code = cc) {a : Nat} {off : Int} {tgt : Nat} (hdg : decode cc pc = .ok (.ifCond .eq off, 3)) (ht : (pc : Int) + off = (tgt : Int)) (ha : a < 2147483648)
    (kt : a = 0 → W p l e R s m args below meth c H locs cells slots Q (F0 m tgt ls rest)) (kf : a ≠ 0 → W p l e R s m args below meth c H locs cells slots Q (F0 m (pc + 3) ls rest)) : W p l e R s m args below meth c H locs cells slots Q (F0 m pc ls (.int (nI a) :: rest)) :=
  lv_if_eq hx hb hdg ht (fun h => kt ((nI_eq (b := 0) ha (by decide)).mp h)) (fun h => kf (fun z => h ((nI_eq (b := 0) ha (by decide)).mpr z)))
theorem ax_ifne (hx : p.tables.exec = Jvm.exec) (hb : c.code = cc) {a : Nat} {off : Int} {tgt : Nat} (hdg : decode cc pc = .ok (.ifCond .ne off, 3)) (ht : (pc : Int) + off = (tgt : Int)) (ha : a < 2147483648)
    (kt : a ≠ 0 → W p l e R s m args below meth c H locs cells slots Q (F0 m tgt ls rest)) (kf : a = 0 → W p l e R s m args below meth c H locs cells slots Q (F0 m (pc + 3) ls rest)) : W p l e R s m args below meth c H locs cells slots Q (F0 m pc ls (.int (nI a) :: rest)) :=
  lv_if_ne hx hb hdg ht (fun h => kt (fun z => h ((nI_eq (b := 0) ha (by decide)).mpr z))) (fun h => kf ((nI_eq (b := 0) ha (by decide)).mp h))
/-- branches over a truth value -/
theorem ax_zeq (hx : p.tables.exec = Jvm.exec) (hb : c.code = cc) {b : Bool} {off : Int} {tgt : Nat} (hdg : decode cc pc = .ok (.ifCond .eq off, 3)) (ht : (pc : Int) + off = (tgt : Int))
    (kt : b = false → W p l e R s m args below meth c H locs cells slots Q (F0 m tgt ls rest)) (kf : b = true → W p l e R s m args below meth c H locs cells slots Q (F0 m (pc + 3) ls rest)) : W p l e R s m args below meth c H locs cells slots Q (F0 m pc ls (.int (if b = true then 1 else 0) :: rest)) :=
  lv_if_eq hx hb hdg ht (fun h => kt (by cases b; rfl; exact absurd h (by decide))) (fun h => kf (by cases b; exact absurd rfl h; rfl))
theorem ax_zne (hx : p.tables.exec = Jvm.exec) (hb : c.code = cc) {b : Bool} {off : Int} {tgt : Nat} (hdg : decode cc pc = .ok (.ifCond .ne off, 3)) (ht : (pc : Int) + off = (tgt : Int))
    (kt : b = true → W p l e R s m args below meth c H locs cells slots Q (F0 m tgt ls rest)) (kf : b = false → W p l e R s m args below meth c H locs cells slots Q (F0 m (pc + 3) ls rest)) : W p l e R s m args below meth c H locs cells slots Q (F0 m pc ls (.int (if b = true then 1 else 0) :: rest)) :=
  lv_if_ne hx hb hdg ht (fun h => kt (by cases b; exact absurd rfl h; rfl)) (fun h => kf (by cases b; rfl; exact absurd h (by decide)))
end AX

section AC
variable {p : Program} {l : Launch} {e : Env} {R : Room} {s : State} {m : MethodId} {args : Array Value} {below : List Frame} {meth : Method} {c : Code} {H : Heap} {locs : List Loc} {cells slots : Nat} {Q : State → Prop}
variable {cc bytes : ByteArray} {maxL nL n index pc : Nat} {ls : Array Slot} {rest As st0 : List Value} {G : cx_G} {L : List Nat} {ad : Nat → Nat} {g : Nat → va_E} {sz mc ms : Nat} {H0 : Heap} {ret : Option FieldType} {own host : String} {y : MethodName} {ws Ts : List Cond} {rm : Room}
/-- the contracts of methods that make no cell that stays -/
abbrev MI (l : Launch) (y : MethodName) (ws : List Cond) (rm : Room) (G : cx_G) (L : List Nat) (ad : Nat → Nat) (g : Nat → va_E) (av : List Value) (post : Int32 → (Nat → va_E) → Prop) : Prop := ∀ sz : Nat, Met l y ws rm (va_Pc av (cx_P G L ad g sz)) (va_Qi post (cx_B G L ad) (cx_A L ad sz)) 0 0 (cx_A L ad sz)
abbrev MV (l : Launch) (y : MethodName) (ws : List Cond) (rm : Room) (G : cx_G) (L : List Nat) (ad : Nat → Nat) (g : Nat → va_E) (av : List Value) (post : (Nat → va_E) → Prop) : Prop := ∀ sz : Nat, Met l y ws rm (va_Pc av (cx_P G L ad g sz)) (va_Qv post (cx_B G L ad) (cx_A L ad sz)) 0 0 (cx_A L ad sz)
theorem cx_pre {av : List Value} {U : State} (hU : U.heap = H) (hW : s.WarmedH U.vm) (hP : va_P G.1 vwCl (wl L ad g) H) (hK : cx_K G s) : va_Pc av (cx_P G L ad g H.size) av.toArray U := ⟨rfl, by rw [hU], by rw [hU]; exact hP, cx_K.warm hW hK⟩
theorem cx_recv (hK : cx_K G s) (hP : va_P G.1 vwCl (wl L ad g) H) {k ci : Nat} (hk : k ∈ L) {fs : List Value} (hg : g k = .inr (ci, fs)) {r : vw_C} (hc : vwCl[ci]? = some r) : ∃ cellB : Cell, H[ad k]? = some cellB ∧ cellB.vm.isStatics = false ∧ s.vm.findClass r.1 = some cellB.cls := by
  obtain ⟨q, hq⟩ := wl_get (ad := ad) (g := g) hk
  rw [hg] at hq
  exact va_recv hK.1 hP hc hq
theorem cx_goi {post : Int32 → (Nat → va_E) → Prop} (hr : va_Run p l e R s m args below meth c H locs cells slots 0 0 (F0 m pc ls st0) rest (va_Qi post (cx_B G L ad) (cx_A L ad H.size) As.toArray) (cx_A L ad H.size)) (hS : va_S (cx_A L ad sz) H0 H locs) (hz : sz ≤ H0.size)
    (kk : ∀ (r : Int32) (g1 : Nat → va_E) (H1 : Heap) (locs1 : List Loc), post r g1 → va_P G.1 vwCl (wl L ad g1) H1 → va_S (cx_A L ad sz) H0 H1 locs1 → W p l e R s m args below meth c H1 locs1 cells slots Q (F0 m (pc + 3) ls (.int r :: rest))) : W p l e R s m args below meth c H locs cells slots Q (F0 m pc ls st0) :=
  va_calli hr hS (fun q _ h => cx_A.mono (Nat.le_trans hz hS.1) h) (fun q h => cx_A.mono (Nat.le_trans hz hS.1) h) (fun r u t H1 locs1 ht _ hw hB _ _ hS1 => kk r u H1 locs1 hw (by rw [← ht]; exact hB.1) hS1)
theorem cx_gov {post : (Nat → va_E) → Prop} (hr : va_Run p l e R s m args below meth c H locs cells slots 0 0 (F0 m pc ls st0) rest (va_Qv post (cx_B G L ad) (cx_A L ad H.size) As.toArray) (cx_A L ad H.size)) (hS : va_S (cx_A L ad sz) H0 H locs) (hz : sz ≤ H0.size)
    (kk : ∀ (g1 : Nat → va_E) (H1 : Heap) (locs1 : List Loc), post g1 → va_P G.1 vwCl (wl L ad g1) H1 → va_S (cx_A L ad sz) H0 H1 locs1 → W p l e R s m args below meth c H1 locs1 cells slots Q (F0 m (pc + 3) ls rest)) : W p l e R s m args below meth c H locs cells slots Q (F0 m pc ls st0) :=
  va_callv hr hS (fun q _ h => cx_A.mono (Nat.le_trans hz hS.1) h) (fun q h => cx_A.mono (Nat.le_trans hz hS.1) h) (fun u t H1 locs1 ht _ hw hB _ _ hS1 => kk u H1 locs1 hw (by rw [← ht]; exact hB.1) hS1)
/-- calls: static, static of a nest mate, virtual (private too) -/
theorem cx_Si {post : Int32 → (Nat → va_E) → Prop} (S : CallFix p m c cc nL s args Ts own) (hM : MI l y ws rm G L ad g As post) (cw : CallB R s args own index y bytes maxL ret ws rm 0 0 n ∧ (Cond.static y).before args s = true) (hK : cx_K G s) (hP : va_P G.1 vwCl (wl L ad g) H) (hS : va_S (cx_A L ad sz) H0 H locs) (hz : sz ≤ H0.size) (hc : cells ≤ R.cells ∧ slots ≤ R.slots) (hn : As.length = n) (hsize : ls.size = nL) (hst : st0 = As.reverse ++ rest) (hW : (rest.map fun v => v.category).sum ≤ 8) (hdg : decode cc pc = .ok (.invokestatic index, 3))
    (kk : ∀ (r : Int32) (g1 : Nat → va_E) (H1 : Heap) (locs1 : List Loc), post r g1 → va_P G.1 vwCl (wl L ad g1) H1 → va_S (cx_A L ad sz) H0 H1 locs1 → W p l e R s m args below meth c H1 locs1 cells slots Q (F0 m (pc + 3) ls (.int r :: rest))) : W p l e R s m args below meth c H locs cells slots Q (F0 m pc ls st0) :=
  cx_goi (va_runS S (hM H.size) cw ⟨cx_blind, fun U hU hW => cx_pre hU hW hP hK⟩ rfl hn hsize hst (lv_room hW) hdg ⟨by omega, by omega⟩) hS hz kk
theorem cx_Sv {post : (Nat → va_E) → Prop} (S : CallFix p m c cc nL s args Ts own) (hM : MV l y ws rm G L ad g As post) (cw : CallB R s args own index y bytes maxL ret ws rm 0 0 n ∧ (Cond.static y).before args s = true) (hK : cx_K G s) (hP : va_P G.1 vwCl (wl L ad g) H) (hS : va_S (cx_A L ad sz) H0 H locs) (hz : sz ≤ H0.size) (hc : cells ≤ R.cells ∧ slots ≤ R.slots) (hn : As.length = n) (hsize : ls.size = nL) (hst : st0 = As.reverse ++ rest) (hW : (rest.map fun v => v.category).sum ≤ 8) (hdg : decode cc pc = .ok (.invokestatic index, 3))
    (kk : ∀ (g1 : Nat → va_E) (H1 : Heap) (locs1 : List Loc), post g1 → va_P G.1 vwCl (wl L ad g1) H1 → va_S (cx_A L ad sz) H0 H1 locs1 → W p l e R s m args below meth c H1 locs1 cells slots Q (F0 m (pc + 3) ls rest)) : W p l e R s m args below meth c H locs cells slots Q (F0 m pc ls st0) :=
  cx_gov (va_runS S (hM H.size) cw ⟨cx_blind, fun U hU hW => cx_pre hU hW hP hK⟩ rfl hn hsize hst (lv_room hW) hdg ⟨by omega, by omega⟩) hS hz kk
theorem cx_SNi {post : Int32 → (Nat → va_E) → Prop} (S : CallFix p m c cc nL s args Ts own) (hM : MI l y ws rm G L ad g As post) (cw : va_CN R s args own index y host bytes maxL ret ws rm 0 0 n ∧ (Cond.static y).before args s = true ∧ True) (hK : cx_K G s) (hP : va_P G.1 vwCl (wl L ad g) H) (hS : va_S (cx_A L ad sz) H0 H locs) (hz : sz ≤ H0.size) (hc : cells ≤ R.cells ∧ slots ≤ R.slots) (hn : As.length = n) (hsize : ls.size = nL) (hst : st0 = As.reverse ++ rest) (hW : (rest.map fun v => v.category).sum ≤ 8) (hdg : decode cc pc = .ok (.invokestatic index, 3))
    (kk : ∀ (r : Int32) (g1 : Nat → va_E) (H1 : Heap) (locs1 : List Loc), post r g1 → va_P G.1 vwCl (wl L ad g1) H1 → va_S (cx_A L ad sz) H0 H1 locs1 → W p l e R s m args below meth c H1 locs1 cells slots Q (F0 m (pc + 3) ls (.int r :: rest))) : W p l e R s m args below meth c H locs cells slots Q (F0 m pc ls st0) :=
  cx_goi (va_runSN S (hM H.size) cw ⟨cx_blind, fun U hU hW => cx_pre hU hW hP hK⟩ rfl hn hsize hst (lv_room hW) hdg ⟨by omega, by omega⟩) hS hz kk
theorem cx_SNv {post : (Nat → va_E) → Prop} (S : CallFix p m c cc nL s args Ts own) (hM : MV l y ws rm G L ad g As post) (cw : va_CN R s args own index y host bytes maxL ret ws rm 0 0 n ∧ (Cond.static y).before args s = true ∧ True) (hK : cx_K G s) (hP : va_P G.1 vwCl (wl L ad g) H) (hS : va_S (cx_A L ad sz) H0 H locs) (hz : sz ≤ H0.size) (hc : cells ≤ R.cells ∧ slots ≤ R.slots) (hn : As.length = n) (hsize : ls.size = nL) (hst : st0 = As.reverse ++ rest) (hW : (rest.map fun v => v.category).sum ≤ 8) (hdg : decode cc pc = .ok (.invokestatic index, 3))
    (kk : ∀ (g1 : Nat → va_E) (H1 : Heap) (locs1 : List Loc), post g1 → va_P G.1 vwCl (wl L ad g1) H1 → va_S (cx_A L ad sz) H0 H1 locs1 → W p l e R s m args below meth c H1 locs1 cells slots Q (F0 m (pc + 3) ls rest)) : W p l e R s m args below meth c H locs cells slots Q (F0 m pc ls st0) :=
  cx_gov (va_runSN S (hM H.size) cw ⟨cx_blind, fun U hU hW => cx_pre hU hW hP hK⟩ rfl hn hsize hst (lv_room hW) hdg ⟨by omega, by omega⟩) hS hz kk
theorem cx_Vi {post : Int32 → (Nat → va_E) → Prop} {C : String} {T : u_T} {N ci k : Nat} {fs : List Value} (S : CallFix p m c cc nL s args Ts own) (hM : MI l y ws rm G L ad g (.ref (ad k) :: As) post) (cw : CallW R s args own C index y bytes maxL ret ws rm 0 0 n) (hK : cx_K G s) (hP : va_P G.1 vwCl (wl L ad g) H) (hS : va_S (cx_A L ad sz) H0 H locs) (hz : sz ≤ H0.size) (hk : k ∈ L) (hg : g k = .inr (ci, fs)) (hcl : vwCl[ci]? = some (C, T, N)) (hc : cells ≤ R.cells ∧ slots ≤ R.slots) (hn : As.length = n) (hsize : ls.size = nL) (hst : st0 = As.reverse ++ .ref (ad k) :: rest) (hW : (rest.map fun v => v.category).sum ≤ 8) (hdg : decode cc pc = .ok (.invokevirtual index, 3))
    (kk : ∀ (r : Int32) (g1 : Nat → va_E) (H1 : Heap) (locs1 : List Loc), post r g1 → va_P G.1 vwCl (wl L ad g1) H1 → va_S (cx_A L ad sz) H0 H1 locs1 → W p l e R s m args below meth c H1 locs1 cells slots Q (F0 m (pc + 3) ls (.int r :: rest))) : W p l e R s m args below meth c H locs cells slots Q (F0 m pc ls st0) :=
  cx_goi (As := .ref (ad k) :: As) (va_runV S (hM H.size) cw ⟨cx_blind, cx_recv hK hP hk hg hcl, fun U hU hW => cx_pre hU hW hP hK⟩ rfl hn hsize hst (lv_room hW) hdg ⟨by omega, by omega⟩) hS hz kk
theorem cx_Vv {post : (Nat → va_E) → Prop} {C : String} {T : u_T} {N ci k : Nat} {fs : List Value} (S : CallFix p m c cc nL s args Ts own) (hM : MV l y ws rm G L ad g (.ref (ad k) :: As) post) (cw : CallW R s args own C index y bytes maxL ret ws rm 0 0 n) (hK : cx_K G s) (hP : va_P G.1 vwCl (wl L ad g) H) (hS : va_S (cx_A L ad sz) H0 H locs) (hz : sz ≤ H0.size) (hk : k ∈ L) (hg : g k = .inr (ci, fs)) (hcl : vwCl[ci]? = some (C, T, N)) (hc : cells ≤ R.cells ∧ slots ≤ R.slots) (hn : As.length = n) (hsize : ls.size = nL) (hst : st0 = As.reverse ++ .ref (ad k) :: rest) (hW : (rest.map fun v => v.category).sum ≤ 8) (hdg : decode cc pc = .ok (.invokevirtual index, 3))
    (kk : ∀ (g1 : Nat → va_E) (H1 : Heap) (locs1 : List Loc), post g1 → va_P G.1 vwCl (wl L ad g1) H1 → va_S (cx_A L ad sz) H0 H1 locs1 → W p l e R s m args below meth c H1 locs1 cells slots Q (F0 m (pc + 3) ls rest)) : W p l e R s m args below meth c H locs cells slots Q (F0 m pc ls st0) :=
  cx_gov (As := .ref (ad k) :: As) (va_runV S (hM H.size) cw ⟨cx_blind, cx_recv hK hP hk hg hcl, fun U hU hW => cx_pre hU hW hP hK⟩ rfl hn hsize hst (lv_room hW) hdg ⟨by omega, by omega⟩) hS hz kk
/-- a method's end: the world as it is -/
theorem cx_end {A : Nat → Prop} {t : State} (ht : t.heap = H) (hW : s.WarmedH t.vm) (hP : va_P G.1 vwCl (wl L ad g) H) (hK : cx_K G s) : cx_B G L ad g t := ⟨by rw [ht]; exact hP, cx_K.warm hW hK⟩
end AC
end
