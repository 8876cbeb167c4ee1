section
-- ===== PART A: goes FIRST, ahead of the names: the tables' words, and 'selects' of the private methods out of them =====
/-- a private method of a class that the tables say can be made, by its rows of tables_1 -/
def lw_okq (q : MethodName × Nat) : Prop := (q.1.cls ≠ "java/lang/invoke/MethodHandle" ∧ q.1.cls ≠ "java/lang/invoke/VarHandle") ∧ Cond.instantiable q.1.cls q.2 ∈ tables_1 ∧ Cond.privateMethod q.1 ∈ tables_1 ∧ Cond.instanceMethod q.1 ∈ tables_1
theorem lw_p0 : lw_okq (⟨"AffineHulls", "forgetPoints", "()V"⟩, 15) := ⟨⟨by decide +kernel, by decide +kernel⟩, List.mem_of_getElem? (i := 19) (by decide +kernel), List.mem_of_getElem? (i := 192) (by decide +kernel), List.mem_of_getElem? (i := 193) (by decide +kernel)⟩
theorem lw_p1 : lw_okq (⟨"AffineHulls", "addFirstPoints", "()V"⟩, 15) := ⟨⟨by decide +kernel, by decide +kernel⟩, List.mem_of_getElem? (i := 19) (by decide +kernel), List.mem_of_getElem? (i := 204) (by decide +kernel), List.mem_of_getElem? (i := 205) (by decide +kernel)⟩
theorem lw_p2 : lw_okq (⟨"AffineHulls", "addPoint", "(I[II)V"⟩, 15) := ⟨⟨by decide +kernel, by decide +kernel⟩, List.mem_of_getElem? (i := 19) (by decide +kernel), List.mem_of_getElem? (i := 211) (by decide +kernel), List.mem_of_getElem? (i := 212) (by decide +kernel)⟩
theorem lw_p3 : lw_okq (⟨"AffineHulls$Span", "reduce", "([I)V"⟩, 3) := ⟨⟨by decide +kernel, by decide +kernel⟩, List.mem_of_getElem? (i := 33) (by decide +kernel), List.mem_of_getElem? (i := 219) (by decide +kernel), List.mem_of_getElem? (i := 220) (by decide +kernel)⟩
theorem lw_p4 : lw_okq (⟨"AffineHulls$Span", "leadingPlace", "()I"⟩, 3) := ⟨⟨by decide +kernel, by decide +kernel⟩, List.mem_of_getElem? (i := 33) (by decide +kernel), List.mem_of_getElem? (i := 234) (by decide +kernel), List.mem_of_getElem? (i := 235) (by decide +kernel)⟩
theorem lw_p5 : lw_okq (⟨"AffineHulls", "workOff", "(LAffineHulls$Point;)V"⟩, 15) := ⟨⟨by decide +kernel, by decide +kernel⟩, List.mem_of_getElem? (i := 19) (by decide +kernel), List.mem_of_getElem? (i := 248) (by decide +kernel), List.mem_of_getElem? (i := 249) (by decide +kernel)⟩
theorem lw_p6 : lw_okq (⟨"AffineHulls", "follow", "(ILAffineHulls$Point;I)V"⟩, 15) := ⟨⟨by decide +kernel, by decide +kernel⟩, List.mem_of_getElem? (i := 19) (by decide +kernel), List.mem_of_getElem? (i := 252) (by decide +kernel), List.mem_of_getElem? (i := 253) (by decide +kernel)⟩
theorem lw_p7 : lw_okq (⟨"AffineHulls", "keepsNotes", "(LAffineHulls$Edge;)Z"⟩, 15) := ⟨⟨by decide +kernel, by decide +kernel⟩, List.mem_of_getElem? (i := 19) (by decide +kernel), List.mem_of_getElem? (i := 272) (by decide +kernel), List.mem_of_getElem? (i := 273) (by decide +kernel)⟩
theorem lw_p8 : lw_okq (⟨"AffineHulls", "spanNotesBefore", "(LAffineHulls$Edge;)V"⟩, 15) := ⟨⟨by decide +kernel, by decide +kernel⟩, List.mem_of_getElem? (i := 19) (by decide +kernel), List.mem_of_getElem? (i := 276) (by decide +kernel), List.mem_of_getElem? (i := 277) (by decide +kernel)⟩
theorem lw_p9 : lw_okq (⟨"AffineHulls", "followsBefore", "(LAffineHulls$Edge;LAffineHulls$Note;I)Z"⟩, 15) := ⟨⟨by decide +kernel, by decide +kernel⟩, List.mem_of_getElem? (i := 19) (by decide +kernel), List.mem_of_getElem? (i := 281) (by decide +kernel), List.mem_of_getElem? (i := 282) (by decide +kernel)⟩
theorem lw_p10 : lw_okq (⟨"AffineHulls", "requirePlace", "(I)V"⟩, 15) := ⟨⟨by decide +kernel, by decide +kernel⟩, List.mem_of_getElem? (i := 19) (by decide +kernel), List.mem_of_getElem? (i := 312) (by decide +kernel), List.mem_of_getElem? (i := 313) (by decide +kernel)⟩
theorem lw_p11 : lw_okq (⟨"java/lang/Throwable", "fillInStackTrace", "(I)Ljava/lang/Throwable;"⟩, 6) := ⟨⟨by decide +kernel, by decide +kernel⟩, List.mem_of_getElem? (i := 355) (by decide +kernel), List.mem_of_getElem? (i := 353) (by decide +kernel), List.mem_of_getElem? (i := 354) (by decide +kernel)⟩
theorem lw_p12 : lw_okq (⟨"AffineHulls", "requireNode", "(I)V"⟩, 15) := ⟨⟨by decide +kernel, by decide +kernel⟩, List.mem_of_getElem? (i := 19) (by decide +kernel), List.mem_of_getElem? (i := 394) (by decide +kernel), List.mem_of_getElem? (i := 395) (by decide +kernel)⟩
theorem lw_p13 : lw_okq (⟨"AffineHulls", "requireVariable", "(I)V"⟩, 15) := ⟨⟨by decide +kernel, by decide +kernel⟩, List.mem_of_getElem? (i := 19) (by decide +kernel), List.mem_of_getElem? (i := 400) (by decide +kernel), List.mem_of_getElem? (i := 401) (by decide +kernel)⟩
theorem lw_p14 : lw_okq (⟨"AffineHulls", "clearDraft", "()V"⟩, 15) := ⟨⟨by decide +kernel, by decide +kernel⟩, List.mem_of_getElem? (i := 19) (by decide +kernel), List.mem_of_getElem? (i := 426) (by decide +kernel), List.mem_of_getElem? (i := 427) (by decide +kernel)⟩
theorem lw_p15 : lw_okq (⟨"AffineHulls", "requireAnalysed", "()V"⟩, 15) := ⟨⟨by decide +kernel, by decide +kernel⟩, List.mem_of_getElem? (i := 19) (by decide +kernel), List.mem_of_getElem? (i := 444) (by decide +kernel), List.mem_of_getElem? (i := 445) (by decide +kernel)⟩
def lw_privs_1 : List (MethodName × Nat) := [(⟨"AffineHulls", "forgetPoints", "()V"⟩, 15), (⟨"AffineHulls", "addFirstPoints", "()V"⟩, 15), (⟨"AffineHulls", "addPoint", "(I[II)V"⟩, 15), (⟨"AffineHulls$Span", "reduce", "([I)V"⟩, 3), (⟨"AffineHulls$Span", "leadingPlace", "()I"⟩, 3), (⟨"AffineHulls", "workOff", "(LAffineHulls$Point;)V"⟩, 15), (⟨"AffineHulls", "follow", "(ILAffineHulls$Point;I)V"⟩, 15), (⟨"AffineHulls", "keepsNotes", "(LAffineHulls$Edge;)Z"⟩, 15), (⟨"AffineHulls", "spanNotesBefore", "(LAffineHulls$Edge;)V"⟩, 15), (⟨"AffineHulls", "followsBefore", "(LAffineHulls$Edge;LAffineHulls$Note;I)Z"⟩, 15), (⟨"AffineHulls", "requirePlace", "(I)V"⟩, 15), (⟨"java/lang/Throwable", "fillInStackTrace", "(I)Ljava/lang/Throwable;"⟩, 6), (⟨"AffineHulls", "requireNode", "(I)V"⟩, 15), (⟨"AffineHulls", "requireVariable", "(I)V"⟩, 15), (⟨"AffineHulls", "clearDraft", "()V"⟩, 15), (⟨"AffineHulls", "requireAnalysed", "()V"⟩, 15)]
theorem lw_r1 : ∀ q ∈ lw_privs_1, lw_okq q := List.forall_mem_cons.mpr ⟨lw_p0, List.forall_mem_cons.mpr ⟨lw_p1, List.forall_mem_cons.mpr ⟨lw_p2, List.forall_mem_cons.mpr ⟨lw_p3, List.forall_mem_cons.mpr ⟨lw_p4, List.forall_mem_cons.mpr ⟨lw_p5, List.forall_mem_cons.mpr ⟨lw_p6, List.forall_mem_cons.mpr ⟨lw_p7, List.forall_mem_cons.mpr ⟨lw_p8, List.forall_mem_cons.mpr ⟨lw_p9, List.forall_mem_cons.mpr ⟨lw_p10, List.forall_mem_cons.mpr ⟨lw_p11, List.forall_mem_cons.mpr ⟨lw_p12, List.forall_mem_cons.mpr ⟨lw_p13, List.forall_mem_cons.mpr ⟨lw_p14, List.forall_mem_cons.mpr ⟨lw_p15, fun _ h => absurd h List.not_mem_nil⟩⟩⟩⟩⟩⟩⟩⟩⟩⟩⟩⟩⟩⟩⟩⟩
theorem lw_p16 : lw_okq (⟨"AffineHulls", "holdsAtPoints", "(LAffineHulls$Hull;)Z"⟩, 15) := ⟨⟨by decide +kernel, by decide +kernel⟩, List.mem_of_getElem? (i := 19) (by decide +kernel), List.mem_of_getElem? (i := 508) (by decide +kernel), List.mem_of_getElem? (i := 509) (by decide +kernel)⟩
theorem lw_p17 : lw_okq (⟨"AffineHulls", "noteEquations", "(I)V"⟩, 15) := ⟨⟨by decide +kernel, by decide +kernel⟩, List.mem_of_getElem? (i := 19) (by decide +kernel), List.mem_of_getElem? (i := 577) (by decide +kernel), List.mem_of_getElem? (i := 578) (by decide +kernel)⟩
theorem lw_p18 : lw_okq (⟨"AffineHullsModel", "isNode", "(I)Z"⟩, 29) := ⟨⟨by decide +kernel, by decide +kernel⟩, List.mem_of_getElem? (i := 581) (by decide +kernel), List.mem_of_getElem? (i := 691) (by decide +kernel), List.mem_of_getElem? (i := 692) (by decide +kernel)⟩
theorem lw_p19 : lw_okq (⟨"AffineHullsModel", "clearDraft", "()V"⟩, 29) := ⟨⟨by decide +kernel, by decide +kernel⟩, List.mem_of_getElem? (i := 581) (by decide +kernel), List.mem_of_getElem? (i := 695) (by decide +kernel), List.mem_of_getElem? (i := 696) (by decide +kernel)⟩
theorem lw_p20 : lw_okq (⟨"AffineHullsModel", "meet", "(II)V"⟩, 29) := ⟨⟨by decide +kernel, by decide +kernel⟩, List.mem_of_getElem? (i := 581) (by decide +kernel), List.mem_of_getElem? (i := 707) (by decide +kernel), List.mem_of_getElem? (i := 708) (by decide +kernel)⟩
theorem lw_p21 : lw_okq (⟨"AffineHullsModel", "layPoints", "(I)V"⟩, 29) := ⟨⟨by decide +kernel, by decide +kernel⟩, List.mem_of_getElem? (i := 581) (by decide +kernel), List.mem_of_getElem? (i := 711) (by decide +kernel), List.mem_of_getElem? (i := 712) (by decide +kernel)⟩
theorem lw_p22 : lw_okq (⟨"AffineHullsModel", "put", "(II)V"⟩, 29) := ⟨⟨by decide +kernel, by decide +kernel⟩, List.mem_of_getElem? (i := 581) (by decide +kernel), List.mem_of_getElem? (i := 715) (by decide +kernel), List.mem_of_getElem? (i := 716) (by decide +kernel)⟩
theorem lw_p23 : lw_okq (⟨"AffineHullsModel", "rank", "()I"⟩, 29) := ⟨⟨by decide +kernel, by decide +kernel⟩, List.mem_of_getElem? (i := 581) (by decide +kernel), List.mem_of_getElem? (i := 719) (by decide +kernel), List.mem_of_getElem? (i := 720) (by decide +kernel)⟩
theorem lw_p24 : lw_okq (⟨"AffineHullsModel", "exchange", "(II)V"⟩, 29) := ⟨⟨by decide +kernel, by decide +kernel⟩, List.mem_of_getElem? (i := 581) (by decide +kernel), List.mem_of_getElem? (i := 723) (by decide +kernel), List.mem_of_getElem? (i := 724) (by decide +kernel)⟩
theorem lw_p25 : lw_okq (⟨"AffineHullsModel", "minus", "(III)V"⟩, 29) := ⟨⟨by decide +kernel, by decide +kernel⟩, List.mem_of_getElem? (i := 581) (by decide +kernel), List.mem_of_getElem? (i := 731) (by decide +kernel), List.mem_of_getElem? (i := 732) (by decide +kernel)⟩
theorem lw_p26 : lw_okq (⟨"AffineHullsModel", "pass", "(III)V"⟩, 29) := ⟨⟨by decide +kernel, by decide +kernel⟩, List.mem_of_getElem? (i := 581) (by decide +kernel), List.mem_of_getElem? (i := 735) (by decide +kernel), List.mem_of_getElem? (i := 736) (by decide +kernel)⟩
theorem lw_p27 : lw_okq (⟨"AffineHullsModel", "change", "(II)V"⟩, 29) := ⟨⟨by decide +kernel, by decide +kernel⟩, List.mem_of_getElem? (i := 581) (by decide +kernel), List.mem_of_getElem? (i := 739) (by decide +kernel), List.mem_of_getElem? (i := 740) (by decide +kernel)⟩
theorem lw_p28 : lw_okq (⟨"AffineHullsModel", "formValue", "(I)I"⟩, 29) := ⟨⟨by decide +kernel, by decide +kernel⟩, List.mem_of_getElem? (i := 581) (by decide +kernel), List.mem_of_getElem? (i := 743) (by decide +kernel), List.mem_of_getElem? (i := 744) (by decide +kernel)⟩
theorem lw_p29 : lw_okq (⟨"AffineHullsModel", "readEquations", "(I)V"⟩, 29) := ⟨⟨by decide +kernel, by decide +kernel⟩, List.mem_of_getElem? (i := 581) (by decide +kernel), List.mem_of_getElem? (i := 747) (by decide +kernel), List.mem_of_getElem? (i := 748) (by decide +kernel)⟩
theorem lw_p30 : lw_okq (⟨"AffineHullsModel", "asked", "(I)I"⟩, 29) := ⟨⟨by decide +kernel, by decide +kernel⟩, List.mem_of_getElem? (i := 581) (by decide +kernel), List.mem_of_getElem? (i := 755) (by decide +kernel), List.mem_of_getElem? (i := 756) (by decide +kernel)⟩
theorem lw_p31 : lw_okq (⟨"AffineHullsModel", "follows", "(II)Z"⟩, 29) := ⟨⟨by decide +kernel, by decide +kernel⟩, List.mem_of_getElem? (i := 581) (by decide +kernel), List.mem_of_getElem? (i := 803) (by decide +kernel), List.mem_of_getElem? (i := 804) (by decide +kernel)⟩
def lw_privs_2 : List (MethodName × Nat) := [(⟨"AffineHulls", "holdsAtPoints", "(LAffineHulls$Hull;)Z"⟩, 15), (⟨"AffineHulls", "noteEquations", "(I)V"⟩, 15), (⟨"AffineHullsModel", "isNode", "(I)Z"⟩, 29), (⟨"AffineHullsModel", "clearDraft", "()V"⟩, 29), (⟨"AffineHullsModel", "meet", "(II)V"⟩, 29), (⟨"AffineHullsModel", "layPoints", "(I)V"⟩, 29), (⟨"AffineHullsModel", "put", "(II)V"⟩, 29), (⟨"AffineHullsModel", "rank", "()I"⟩, 29), (⟨"AffineHullsModel", "exchange", "(II)V"⟩, 29), (⟨"AffineHullsModel", "minus", "(III)V"⟩, 29), (⟨"AffineHullsModel", "pass", "(III)V"⟩, 29), (⟨"AffineHullsModel", "change", "(II)V"⟩, 29), (⟨"AffineHullsModel", "formValue", "(I)I"⟩, 29), (⟨"AffineHullsModel", "readEquations", "(I)V"⟩, 29), (⟨"AffineHullsModel", "asked", "(I)I"⟩, 29), (⟨"AffineHullsModel", "follows", "(II)Z"⟩, 29)]
theorem lw_r2 : ∀ q ∈ lw_privs_2, lw_okq q := List.forall_mem_cons.mpr ⟨lw_p16, List.forall_mem_cons.mpr ⟨lw_p17, List.forall_mem_cons.mpr ⟨lw_p18, List.forall_mem_cons.mpr ⟨lw_p19, List.forall_mem_cons.mpr ⟨lw_p20, List.forall_mem_cons.mpr ⟨lw_p21, List.forall_mem_cons.mpr ⟨lw_p22, List.forall_mem_cons.mpr ⟨lw_p23, List.forall_mem_cons.mpr ⟨lw_p24, List.forall_mem_cons.mpr ⟨lw_p25, List.forall_mem_cons.mpr ⟨lw_p26, List.forall_mem_cons.mpr ⟨lw_p27, List.forall_mem_cons.mpr ⟨lw_p28, List.forall_mem_cons.mpr ⟨lw_p29, List.forall_mem_cons.mpr ⟨lw_p30, List.forall_mem_cons.mpr ⟨lw_p31, fun _ h => absurd h List.not_mem_nil⟩⟩⟩⟩⟩⟩⟩⟩⟩⟩⟩⟩⟩⟩⟩⟩
theorem lw_p32 : lw_okq (⟨"AffineHullsModel", "layNotes", "(I)V"⟩, 29) := ⟨⟨by decide +kernel, by decide +kernel⟩, List.mem_of_getElem? (i := 581) (by decide +kernel), List.mem_of_getElem? (i := 807) (by decide +kernel), List.mem_of_getElem? (i := 808) (by decide +kernel)⟩
theorem lw_p33 : lw_okq (⟨"AffineHullsModel", "layBefore", "(III)V"⟩, 29) := ⟨⟨by decide +kernel, by decide +kernel⟩, List.mem_of_getElem? (i := 581) (by decide +kernel), List.mem_of_getElem? (i := 811) (by decide +kernel), List.mem_of_getElem? (i := 812) (by decide +kernel)⟩
def lw_privs_3 : List (MethodName × Nat) := [(⟨"AffineHullsModel", "layNotes", "(I)V"⟩, 29), (⟨"AffineHullsModel", "layBefore", "(III)V"⟩, 29)]
theorem lw_r3 : ∀ q ∈ lw_privs_3, lw_okq q := List.forall_mem_cons.mpr ⟨lw_p32, List.forall_mem_cons.mpr ⟨lw_p33, fun _ h => absurd h List.not_mem_nil⟩⟩
def lw_privs : List (MethodName × Nat) := lw_privs_1 ++ (lw_privs_2 ++ (lw_privs_3))
def lw_tbl : List Cond := k2_sels lw_privs ++ tables_1
theorem lw_privs_ok : ∀ q ∈ lw_privs, lw_okq q := by
  show ∀ q ∈ lw_privs_1 ++ (lw_privs_2 ++ (lw_privs_3)), lw_okq q
  exact List.forall_mem_append.mpr ⟨lw_r1, List.forall_mem_append.mpr ⟨lw_r2, lw_r3⟩⟩
-- ===== end of PART A; then your names; then what follows =====
/-! ===== BEGIN words of one list among another's, by their places ===== -/
theorem goodIn_r {big : List Cond} (ws : List Cond) (ps : List Nat) (hp : ws = ps.filterMap (fun i => big[i]?)) (h : ws.all goodWord = true) : GoodIn big ws := by
  intro w hw
  have h1 := List.all_eq_true.mp h w hw
  rw [hp] at hw
  obtain ⟨i, -, hi⟩ := List.mem_filterMap.mp hw
  have hm : w ∈ big := by first | exact List.mem_of_getElem? hi | exact List.getElem?_mem hi
  exact ⟨hm, good_of_word h1⟩
theorem goodIn_app {big a b : List Cond} (ha : GoodIn big a) (hb : GoodIn big b) : GoodIn big (a ++ b) := fun w h => (List.mem_append.mp h).elim (ha w) (hb w)
theorem goodIn_ca {big a b : List Cond} {c : Cond} (ha : GoodIn big (c :: a)) (hb : GoodIn big b) : GoodIn big (c :: (a ++ b)) := fun w h => (List.mem_cons.mp h).elim (fun e => ha w (List.mem_cons.mpr (Or.inl e))) (fun h => (List.mem_append.mp h).elim (fun h => ha w (List.mem_cons.mpr (Or.inr h))) (hb w))
theorem goodIn_sub {big ws : List Cond} (hm : ∀ w ∈ ws, w ∈ big) (h : ws.all goodWord = true) : GoodIn big ws := fun w hw => ⟨hm w hw, good_of_word (List.all_eq_true.mp h w hw)⟩
/-! ===== END ===== -/

/-! own rows: the words of an array over arrays (the printed names call va_AOA, which no kit file has) -/
def va_AOA (ty : FieldType) (U : State) : Prop := (Cond.arrayOver (.array ty)).before #[] U = true
theorem va_AOA.of {ty : FieldType} {A : Array Value} {U : State} (h : (Cond.arrayOver (.array ty)).before A U = true) : va_AOA ty U := h
theorem va_AOA.use {ty : FieldType} {A : Array Value} {U : State} (h : va_AOA ty U) : (Cond.arrayOver (.array ty)).before A U = true := h
theorem ax_overA {args : Array Value} {first s : State} {o : Option Outcome} {idx : List Nat} {t : FieldType} (h : (Cond.arrayOver (.array t)).holds args first o s idx = true) :
    ∃ comp c k, s.vm.findClass (FieldType.array t).toString = some comp ∧ (s.vm.classes.findIdx? fun (x : Class) => match x.kind with | .array component _ => component == comp | _ => false) = some c ∧ s.vm.classes[c]? = some k ∧ k.kind = .array comp (.array t) ∧ s.vm.findClass ("[" ++ (FieldType.array t).toString) = some c := by
  simp only [Cond.holds, Cond.value, beq_iff_eq] at h
  cases hc : s.vm.findClass (FieldType.array t).toString with
  | none => simp [hc] at h
  | some comp =>
    simp only [hc, Option.bind_some, Option.bind_eq_some_iff, Option.map_eq_some_iff] at h
    obtain ⟨c, hi, k, hk, hb⟩ := h
    obtain ⟨hlt, hp, -⟩ := Array.findIdx?_eq_some_iff_getElem.mp hi
    have hkk : s.vm.classes[c] = k := (Array.getElem?_eq_some_iff.mp hk).2
    rw [hkk] at hp
    cases hkind : k.kind with
    | array component ty =>
      rw [hkind] at hb hp
      simp at hb hp
      exact ⟨comp, c, k, rfl, hi, hk, by rw [hkind, hp, hb.1], hb.2⟩
    | _ => rw [hkind] at hb; simp at hb
theorem ax_idx_bare (vm : Vm) (comp : ClassId) : (vm.bare.classes.findIdx? fun (x : Class) => match x.kind with | .array component _ => component == comp | _ => false) = (vm.classes.findIdx? fun (x : Class) => match x.kind with | .array component _ => component == comp | _ => false) := by
  simp only [Vm.bare, Array.findIdx?_map]
  rfl
theorem va_AOA.moved {ty : FieldType} {u U : State} (hvm : u.vm.Alike U.vm) (h : va_AOA ty u) : va_AOA ty U := by
  obtain ⟨comp, c, k, h1, h2, h3, h4, h5⟩ := ax_overA h
  obtain ⟨k', hk', he⟩ := hvm.2.2 _ _ h3
  have hi : (U.vm.classes.findIdx? fun (x : Class) => match x.kind with | .array component _ => component == comp | _ => false) = some c := by
    rw [← ax_idx_bare]
    first | rw [hvm.bare_eq] | rw [← hvm.bare_eq]
    rw [ax_idx_bare]
    exact h2
  have hkind : k'.kind = .array comp (.array ty) := by rw [he]; exact h4
  have f1 : U.vm.findClass (FieldType.array ty).toString = some comp := by rw [hvm.findClass]; exact h1
  have f2 : U.vm.findClass ("[" ++ (FieldType.array ty).toString) = some c := by rw [hvm.findClass]; exact h5
  unfold va_AOA Cond.before Cond.holds
  simp only [Cond.value]
  rw [f1, Option.bind_some]
  refine (congrArg (fun o : Option Nat => (o.bind (fun c => (U.vm.classes[c]?).map fun (k : Class) => match k.kind with | .array _ t => decide (t = FieldType.array ty) && decide (U.vm.findClass ("[" ++ (FieldType.array ty).toString) = some c) | _ => false) == some true)) hi).trans ?_
  simp [hk', hkind, f2]
/-! ===== BEGIN new T[n][m]: the outer array a place, the inner ones among the pooled ===== -/
/-- f, but v at every address of l -/
def vr_up {α : Type} (f : Nat → α) (l : List Nat) (v : α) : Nat → α := fun a => if a ∈ l then v else f a
theorem vr_up_in {α : Type} {f : Nat → α} {l : List Nat} {v : α} {a : Nat} (h : a ∈ l) : vr_up f l v a = v := if_pos h
theorem vr_up_ne {α : Type} {f : Nat → α} {l : List Nat} {v : α} {a : Nat} (h : a ∉ l) : vr_up f l v a = f a := if_neg h
theorem vr_rows {L l : List Nat} {f : Nat → va_E} {e : va_E} (h : ∀ a, a ∈ l → a ∉ L) : va_pl L f ++ l.map (fun a => (a, e)) = va_pl (L ++ l) (vr_up f l e) := by
  unfold va_pl
  rw [List.map_append]
  congr 1
  · apply List.map_congr_left
    intro a ha
    rw [vr_up_ne (fun q => h a q ha)]
  · apply List.map_congr_left
    intro a ha
    rw [vr_up_in ha]
theorem vr_lay {X rows : va_W} {x : Nat × va_E} {pl : va_W} {D : va_G} {cl : List vw_C} {H : Heap} (hP : va_P D cl (((X ++ pl) ++ [x]) ++ rows) H) : va_P D cl ((X ++ [x]) ++ (pl ++ rows)) H := by
  rw [List.append_assoc (X ++ pl)] at hP
  have h := va_P.swap hP
  rw [← List.append_assoc X] at h
  have h2 := va_P.swap h
  rw [List.append_assoc (X ++ [x])] at h2
  exact h2
theorem vr_layD {X rows : va_W} {x : Nat × va_E} {pl : va_W} {A : Nat → Prop} (hD : va_D A (((X ++ pl) ++ [x]) ++ rows)) : va_D A ((X ++ [x]) ++ (pl ++ rows)) := by
  rw [List.append_assoc (X ++ pl)] at hD
  have h := va_D.swap hD
  rw [← List.append_assoc X] at h
  have h2 := va_D.swap h
  rw [List.append_assoc (X ++ [x])] at h2
  exact h2
theorem vr_outer (c : ClassId) (N h0 : Nat) : ∀ i : Nat, Jvm.Free.Multi.outerC c N h0 i = arrV c N (fun j => va_rf (if j < i then some (h0 + 1 + j) else none))
  | 0 => by
    show ({ cls := c, slots := Array.replicate N .null, vm := .none } : Cell) = _
    rw [arrV_new]
    refine congrArg (arrV c N) (funext fun j => ?_)
    simp [va_rf]
  | i + 1 => by
    show (Jvm.Free.Multi.outerC c N h0 i).setSlot i (.ref (h0 + 1 + i)) = _
    rw [vr_outer c N h0 i, arrV_store]
    refine congrArg (arrV c N) (funext fun j => ?_)
    by_cases e : j = i
    · subst e
      simp [updV, va_rf]
    · by_cases h : j < i
      · simp [updV, e, h, Nat.lt_succ_of_lt h]
      · simp [updV, e, h, show ¬ j < i + 1 by omega]
section VGM
variable {p : Program} {l : Launch} {e : Env} {R : Room} {s : State} {m : MethodId} {args : Array Value} {below : List Frame} {meth : Method} {c : Code} {H : Heap} {locs : List Loc} {cells slots : Nat} {Q : State → Prop}
variable {cc : ByteArray} {pc : Nat} {ls : Array Slot} {rest : List Value} {D : va_G} {cl : List vw_C} {A : Nat → Prop} {a : Nat} {tys : List (ClassId × FieldType)} {ws : va_W} {H0 : Heap}
theorem va_mna {X : va_W} {L : List Nat} {f : Nat → va_E} {cc : ByteArray} (hexec : p.tables.exec = Jvm.exec) (hb : c.code = cc) {own : String} {index : Nat} {ty : FieldType} {cy : ClassId} (hown : s.vm.findClass own = some m.cls) (hclink : (Cond.classLink own index ("[" ++ (FieldType.array ty).toString)).before args s = true) (hover : va_AOA ty s) (harr : (Cond.arrayClass ty).before args s = true) (hcy : s.vm.findClass (FieldType.array ty).toString = some cy)
    (hK : va_K D cl tys s) (hP : va_P D cl (X ++ va_pl L f) H) (hD : va_D A (X ++ va_pl L f)) (hS : va_S A H0 H locs) (hA : ∀ q, H0.size ≤ q → A q) {n k : Int32} {N' K' : Nat} {z : vp_A} (hn : ¬ n < 0) (hk : ¬ k < 0) (hN : n.toNatClampNeg = N') (hM : k.toNatClampNeg = K')
    (hb1 : N' * 4 ≤ 536870912) (hb2 : K' * componentBytes ty ≤ 536870912) (hb3 : K' ≤ 536870912) (hdf : fits ty (defaultValue ty) = true) (hdd : (defaultValue ty).isDefault = true) (hcells : cells + (1 + N') ≤ R.cells) (hslots : slots + (N' + N' * K') ≤ R.slots) (hz : ∀ c : ClassId, Jvm.Free.Multi.innerC c K' (defaultValue ty) = vp_cell c z) (hdg : decode cc pc = .ok (.multianewarray index 2, 4))
    (kk : ∀ (q : Nat) (r : Nat → Nat) (cA : ClassId) (H1 : Heap), (∀ i j : Nat, i < N' → j < N' → r i = r j → i = j) → (∀ i : Nat, i < N' → r i ∉ L) → va_K D cl (tys ++ [(cA, .array ty)]) s →
      va_P D cl ((X ++ [(q, .inl (cA, N', .inr (.inr (.inr (.inr (fun i => if i < N' then some (r i) else none))))))]) ++ va_pl (L ++ (List.range N').map r) (vr_up f ((List.range N').map r) (.inl (cy, z)))) H1 → va_D A ((X ++ [(q, .inl (cA, N', .inr (.inr (.inr (.inr (fun i => if i < N' then some (r i) else none))))))]) ++ va_pl (L ++ (List.range N').map r) (vr_up f ((List.range N').map r) (.inl (cy, z)))) → va_S A H0 H1 locs →
      W p l e R s m args below meth c H1 locs (cells + 1 + N') (slots + N' + N' * K') Q (F0 m (pc + 4) ls (.ref q :: rest))) : W p l e R s m args below meth c H locs cells slots Q (F0 m pc ls (.int k :: .int n :: rest)) := by
  subst hN
  subst hM
  intro T hT Xs
  obtain ⟨vm₁, cA, comp, -, fA, fC, hO, -, X', step⟩ := Xs.multianewarray2F hexec hown hclink (va_AOA.use hover) harr (g := F0 m pc ls (.int k :: .int n :: rest)) rfl (by rw [hb]; exact hdg) rfl hn hk hb1 hb2 hb3 hdf hdd hcells hslots
  have ec : some cy = some comp := hcy.symm.trans fC
  cases ec
  generalize hF : Jvm.Free.Multi.fill (T.setVm vm₁) cA cy n.toNatClampNeg k.toNatClampNeg (defaultValue ty) n.toNatClampNeg = F at X' step
  have hTh : (T.setVm vm₁).heap = H := hT
  obtain ⟨f1, f2, -, -⟩ := Jvm.Free.Multi.fill_facts (T.setVm vm₁) cA cy n.toNatClampNeg k.toNatClampNeg (defaultValue ty) n.toNatClampNeg
  rw [hF, hTh] at f1 f2
  have hold : ∀ x : Nat, x < H.size → F.heap[x]? = H[x]? := fun x hx => by
    have := Jvm.Free.Multi.fill_old (T.setVm vm₁) cA cy n.toNatClampNeg k.toNatClampNeg (defaultValue ty) (a := x) (by rw [hTh]; exact hx) n.toNatClampNeg
    rw [hF, hTh] at this
    exact this
  have hrow : ∀ j : Nat, j < n.toNatClampNeg → F.heap[H.size + 1 + j]? = some (vp_cell cy z) := fun j hj => by
    have := Jvm.Free.Multi.fill_inner (T.setVm vm₁) cA cy n.toNatClampNeg k.toNatClampNeg (defaultValue ty) n.toNatClampNeg j hj
    rw [hF, hTh, hz] at this
    exact this
  have hout : Jvm.Free.Multi.outerC cA n.toNatClampNeg H.size n.toNatClampNeg = vp_cell cA (n.toNatClampNeg, .inr (.inr (.inr (.inr (fun i => if i < n.toNatClampNeg then some (H.size + 1 + i) else none))))) := by
    rw [vp_cell_q]
    exact vr_outer cA n.toNatClampNeg H.size n.toNatClampNeg
  rw [hout] at f2
  have hlt : ∀ a, a ∈ L → a < H.size := fun a ha => by
    obtain ⟨k9, hk9⟩ := va_pl_get (X := X) (f := f) ha
    exact (hP k9 _ hk9).lt
  have hnl : ∀ i : Nat, i < n.toNatClampNeg → H.size + 1 + i ∉ L := fun i _ h => by
    have := hlt _ h
    omega
  have hnm : ∀ a, a ∈ (List.range n.toNatClampNeg).map (fun i => H.size + 1 + i) → a ∉ L := fun a ha h => by
    obtain ⟨i, -, rfl⟩ := List.mem_map.mp ha
    have := hlt _ h
    omega
  have hP0 : va_P D cl (X ++ va_pl L f) F.heap := hP.kept (fun k9 x hx => hold x.1 ((hP k9 x hx).lt))
  have hP1 : va_P D cl ((X ++ va_pl L f) ++ [(H.size, .inl (cA, n.toNatClampNeg, .inr (.inr (.inr (.inr (fun i => if i < n.toNatClampNeg then some (H.size + 1 + i) else none))))))]) F.heap := hP0.app (fun k9 x hx => by
    have h0 : k9 < 1 := (List.getElem?_eq_some_iff.mp hx).1
    rw [show k9 = 0 by omega] at hx
    cases hx
    exact f2)
  have hP2 : va_P D cl (((X ++ va_pl L f) ++ [(H.size, .inl (cA, n.toNatClampNeg, .inr (.inr (.inr (.inr (fun i => if i < n.toNatClampNeg then some (H.size + 1 + i) else none))))))]) ++ ((List.range n.toNatClampNeg).map (fun i => H.size + 1 + i)).map (fun a => (a, .inl (cy, z)))) F.heap := hP1.app (fun k9 x hx => by
    obtain ⟨a, ha, rfl⟩ := List.mem_map.mp (List.mem_of_getElem? hx)
    obtain ⟨i, hi, rfl⟩ := List.mem_map.mp ha
    exact hrow i (List.mem_range.mp hi))
  have hD2 : va_D A (((X ++ va_pl L f) ++ [(H.size, .inl (cA, n.toNatClampNeg, .inr (.inr (.inr (.inr (fun i => if i < n.toNatClampNeg then some (H.size + 1 + i) else none))))))]) ++ ((List.range n.toNatClampNeg).map (fun i => H.size + 1 + i)).map (fun a => (a, .inl (cy, z)))) := by
    have hD1 := hD.push (e := .inl (cA, n.toNatClampNeg, .inr (.inr (.inr (.inr (fun i => if i < n.toNatClampNeg then some (H.size + 1 + i) else none)))))) hP rfl (hA _ hS.1)
    generalize hW1 : (X ++ va_pl L f) ++ [(H.size, .inl (cA, n.toNatClampNeg, .inr (.inr (.inr (.inr (fun i => if i < n.toNatClampNeg then some (H.size + 1 + i) else none))))))] = W1 at hD1 hP1 ⊢
    have hle : ∀ (k9 : Nat) (x : Nat × va_E), W1[k9]? = some x → x.1 ≤ H.size := fun k9 x hx => by
      rw [← hW1] at hx
      by_cases hl : k9 < (X ++ va_pl L f).length
      · rw [List.getElem?_append_left hl] at hx
        exact Nat.le_of_lt ((hP k9 x hx).lt)
      · rw [List.getElem?_append_right (by omega)] at hx
        have h0 : k9 - (X ++ va_pl L f).length < 1 := (List.getElem?_eq_some_iff.mp hx).1
        rw [show k9 - (X ++ va_pl L f).length = 0 by omega] at hx
        cases hx
        exact Nat.le_refl _
    have hr : ∀ (k9 : Nat) (x : Nat × va_E), (((List.range n.toNatClampNeg).map (fun i => H.size + 1 + i)).map (fun a => ((a, .inl (cy, z)) : Nat × va_E)))[k9]? = some x → x.1 = H.size + 1 + k9 := fun k9 x hx => by
      rw [List.getElem?_map, List.getElem?_map] at hx
      by_cases h9 : k9 < n.toNatClampNeg
      · rw [List.getElem?_range h9] at hx
        cases hx
        rfl
      · have hn0 : (List.range n.toNatClampNeg)[k9]? = none := List.getElem?_eq_none (by rw [List.length_range]; omega)
        rw [hn0] at hx
        cases hx
    refine ⟨fun i j x y hi hj hxy => ?_, fun k9 x hx => ?_⟩
    · by_cases h1 : i < W1.length <;> by_cases h2 : j < W1.length
      · rw [List.getElem?_append_left h1] at hi
        rw [List.getElem?_append_left h2] at hj
        exact hD1.1 i j x y hi hj hxy
      · rw [List.getElem?_append_left h1] at hi
        rw [List.getElem?_append_right (by omega)] at hj
        have := hle _ _ hi
        have := hr _ _ hj
        omega
      · rw [List.getElem?_append_right (by omega)] at hi
        rw [List.getElem?_append_left h2] at hj
        have := hle _ _ hj
        have := hr _ _ hi
        omega
      · rw [List.getElem?_append_right (by omega)] at hi hj
        have := hr _ _ hi
        have := hr _ _ hj
        omega
    · by_cases h1 : k9 < W1.length
      · rw [List.getElem?_append_left h1] at hx
        exact hD1.2 k9 x hx
      · rw [List.getElem?_append_right (by omega)] at hx
        have := hr _ _ hx
        exact hA _ (by have := hS.1; omega)
  have hAr : ArrOfT s cA (.array ty) := fun N9 z9 => by
    obtain ⟨-, k9, hk9, cm9, hkk9⟩ := (hO 0 0 0).1
    exact ⟨(fun q hq => by cases hq), k9, hk9, cm9, hkk9⟩
  have hK2 : va_K D cl (tys ++ [(cA, .array ty)]) s := ⟨hK.1, fun k9 x hx => by
    by_cases hl : k9 < tys.length
    · rw [List.getElem?_append_left hl] at hx
      exact hK.2 k9 x hx
    · rw [List.getElem?_append_right (by omega)] at hx
      have h0 : k9 - tys.length < 1 := (List.getElem?_eq_some_iff.mp hx).1
      rw [show k9 - tys.length = 0 by omega] at hx
      cases hx
      exact ⟨hAr, fA⟩⟩
  obtain ⟨t, a1, b1⟩ := kk H.size (fun i => H.size + 1 + i) cA F.heap (fun i j _ _ h => by have h9 : H.size + 1 + i = H.size + 1 + j := h; omega) hnl hK2 (by rw [← vr_rows hnm]; exact vr_lay hP2) (by rw [← vr_rows hnm]; exact vr_layD hD2) ⟨by rw [f1]; have := hS.1; omega, fun x h1 h2 => (hold x (Nat.lt_of_lt_of_le h1 hS.1)).trans (hS.2.1 x h1 h2), hS.2.2⟩ F rfl X'
  refine ⟨t, step t ?_, b1⟩
  have e : T.heap.size = H.size := by rw [hT]
  rw [e]
  exact a1
end VGM
/-! ===== END ===== -/

/-! ===== BEGIN exceptions that leave a method, and their catching by the caller (launches without stack traces) ===== -/
section VXA
/-! The laws vx_back, vx_callV, vx_callS, vx_callSW, vx_throw0, vx_throwS follow proofs of the library, with one case more: JvmDerived/Free/Laws.lean (Back.of_free), Shelf42/LK1.lean (callV, callS), Shelf/KitTraced.lean (throwNew0V, throwNewS). -/
/-- where a method has thrown q: the class by its name, the cell, what was written, the world -/
def vx_T (XC : String → State → State → Prop) (st : State) (q : Addr) (t : State) (mc ms : Nat) (free : Addr → Prop) : Prop :=
  ∃ (E : String) (ce : Cell) (L : List Loc), XC E st t ∧ t.heap[q]? = some ce ∧ ce.vm = .none ∧ st.vm.findClass E = some ce.cls ∧ st.WarmedH t.vm ∧ st.sameButNew ({ t with vm := st.vm } : State) L mc ms ∧ ∀ z ∈ L, free z.base
def vx_Q (Qc : Array Value → State → Outcome → State → Prop) (XC : String → State → State → Prop) (mc ms : Nat) (free : Addr → Prop) : Array Value → State → Outcome → State → Prop := fun a st o t =>
  (Qc a st o t ∧ ∃ L, FrameEnd st o t L mc ms ∧ ∀ q ∈ L, free q.base) ∨ ∃ q, o = .threw q ∧ vx_T XC st q t mc ms free
/-- a callee that returns or throws -/
def vx_Met (l : Launch) (y : MethodName) (ws : List Cond) (rm : Room) (Pc : Array Value → State → Prop) (Qc : Array Value → State → Outcome → State → Prop) (XC : String → State → State → Prop) (mc ms : Nat) (free : Addr → Prop) : Prop :=
  MetFree l y (headSpec ws rm) Pc (fun _ _ _ _ _ => True) (vx_Q Qc XC mc ms free)
def vx_Post (XC : String → State → State → Prop) (mc ms : Nat) (free : Addr → Prop) : Pt → Array Value → Addr → Pt → Prop := fun A a q B =>
  ∃ (g : JFrame) (mk : MethodId) (t : State) (L : List Loc) (E : String) (ce : Cell), B.U.heap = t.heap ∧ B.U.vm = t.vm ∧ XC E (A.U.calling g mk a) t ∧ t.heap[q]? = some ce ∧ ce.vm = .none ∧ A.U.vm.findClass E = some ce.cls ∧ B.locs = A.locs ++ L ∧ (∀ z ∈ L, free z.base) ∧ B.cells = A.cells + mc ∧ B.slots = A.slots + ms
def vx_Back (l : Launch) (R : Room) (p : Program) (e : Env) (below : List Frame) (s : State) (sargs : Array Value) (y : MethodName) (len W9 : Nat)
    (Pre : Pt → Array Value → Prop) (Post : Pt → Array Value → Option Value → Pt → Prop) (PostX : Pt → Array Value → Addr → Pt → Prop) : Prop :=
  ∀ (m : MethodId) (meth : Method) (c : Code) (A : Pt) (g : JFrame) (ig : Instr) (mk : MethodId) (a : Array Value),
    Stand p l e R s m sargs below meth c A.U A.locs A.cells A.slots → g.method = m → g.locals.size = c.maxLocals → decode c.code g.pc = .ok (ig, len) →
    2 * g.monitorRoom + (g.stack.map fun v => v.category).sum ≤ W9 → A.U.methodNamed? y = some mk → Pre A a →
    (∃ (v : Option Value) (B : Pt), Stand p l e R s m sargs below meth c B.U B.locs B.cells B.slots ∧ Post A a v B ∧
      Steps p.tables e below (doInvoke e (A.U.setTop g) [] mk a).1 (B.U.setTop { g with pc := g.pc + len, stack := v.toList ++ g.stack })) ∨
    (∃ (q : Addr) (B : Pt), Stand p l e R s m sargs below meth c B.U B.locs B.cells B.slots ∧ PostX A a q B ∧
      Steps p.tables e below (doInvoke e (A.U.setTop g) [] mk a).1 ((B.U.setTop g).pushFrame (.throwing q)))
section Payer
variable {l : Launch} {R : Room} {p : Program} {e : Env} {below : List Frame} {s : State} {sargs : Array Value} {y : MethodName} {len W9 : Nat}
theorem vx_back {ws : List Cond} {rm : Room} {Pc : Array Value → State → Prop} {Qc : Array Value → State → Outcome → State → Prop} {XC : String → State → State → Prop} {mc ms : Nat} {free : Addr → Prop} {bytes : ByteArray} {maxL : Nat} {ret : Option FieldType}
    (hM : vx_Met l y ws rm Pc Qc XC mc ms free) (hblind : FrameBlind Pc) (hrc : rm.cells = mc) (hrs : rm.slots = ms)
    (hframes : rm.frames + 1 ≤ R.frames) (hlocals : W9 + (maxL + 11) + rm.locals ≤ R.locals)
    (hws : ∀ w ∈ ws, ∀ a' U, s.WarmedH U.vm → w.before a' U = true) (hcode : Cond.code y bytes maxL ret ∈ ws) (hinit : ∀ a' U, s.WarmedH U.vm → (Cond.initialized y.cls).before a' U = true) :
    vx_Back l R p e below s sargs y len W9 (PreOf R mc ms Pc) (PostOf Qc mc ms free) (vx_Post XC mc ms free) := by
  intro m meth c A g ig mk a X hg hsize hdg hW hn hp
  have h1 : (headSpec ws rm).pre.before a A.U = true := atoms_intro fun w hw => hws w hw _ _ X.warmed
  have h2 : (Cond.code y bytes maxL ret).before a A.U = true := hws _ hcode _ _ X.warmed
  have h3 : (Cond.initialized y.cls).before a A.U = true := hinit _ _ X.warmed
  have h4 : A.cells + (headSpec ws rm).room.cells ≤ R.cells := by rw [show (headSpec ws rm).room.cells = mc from hrc]; exact hp.1
  have h5 : A.slots + (headSpec ws rm).room.slots ≤ R.slots := by rw [show (headSpec ws rm).room.slots = ms from hrs]; exact hp.2.1
  have hPc : Pc a (A.U.calling g mk a) := hblind _ _ _ _ hp.2.2
  obtain ⟨U, Ls, c0, s0⟩ := A
  dsimp only [Pt.U, Pt.locs, Pt.cells, Pt.slots] at h1 h2 h3 h4 h5 X hn hPc ⊢
  obtain ⟨methY, cY, hmY, hcY, -, hlY, -, -, -, -⟩ := Cond.code_spec hn h2
  obtain ⟨kY, hkY, -⟩ := className_of_methodNamed hn
  have hinitY : kY.init = .initialized := Cond.initialized_spec (findClass_of_methodNamed hn) hkY h3
  have h : At U g.method c below := by rw [hg]; exact X.here
  have hlocals9 : W9 + (maxL + 11) + (headSpec ws rm).room.locals ≤ R.locals := hlocals
  have happ : (headSpec ws rm).appliesLoose y e.platform (U.calling g mk a) = true :=
    Spec.appliesLoose_calling (g := g) h hdg hn hkY hinitY
      (X.room_calling (g := g) (R' := (headSpec ws rm).room) hsize hmY hcY hframes (by rw [hlY]; omega) h4 h5) h1
  obtain ⟨mid, hmid⟩ := h.above
  have hfr : (U.setTop g).frames = (.java g :: mid) ++ below := by rw [State.frames_setTop' g h.top, hmid]; rfl
  obtain ⟨o, s₂, hsteps, -, hend, hq⟩ := Steps.callFree hM p X.admits X.cas X.clock (acts := []) hfr happ hPc trivial
  have hq' : vx_Q Qc XC mc ms free a (U.calling g mk a) o s₂ := hq
  rw [State.frames_setTop' g h.top] at hend
  obtain ⟨g₀, hg0⟩ := Option.isSome_iff_exists.mp h.top
  obtain ⟨r, hr⟩ := State.topJava?_eq_some.mp hg0
  have hr' : (({ U with heap := s₂.heap, slotsUsed := s₂.slotsUsed } : State).setVm s₂.vm).frames = .java g₀ :: r := hr
  rcases hq' with ⟨hqc, L, hfe, hL⟩ | ⟨q, rfl, E, ce, L, hx, hce, hcv, hcl, hW₂, hsm, hL⟩
  · obtain ⟨⟨v, rfl⟩, hW₂, e2, q2, q3, q4, q5, q6⟩ := id hfe
    have e3 : s₂ = ({ (U.calling g mk a).setFrames s₂.frames with heap := s₂.heap, slotsUsed := s₂.slotsUsed } : State).setVm s₂.vm := by
      have : s₂ = ({ s₂ with vm := (U.calling g mk a).vm } : State).setVm s₂.vm := rfl
      rw [e2] at this
      exact this
    obtain ⟨c₂, i₂, len₂, hc₂, hd₂, hf₂⟩ := hend
    have hW' : U.WarmedH s₂.vm := hW₂
    have hcc : c₂ = c := by
      have h1 : s₂.code? g.method = U.code? g.method := by
        rw [State.code?_eq, State.code?_eq, hW'.alike.method?]
      exact Option.some.inj (hc₂.symm.trans (h1.trans h.code))
    subst hcc
    have hlen : len₂ = len := by rw [hdg] at hd₂; cases hd₂; rfl
    subst hlen
    have hs₂ : s₂ = (({ U with heap := s₂.heap, slotsUsed := s₂.slotsUsed } : State).setVm s₂.vm).setTop { g with pc := g.pc + len₂, stack := v.toList ++ g.stack } := by
      refine e3.trans ?_
      rw [hf₂, State.calling_eq h.top, State.setFrames_setFrames, State.setTop_of_frames _ hr', hr]
      rfl
    have hsame : U.sameButNew ({ U with heap := s₂.heap, slotsUsed := s₂.slotsUsed } : State) L mc ms := by
      refine ⟨?_, q2, q3, q4, q5, q6⟩
      obtain ⟨t, ht, -⟩ := State.frames_cons hr
      show ({ U with heap := s₂.heap, slotsUsed := s₂.slotsUsed } : State) = { U.setFrames U.frames with heap := s₂.heap, slotsUsed := s₂.slotsUsed }
      rw [State.setFrames_self ht]
    subst hg
    refine Or.inl ⟨v, ⟨(({ U with heap := s₂.heap, slotsUsed := s₂.slotsUsed } : State).setVm s₂.vm), Ls ++ L, c0 + mc, s0 + ms⟩,
      ⟨X.admits, X.cas, X.clock, X.frames, X.room, X.hears, X.method, X.code, (X.here.setHeapUsed s₂.heap s₂.slotsUsed).setVm hW'.alike, X.tail, State.WarmedH.trans X.warmed hW', X.limits, X.bytes, X.same.trans (hsame.setVm s.vm)⟩,
      ⟨g, mk, s₂, L, rfl, rfl, hqc, rfl, hL, rfl, rfl⟩, ?_⟩
    show Steps p.tables e below _ ((({ U with heap := s₂.heap, slotsUsed := s₂.slotsUsed } : State).setVm s₂.vm).setTop { g with pc := g.pc + len₂, stack := v.toList ++ g.stack })
    rw [← hs₂]
    exact hsteps
  · obtain ⟨e2, q2, q3, q4, q5, q6⟩ := id hsm
    have e3 : s₂ = ({ (U.calling g mk a).setFrames s₂.frames with heap := s₂.heap, slotsUsed := s₂.slotsUsed } : State).setVm s₂.vm := by
      have : s₂ = ({ s₂ with vm := (U.calling g mk a).vm } : State).setVm s₂.vm := rfl
      rw [e2] at this
      exact this
    have hf₂ : s₂.frames = .throwing q :: .java g :: U.frames.tail := hend
    have hW' : U.WarmedH s₂.vm := hW₂
    have hs₂ : s₂ = ((({ U with heap := s₂.heap, slotsUsed := s₂.slotsUsed } : State).setVm s₂.vm).setTop g).pushFrame (.throwing q) := by
      refine e3.trans ?_
      rw [hf₂, State.calling_eq h.top, State.setFrames_setFrames, State.pushFrame, State.frames_setTop _ hr', State.setTop_of_frames _ hr', State.setFrames_setFrames, hr]
      rfl
    have hsame : U.sameButNew ({ U with heap := s₂.heap, slotsUsed := s₂.slotsUsed } : State) L mc ms := by
      refine ⟨?_, q2, q3, q4, q5, q6⟩
      obtain ⟨t, ht, -⟩ := State.frames_cons hr
      show ({ U with heap := s₂.heap, slotsUsed := s₂.slotsUsed } : State) = { U.setFrames U.frames with heap := s₂.heap, slotsUsed := s₂.slotsUsed }
      rw [State.setFrames_self ht]
    subst hg
    refine Or.inr ⟨q, ⟨(({ U with heap := s₂.heap, slotsUsed := s₂.slotsUsed } : State).setVm s₂.vm), Ls ++ L, c0 + mc, s0 + ms⟩,
      ⟨X.admits, X.cas, X.clock, X.frames, X.room, X.hears, X.method, X.code, (X.here.setHeapUsed s₂.heap s₂.slotsUsed).setVm hW'.alike, X.tail, State.WarmedH.trans X.warmed hW', X.limits, X.bytes, X.same.trans (hsame.setVm s.vm)⟩,
      ⟨g, mk, s₂, L, E, ce, rfl, rfl, hx, hce, hcv, hcl, rfl, hL, rfl, rfl⟩, ?_⟩
    show Steps p.tables e below _ (((({ U with heap := s₂.heap, slotsUsed := s₂.slotsUsed } : State).setVm s₂.vm).setTop g).pushFrame (.throwing q))
    rw [← hs₂]
    exact hsteps
end Payer
section Calls
variable {p : Program} {l : Launch} {e : Env} {R : Room} {s : State} {m : MethodId} {args : Array Value} {below : List Frame} {meth : Method} {c : Code} {T : State} {locs : List Loc} {cells slots : Nat}
theorem vx_callV (X : Stand p l e R s m args below meth c T locs cells slots) (hexec : p.tables.exec = Jvm.exec) {own C : String} {index : Nat} {y : MethodName} {bytes : ByteArray} {maxL : Nat} {ret : Option FieldType}
    (hown : s.vm.findClass own = some m.cls) (hlink : (Cond.methodLink own index y).before args s = true) (hinst : (Cond.instanceMethod y).before args s = true) (hsel : (Cond.selects C y y).before args s = true)
    (hcode : (Cond.code y bytes maxL ret).before args s = true) (hy : y.cls ≠ "java/lang/invoke/MethodHandle" ∧ y.cls ≠ "java/lang/invoke/VarHandle")
    {W9 : Nat} {Pre : Pt → Array Value → Prop} {Post : Pt → Array Value → Option Value → Pt → Prop} {PostX : Pt → Array Value → Addr → Pt → Prop} (hK : vx_Back l R p e below s args y 3 W9 Pre Post PostX)
    {b : Addr} {cellB : Cell} (hcell : T.heap[b]? = some cellB) (hobj : cellB.vm.isStatics = false) (hcls : s.vm.findClass C = some cellB.cls)
    {g : JFrame} (hg : g.method = m) (hsize : g.locals.size = c.maxLocals) {argsL rest : List Value} (hlen : ∀ sig, parseMethodDescriptor y.desc = some sig → argsL.length = sig.parameters.length)
    (hstack : g.stack = argsL.reverse ++ .ref b :: rest) (hW : 2 * g.monitorRoom + (rest.map fun v => v.category).sum ≤ W9) (hdg : decode c.code g.pc = .ok (.invokevirtual index, 3))
    (hpre : ∀ vm₁, s.WarmedH vm₁ → Pre ⟨T.setVm vm₁, locs, cells, slots⟩ (Value.ref b :: argsL).toArray) :
    (∃ (v : Option Value) (vm₁ : Vm) (B : Pt), s.WarmedH vm₁ ∧ Stand p l e R s m args below meth c B.U B.locs B.cells B.slots ∧ Post ⟨T.setVm vm₁, locs, cells, slots⟩ (Value.ref b :: argsL).toArray v B ∧
      ∀ target, Steps p.tables e below (B.U.setTop { g with pc := g.pc + 3, stack := v.toList ++ rest }) target → Steps p.tables e below (T.setTop g) target) ∨
    (∃ (q : Addr) (vm₁ : Vm) (B : Pt), s.WarmedH vm₁ ∧ Stand p l e R s m args below meth c B.U B.locs B.cells B.slots ∧ PostX ⟨T.setVm vm₁, locs, cells, slots⟩ (Value.ref b :: argsL).toArray q B ∧
      Steps p.tables e below (T.setTop g) ((B.U.setTop { g with stack := rest }).pushFrame (.throwing q))) := by
  obtain ⟨mk, methM, hnamed, hmethM, hstM, habM⟩ := Cond.instanceMethod_spec hinst
  obtain ⟨methM', cM, hmethM', -, -, -, -, -, -, hsigM⟩ := Cond.code_spec hnamed hcode
  cases hmethM.symm.trans hmethM'
  obtain ⟨c2, r2, m2, q1, q2, q3, q4, kP, hkP, hkPi⟩ := Cond.selects_spec hsel
  cases hcls.symm.trans q1
  cases (State.methodFound?_of_named hnamed hy).symm.trans q2
  cases hnamed.symm.trans q3
  have hselP : selectMethod e.platform s.vm cellB.cls mk = .method mk := by rw [Launch.admits_selectMethod X.admits]; exact q4
  obtain ⟨vm₁, X₁, hstep₁⟩ := X.invokevirtual hexec hown hlink hnamed hmethM hstM hkP hkPi hy (a := b) (cell := cellB) hcell
    (fun z h => by rw [h] at hobj; cases hobj) hselP hmethM habM hkP hkPi (g := g) hg (argsL := argsL) (rest := rest) (hlen _ hsigM) hstack hdg
  rcases hK m meth c ⟨T.setVm vm₁, locs, cells, slots⟩ { g with stack := rest } (.invokevirtual index) mk (Value.ref b :: argsL).toArray X₁ hg hsize hdg hW (X₁.named hnamed) (hpre vm₁ X₁.warmed) with ⟨v, B, X', hpost, hsteps⟩ | ⟨q, B, X', hpost, hsteps⟩
  · exact Or.inl ⟨v, vm₁, B, X₁.warmed, X', hpost, fun target h => hstep₁ _ fun acts => by rw [doInvoke_state]; exact hsteps.trans h⟩
  · exact Or.inr ⟨q, vm₁, B, X₁.warmed, X', hpost, hstep₁ _ fun acts => by rw [doInvoke_state]; exact hsteps⟩
theorem vx_callS (X : Stand p l e R s m args below meth c T locs cells slots) (hexec : p.tables.exec = Jvm.exec) {own : String} {index : Nat} {y : MethodName} {bytes : ByteArray} {maxL : Nat} {ret : Option FieldType}
    (hown : s.vm.findClass own = some m.cls) (hlink : (Cond.methodLink own index y).before args s = true) (hstat : (Cond.static y).before args s = true) (hinit : (Cond.initialized y.cls).before args s = true)
    (hcode : (Cond.code y bytes maxL ret).before args s = true) (hy : y.cls ≠ "java/lang/invoke/MethodHandle" ∧ y.cls ≠ "java/lang/invoke/VarHandle")
    {W9 : Nat} {Pre : Pt → Array Value → Prop} {Post : Pt → Array Value → Option Value → Pt → Prop} {PostX : Pt → Array Value → Addr → Pt → Prop} (hK : vx_Back l R p e below s args y 3 W9 Pre Post PostX)
    {g : JFrame} (hg : g.method = m) (hsize : g.locals.size = c.maxLocals) {argsL rest : List Value} (hlen : ∀ sig, parseMethodDescriptor y.desc = some sig → argsL.length = sig.parameters.length)
    (hstack : g.stack = argsL.reverse ++ rest) (hW : 2 * g.monitorRoom + (rest.map fun v => v.category).sum ≤ W9) (hdg : decode c.code g.pc = .ok (.invokestatic index, 3))
    (hpre : ∀ vm₁, s.WarmedH vm₁ → Pre ⟨T.setVm vm₁, locs, cells, slots⟩ argsL.toArray) :
    (∃ (v : Option Value) (vm₁ : Vm) (B : Pt), s.WarmedH vm₁ ∧ Stand p l e R s m args below meth c B.U B.locs B.cells B.slots ∧ Post ⟨T.setVm vm₁, locs, cells, slots⟩ argsL.toArray v B ∧
      ∀ target, Steps p.tables e below (B.U.setTop { g with pc := g.pc + 3, stack := v.toList ++ rest }) target → Steps p.tables e below (T.setTop g) target) ∨
    (∃ (q : Addr) (vm₁ : Vm) (B : Pt), s.WarmedH vm₁ ∧ Stand p l e R s m args below meth c B.U B.locs B.cells B.slots ∧ PostX ⟨T.setVm vm₁, locs, cells, slots⟩ argsL.toArray q B ∧
      Steps p.tables e below (T.setTop g) ((B.U.setTop { g with stack := rest }).pushFrame (.throwing q))) := by
  obtain ⟨mk, hnamed⟩ := Cond.code_named hcode
  obtain ⟨methM, cM, hmethM, -, -, -, -, -, -, hsigM⟩ := Cond.code_spec hnamed hcode
  have hstatic : methM.isStatic = true := Cond.static_spec hnamed hmethM hstat
  obtain ⟨kP, hkP, -⟩ := className_of_methodNamed hnamed
  have hinitP : kP.init = .initialized := Cond.initialized_spec (findClass_of_methodNamed hnamed) hkP hinit
  obtain ⟨vm₁, X₁, hstep₁⟩ := X.invokestatic hexec hown hlink hnamed hmethM hstatic hkP hinitP hy (g := g) hg (argsL := argsL) (rest := rest) (hlen _ hsigM) hstack hdg
  rcases hK m meth c ⟨T.setVm vm₁, locs, cells, slots⟩ { g with stack := rest } (.invokestatic index) mk argsL.toArray X₁ hg hsize hdg hW (X₁.named hnamed) (hpre vm₁ X₁.warmed) with ⟨v, B, X', hpost, hsteps⟩ | ⟨q, B, X', hpost, hsteps⟩
  · exact Or.inl ⟨v, vm₁, B, X₁.warmed, X', hpost, fun target h => hstep₁ _ fun acts => by rw [doInvoke_state]; exact hsteps.trans h⟩
  · exact Or.inr ⟨q, vm₁, B, X₁.warmed, X', hpost, hstep₁ _ fun acts => by rw [doInvoke_state]; exact hsteps⟩
end Calls
theorem vx_cls {s : State} {T : State} {vm₁ : Vm} {E : String} {k : ClassId} (hW : s.WarmedH vm₁) (h : (T.setVm vm₁).vm.findClass E = some k) : s.vm.findClass E = some k := by
  have h1 : vm₁.findClass E = some k := h
  rw [hW.alike.findClass] at h1
  exact h1
/-- the method's frame g, with q thrown over it -/
def vx_W (p : Program) (l : Launch) (e : Env) (R : Room) (s : State) (m : MethodId) (args : Array Value) (below : List Frame) (meth : Method) (c : Code) (H : Heap) (locs : List Loc) (cells slots : Nat) (Q : State → Prop) (g : JFrame) (q : Addr) : Prop :=
  ∀ T : State, T.heap = H → Stand p l e R s m args below meth c T locs cells slots → ∃ t, Steps p.tables e below ((T.setTop g).pushFrame (.throwing q)) t ∧ Q t
def vx_Run (p : Program) (l : Launch) (e : Env) (R : Room) (s : State) (m : MethodId) (args : Array Value) (below : List Frame) (meth : Method) (c : Code) (H : Heap) (locs : List Loc) (cells slots mc ms : Nat) (g : JFrame) (rest : List Value) (Qa : State → Outcome → State → Prop) (XC : String → State → State → Prop) (free : Addr → Prop) : Prop :=
  ∀ T : State, T.heap = H → Stand p l e R s m args below meth c T locs cells slots →
    (∃ (v : Option Value) (st₀ t T' : State) (L : List Loc), st₀.heap = H ∧ Stand p l e R s m args below meth c T' (locs ++ L) (cells + mc) (slots + ms) ∧ (∀ q ∈ L, free q.base) ∧ T'.heap = t.heap ∧ T'.vm = t.vm ∧ Qa st₀ (.returned v) t ∧
      Goes p e below T g T' { g with pc := g.pc + 3, stack := v.toList ++ rest }) ∨
    (∃ (q : Addr) (st₀ t T' : State) (L : List Loc) (E : String) (ce : Cell), st₀.heap = H ∧ Stand p l e R s m args below meth c T' (locs ++ L) (cells + mc) (slots + ms) ∧ (∀ z ∈ L, free z.base) ∧ T'.heap = t.heap ∧ T'.vm = t.vm ∧ XC E st₀ t ∧ t.heap[q]? = some ce ∧ ce.vm = .none ∧ s.vm.findClass E = some ce.cls ∧
      Steps p.tables e below (T.setTop g) ((T'.setTop { g with stack := rest }).pushFrame (.throwing q)))
def vx_X {S : Type} (px : S → Prop) (B : String → S → State → Prop) (A : Nat → Prop) : String → State → State → Prop := fun E st t => ∃ u : S, px u ∧ B E u t ∧ va_F A st t
section Runs
variable {p : Program} {l : Launch} {e : Env} {R : Room} {s : State} {m : MethodId} {args : Array Value} {below : List Frame} {meth : Method} {c : Code} {H : Heap} {locs : List Loc} {cells slots : Nat}
variable {y : MethodName} {bytes cc : ByteArray} {maxL nL mc ms n index : Nat} {ret : Option FieldType} {ws : List Cond} {rm : Room} {Pc : Array Value → State → Prop} {Qc : Array Value → State → Outcome → State → Prop} {XC : String → State → State → Prop} {free : Addr → Prop} {Ts : List Cond} {own C : String} {b : Addr} {As rest : List Value} {g : JFrame}
theorem vx_callBack (cb : CallB R s args own index y bytes maxL ret ws rm mc ms n) (hM : vx_Met l y ws rm Pc Qc XC mc ms free) (hbl : FrameBlind Pc) : vx_Back l R p e below s args y 3 8 (PreOf R mc ms Pc) (PostOf Qc mc ms free) (vx_Post XC mc ms free) := by
  obtain ⟨hrc, hrs, hfr, hlo, hws, hcw, -, hini, -⟩ := cb
  exact vx_back (bytes := bytes) (maxL := maxL) (ret := ret) hM hbl hrc hrs hfr hlo hws hcw (fun a' U hW => word_at hW (Or.inl (by first | rfl | simp [Cond.onTables, Cond.keeps, Cond.steady])) hini)
theorem vx_runV (S : CallFix p m c cc nL s args Ts own) (hM : vx_Met l y ws rm Pc Qc XC mc ms free) (cw : CallW R s args own C index y bytes maxL ret ws rm mc ms n) (hp : PreV s H C b Pc As)
    (hg : g.method = m) (hn : As.length = n) (hsize : g.locals.size = nL) (hstack : g.stack = As.reverse ++ .ref b :: rest) (hW : 2 * g.monitorRoom + (rest.map fun v => v.category).sum ≤ 8) (hdg : decode cc g.pc = .ok (.invokevirtual index, 3)) (hf : cells + mc ≤ R.cells ∧ slots + ms ≤ R.slots) :
    vx_Run p l e R s m args below meth c H locs cells slots mc ms g rest (Qc (Value.ref b :: As).toArray) XC free := by
  have hK : vx_Back l R p e below s args y 3 8 (PreOf R mc ms Pc) (PostOf Qc mc ms free) (vx_Post XC mc ms free) := vx_callBack cw.1 hM hp.1
  obtain ⟨⟨-, -, -, -, -, -, hcode, -, hy, hlen, hl⟩, hin, hse⟩ := cw
  obtain ⟨hx, hb, hml, ho, -⟩ := S
  obtain ⟨-, ⟨cellB, hcB, hoB, hclB⟩, hPc⟩ := hp
  intro T hT X
  rcases vx_callV X hx (C := C) (bytes := bytes) (maxL := maxL) (ret := ret) ho hl hin hse hcode hy hK (by rw [hT]; exact hcB) hoB hclB hg (hsize.trans hml.symm) (argsL := As) (rest := rest) (fun sig h => hn.trans (hlen sig h)) hstack hW (by rw [hb]; exact hdg)
    (fun vm₁ hW₁ => ⟨hf.1, hf.2, hPc (T.setVm vm₁) hT hW₁⟩) with ⟨v, vm₁, ⟨U', l2, c2, s2⟩, hW₁, X', ⟨g', mk, t, L, e1, e2, hq, h1, hL, h2, h3⟩, st⟩ | ⟨q, vm₁, ⟨U', l2, c2, s2⟩, hW₁, X', ⟨g', mk, t, L, E, ce, e1, e2, hq, hce, hcv, hcl, h1, hL, h2, h3⟩, st⟩
  · dsimp only [Pt.U, Pt.locs, Pt.cells, Pt.slots] at X' e1 e2 h1 h2 h3 st
    subst h1; subst h2; subst h3
    exact Or.inl ⟨v, (T.setVm vm₁).calling g' mk (Value.ref b :: As).toArray, t, U', L, hT, X', hL, e1, e2, hq, st⟩
  · dsimp only [Pt.U, Pt.locs, Pt.cells, Pt.slots] at X' e1 e2 h1 h2 h3 st hcl
    subst h1; subst h2; subst h3
    exact Or.inr ⟨q, (T.setVm vm₁).calling g' mk (Value.ref b :: As).toArray, t, U', L, E, ce, hT, X', hL, e1, e2, hq, hce, hcv, vx_cls hW₁ hcl, st⟩
theorem vx_runS (S : CallFix p m c cc nL s args Ts own) (hM : vx_Met l y ws rm Pc Qc XC mc ms free) (cw : CallB R s args own index y bytes maxL ret ws rm mc ms n ∧ (Cond.static y).before args s = true) (hp : PreS s H Pc As)
    (hg : g.method = m) (hn : As.length = n) (hsize : g.locals.size = nL) (hstack : g.stack = As.reverse ++ rest) (hW : 2 * g.monitorRoom + (rest.map fun v => v.category).sum ≤ 8) (hdg : decode cc g.pc = .ok (.invokestatic index, 3)) (hf : cells + mc ≤ R.cells ∧ slots + ms ≤ R.slots) :
    vx_Run p l e R s m args below meth c H locs cells slots mc ms g rest (Qc As.toArray) XC free := by
  have hK : vx_Back l R p e below s args y 3 8 (PreOf R mc ms Pc) (PostOf Qc mc ms free) (vx_Post XC mc ms free) := vx_callBack cw.1 hM hp.1
  obtain ⟨⟨-, -, -, -, -, -, hcode, hini, hy, hlen, hl⟩, hstt⟩ := cw
  obtain ⟨hx, hb, hml, ho, -⟩ := S
  intro T hT X
  rcases vx_callS X hx (bytes := bytes) (maxL := maxL) (ret := ret) ho hl hstt hini hcode hy hK hg (hsize.trans hml.symm) (argsL := As) (rest := rest) (fun sig h => hn.trans (hlen sig h)) hstack hW (by rw [hb]; exact hdg)
    (fun vm₁ hW₁ => ⟨hf.1, hf.2, hp.2 (T.setVm vm₁) hT hW₁⟩) with ⟨v, vm₁, ⟨U', l2, c2, s2⟩, hW₁, X', ⟨g', mk, t, L, e1, e2, hq, h1, hL, h2, h3⟩, st⟩ | ⟨q, vm₁, ⟨U', l2, c2, s2⟩, hW₁, X', ⟨g', mk, t, L, E, ce, e1, e2, hq, hce, hcv, hcl, h1, hL, h2, h3⟩, st⟩
  · dsimp only [Pt.U, Pt.locs, Pt.cells, Pt.slots] at X' e1 e2 h1 h2 h3 st
    subst h1; subst h2; subst h3
    exact Or.inl ⟨v, (T.setVm vm₁).calling g' mk As.toArray, t, U', L, hT, X', hL, e1, e2, hq, st⟩
  · dsimp only [Pt.U, Pt.locs, Pt.cells, Pt.slots] at X' e1 e2 h1 h2 h3 st hcl
    subst h1; subst h2; subst h3
    exact Or.inr ⟨q, (T.setVm vm₁).calling g' mk As.toArray, t, U', L, E, ce, hT, X', hL, e1, e2, hq, hce, hcv, vx_cls hW₁ hcl, st⟩
end Runs
section Rows
variable {p : Program} {l : Launch} {e : Env} {R : Room} {s : State} {m : MethodId} {args : Array Value} {below : List Frame} {meth : Method} {c : Code} {H : Heap} {locs : List Loc} {cells slots : Nat} {Q : State → Prop}
variable {mc ms : Nat} {free : Addr → Prop} {A0 A1 : Nat → Prop} {H0 : Heap} {a : Array Value} {pc : Nat} {ls : Array Slot} {st0 rest : List Value}
theorem vx_keep {st₀ t T' : State} {L : List Loc} (h0 : st₀.heap = H) (e1 : T'.heap = t.heap) (hS : va_S A0 H0 H locs) (hA : ∀ q, q < H.size → A1 q → A0 q) (hf : ∀ q, free q → A0 q) (hL : ∀ q ∈ L, free q.base) (hF : va_F A1 st₀ t) :
    H.size ≤ T'.heap.size ∧ (∀ q : Nat, q < H.size → ¬ A1 q → T'.heap[q]? = H[q]?) ∧ va_S A0 H0 T'.heap (locs ++ L) := by
  obtain ⟨hz, hk⟩ := hF
  rw [h0] at hz hk
  exact ⟨by rw [e1]; exact hz, fun q h1 h2 => by rw [e1]; exact hk q h1 h2,
    ⟨Nat.le_trans hS.1 (by rw [e1]; exact hz), fun q h1 h2 => by rw [e1, hk q (Nat.lt_of_lt_of_le h1 hS.1) (fun z => h2 (hA q (Nat.lt_of_lt_of_le h1 hS.1) z))]; exact hS.2.1 q h1 h2, fun q hq => by
      rcases List.mem_append.mp hq with h | h
      · exact hS.2.2 q h
      · exact hf _ (hL q h)⟩⟩
theorem vx_calli {S SX : Type} {post : Int32 → S → Prop} {px : SX → Prop} {B : S → State → Prop} {BX : String → SX → State → Prop} {AX : Nat → Prop} (hr : vx_Run p l e R s m args below meth c H locs cells slots mc ms (F0 m pc ls st0) rest (va_Qi post B A1 a) (vx_X px BX AX) free) (hS : va_S A0 H0 H locs) (hA : ∀ q, q < H.size → A1 q → A0 q) (hf : ∀ q, free q → A0 q) (hAX : ∀ q, q < H.size → AX q → A0 q)
    (kx : ∀ (E : String) (ce : Cell) (q9 : Addr) (u : SX) (t : State) (H1 : Heap) (locs1 : List Loc), t.heap = H1 → s.vm.Alike t.vm → px u → BX E u t → H.size ≤ H1.size → (∀ q : Nat, q < H.size → ¬ AX q → H1[q]? = H[q]?) → va_S A0 H0 H1 locs1 → H1[q9]? = some ce → ce.vm = .none → s.vm.findClass E = some ce.cls → vx_W p l e R s m args below meth c H1 locs1 (cells + mc) (slots + ms) Q (F0 m pc ls rest) q9)
    (kk : ∀ (r : Int32) (u : S) (t : State) (H1 : Heap) (locs1 : List Loc), t.heap = H1 → s.vm.Alike t.vm → post r u → B u t → H.size ≤ H1.size → (∀ q : Nat, q < H.size → ¬ A1 q → H1[q]? = H[q]?) → va_S A0 H0 H1 locs1 → W p l e R s m args below meth c H1 locs1 (cells + mc) (slots + ms) Q (F0 m (pc + 3) ls (.int r :: rest))) : W p l e R s m args below meth c H locs cells slots Q (F0 m pc ls st0) := by
  intro T hT X
  rcases hr T hT X with ⟨v, st₀, t, T', L, h0, X', hL, e1, e2, ⟨⟨r, u, hv, hp, hb⟩, hF⟩, st⟩ | ⟨q, st₀, t, T', L, E, ce, h0, X', hL, e1, e2, ⟨u, hp, hb, hF⟩, hce, hcv, hcl, st⟩
  · cases hv
    obtain ⟨k1, k2, k3⟩ := vx_keep h0 e1 hS hA hf hL hF
    obtain ⟨t2, a1, b1⟩ := kk r u t T'.heap (locs ++ L) e1.symm (by rw [← e2]; exact X'.warmed.alike) hp hb k1 k2 k3 T' rfl X'
    exact ⟨t2, st t2 a1, b1⟩
  · obtain ⟨k1, k2, k3⟩ := vx_keep h0 e1 hS hAX hf hL hF
    obtain ⟨t2, a1, b1⟩ := kx E ce q u t T'.heap (locs ++ L) e1.symm (by rw [← e2]; exact X'.warmed.alike) hp hb k1 k2 k3 (by rw [e1]; exact hce) hcv hcl T' rfl X'
    exact ⟨t2, st.trans a1, b1⟩
theorem vx_calll {S SX : Type} {post : Int64 → S → Prop} {px : SX → Prop} {B : S → State → Prop} {BX : String → SX → State → Prop} {AX : Nat → Prop} (hr : vx_Run p l e R s m args below meth c H locs cells slots mc ms (F0 m pc ls st0) rest (va_Ql post B A1 a) (vx_X px BX AX) free) (hS : va_S A0 H0 H locs) (hA : ∀ q, q < H.size → A1 q → A0 q) (hf : ∀ q, free q → A0 q) (hAX : ∀ q, q < H.size → AX q → A0 q)
    (kx : ∀ (E : String) (ce : Cell) (q9 : Addr) (u : SX) (t : State) (H1 : Heap) (locs1 : List Loc), t.heap = H1 → s.vm.Alike t.vm → px u → BX E u t → H.size ≤ H1.size → (∀ q : Nat, q < H.size → ¬ AX q → H1[q]? = H[q]?) → va_S A0 H0 H1 locs1 → H1[q9]? = some ce → ce.vm = .none → s.vm.findClass E = some ce.cls → vx_W p l e R s m args below meth c H1 locs1 (cells + mc) (slots + ms) Q (F0 m pc ls rest) q9)
    (kk : ∀ (r : Int64) (u : S) (t : State) (H1 : Heap) (locs1 : List Loc), t.heap = H1 → s.vm.Alike t.vm → post r u → B u t → H.size ≤ H1.size → (∀ q : Nat, q < H.size → ¬ A1 q → H1[q]? = H[q]?) → va_S A0 H0 H1 locs1 → W p l e R s m args below meth c H1 locs1 (cells + mc) (slots + ms) Q (F0 m (pc + 3) ls (.long r :: rest))) : W p l e R s m args below meth c H locs cells slots Q (F0 m pc ls st0) := by
  intro T hT X
  rcases hr T hT X with ⟨v, st₀, t, T', L, h0, X', hL, e1, e2, ⟨⟨r, u, hv, hp, hb⟩, hF⟩, st⟩ | ⟨q, st₀, t, T', L, E, ce, h0, X', hL, e1, e2, ⟨u, hp, hb, hF⟩, hce, hcv, hcl, st⟩
  · cases hv
    obtain ⟨k1, k2, k3⟩ := vx_keep h0 e1 hS hA hf hL hF
    obtain ⟨t2, a1, b1⟩ := kk r u t T'.heap (locs ++ L) e1.symm (by rw [← e2]; exact X'.warmed.alike) hp hb k1 k2 k3 T' rfl X'
    exact ⟨t2, st t2 a1, b1⟩
  · obtain ⟨k1, k2, k3⟩ := vx_keep h0 e1 hS hAX hf hL hF
    obtain ⟨t2, a1, b1⟩ := kx E ce q u t T'.heap (locs ++ L) e1.symm (by rw [← e2]; exact X'.warmed.alike) hp hb k1 k2 k3 (by rw [e1]; exact hce) hcv hcl T' rfl X'
    exact ⟨t2, st.trans a1, b1⟩
theorem vx_callf {S SX : Type} {post : UInt32 → S → Prop} {px : SX → Prop} {B : S → State → Prop} {BX : String → SX → State → Prop} {AX : Nat → Prop} (hr : vx_Run p l e R s m args below meth c H locs cells slots mc ms (F0 m pc ls st0) rest (va_Qf post B A1 a) (vx_X px BX AX) free) (hS : va_S A0 H0 H locs) (hA : ∀ q, q < H.size → A1 q → A0 q) (hf : ∀ q, free q → A0 q) (hAX : ∀ q, q < H.size → AX q → A0 q)
    (kx : ∀ (E : String) (ce : Cell) (q9 : Addr) (u : SX) (t : State) (H1 : Heap) (locs1 : List Loc), t.heap = H1 → s.vm.Alike t.vm → px u → BX E u t → H.size ≤ H1.size → (∀ q : Nat, q < H.size → ¬ AX q → H1[q]? = H[q]?) → va_S A0 H0 H1 locs1 → H1[q9]? = some ce → ce.vm = .none → s.vm.findClass E = some ce.cls → vx_W p l e R s m args below meth c H1 locs1 (cells + mc) (slots + ms) Q (F0 m pc ls rest) q9)
    (kk : ∀ (r : UInt32) (u : S) (t : State) (H1 : Heap) (locs1 : List Loc), t.heap = H1 → s.vm.Alike t.vm → post r u → B u t → H.size ≤ H1.size → (∀ q : Nat, q < H.size → ¬ A1 q → H1[q]? = H[q]?) → va_S A0 H0 H1 locs1 → W p l e R s m args below meth c H1 locs1 (cells + mc) (slots + ms) Q (F0 m (pc + 3) ls (.float r :: rest))) : W p l e R s m args below meth c H locs cells slots Q (F0 m pc ls st0) := by
  intro T hT X
  rcases hr T hT X with ⟨v, st₀, t, T', L, h0, X', hL, e1, e2, ⟨⟨r, u, hv, hp, hb⟩, hF⟩, st⟩ | ⟨q, st₀, t, T', L, E, ce, h0, X', hL, e1, e2, ⟨u, hp, hb, hF⟩, hce, hcv, hcl, st⟩
  · cases hv
    obtain ⟨k1, k2, k3⟩ := vx_keep h0 e1 hS hA hf hL hF
    obtain ⟨t2, a1, b1⟩ := kk r u t T'.heap (locs ++ L) e1.symm (by rw [← e2]; exact X'.warmed.alike) hp hb k1 k2 k3 T' rfl X'
    exact ⟨t2, st t2 a1, b1⟩
  · obtain ⟨k1, k2, k3⟩ := vx_keep h0 e1 hS hAX hf hL hF
    obtain ⟨t2, a1, b1⟩ := kx E ce q u t T'.heap (locs ++ L) e1.symm (by rw [← e2]; exact X'.warmed.alike) hp hb k1 k2 k3 (by rw [e1]; exact hce) hcv hcl T' rfl X'
    exact ⟨t2, st.trans a1, b1⟩
theorem vx_calld {S SX : Type} {post : UInt64 → S → Prop} {px : SX → Prop} {B : S → State → Prop} {BX : String → SX → State → Prop} {AX : Nat → Prop} (hr : vx_Run p l e R s m args below meth c H locs cells slots mc ms (F0 m pc ls st0) rest (va_Qd post B A1 a) (vx_X px BX AX) free) (hS : va_S A0 H0 H locs) (hA : ∀ q, q < H.size → A1 q → A0 q) (hf : ∀ q, free q → A0 q) (hAX : ∀ q, q < H.size → AX q → A0 q)
    (kx : ∀ (E : String) (ce : Cell) (q9 : Addr) (u : SX) (t : State) (H1 : Heap) (locs1 : List Loc), t.heap = H1 → s.vm.Alike t.vm → px u → BX E u t → H.size ≤ H1.size → (∀ q : Nat, q < H.size → ¬ AX q → H1[q]? = H[q]?) → va_S A0 H0 H1 locs1 → H1[q9]? = some ce → ce.vm = .none → s.vm.findClass E = some ce.cls → vx_W p l e R s m args below meth c H1 locs1 (cells + mc) (slots + ms) Q (F0 m pc ls rest) q9)
    (kk : ∀ (r : UInt64) (u : S) (t : State) (H1 : Heap) (locs1 : List Loc), t.heap = H1 → s.vm.Alike t.vm → post r u → B u t → H.size ≤ H1.size → (∀ q : Nat, q < H.size → ¬ A1 q → H1[q]? = H[q]?) → va_S A0 H0 H1 locs1 → W p l e R s m args below meth c H1 locs1 (cells + mc) (slots + ms) Q (F0 m (pc + 3) ls (.double r :: rest))) : W p l e R s m args below meth c H locs cells slots Q (F0 m pc ls st0) := by
  intro T hT X
  rcases hr T hT X with ⟨v, st₀, t, T', L, h0, X', hL, e1, e2, ⟨⟨r, u, hv, hp, hb⟩, hF⟩, st⟩ | ⟨q, st₀, t, T', L, E, ce, h0, X', hL, e1, e2, ⟨u, hp, hb, hF⟩, hce, hcv, hcl, st⟩
  · cases hv
    obtain ⟨k1, k2, k3⟩ := vx_keep h0 e1 hS hA hf hL hF
    obtain ⟨t2, a1, b1⟩ := kk r u t T'.heap (locs ++ L) e1.symm (by rw [← e2]; exact X'.warmed.alike) hp hb k1 k2 k3 T' rfl X'
    exact ⟨t2, st t2 a1, b1⟩
  · obtain ⟨k1, k2, k3⟩ := vx_keep h0 e1 hS hAX hf hL hF
    obtain ⟨t2, a1, b1⟩ := kx E ce q u t T'.heap (locs ++ L) e1.symm (by rw [← e2]; exact X'.warmed.alike) hp hb k1 k2 k3 (by rw [e1]; exact hce) hcv hcl T' rfl X'
    exact ⟨t2, st.trans a1, b1⟩
theorem vx_callv {S SX : Type} {post : S → Prop} {px : SX → Prop} {B : S → State → Prop} {BX : String → SX → State → Prop} {AX : Nat → Prop} (hr : vx_Run p l e R s m args below meth c H locs cells slots mc ms (F0 m pc ls st0) rest (va_Qv post B A1 a) (vx_X px BX AX) free) (hS : va_S A0 H0 H locs) (hA : ∀ q, q < H.size → A1 q → A0 q) (hf : ∀ q, free q → A0 q) (hAX : ∀ q, q < H.size → AX q → A0 q)
    (kx : ∀ (E : String) (ce : Cell) (q9 : Addr) (u : SX) (t : State) (H1 : Heap) (locs1 : List Loc), t.heap = H1 → s.vm.Alike t.vm → px u → BX E u t → H.size ≤ H1.size → (∀ q : Nat, q < H.size → ¬ AX q → H1[q]? = H[q]?) → va_S A0 H0 H1 locs1 → H1[q9]? = some ce → ce.vm = .none → s.vm.findClass E = some ce.cls → vx_W p l e R s m args below meth c H1 locs1 (cells + mc) (slots + ms) Q (F0 m pc ls rest) q9)
    (kk : ∀ (u : S) (t : State) (H1 : Heap) (locs1 : List Loc), t.heap = H1 → s.vm.Alike t.vm → post u → B u t → H.size ≤ H1.size → (∀ q : Nat, q < H.size → ¬ A1 q → H1[q]? = H[q]?) → va_S A0 H0 H1 locs1 → W p l e R s m args below meth c H1 locs1 (cells + mc) (slots + ms) Q (F0 m (pc + 3) ls (rest))) : W p l e R s m args below meth c H locs cells slots Q (F0 m pc ls st0) := by
  intro T hT X
  rcases hr T hT X with ⟨v, st₀, t, T', L, h0, X', hL, e1, e2, ⟨⟨u, hv, hp, hb⟩, hF⟩, st⟩ | ⟨q, st₀, t, T', L, E, ce, h0, X', hL, e1, e2, ⟨u, hp, hb, hF⟩, hce, hcv, hcl, st⟩
  · cases hv
    obtain ⟨k1, k2, k3⟩ := vx_keep h0 e1 hS hA hf hL hF
    obtain ⟨t2, a1, b1⟩ := kk u t T'.heap (locs ++ L) e1.symm (by rw [← e2]; exact X'.warmed.alike) hp hb k1 k2 k3 T' rfl X'
    exact ⟨t2, st t2 a1, b1⟩
  · obtain ⟨k1, k2, k3⟩ := vx_keep h0 e1 hS hAX hf hL hF
    obtain ⟨t2, a1, b1⟩ := kx E ce q u t T'.heap (locs ++ L) e1.symm (by rw [← e2]; exact X'.warmed.alike) hp hb k1 k2 k3 (by rw [e1]; exact hce) hcv hcl T' rfl X'
    exact ⟨t2, st.trans a1, b1⟩
/-- caught by the row x of this method's table; the rows ahead don't take it -/
theorem vx_catch {own name : String} {E : String} {ce : Cell} {q : Addr} (hown : s.vm.findClass own = some m.cls) (pre : List ExceptionTableEntry) (x : ExceptionTableEntry) (suf : List ExceptionTableEntry) (hsplit : c.exceptionTable.toList = pre ++ x :: suf)
    (hpass : ∀ z ∈ pre, covers z pc = false ∨ (z.catchType ≠ 0 ∧ ∃ nm : String, (Cond.classLink own z.catchType nm).before args s = true ∧ va_Nc E nm s)) (hx : covers x pc = true) (h0 : x.catchType ≠ 0)
    (hlink : (Cond.classLink own x.catchType name).before args s = true) (hcast : (Cond.castable E name).before args s = true) (hcell : H[q]? = some ce) (hv : ce.vm = .none) (hcl : s.vm.findClass E = some ce.cls)
    (kk : W p l e R s m args below meth c H locs cells slots Q (F0 m x.handlerPc ls [.ref q])) : vx_W p l e R s m args below meth c H locs cells slots Q (F0 m pc ls rest) q := by
  intro T hT X
  have hpl : e.platform.magicAccessors = ({} : Platform).magicAccessors := by rw [X.admits.platform]
  obtain ⟨c3, c4, hc3, hc4, hasg⟩ := Cond.castable_spec hcast
  cases Option.some.inj (hc3.symm.trans hcl)
  obtain ⟨c5, hc5, hcl5⟩ := Cond.classLink_spec hown hlink e.platform hpl
  cases Option.some.inj (hc4.symm.trans hc5)
  obtain ⟨vm', X', st⟩ := X.thenCaughtThrough q (g := F0 m pc ls rest) rfl (Steps.refl _) (by rw [hT]; exact hcell) (by rw [hv]; rfl) (by obtain ⟨k9, h9, -⟩ := Vm.findClass_spec hcl; exact ⟨k9, h9⟩) pre x suf hsplit
    (fun z hz => by
      rcases hpass z hz with h | ⟨hz0, nm, hl1, hn1⟩
      · exact Or.inl h
      · obtain ⟨c6, hc6, hcl6⟩ := Cond.classLink_spec hown hl1 e.platform hpl
        obtain ⟨a8, b8, h1, h2, h3⟩ := hn1
        cases Option.some.inj (h1.symm.trans hcl)
        cases Option.some.inj (h2.symm.trans hc6)
        exact Or.inr ⟨hz0, _, hcl6, h3⟩) hx (Or.inr ⟨h0, c4, hcl5, hasg⟩)
  obtain ⟨t, a1, b1⟩ := kk (T.setVm vm') hT X'
  exact ⟨t, st.trans a1, b1⟩
end Rows
section Ends
variable {p : Program} {l : Launch} {e : Env} {R : Room} {s : State} {m : MethodId} {args : Array Value} {below : List Frame} {meth : Method} {c : Code} {H : Heap} {locs : List Loc} {cells slots : Nat} {Q : State → Prop}
variable {mc ms : Nat} {free : Addr → Prop} {A0 A1 : Nat → Prop} {H0 : Heap} {a : Array Value} {ls : Array Slot} {st0 rest : List Value}
variable {Qc : Array Value → State → Outcome → State → Prop} {XC : String → State → State → Prop}
/-- what a body that may throw owes at its end -/
def vx_MQ (below : List Frame) (Qc : Array Value → State → Outcome → State → Prop) (XC : String → State → State → Prop) (a : Array Value) (s : State) (mc ms : Nat) (free : Addr → Prop) : State → Prop := fun t =>
  ∃ o, t.status = .running ∧ Ended t below o ∧ vx_Q Qc XC mc ms free a s o t
theorem vx_ret {g : JFrame} {mc ms : Nat} (k : W p l e R s m args below meth c H locs cells slots (MQ below Qc args s mc ms free) g) : W p l e R s m args below meth c H locs cells slots (vx_MQ below Qc XC args s mc ms free) g := by
  intro T hT X
  obtain ⟨t, a1, o, b1, b2, b3, b4⟩ := k T hT X
  exact ⟨t, a1, o, b1, b2, Or.inl ⟨b3, b4⟩⟩
/-- not caught here: it goes on to the caller -/
theorem vx_widen {g : JFrame} {q : Addr} {k n : Nat} (h1 : cells ≤ k) (h2 : slots ≤ n) (kk : vx_W p l e R s m args below meth c H locs k n Q g q) : vx_W p l e R s m args below meth c H locs cells slots Q g q := fun T hT X => kk T hT (stand_widen X h1 h2)
theorem vx_out {pc : Nat} {E : String} {ce : Cell} {q : Addr} {mc ms : Nat} (hout : ∀ x ∈ c.exceptionTable.toList, covers x pc = false) (hlocks : meth.locks = false) (hcell : H[q]? = some ce) (hv : ce.vm = .none) (hcl : s.vm.findClass E = some ce.cls)
    (hx : ∀ t : State, t.heap = H → s.vm.Alike t.vm → XC E s t) (hf : ∀ z ∈ locs, free z.base) (hc : cells ≤ mc) (hs : slots ≤ ms) :
    vx_W p l e R s m args below meth c H locs cells slots (vx_MQ below Qc XC args s mc ms free) (F0 m pc ls rest) q := by
  intro T hT X
  obtain ⟨st1, hrun, hend, hW, hsm⟩ := X.leaveThrown q (g := F0 m pc ls rest) rfl rfl rfl hout hlocks
  have hcell9 : (T.setFrames (.throwing q :: below)).heap[q]? = some ce := by
    show T.heap[q]? = some ce
    rw [hT]; exact hcell
  exact ⟨_, st1, .threw q, hrun, hend, Or.inr ⟨q, rfl, E, ce, locs, hx _ hT hW.alike, hcell9, hv, hcl, hW, hsm.mono hc hs, hf⟩⟩
theorem vx_frame {U : State} {k n : Nat} (h : s.sameButNew ({ U with vm := s.vm } : State) locs k n) : s.heap.size ≤ U.heap.size ∧ ∀ q : Nat, q < s.heap.size → (∀ z ∈ locs, z.base ≠ q) → U.heap[q]? = s.heap[q]? := by
  obtain ⟨-, h2, -, -, -, h6⟩ := h
  refine ⟨h2, fun q hq hz => ?_⟩
  obtain ⟨c9, e1, e2, e3, e4⟩ := h6 q _ (Array.getElem?_eq_getElem hq)
  have hs : c9.slots = (s.heap[q]).slots := Array.ext_getElem? fun i => e4 i fun hm => hz _ hm rfl
  have h9 : c9 = s.heap[q] := by
    rw [hs] at e2
    exact e2
  have e5 : U.heap[q]? = some c9 := e1
  rw [e5, h9, Array.getElem?_eq_getElem hq]
/-- the words of a throw but the four that speak of the heap -/
def vx_no (w : Cond) : Bool := decide (w ≠ .isRef (.static Bundle.tN "UNASSIGNED_STACK" Bundle.steD)) && decide (w ≠ .isRef (.static Bundle.tN "SUPPRESSED_SENTINEL" Bundle.listD)) && decide (w ≠ .laysStatic Bundle.tN "UNASSIGNED_STACK" Bundle.steD) && decide (w ≠ .laysStatic Bundle.tN "SUPPRESSED_SENTINEL" Bundle.listD)
def vx_at0 (own : String) (ic : Nat) (X : String) (names : List String) : List Cond := (Bundle.ownAtoms0 own ic X names).filter vx_no
def vx_atS (own : String) (ic : Nat) (X : String) (names : List String) : List Cond := (Bundle.ownAtoms own ic X names).filter vx_no
/-- a word that the tables alone decide, or a good one -/
def vx_ot (w : Cond) : Bool := w.onTables || goodWord w
theorem vx_ot_at {args a' : Array Value} {s U : State} {w : Cond} (hW : s.WarmedH U.vm) (hvm : s.vm = U.vm) (hg : vx_ot w = true) (h : w.before args s = true) : w.before a' U = true := by
  simp only [vx_ot, Bool.or_eq_true] at hg
  rcases hg with hg | hg
  · exact va_tabs hg hvm h
  · exact word_at hW (good_of_word hg) h
/-- a list's words: the good ones out of the method's own list, the others by premises of their own -/
theorem vx_hat {args : Array Value} {s : State} {L B : List Cond} (h1 : ∀ w ∈ L.filter goodWord, w.before args s = true) (h2 : ∀ w ∈ L.filter (fun w => !goodWord w), w ∈ B) (h3 : ∀ w ∈ B, w.before args s = true) : ∀ w ∈ L, w.before args s = true := by
  intro w hw
  by_cases g : goodWord w = true
  · exact h1 w (List.mem_filter.mpr ⟨hw, g⟩)
  · refine h3 w (h2 w (List.mem_filter.mpr ⟨hw, ?_⟩))
    show (!goodWord w) = true
    cases hgw : goodWord w
    · rfl
    · exact absurd hgw g
theorem vx_c {args : Array Value} {s : State} {w : Cond} {B : List Cond} (h : w.before args s = true) (t : ∀ w ∈ B, w.before args s = true) : ∀ w' ∈ w :: B, w'.before args s = true := fun w' h' => (List.mem_cons.mp h').elim (fun e => by rw [e]; exact h) (t w')
theorem vx_n {args : Array Value} {s : State} : ∀ w ∈ ([] : List Cond), w.before args s = true := fun _ h => nomatch h
theorem vx_own {args : Array Value} {s : State} {L : List Cond} (h1 : ∀ w ∈ L.filter vx_no, w.before args s = true)
    (hU : (Cond.isRef (.static Bundle.tN "UNASSIGNED_STACK" Bundle.steD)).before args s = true) (hN : (Cond.isRef (.static Bundle.tN "SUPPRESSED_SENTINEL" Bundle.listD)).before args s = true)
    (lU : (Cond.laysStatic Bundle.tN "UNASSIGNED_STACK" Bundle.steD).before args s = true) (lN : (Cond.laysStatic Bundle.tN "SUPPRESSED_SENTINEL" Bundle.listD).before args s = true) : ∀ w ∈ L, w.before args s = true := by
  intro w hw
  by_cases e1 : w = .isRef (.static Bundle.tN "UNASSIGNED_STACK" Bundle.steD)
  · rw [e1]; exact hU
  · by_cases e2 : w = .isRef (.static Bundle.tN "SUPPRESSED_SENTINEL" Bundle.listD)
    · rw [e2]; exact hN
    · by_cases e3 : w = .laysStatic Bundle.tN "UNASSIGNED_STACK" Bundle.steD
      · rw [e3]; exact lU
      · by_cases e4 : w = .laysStatic Bundle.tN "SUPPRESSED_SENTINEL" Bundle.listD
        · rw [e4]; exact lN
        · exact h1 w (List.mem_filter.mpr ⟨hw, by unfold vx_no; rw [decide_eq_true e1, decide_eq_true e2, decide_eq_true e3, decide_eq_true e4]; rfl⟩)
/-- where a static field lies, its class's statics cell in H -/
def vx_L (C n d : String) (A : Nat → Prop) (U : State) (H : Heap) : Prop := ∃ (c : ClassId) (k : Class) (i : Nat) (f : Field) (a : Nat) (cell : Cell), U.vm.findClass C = some c ∧ U.fieldFound? C n d = some (c, k, i, f) ∧ f.isStatic = true ∧ k.statics = some a ∧ H[a]? = some cell ∧ cell.vm.isStatics = true ∧ cell.cls = c ∧ f.slot < cell.slots.size ∧ k.staticTypes[f.slot]? = some f.type ∧ ¬ A a
theorem vx_L.moved {C n d : String} {A : Nat → Prop} {u U : State} {H : Heap} (hvm : u.vm.Alike U.vm) (h : vx_L C n d A u H) : vx_L C n d A U H := by
  obtain ⟨c, k, i, f, a, cell, h1, h2, h3, h4, h5, h6, h7, h8, h9, h10⟩ := h
  obtain ⟨k', hi', he⟩ := State.fieldFound?_setVm hvm h2
  exact ⟨c, k', i, f, a, cell, by rw [hvm.findClass]; exact h1, hi', h3, by rw [he]; exact h4, h5, h6, h7, h8, by rw [he]; exact h9, h10⟩
theorem vx_L.kept {C n d : String} {A : Nat → Prop} {U : State} {H H1 : Heap} (h : vx_L C n d A U H) (hq : ∀ a : Nat, a < H.size → ¬ A a → H1[a]? = H[a]?) : vx_L C n d A U H1 := by
  obtain ⟨c, k, i, f, a, cell, h1, h2, h3, h4, h5, h6, h7, h8, h9, h10⟩ := h
  exact ⟨c, k, i, f, a, cell, h1, h2, h3, h4, by rw [hq a (Array.getElem?_eq_some_iff.mp h5).1 h10]; exact h5, h6, h7, h8, h9, h10⟩
theorem vx_L.narrow {C n d : String} {A B : Nat → Prop} {U : State} {H : Heap} (h : vx_L C n d A U H) (hAB : ∀ q, B q → A q) : vx_L C n d B U H := by
  obtain ⟨c, k, i, f, a, cell, h1, h2, h3, h4, h5, h6, h7, h8, h9, h10⟩ := h
  exact ⟨c, k, i, f, a, cell, h1, h2, h3, h4, h5, h6, h7, h8, h9, fun z => h10 (hAB _ z)⟩
theorem vx_L.word {C n d : String} {A : Nat → Prop} {s : State} {args : Array Value} (h : vx_L C n d A s s.heap) : (Cond.laysStatic C n d).before args s = true := by
  obtain ⟨c, k, i, f, a, cell, h1, h2, h3, h4, h5, h6, h7, h8, h9, -⟩ := h
  show (Cond.laysStatic C n d).holds args s none s [] = true
  exact Cond.laysStatic_of h1 h2 h3 h4 h5 h6 h7 h8 h9
/-- .. and what it holds: null or some reference -/
def vx_Zq (C n d : String) (A : Nat → Prop) (U : State) (H : Heap) : Prop := va_Zq C n d A U H ∧ vx_L C n d A U H
theorem vx_Zq.moved {C n d : String} {A : Nat → Prop} {u U : State} {H : Heap} (hvm : u.vm.Alike U.vm) (h : vx_Zq C n d A u H) : vx_Zq C n d A U H := ⟨va_Zq.moved hvm h.1, vx_L.moved hvm h.2⟩
theorem vx_Zq.kept {C n d : String} {A : Nat → Prop} {U : State} {H H1 : Heap} (h : vx_Zq C n d A U H) (hq : ∀ a : Nat, a < H.size → ¬ A a → H1[a]? = H[a]?) : vx_Zq C n d A U H1 := ⟨va_Zq.kept h.1 hq, vx_L.kept h.2 hq⟩
theorem vx_Zq.narrow {C n d : String} {A B : Nat → Prop} {U : State} {H : Heap} (h : vx_Zq C n d A U H) (hAB : ∀ q, B q → A q) : vx_Zq C n d B U H := ⟨va_Zq.narrow h.1 hAB, vx_L.narrow h.2 hAB⟩
theorem vx_Zqof {args : Array Value} {s : State} {C n d : String} {A : Nat → Prop} (hl : (Cond.laysStatic C n d).before args s = true) (hini : (Cond.initialized C).before args s = true) (h : (Cond.isRef (.static C n d)).before args s = true) (hA : ∀ a : Nat, a < s.heap.size → ¬ A a) : vx_Zq C n d A s s.heap := by
  refine ⟨va_Zqof hl hini h hA, ?_⟩
  obtain ⟨c, k, i, f, a, cell, h1, h2, h3, h4, h5, h6, h7, h8, h9⟩ := Cond.laysStatic_spec hl
  exact ⟨c, k, i, f, a, cell, h1, h2, h3, h4, h5, h6, h7, h8, h9, hA a (Array.getElem?_eq_some_iff.mp h5).1⟩
theorem vx_isRef {C n d : String} {v : Value} {A : Nat → Prop} {s : State} {args : Array Value} (h : va_Z C n d v A s s.heap) (hv : v.isRef = true) : (Cond.isRef (.static C n d)).before args s = true := by
  obtain ⟨cf, kf, fi, f, a, cell, h1, h2, h3, h4, h5, h6, h7, -⟩ := h
  have he : (Term.static C n d).eval args s none [] s = some v := by
    simp [Term.eval, State.fieldNamed?, h1, h2, h4, h5, h6, h7]
  simp only [Cond.before, Cond.holds, Cond.value, he]
  cases v <;> simp_all [Value.isRef]
theorem vx_isRefq {C n d : String} {A : Nat → Prop} {s : State} {args : Array Value} (h : va_Zq C n d A s s.heap) : (Cond.isRef (.static C n d)).before args s = true := by
  rcases h with h | ⟨t, h⟩
  · exact vx_isRef h rfl
  · exact vx_isRef h rfl
/-- the same frame, seen from here: as if the method were called anew in this heap -/
theorem vx_rebase {T : State} (X : Stand p l e R s m args below meth c T locs cells slots) {R' : Room} (hf : R'.frames ≤ R.frames) (hl : R'.locals ≤ R.locals) (hc : cells + R'.cells ≤ R.cells) (hs : slots + R'.slots ≤ R.slots) :
    Stand p l e R' ((T.setVm s.vm).setFrames (.invoking m args :: below)) m args below meth c T [] 0 0 := by
  have htop : (T.setVm s.vm).topJava?.isSome := X.here.top
  have hF : ((T.setVm s.vm).setFrames (.invoking m args :: below)).frames = .invoking m args :: below := State.frames_setFrames _ (State.cur_lt_of_top htop)
  obtain ⟨g₀, hg0⟩ := Option.isSome_iff_exists.mp htop
  obtain ⟨r, hr⟩ := State.topJava?_eq_some.mp hg0
  have hl9 : e.platform.stackLimits (T.setVm s.vm).me = e.platform.stackLimits s.me := X.limits
  have hb9 : (T.setVm s.vm).me.stackBytes = s.me.stackBytes := X.bytes
  refine ⟨X.admits, X.cas, X.clock, hF, ?_, X.hears, X.method, X.code, X.here, X.tail, X.warmed, ?_, ?_, ?_⟩
  · have h := X.room
    have hU : ((T.setVm s.vm).setFrames (.invoking m args :: below)).localsInUse = s.localsInUse := by
      rw [State.localsInUse_invoking hF (meth := meth) (c := c) X.method X.code, State.localsInUse_invoking X.frames X.method X.code]
    simp only [State.hasRoom, Bool.and_eq_true, decide_eq_true_eq] at h ⊢
    obtain ⟨⟨⟨⟨h1, h2, h3, h4, h5, h6⟩, h7⟩, h8⟩, h9⟩ := h
    rw [X.frames, List.length_cons] at h2 h3
    have q1 := X.heapSize
    have q2 := X.used
    simp only [hF, hU, List.length_cons, State.stackLimits_setFrames, State.stackBytes_setFrames, hl9, hb9]
    refine ⟨⟨⟨⟨by omega, by omega, by omega, by omega, by omega, h6⟩, ?_⟩, ?_⟩, X.book⟩
    · show T.heap.size + R'.cells ≤ e.platform.maxCells
      omega
    · show T.slotsUsed + R'.slots ≤ e.platform.maxSlots
      omega
  · rw [State.stackLimits_setFrames]; rfl
  · rw [State.stackBytes_setFrames]; rfl
  · refine ⟨?_, Nat.le_refl _, Nat.le_refl _, ?_, ?_, fun a c9 h9 => ⟨c9, h9, rfl, rfl, fun _ _ => rfl⟩⟩
    · obtain ⟨t, ht, -⟩ := State.frames_cons hr
      show T.setVm s.vm = { ((T.setVm s.vm).setFrames (.invoking m args :: below)).setFrames (T.setVm s.vm).frames with heap := T.heap, slotsUsed := T.slotsUsed }
      rw [State.setFrames_setFrames, State.setFrames_self ht]
      rfl
    · show T.slotsUsed = T.slotsUsed + ((T.heap.toList.drop T.heap.size).map (·.slots.size)).sum
      rw [List.drop_eq_nil_of_le (Nat.le_of_eq Array.length_toList)]
      rfl
    · show ((T.heap.toList.drop T.heap.size).map (·.slots.size)).sum ≤ 0
      rw [List.drop_eq_nil_of_le (Nat.le_of_eq Array.length_toList)]
      exact Nat.le_refl _
/-- 'throw new E()': new; dup; invokespecial; athrow -/
theorem vx_throw0 {cc : ByteArray} {pc : Nat} (hexec : p.tables.exec = Jvm.exec) (hb : c.code = cc) (hl : l.stackTraces = false) {own cls : String} {names : List String} {ik ic mc ms : Nat} {A : Nat → Prop}
    (hown : s.vm.findClass own = some m.cls) (hcls : Bundle.fit cls = true) (hnames : ∀ n ∈ names, Bundle.fit n = true)
    (hk : (Cond.classLink own ik cls).before args s = true) (hini : (Cond.initialized cls).before args s = true) (hat : ∀ w ∈ vx_at0 own ic cls names, w.before args s = true)
    (hgood : ∀ w ∈ Cond.classLink own ik cls :: Cond.initialized cls :: vx_at0 own ic cls names, vx_ot w = true)
    (hU : vx_Zq Bundle.tN "UNASSIGNED_STACK" Bundle.steD A s s.heap) (hN : vx_Zq Bundle.tN "SUPPRESSED_SENTINEL" Bundle.listD A s s.heap) (hS : va_S A s.heap H locs) (hsize : ls.size = c.maxLocals)
    (d0 : decode cc pc = .ok (.new ik, 3)) (d3 : decode cc (pc + 3) = .ok (.dup, 1)) (d4 : decode cc (pc + 4) = .ok (.invokespecial ic, 3)) (d7 : decode cc (pc + 7) = .ok (.athrow, 1))
    (hout : ∀ x ∈ c.exceptionTable.toList, covers x (pc + 7) = false)
    (hRframes : names.length + 3 < R.frames) (hRlocals : (rest.map fun v => v.category).sum + (13 * (names.length + 1) + 42) ≤ R.locals) (hRcells : cells + 1 ≤ R.cells) (hRslots : slots + 6 ≤ R.slots) (hlocks : meth.locks = false)
    (hx : ∀ t : State, s.vm.Alike t.vm → H.size ≤ t.heap.size → (∀ q : Nat, q < H.size → t.heap[q]? = H[q]?) → XC cls s t)
    (hf : ∀ z ∈ locs, free z.base) (hc : cells + 1 ≤ mc) (hs : slots + 6 ≤ ms) :
    W p l e R s m args below meth c H locs cells slots (vx_MQ below Qc XC args s mc ms free) (F0 m pc ls rest) := by
  intro T hT X
  have htr : e.platform.stackTraces = false := (show e.platform.stackTraces = l.stackTraces by rw [X.admits.platform]).trans hl
  have Y := vx_rebase X (R' := { frames := R.frames, locals := R.locals, cells := 1, slots := 6 }) (Nat.le_refl _) (Nat.le_refl _) hRcells hRslots
  obtain ⟨s', hA⟩ : ∃ z, z = (T.setVm s.vm).setFrames (.invoking m args :: below) := ⟨_, rfl⟩
  rw [← hA] at Y
  have hvm : s'.vm = s.vm := by rw [hA]; rfl
  have hhp : s'.heap = H := by rw [hA]; exact hT
  have hW0 : s.WarmedH s'.vm := by rw [hvm]; exact State.WarmedH.refl s
  have hat' : ∀ w ∈ vx_at0 own ic cls names, w.before args s' = true := fun w hw => vx_ot_at hW0 hvm.symm (hgood w (List.mem_cons_of_mem _ (List.mem_cons_of_mem _ hw))) (hat w hw)
  have hk' : (Cond.classLink own ik cls).before args s' = true := vx_ot_at hW0 hvm.symm (hgood _ List.mem_cons_self) hk
  have hini' : (Cond.initialized cls).before args s' = true := vx_ot_at hW0 hvm.symm (hgood _ (List.mem_cons_of_mem _ List.mem_cons_self)) hini
  have hU' : vx_Zq Bundle.tN "UNASSIGNED_STACK" Bundle.steD A s' s'.heap := by rw [hhp]; exact vx_Zq.moved hW0.alike (hU.kept hS.2.1)
  have hN' : vx_Zq Bundle.tN "SUPPRESSED_SENTINEL" Bundle.listD A s' s'.heap := by rw [hhp]; exact vx_Zq.moved hW0.alike (hN.kept hS.2.1)
  have h : ∀ w ∈ Bundle.ownAtoms0 own ic cls names, w.before args s' = true := vx_own hat' (vx_isRefq hU'.1) (vx_isRefq hN'.1) hU'.2.word hN'.2.word
  have hown' : s'.vm.findClass own = some m.cls := by rw [hvm]; exact hown
  have hins : (Cond.instantiable cls 6).before args s' = true := h _ (by simp [Bundle.ownAtoms0])
  obtain ⟨vm₁, cX, kX, hfX, hkX, -, -, X₁, st1⟩ := Y.newCold hexec (own := own) (C := cls) (index := ik) (n := 6) hown' hk' hins hini'
    (g := F0 m pc ls rest) rfl (by rw [hb]; exact d0) (Nat.le_refl _) (Nat.le_refl _)
  generalize hT1 : (T.setVm vm₁).pushCell { cls := cX, slots := kX.instanceTypes.map defaultValue, vm := .none } = T1 at X₁ st1
  have hcat : (Value.ref T.heap.size).category = 1 := rfl
  have hcellA : T1.heap[T.heap.size]? = some (freshCell cX kX) := by rw [← hT1]; exact State.heap_pushCell_size _ _
  have d3' : decode c.code (pc + 3) = .ok (.dup, 1) := by rw [hb]; exact d3
  obtain ⟨U, hsteps, hrun, hend, hW, hsame, ce, hce, hO⟩ := X₁.ctorThrow0 hexec htr (own := own) (cls := cls) (names := names) (ic := ic) hown' hcls hnames h (fun x hx => nomatch hx) hfX hkX hcellA (by rw [hhp, hT]; exact Nat.le_refl _)
    (g := { method := m, pc := pc + 4, locals := ls, stack := .ref T.heap.size :: .ref T.heap.size :: rest, locked := none }) rfl hsize rfl rfl (rest := rest) rfl
    (by rw [hb]; exact d4) (by rw [hb]; exact d7) hout hRframes (by simp only [List.map_cons, List.sum_cons, hcat]; omega) hlocks
  obtain ⟨f1, f2⟩ := vx_frame hsame
  rw [hhp] at f1 f2
  have hWs : s.WarmedH U.vm := State.WarmedH.trans hW0 hW
  have hcl : s.vm.findClass cls = some ce.cls := by
    have h9 := hO.cls
    rw [hvm] at h9
    exact h9
  have hall : s.sameButNew ({ U with vm := s.vm } : State) locs mc ms := by
    subst hA
    obtain ⟨e1, e2⟩ := hsame
    rw [State.setFrames_setFrames] at e1
    have h2 : (T.setVm s.vm).sameButNew ({ U with vm := s.vm } : State) [] (0 + 1) (0 + 6) := ⟨e1, e2⟩
    have h3 := X.same.trans h2
    rw [List.append_nil] at h3
    exact h3.mono hc hs
  refine ⟨U, ?_, .threw T.heap.size, hrun, hend, Or.inr ⟨T.heap.size, rfl, cls, ce, locs, hx U hWs.alike f1 (fun q hq => f2 q hq (fun z hz => nomatch hz)), hce, hO.vm, hcl, hWs, hall, hf⟩⟩
  refine st1 _ ?_
  show Steps p.tables e below (T1.setTop { method := m, pc := pc + 3, locals := ls, stack := .ref T.heap.size :: rest, locked := none }) _
  jvm_step X₁.here [X₁.here.top, hexec, d3', Value.category]
  exact hsteps
/-- 'throw new E("text")': new; dup; ldc; invokespecial; athrow -/
theorem vx_throwS {cc : ByteArray} {pc : Nat} (hexec : p.tables.exec = Jvm.exec) (hb : c.code = cc) (hl : l.stackTraces = false) {own cls text : String} {names : List String} {ik is ic mc ms sa : Nat} {A : Nat → Prop}
    (hown : s.vm.findClass own = some m.cls) (hcls : Bundle.fit cls = true) (hnames : ∀ n ∈ names, Bundle.fit n = true)
    (hk : (Cond.classLink own ik cls).before args s = true) (hini : (Cond.initialized cls).before args s = true) (hstr : vk_R own is text sa s) (hat : ∀ w ∈ vx_atS own ic cls names, w.before args s = true)
    (hgood : ∀ w ∈ Cond.classLink own ik cls :: Cond.initialized cls :: vx_atS own ic cls names, vx_ot w = true)
    (hU : vx_Zq Bundle.tN "UNASSIGNED_STACK" Bundle.steD A s s.heap) (hN : vx_Zq Bundle.tN "SUPPRESSED_SENTINEL" Bundle.listD A s s.heap) (hS : va_S A s.heap H locs) (hsize : ls.size = c.maxLocals)
    (d0 : decode cc pc = .ok (.new ik, 3)) (d3 : decode cc (pc + 3) = .ok (.dup, 1)) (d4 : decode cc (pc + 4) = .ok (.ldc is, 2)) (d6 : decode cc (pc + 6) = .ok (.invokespecial ic, 3)) (d9 : decode cc (pc + 9) = .ok (.athrow, 1))
    (hout : ∀ x ∈ c.exceptionTable.toList, covers x (pc + 9) = false)
    (hRframes : names.length + 3 < R.frames) (hRlocals : (rest.map fun v => v.category).sum + (13 * (names.length + 1) + 43) ≤ R.locals) (hRcells : cells + 1 ≤ R.cells) (hRslots : slots + 6 ≤ R.slots) (hlocks : meth.locks = false)
    (hx : ∀ t : State, s.vm.Alike t.vm → H.size ≤ t.heap.size → (∀ q : Nat, q < H.size → t.heap[q]? = H[q]?) → XC cls s t)
    (hf : ∀ z ∈ locs, free z.base) (hc : cells + 1 ≤ mc) (hs : slots + 6 ≤ ms) :
    W p l e R s m args below meth c H locs cells slots (vx_MQ below Qc XC args s mc ms free) (F0 m pc ls rest) := by
  intro T hT X
  have htr : e.platform.stackTraces = false := (show e.platform.stackTraces = l.stackTraces by rw [X.admits.platform]).trans hl
  have Y := vx_rebase X (R' := { frames := R.frames, locals := R.locals, cells := 1, slots := 6 }) (Nat.le_refl _) (Nat.le_refl _) hRcells hRslots
  obtain ⟨s', hA⟩ : ∃ z, z = (T.setVm s.vm).setFrames (.invoking m args :: below) := ⟨_, rfl⟩
  rw [← hA] at Y
  have hvm : s'.vm = s.vm := by rw [hA]; rfl
  have hhp : s'.heap = H := by rw [hA]; exact hT
  have hW0 : s.WarmedH s'.vm := by rw [hvm]; exact State.WarmedH.refl s
  have hat' : ∀ w ∈ vx_atS own ic cls names, w.before args s' = true := fun w hw => vx_ot_at hW0 hvm.symm (hgood w (List.mem_cons_of_mem _ (List.mem_cons_of_mem _ hw))) (hat w hw)
  have hk' : (Cond.classLink own ik cls).before args s' = true := vx_ot_at hW0 hvm.symm (hgood _ List.mem_cons_self) hk
  have hini' : (Cond.initialized cls).before args s' = true := vx_ot_at hW0 hvm.symm (hgood _ (List.mem_cons_of_mem _ List.mem_cons_self)) hini
  have hU' : vx_Zq Bundle.tN "UNASSIGNED_STACK" Bundle.steD A s' s'.heap := by rw [hhp]; exact vx_Zq.moved hW0.alike (hU.kept hS.2.1)
  have hN' : vx_Zq Bundle.tN "SUPPRESSED_SENTINEL" Bundle.listD A s' s'.heap := by rw [hhp]; exact vx_Zq.moved hW0.alike (hN.kept hS.2.1)
  have h : ∀ w ∈ Bundle.ownAtoms own ic cls names, w.before args s' = true := vx_own hat' (vx_isRefq hU'.1) (vx_isRefq hN'.1) hU'.2.word hN'.2.word
  have hown' : s'.vm.findClass own = some m.cls := by rw [hvm]; exact hown
  have hins : (Cond.instantiable cls 6).before args s' = true := h _ (by simp [Bundle.ownAtoms])
  obtain ⟨vm₁, cX, kX, hfX, hkX, -, -, X₁, st1⟩ := Y.newCold hexec (own := own) (C := cls) (index := ik) (n := 6) hown' hk' hins hini'
    (g := F0 m pc ls rest) rfl (by rw [hb]; exact d0) (Nat.le_refl _) (Nat.le_refl _)
  generalize hT1 : (T.setVm vm₁).pushCell { cls := cX, slots := kX.instanceTypes.map defaultValue, vm := .none } = T1 at X₁ st1
  have hcat : (Value.ref T.heap.size).category = 1 := rfl
  have hcellA : T1.heap[T.heap.size]? = some (freshCell cX kX) := by rw [← hT1]; exact State.heap_pushCell_size _ _
  have d3' : decode c.code (pc + 3) = .ok (.dup, 1) := by rw [hb]; exact d3
  have d4' : decode c.code (pc + 4) = .ok (.ldc is, 2) := by rw [hb]; exact d4
  have hstr' : vk_R own is text sa s' := vk_R.warm hW0 hstr
  obtain ⟨U, hsteps, hrun, hend, hW, hsame, ce, hce, hO⟩ := X₁.ctorThrowS hexec htr (own := own) (cls := cls) (names := names) (ic := ic) hown' hcls hnames h (fun x hx => nomatch hx) hfX hkX hcellA (by rw [hhp, hT]; exact Nat.le_refl _) (msg := .ref sa) rfl
    (g := { method := m, pc := pc + 6, locals := ls, stack := .ref sa :: .ref T.heap.size :: .ref T.heap.size :: rest, locked := none }) rfl hsize rfl rfl (rest := rest) rfl
    (by rw [hb]; exact d6) (by rw [hb]; exact d9) hout hRframes (by simp only [List.map_cons, List.sum_cons, hcat]; omega) hlocks
  obtain ⟨f1, f2⟩ := vx_frame hsame
  rw [hhp] at f1 f2
  have hWs : s.WarmedH U.vm := State.WarmedH.trans hW0 hW
  have hcl : s.vm.findClass cls = some ce.cls := by
    have h9 := hO.cls
    rw [hvm] at h9
    exact h9
  have hall : s.sameButNew ({ U with vm := s.vm } : State) locs mc ms := by
    subst hA
    obtain ⟨e1, e2⟩ := hsame
    rw [State.setFrames_setFrames] at e1
    have h2 : (T.setVm s.vm).sameButNew ({ U with vm := s.vm } : State) [] (0 + 1) (0 + 6) := ⟨e1, e2⟩
    have h3 := X.same.trans h2
    rw [List.append_nil] at h3
    exact h3.mono hc hs
  refine ⟨U, ?_, .threw T.heap.size, hrun, hend, Or.inr ⟨T.heap.size, rfl, cls, ce, locs, hx U hWs.alike f1 (fun q hq => f2 q hq (fun z hz => nomatch hz)), hce, hO.vm, hcl, hWs, hall, hf⟩⟩
  refine st1 _ ?_
  show Steps p.tables e below (T1.setTop { method := m, pc := pc + 3, locals := ls, stack := .ref T.heap.size :: rest, locked := none }) _
  jvm_step X₁.here [X₁.here.top, hexec, d3', Value.category]
  exact X₁.ldcString hexec (own := own) (text := text) (index := is) (a := sa) hown' hstr'.1 hstr'.2
    (g := { method := m, pc := pc + 4, locals := ls, stack := .ref T.heap.size :: .ref T.heap.size :: rest, locked := none }) rfl d4' _ hsteps
/-- 'throw new E("text")', the text by a wide index -/
theorem vx_throwSW {cc : ByteArray} {pc : Nat} (hexec : p.tables.exec = Jvm.exec) (hb : c.code = cc) (hl : l.stackTraces = false) {own cls text : String} {names : List String} {ik is ic mc ms sa : Nat} {A : Nat → Prop}
    (hown : s.vm.findClass own = some m.cls) (hcls : Bundle.fit cls = true) (hnames : ∀ n ∈ names, Bundle.fit n = true)
    (hk : (Cond.classLink own ik cls).before args s = true) (hini : (Cond.initialized cls).before args s = true) (hstr : vk_R own is text sa s) (hat : ∀ w ∈ vx_atS own ic cls names, w.before args s = true)
    (hgood : ∀ w ∈ Cond.classLink own ik cls :: Cond.initialized cls :: vx_atS own ic cls names, vx_ot w = true)
    (hU : vx_Zq Bundle.tN "UNASSIGNED_STACK" Bundle.steD A s s.heap) (hN : vx_Zq Bundle.tN "SUPPRESSED_SENTINEL" Bundle.listD A s s.heap) (hS : va_S A s.heap H locs) (hsize : ls.size = c.maxLocals)
    (d0 : decode cc pc = .ok (.new ik, 3)) (d3 : decode cc (pc + 3) = .ok (.dup, 1)) (d4 : decode cc (pc + 4) = .ok (.ldc_w is, 3)) (d7 : decode cc (pc + 7) = .ok (.invokespecial ic, 3)) (d10 : decode cc (pc + 10) = .ok (.athrow, 1))
    (hout : ∀ x ∈ c.exceptionTable.toList, covers x (pc + 10) = false)
    (hRframes : names.length + 3 < R.frames) (hRlocals : (rest.map fun v => v.category).sum + (13 * (names.length + 1) + 43) ≤ R.locals) (hRcells : cells + 1 ≤ R.cells) (hRslots : slots + 6 ≤ R.slots) (hlocks : meth.locks = false)
    (hx : ∀ t : State, s.vm.Alike t.vm → H.size ≤ t.heap.size → (∀ q : Nat, q < H.size → t.heap[q]? = H[q]?) → XC cls s t)
    (hf : ∀ z ∈ locs, free z.base) (hc : cells + 1 ≤ mc) (hs : slots + 6 ≤ ms) :
    W p l e R s m args below meth c H locs cells slots (vx_MQ below Qc XC args s mc ms free) (F0 m pc ls rest) := by
  intro T hT X
  have htr : e.platform.stackTraces = false := (show e.platform.stackTraces = l.stackTraces by rw [X.admits.platform]).trans hl
  have Y := vx_rebase X (R' := { frames := R.frames, locals := R.locals, cells := 1, slots := 6 }) (Nat.le_refl _) (Nat.le_refl _) hRcells hRslots
  obtain ⟨s', hA⟩ : ∃ z, z = (T.setVm s.vm).setFrames (.invoking m args :: below) := ⟨_, rfl⟩
  rw [← hA] at Y
  have hvm : s'.vm = s.vm := by rw [hA]; rfl
  have hhp : s'.heap = H := by rw [hA]; exact hT
  have hW0 : s.WarmedH s'.vm := by rw [hvm]; exact State.WarmedH.refl s
  have hat' : ∀ w ∈ vx_atS own ic cls names, w.before args s' = true := fun w hw => vx_ot_at hW0 hvm.symm (hgood w (List.mem_cons_of_mem _ (List.mem_cons_of_mem _ hw))) (hat w hw)
  have hk' : (Cond.classLink own ik cls).before args s' = true := vx_ot_at hW0 hvm.symm (hgood _ List.mem_cons_self) hk
  have hini' : (Cond.initialized cls).before args s' = true := vx_ot_at hW0 hvm.symm (hgood _ (List.mem_cons_of_mem _ List.mem_cons_self)) hini
  have hU' : vx_Zq Bundle.tN "UNASSIGNED_STACK" Bundle.steD A s' s'.heap := by rw [hhp]; exact vx_Zq.moved hW0.alike (hU.kept hS.2.1)
  have hN' : vx_Zq Bundle.tN "SUPPRESSED_SENTINEL" Bundle.listD A s' s'.heap := by rw [hhp]; exact vx_Zq.moved hW0.alike (hN.kept hS.2.1)
  have h : ∀ w ∈ Bundle.ownAtoms own ic cls names, w.before args s' = true := vx_own hat' (vx_isRefq hU'.1) (vx_isRefq hN'.1) hU'.2.word hN'.2.word
  have hown' : s'.vm.findClass own = some m.cls := by rw [hvm]; exact hown
  have hins : (Cond.instantiable cls 6).before args s' = true := h _ (by simp [Bundle.ownAtoms])
  obtain ⟨vm₁, cX, kX, hfX, hkX, -, -, X₁, st1⟩ := Y.newCold hexec (own := own) (C := cls) (index := ik) (n := 6) hown' hk' hins hini'
    (g := F0 m pc ls rest) rfl (by rw [hb]; exact d0) (Nat.le_refl _) (Nat.le_refl _)
  generalize hT1 : (T.setVm vm₁).pushCell { cls := cX, slots := kX.instanceTypes.map defaultValue, vm := .none } = T1 at X₁ st1
  have hcat : (Value.ref T.heap.size).category = 1 := rfl
  have hcellA : T1.heap[T.heap.size]? = some (freshCell cX kX) := by rw [← hT1]; exact State.heap_pushCell_size _ _
  have d3' : decode c.code (pc + 3) = .ok (.dup, 1) := by rw [hb]; exact d3
  have d4' : decode c.code (pc + 4) = .ok (.ldc_w is, 3) := by rw [hb]; exact d4
  have hstr' : vk_R own is text sa s' := vk_R.warm hW0 hstr
  obtain ⟨U, hsteps, hrun, hend, hW, hsame, ce, hce, hO⟩ := X₁.ctorThrowS hexec htr (own := own) (cls := cls) (names := names) (ic := ic) hown' hcls hnames h (fun x hx => nomatch hx) hfX hkX hcellA (by rw [hhp, hT]; exact Nat.le_refl _) (msg := .ref sa) rfl
    (g := { method := m, pc := pc + 7, locals := ls, stack := .ref sa :: .ref T.heap.size :: .ref T.heap.size :: rest, locked := none }) rfl hsize rfl rfl (rest := rest) rfl
    (by rw [hb]; exact d7) (by rw [hb]; exact d10) hout hRframes (by simp only [List.map_cons, List.sum_cons, hcat]; omega) hlocks
  obtain ⟨f1, f2⟩ := vx_frame hsame
  rw [hhp] at f1 f2
  have hWs : s.WarmedH U.vm := State.WarmedH.trans hW0 hW
  have hcl : s.vm.findClass cls = some ce.cls := by
    have h9 := hO.cls
    rw [hvm] at h9
    exact h9
  have hall : s.sameButNew ({ U with vm := s.vm } : State) locs mc ms := by
    subst hA
    obtain ⟨e1, e2⟩ := hsame
    rw [State.setFrames_setFrames] at e1
    have h2 : (T.setVm s.vm).sameButNew ({ U with vm := s.vm } : State) [] (0 + 1) (0 + 6) := ⟨e1, e2⟩
    have h3 := X.same.trans h2
    rw [List.append_nil] at h3
    exact h3.mono hc hs
  refine ⟨U, ?_, .threw T.heap.size, hrun, hend, Or.inr ⟨T.heap.size, rfl, cls, ce, locs, hx U hWs.alike f1 (fun q hq => f2 q hq (fun z hz => nomatch hz)), hce, hO.vm, hcl, hWs, hall, hf⟩⟩
  refine st1 _ ?_
  show Steps p.tables e below (T1.setTop { method := m, pc := pc + 3, locals := ls, stack := .ref T.heap.size :: rest, locked := none }) _
  jvm_step X₁.here [X₁.here.top, hexec, d3', Value.category]
  exact X₁.ldcStringW hexec (own := own) (text := text) (index := is) (a := sa) hown' hstr'.1 hstr'.2
    (g := { method := m, pc := pc + 4, locals := ls, stack := .ref T.heap.size :: .ref T.heap.size :: rest, locked := none }) rfl d4' _ hsteps
end Ends
section Bodies
variable {l : Launch}
theorem vx_ofW {y : MethodName} {ws ws' : List Cond} {rm : Room} {Pc : Array Value → State → Prop} {Qc : Array Value → State → Outcome → State → Prop} {XC : String → State → State → Prop} {mc ms : Nat} {free : Addr → Prop} {cc : ByteArray} {maxL : Nat} {ret : Option FieldType}
    (hy : plainName y.cls = true) (hw : ws = Cond.code y cc maxL ret :: ws')
    (body : ∀ p e s m args below meth c s₁, BodyLoose p l y (headSpec ws rm) cc maxL ret e s m args below meth c s₁ → c.maxLocals = maxL → (∀ x ∈ c.exceptionTable.toList, False) → Pc args s →
      W p l e (headSpec ws rm).room s m args below meth c s.heap [] 0 0 (vx_MQ below Qc XC args s mc ms free) (entryFrame m args maxL)) : vx_Met l y ws rm Pc Qc XC mc ms free := by
  refine MetFree.of_bodyS (code := cc) (maxLocals := maxL) (ret := ret) hy ?_ ?_
  · intro args s m h hn
    obtain ⟨meth, c, h1, h2, h3, h4, h5, h6, -, -⟩ := Cond.code_spec hn (atoms_spec (ws := ws) h _ (by rw [hw]; exact List.mem_cons_self))
    exact ⟨meth, c, h1, h2, h3, h4, h5, h6⟩
  · intro p e s m args below meth c s₁ B hml hP _
    have hh0 : s₁.heap = s.heap := by rw [B.state]; rfl
    have ht : ∀ x ∈ c.exceptionTable.toList, False := by
      obtain ⟨meth9, c9, h1, h2, -, -, -, -, h7, -⟩ := Cond.code_spec B.named (atoms_spec (ws := ws) B.pre _ (by rw [hw]; exact List.mem_cons_self))
      cases Option.some.inj (h1.symm.trans B.method)
      cases Option.some.inj (h2.symm.trans (Stand.of_body B).code)
      intro x hx
      rw [Array.isEmpty_iff.mp h7] at hx
      cases hx
    obtain ⟨t, a1, o, b1, b2, b3⟩ := body p e s m args below meth c s₁ B hml ht hP s₁ hh0 (Stand.of_body B)
    exact ⟨t, o, a1, b1, b2, b3⟩
/-- the table of a body with handlers -/
theorem vx_table {p : Program} {x y : MethodName} {S : Spec} {cc bytes : ByteArray} {maxL maxL' : Nat} {ret ret' : Option FieldType} {e : Env} {s s₁ : State} {m : MethodId} {args : Array Value} {below : List Frame} {meth : Method} {c : Code} {hh : List (Nat × Nat × Nat × Nat)}
    (B : BodyLoose p l y S cc maxL ret e s m args below meth c s₁) (h : (Cond.codeWith y bytes maxL' ret' hh).before args s = true) : c.exceptionTable.toList = tableOf hh := by
  obtain ⟨m9, meth9, c9, hn9, h1, h2, -, -, h6, -⟩ := Cond.codeWith_spec h
  cases Option.some.inj (hn9.symm.trans B.named)
  cases Option.some.inj (h1.symm.trans B.method)
  cases Option.some.inj (h2.symm.trans (Stand.of_body B).code)
  rw [← h6, table_eq]
end Bodies
end VXA
/-! ===== END ===== -/
/-! ===== BEGIN a static call of a method with an exception table ===== -/
section VXS
variable {p : Program} {l : Launch} {e : Env} {R : Room} {s : State} {m : MethodId} {args : Array Value} {below : List Frame} {meth : Method} {c : Code} {T : State} {H : Heap} {locs : List Loc} {cells slots : Nat}
abbrev vx_CSW (R : Room) (s : State) (args : Array Value) (own : String) (index : Nat) (y : MethodName) (bytes : ByteArray) (maxL : Nat) (ret : Option FieldType) (hh : List (Nat × Nat × Nat × Nat)) (ws : List Cond) (rm : Room) (mc ms n : Nat) : Prop :=
  (rm.cells = mc ∧ rm.slots = ms ∧ rm.frames + 1 ≤ R.frames ∧ 8 + (maxL + 11) + rm.locals ≤ R.locals ∧ (∀ w ∈ ws, ∀ (a' : Array Value) (U : State), s.WarmedH U.vm → w.before a' U = true) ∧ Cond.codeWith y bytes maxL ret hh ∈ ws) ∧
  (Cond.codeWith y bytes maxL ret hh).before args s = true ∧ (Cond.initialized y.cls).before args s = true ∧ (y.cls ≠ "java/lang/invoke/MethodHandle" ∧ y.cls ≠ "java/lang/invoke/VarHandle") ∧
  (∀ sig, parseMethodDescriptor y.desc = some sig → n = sig.parameters.length) ∧ (Cond.methodLink own index y).before args s = true ∧ (Cond.static y).before args s = true
theorem vx_cwSW {own : String} {index maxL mc ms : Nat} {y : MethodName} {bytes : ByteArray} {ret : Option FieldType} {hh : List (Nat × Nat × Nat × Nat)} {Ts ws ws' : List Cond} {rm : Room} (n : Nat) (ht : ∀ w ∈ Ts, w.before args s = true) (hT : GoodIn Ts (va_wsS own index y ws)) (hw : ws = Cond.codeWith y bytes maxL ret hh :: ws') (hrc : rm.cells = mc) (hrs : rm.slots = ms)
    (hd : y.cls ≠ "java/lang/invoke/MethodHandle" ∧ y.cls ≠ "java/lang/invoke/VarHandle" ∧ (parseMethodDescriptor y.desc).map (fun d => d.parameters.length) = some n) (hR : rm.frames + 1 ≤ R.frames ∧ 8 + (maxL + 11) + rm.locals ≤ R.locals) :
    vx_CSW R s args own index y bytes maxL ret hh ws rm mc ms n := by
  have ok : ∀ w ∈ va_wsS own index y ws, w.before args s = true := fun w h => ht w (hT w h).1
  have hG : GoodIn Ts ws := fun w h => hT w (by unfold va_wsS; exact List.mem_append_right _ h)
  have hc : Cond.codeWith y bytes maxL ret hh ∈ ws := by rw [hw]; exact List.mem_cons_self
  refine ⟨⟨hrc, hrs, hR.1, hR.2, pay_in ht hG, hc⟩, ht _ (hG _ hc).1, ok _ (by simp [va_wsS]), ⟨hd.1, hd.2.1⟩, fun sig h => ?_, ok _ (by simp [va_wsS]), ok _ (by simp [va_wsS])⟩
  have h2 := hd.2.2
  rw [h] at h2
  exact (Option.some.inj h2).symm
theorem vx_callSW (X : Stand p l e R s m args below meth c T locs cells slots) (hexec : p.tables.exec = Jvm.exec) {own : String} {index : Nat} {y : MethodName} {bytes : ByteArray} {maxL : Nat} {ret : Option FieldType} {hh : List (Nat × Nat × Nat × Nat)}
    (hown : s.vm.findClass own = some m.cls) (hlink : (Cond.methodLink own index y).before args s = true) (hstat : (Cond.static y).before args s = true) (hinit : (Cond.initialized y.cls).before args s = true)
    (hcode : (Cond.codeWith y bytes maxL ret hh).before args s = true) (hy : y.cls ≠ "java/lang/invoke/MethodHandle" ∧ y.cls ≠ "java/lang/invoke/VarHandle")
    {W9 : Nat} {Pre : Pt → Array Value → Prop} {Post : Pt → Array Value → Option Value → Pt → Prop} (hK : Back l R p e below s args y 3 W9 Pre Post)
    {g : JFrame} (hg : g.method = m) (hsize : g.locals.size = c.maxLocals) {argsL rest : List Value} (hlen : ∀ sig, parseMethodDescriptor y.desc = some sig → argsL.length = sig.parameters.length)
    (hstack : g.stack = argsL.reverse ++ rest) (hW : 2 * g.monitorRoom + (rest.map fun v => v.category).sum ≤ W9) (hdg : decode c.code g.pc = .ok (.invokestatic index, 3))
    (hpre : ∀ vm₁, s.WarmedH vm₁ → Pre ⟨T.setVm vm₁, locs, cells, slots⟩ argsL.toArray) :
    ∃ (v : Option Value) (vm₁ : Vm) (B : Pt), s.WarmedH vm₁ ∧ Stand p l e R s m args below meth c B.U B.locs B.cells B.slots ∧ Post ⟨T.setVm vm₁, locs, cells, slots⟩ argsL.toArray v B ∧
      ∀ target, Steps p.tables e below (B.U.setTop { g with pc := g.pc + 3, stack := v.toList ++ rest }) target → Steps p.tables e below (T.setTop g) target := by
  obtain ⟨mk, methM, cM, hnamed, hmethM, -, -, -, -, -, -, hsigM⟩ := Cond.codeWith_spec hcode
  have hstatic : methM.isStatic = true := Cond.static_spec hnamed hmethM hstat
  obtain ⟨kP, hkP, -⟩ := className_of_methodNamed hnamed
  have hinitP : kP.init = .initialized := Cond.initialized_spec (findClass_of_methodNamed hnamed) hkP hinit
  obtain ⟨vm₁, X₁, hstep₁⟩ := X.invokestatic hexec hown hlink hnamed hmethM hstatic hkP hinitP hy (g := g) hg (argsL := argsL) (rest := rest) (hlen _ hsigM) hstack hdg
  obtain ⟨v, B, X', hpost, hsteps⟩ := hK m meth c ⟨T.setVm vm₁, locs, cells, slots⟩ { g with stack := rest } (.invokestatic index) mk argsL.toArray X₁ hg hsize hdg hW (X₁.named hnamed) (hpre vm₁ X₁.warmed)
  exact ⟨v, vm₁, B, X₁.warmed, X', hpost, fun target h => hstep₁ _ fun acts => by rw [doInvoke_state]; exact hsteps.trans h⟩
theorem vx_runSW {y : MethodName} {bytes cc : ByteArray} {maxL nL mc ms n index : Nat} {ret : Option FieldType} {hh : List (Nat × Nat × Nat × Nat)} {ws : List Cond} {rm : Room} {Pc : Array Value → State → Prop} {Qc : Array Value → State → Outcome → State → Prop} {free : Addr → Prop} {Ts : List Cond} {own : String} {As rest : List Value} {g : JFrame}
    (S : CallFix p m c cc nL s args Ts own) (hM : Met l y ws rm Pc Qc mc ms free) (cw : vx_CSW R s args own index y bytes maxL ret hh ws rm mc ms n) (hp : PreS s H Pc As)
    (hg : g.method = m) (hn : As.length = n) (hsize : g.locals.size = nL) (hstack : g.stack = As.reverse ++ rest) (hW : 2 * g.monitorRoom + (rest.map fun v => v.category).sum ≤ 8) (hdg : decode cc g.pc = .ok (.invokestatic index, 3)) (hf : cells + mc ≤ R.cells ∧ slots + ms ≤ R.slots) :
    va_Run p l e R s m args below meth c H locs cells slots mc ms g rest (Qc As.toArray) (free) := by
  obtain ⟨⟨hrc, hrs, hfr, hlo, hws, hcw⟩, hcode, hini, hy, hlen, hl, hstt⟩ := cw
  have hK : Back l R p e below s args y 3 8 (PreOf R mc ms Pc) (PostOf Qc mc ms free) := va_backW (hh := hh) (bytes := bytes) (maxL := maxL) (ret := ret) hM hp.1 hrc hrs hfr hlo hws hcw (fun a' U hW => word_at hW (Or.inl (by first | rfl | simp [Cond.onTables, Cond.keeps, Cond.steady])) hini)
  obtain ⟨hx, hb, hml, ho, -⟩ := S
  intro T hT X
  obtain ⟨v, vm₁, ⟨U', l2, c2, s2⟩, hW₁, X', ⟨g', mk, t, L, e1, e2, hq, h1, hL, h2, h3⟩, st⟩ := vx_callSW X hx (hh := hh) (bytes := bytes) (maxL := maxL) (ret := ret) ho hl hstt hini hcode hy hK hg (hsize.trans hml.symm) (argsL := As) (rest := rest) (fun sig h => hn.trans (hlen sig h)) hstack hW (by rw [hb]; exact hdg)
    (fun vm₁ hW₁ => ⟨hf.1, hf.2, hp.2 (T.setVm vm₁) hT hW₁⟩)
  dsimp only [Pt.U, Pt.locs, Pt.cells, Pt.slots] at X' e1 e2 h1 h2 h3 st
  subst h1; subst h2; subst h3
  exact ⟨v, (T.setVm vm₁).calling g' mk As.toArray, t, U', L, hT, X', hL, e1, e2, hq, st⟩
/-- not caught here, past rows that name other classes: it goes on to the caller -/
theorem vx_outP {p : Program} {l : Launch} {e : Env} {R : Room} {s : State} {m : MethodId} {args : Array Value} {below : List Frame} {meth : Method} {c : Code} {H : Heap} {locs : List Loc} {cells slots : Nat} {free : Addr → Prop} {ls : Array Slot} {rest : List Value} {Qc : Array Value → State → Outcome → State → Prop} {XC : String → State → State → Prop}
    {pc : Nat} {own E : String} {ce : Cell} {q : Addr} {mc ms : Nat} (hown : s.vm.findClass own = some m.cls) (hlocks : meth.locks = false)
    (hpass : ∀ z ∈ c.exceptionTable.toList, covers z pc = false ∨ (z.catchType ≠ 0 ∧ ∃ nm : String, (Cond.classLink own z.catchType nm).before args s = true ∧ va_Nc E nm s)) (hcell : H[q]? = some ce) (hv : ce.vm = .none) (hcl : s.vm.findClass E = some ce.cls)
    (hx : ∀ t : State, t.heap = H → s.vm.Alike t.vm → XC E s t) (hf : ∀ z ∈ locs, free z.base) (hc : cells ≤ mc) (hs : slots ≤ ms) :
    vx_W p l e R s m args below meth c H locs cells slots (vx_MQ below Qc XC args s mc ms free) (F0 m pc ls rest) q := by
  intro T hT X
  have hpl : e.platform.magicAccessors = ({} : Platform).magicAccessors := by rw [X.admits.platform]
  obtain ⟨vm', hW', X', st⟩ := X.outThrough hlocks q (g := F0 m pc ls rest) rfl rfl rfl (cell := ce) (by rw [hT]; exact hcell) (by rw [hv]; rfl)
    (by obtain ⟨k9, h9, -⟩ := Vm.findClass_spec hcl; exact ⟨k9, h9⟩) (fun z hz => by
      rcases hpass z hz with h | ⟨hz0, nm, hl1, hn1⟩
      · exact Or.inl h
      · obtain ⟨c6, hc6, hcl6⟩ := Cond.classLink_spec hown hl1 e.platform hpl
        obtain ⟨a8, b8, h1, h2, h3⟩ := hn1
        cases Option.some.inj (h1.symm.trans hcl)
        cases Option.some.inj (h2.symm.trans hc6)
        exact Or.inr ⟨hz0, _, hcl6, h3⟩)
  obtain ⟨g₀, hfr⟩ := X'.frames_eq
  have hcell9 : ((T.setVm vm').setFrames (.throwing q :: below)).heap[q]? = some ce := by
    show T.heap[q]? = some ce
    rw [hT]; exact hcell
  have hend : Ended ((T.setVm vm').setFrames (.throwing q :: below)) below (.threw q) := State.frames_setFrames _ (State.cur_lt_of_frames hfr)
  refine ⟨(T.setVm vm').setFrames (.throwing q :: below), ?_, .threw q, X'.here.running, hend, Or.inr ⟨q, rfl, E, ce, locs, hx _ hT (X'.ends _).1.alike, hcell9, hv, hcl, (X'.ends _).1, (X'.ends _).2.mono hc hs, hf⟩⟩
  rw [X.pushThrowing_eq]
  exact st
/-- a thing of a world lies in the heap -/
theorem vx_lt {D : va_G} {cl : List vw_C} {ws : va_W} {H1 : Heap} (h : va_P D cl ws H1) {k : Nat} {q : Nat × va_E} (hk : ws[k]? = some q) : q.1 < H1.size := (h k q hk).lt
end VXS
/-! ===== END ===== -/
/-! ===== BEGIN methods with a table of their own: called by a name, returning or throwing ===== -/
section VXH
/-! vx_backW, vx_callVX, vx_callSX, vx_callVW, vx_runVW, vx_runVX, vx_runSX, vx_ofWH follow the same proofs as their sisters above (Free/Laws.lean, Shelf42/LK1.lean); vx_outP calls Shelf42/NT130.lean (outThrough). -/
section
variable {l : Launch} {R : Room} {p : Program} {e : Env} {below : List Frame} {s : State} {sargs : Array Value} {y : MethodName} {len W9 : Nat}
theorem vx_backW {ws : List Cond} {rm : Room} {Pc : Array Value → State → Prop} {Qc : Array Value → State → Outcome → State → Prop} {XC : String → State → State → Prop} {mc ms : Nat} {free : Addr → Prop} {bytes : ByteArray} {maxL : Nat} {ret : Option FieldType} {hh : List (Nat × Nat × Nat × Nat)}
    (hM : vx_Met l y ws rm Pc Qc XC mc ms free) (hblind : FrameBlind Pc) (hrc : rm.cells = mc) (hrs : rm.slots = ms)
    (hframes : rm.frames + 1 ≤ R.frames) (hlocals : W9 + (maxL + 11) + rm.locals ≤ R.locals)
    (hws : ∀ w ∈ ws, ∀ a' U, s.WarmedH U.vm → w.before a' U = true) (hcode : Cond.codeWith y bytes maxL ret hh ∈ ws) (hinit : ∀ a' U, s.WarmedH U.vm → (Cond.initialized y.cls).before a' U = true) :
    vx_Back l R p e below s sargs y len W9 (PreOf R mc ms Pc) (PostOf Qc mc ms free) (vx_Post XC mc ms free) := by
  intro m meth c A g ig mk a X hg hsize hdg hW hn hp
  have h1 : (headSpec ws rm).pre.before a A.U = true := atoms_intro fun w hw => hws w hw _ _ X.warmed
  have h2 : (Cond.codeWith y bytes maxL ret hh).before a A.U = true := hws _ hcode _ _ X.warmed
  have h3 : (Cond.initialized y.cls).before a A.U = true := hinit _ _ X.warmed
  have h4 : A.cells + (headSpec ws rm).room.cells ≤ R.cells := by rw [show (headSpec ws rm).room.cells = mc from hrc]; exact hp.1
  have h5 : A.slots + (headSpec ws rm).room.slots ≤ R.slots := by rw [show (headSpec ws rm).room.slots = ms from hrs]; exact hp.2.1
  have hPc : Pc a (A.U.calling g mk a) := hblind _ _ _ _ hp.2.2
  obtain ⟨U, Ls, c0, s0⟩ := A
  dsimp only [Pt.U, Pt.locs, Pt.cells, Pt.slots] at h1 h2 h3 h4 h5 X hn hPc ⊢
  obtain ⟨m9, methY, cY, hn9, hmY, hcY, -, hlY, -⟩ := Cond.codeWith_spec h2
  cases Option.some.inj (hn9.symm.trans hn)
  obtain ⟨kY, hkY, -⟩ := className_of_methodNamed hn
  have hinitY : kY.init = .initialized := Cond.initialized_spec (findClass_of_methodNamed hn) hkY h3
  have h : At U g.method c below := by rw [hg]; exact X.here
  have hlocals9 : W9 + (maxL + 11) + (headSpec ws rm).room.locals ≤ R.locals := hlocals
  have happ : (headSpec ws rm).appliesLoose y e.platform (U.calling g mk a) = true :=
    Spec.appliesLoose_calling (g := g) h hdg hn hkY hinitY
      (X.room_calling (g := g) (R' := (headSpec ws rm).room) hsize hmY hcY hframes (by rw [hlY]; omega) h4 h5) h1
  obtain ⟨mid, hmid⟩ := h.above
  have hfr : (U.setTop g).frames = (.java g :: mid) ++ below := by rw [State.frames_setTop' g h.top, hmid]; rfl
  obtain ⟨o, s₂, hsteps, -, hend, hq⟩ := Steps.callFree hM p X.admits X.cas X.clock (acts := []) hfr happ hPc trivial
  have hq' : vx_Q Qc XC mc ms free a (U.calling g mk a) o s₂ := hq
  rw [State.frames_setTop' g h.top] at hend
  obtain ⟨g₀, hg0⟩ := Option.isSome_iff_exists.mp h.top
  obtain ⟨r, hr⟩ := State.topJava?_eq_some.mp hg0
  have hr' : (({ U with heap := s₂.heap, slotsUsed := s₂.slotsUsed } : State).setVm s₂.vm).frames = .java g₀ :: r := hr
  rcases hq' with ⟨hqc, L, hfe, hL⟩ | ⟨q, rfl, E, ce, L, hx, hce, hcv, hcl, hW₂, hsm, hL⟩
  · obtain ⟨⟨v, rfl⟩, hW₂, e2, q2, q3, q4, q5, q6⟩ := id hfe
    have e3 : s₂ = ({ (U.calling g mk a).setFrames s₂.frames with heap := s₂.heap, slotsUsed := s₂.slotsUsed } : State).setVm s₂.vm := by
      have : s₂ = ({ s₂ with vm := (U.calling g mk a).vm } : State).setVm s₂.vm := rfl
      rw [e2] at this
      exact this
    obtain ⟨c₂, i₂, len₂, hc₂, hd₂, hf₂⟩ := hend
    have hW' : U.WarmedH s₂.vm := hW₂
    have hcc : c₂ = c := by
      have h1 : s₂.code? g.method = U.code? g.method := by
        rw [State.code?_eq, State.code?_eq, hW'.alike.method?]
      exact Option.some.inj (hc₂.symm.trans (h1.trans h.code))
    subst hcc
    have hlen : len₂ = len := by rw [hdg] at hd₂; cases hd₂; rfl
    subst hlen
    have hs₂ : s₂ = (({ U with heap := s₂.heap, slotsUsed := s₂.slotsUsed } : State).setVm s₂.vm).setTop { g with pc := g.pc + len₂, stack := v.toList ++ g.stack } := by
      refine e3.trans ?_
      rw [hf₂, State.calling_eq h.top, State.setFrames_setFrames, State.setTop_of_frames _ hr', hr]
      rfl
    have hsame : U.sameButNew ({ U with heap := s₂.heap, slotsUsed := s₂.slotsUsed } : State) L mc ms := by
      refine ⟨?_, q2, q3, q4, q5, q6⟩
      obtain ⟨t, ht, -⟩ := State.frames_cons hr
      show ({ U with heap := s₂.heap, slotsUsed := s₂.slotsUsed } : State) = { U.setFrames U.frames with heap := s₂.heap, slotsUsed := s₂.slotsUsed }
      rw [State.setFrames_self ht]
    subst hg
    refine Or.inl ⟨v, ⟨(({ U with heap := s₂.heap, slotsUsed := s₂.slotsUsed } : State).setVm s₂.vm), Ls ++ L, c0 + mc, s0 + ms⟩,
      ⟨X.admits, X.cas, X.clock, X.frames, X.room, X.hears, X.method, X.code, (X.here.setHeapUsed s₂.heap s₂.slotsUsed).setVm hW'.alike, X.tail, State.WarmedH.trans X.warmed hW', X.limits, X.bytes, X.same.trans (hsame.setVm s.vm)⟩,
      ⟨g, mk, s₂, L, rfl, rfl, hqc, rfl, hL, rfl, rfl⟩, ?_⟩
    show Steps p.tables e below _ ((({ U with heap := s₂.heap, slotsUsed := s₂.slotsUsed } : State).setVm s₂.vm).setTop { g with pc := g.pc + len₂, stack := v.toList ++ g.stack })
    rw [← hs₂]
    exact hsteps
  · obtain ⟨e2, q2, q3, q4, q5, q6⟩ := id hsm
    have e3 : s₂ = ({ (U.calling g mk a).setFrames s₂.frames with heap := s₂.heap, slotsUsed := s₂.slotsUsed } : State).setVm s₂.vm := by
      have : s₂ = ({ s₂ with vm := (U.calling g mk a).vm } : State).setVm s₂.vm := rfl
      rw [e2] at this
      exact this
    have hf₂ : s₂.frames = .throwing q :: .java g :: U.frames.tail := hend
    have hW' : U.WarmedH s₂.vm := hW₂
    have hs₂ : s₂ = ((({ U with heap := s₂.heap, slotsUsed := s₂.slotsUsed } : State).setVm s₂.vm).setTop g).pushFrame (.throwing q) := by
      refine e3.trans ?_
      rw [hf₂, State.calling_eq h.top, State.setFrames_setFrames, State.pushFrame, State.frames_setTop _ hr', State.setTop_of_frames _ hr', State.setFrames_setFrames, hr]
      rfl
    have hsame : U.sameButNew ({ U with heap := s₂.heap, slotsUsed := s₂.slotsUsed } : State) L mc ms := by
      refine ⟨?_, q2, q3, q4, q5, q6⟩
      obtain ⟨t, ht, -⟩ := State.frames_cons hr
      show ({ U with heap := s₂.heap, slotsUsed := s₂.slotsUsed } : State) = { U.setFrames U.frames with heap := s₂.heap, slotsUsed := s₂.slotsUsed }
      rw [State.setFrames_self ht]
    subst hg
    refine Or.inr ⟨q, ⟨(({ U with heap := s₂.heap, slotsUsed := s₂.slotsUsed } : State).setVm s₂.vm), Ls ++ L, c0 + mc, s0 + ms⟩,
      ⟨X.admits, X.cas, X.clock, X.frames, X.room, X.hears, X.method, X.code, (X.here.setHeapUsed s₂.heap s₂.slotsUsed).setVm hW'.alike, X.tail, State.WarmedH.trans X.warmed hW', X.limits, X.bytes, X.same.trans (hsame.setVm s.vm)⟩,
      ⟨g, mk, s₂, L, E, ce, rfl, rfl, hx, hce, hcv, hcl, rfl, hL, rfl, rfl⟩, ?_⟩
    show Steps p.tables e below _ (((({ U with heap := s₂.heap, slotsUsed := s₂.slotsUsed } : State).setVm s₂.vm).setTop g).pushFrame (.throwing q))
    rw [← hs₂]
    exact hsteps
end
variable {p : Program} {l : Launch} {e : Env} {R : Room} {s : State} {m : MethodId} {args : Array Value} {below : List Frame} {meth : Method} {c : Code} {T : State} {H : Heap} {locs : List Loc} {cells slots : Nat}
theorem vx_callVX (X : Stand p l e R s m args below meth c T locs cells slots) (hexec : p.tables.exec = Jvm.exec) {own C : String} {index : Nat} {y : MethodName} {bytes : ByteArray} {maxL : Nat} {ret : Option FieldType} {hh : List (Nat × Nat × Nat × Nat)}
    (hown : s.vm.findClass own = some m.cls) (hlink : (Cond.methodLink own index y).before args s = true) (hinst : (Cond.instanceMethod y).before args s = true) (hsel : (Cond.selects C y y).before args s = true)
    (hcode : (Cond.codeWith y bytes maxL ret hh).before args s = true) (hy : y.cls ≠ "java/lang/invoke/MethodHandle" ∧ y.cls ≠ "java/lang/invoke/VarHandle")
    {W9 : Nat} {Pre : Pt → Array Value → Prop} {Post : Pt → Array Value → Option Value → Pt → Prop} {PostX : Pt → Array Value → Addr → Pt → Prop} (hK : vx_Back l R p e below s args y 3 W9 Pre Post PostX)
    {b : Addr} {cellB : Cell} (hcell : T.heap[b]? = some cellB) (hobj : cellB.vm.isStatics = false) (hcls : s.vm.findClass C = some cellB.cls)
    {g : JFrame} (hg : g.method = m) (hsize : g.locals.size = c.maxLocals) {argsL rest : List Value} (hlen : ∀ sig, parseMethodDescriptor y.desc = some sig → argsL.length = sig.parameters.length)
    (hstack : g.stack = argsL.reverse ++ .ref b :: rest) (hW : 2 * g.monitorRoom + (rest.map fun v => v.category).sum ≤ W9) (hdg : decode c.code g.pc = .ok (.invokevirtual index, 3))
    (hpre : ∀ vm₁, s.WarmedH vm₁ → Pre ⟨T.setVm vm₁, locs, cells, slots⟩ (Value.ref b :: argsL).toArray) :
    (∃ (v : Option Value) (vm₁ : Vm) (B : Pt), s.WarmedH vm₁ ∧ Stand p l e R s m args below meth c B.U B.locs B.cells B.slots ∧ Post ⟨T.setVm vm₁, locs, cells, slots⟩ (Value.ref b :: argsL).toArray v B ∧
      ∀ target, Steps p.tables e below (B.U.setTop { g with pc := g.pc + 3, stack := v.toList ++ rest }) target → Steps p.tables e below (T.setTop g) target) ∨
    (∃ (q : Addr) (vm₁ : Vm) (B : Pt), s.WarmedH vm₁ ∧ Stand p l e R s m args below meth c B.U B.locs B.cells B.slots ∧ PostX ⟨T.setVm vm₁, locs, cells, slots⟩ (Value.ref b :: argsL).toArray q B ∧
      Steps p.tables e below (T.setTop g) ((B.U.setTop { g with stack := rest }).pushFrame (.throwing q))) := by
  obtain ⟨mk, methM, hnamed, hmethM, hstM, habM⟩ := Cond.instanceMethod_spec hinst
  obtain ⟨m8, methM', cM, hn8, hmethM', -, -, -, -, -, -, hsigM⟩ := Cond.codeWith_spec hcode
  cases Option.some.inj (hn8.symm.trans hnamed)
  cases hmethM.symm.trans hmethM'
  obtain ⟨c2, r2, m2, q1, q2, q3, q4, kP, hkP, hkPi⟩ := Cond.selects_spec hsel
  cases hcls.symm.trans q1
  cases (State.methodFound?_of_named hnamed hy).symm.trans q2
  cases hnamed.symm.trans q3
  have hselP : selectMethod e.platform s.vm cellB.cls mk = .method mk := by rw [Launch.admits_selectMethod X.admits]; exact q4
  obtain ⟨vm₁, X₁, hstep₁⟩ := X.invokevirtual hexec hown hlink hnamed hmethM hstM hkP hkPi hy (a := b) (cell := cellB) hcell
    (fun z h => by rw [h] at hobj; cases hobj) hselP hmethM habM hkP hkPi (g := g) hg (argsL := argsL) (rest := rest) (hlen _ hsigM) hstack hdg
  rcases hK m meth c ⟨T.setVm vm₁, locs, cells, slots⟩ { g with stack := rest } (.invokevirtual index) mk (Value.ref b :: argsL).toArray X₁ hg hsize hdg hW (X₁.named hnamed) (hpre vm₁ X₁.warmed) with ⟨v, B, X', hpost, hsteps⟩ | ⟨q, B, X', hpost, hsteps⟩
  · exact Or.inl ⟨v, vm₁, B, X₁.warmed, X', hpost, fun target h => hstep₁ _ fun acts => by rw [doInvoke_state]; exact hsteps.trans h⟩
  · exact Or.inr ⟨q, vm₁, B, X₁.warmed, X', hpost, hstep₁ _ fun acts => by rw [doInvoke_state]; exact hsteps⟩
theorem vx_callSX (X : Stand p l e R s m args below meth c T locs cells slots) (hexec : p.tables.exec = Jvm.exec) {own : String} {index : Nat} {y : MethodName} {bytes : ByteArray} {maxL : Nat} {ret : Option FieldType} {hh : List (Nat × Nat × Nat × Nat)}
    (hown : s.vm.findClass own = some m.cls) (hlink : (Cond.methodLink own index y).before args s = true) (hstat : (Cond.static y).before args s = true) (hinit : (Cond.initialized y.cls).before args s = true)
    (hcode : (Cond.codeWith y bytes maxL ret hh).before args s = true) (hy : y.cls ≠ "java/lang/invoke/MethodHandle" ∧ y.cls ≠ "java/lang/invoke/VarHandle")
    {W9 : Nat} {Pre : Pt → Array Value → Prop} {Post : Pt → Array Value → Option Value → Pt → Prop} {PostX : Pt → Array Value → Addr → Pt → Prop} (hK : vx_Back l R p e below s args y 3 W9 Pre Post PostX)
    {g : JFrame} (hg : g.method = m) (hsize : g.locals.size = c.maxLocals) {argsL rest : List Value} (hlen : ∀ sig, parseMethodDescriptor y.desc = some sig → argsL.length = sig.parameters.length)
    (hstack : g.stack = argsL.reverse ++ rest) (hW : 2 * g.monitorRoom + (rest.map fun v => v.category).sum ≤ W9) (hdg : decode c.code g.pc = .ok (.invokestatic index, 3))
    (hpre : ∀ vm₁, s.WarmedH vm₁ → Pre ⟨T.setVm vm₁, locs, cells, slots⟩ argsL.toArray) :
    (∃ (v : Option Value) (vm₁ : Vm) (B : Pt), s.WarmedH vm₁ ∧ Stand p l e R s m args below meth c B.U B.locs B.cells B.slots ∧ Post ⟨T.setVm vm₁, locs, cells, slots⟩ argsL.toArray v B ∧
      ∀ target, Steps p.tables e below (B.U.setTop { g with pc := g.pc + 3, stack := v.toList ++ rest }) target → Steps p.tables e below (T.setTop g) target) ∨
    (∃ (q : Addr) (vm₁ : Vm) (B : Pt), s.WarmedH vm₁ ∧ Stand p l e R s m args below meth c B.U B.locs B.cells B.slots ∧ PostX ⟨T.setVm vm₁, locs, cells, slots⟩ argsL.toArray q B ∧
      Steps p.tables e below (T.setTop g) ((B.U.setTop { g with stack := rest }).pushFrame (.throwing q))) := by
  obtain ⟨mk, methM, cM, hnamed, hmethM, -, -, -, -, -, -, hsigM⟩ := Cond.codeWith_spec hcode
  have hstatic : methM.isStatic = true := Cond.static_spec hnamed hmethM hstat
  obtain ⟨kP, hkP, -⟩ := className_of_methodNamed hnamed
  have hinitP : kP.init = .initialized := Cond.initialized_spec (findClass_of_methodNamed hnamed) hkP hinit
  obtain ⟨vm₁, X₁, hstep₁⟩ := X.invokestatic hexec hown hlink hnamed hmethM hstatic hkP hinitP hy (g := g) hg (argsL := argsL) (rest := rest) (hlen _ hsigM) hstack hdg
  rcases hK m meth c ⟨T.setVm vm₁, locs, cells, slots⟩ { g with stack := rest } (.invokestatic index) mk argsL.toArray X₁ hg hsize hdg hW (X₁.named hnamed) (hpre vm₁ X₁.warmed) with ⟨v, B, X', hpost, hsteps⟩ | ⟨q, B, X', hpost, hsteps⟩
  · exact Or.inl ⟨v, vm₁, B, X₁.warmed, X', hpost, fun target h => hstep₁ _ fun acts => by rw [doInvoke_state]; exact hsteps.trans h⟩
  · exact Or.inr ⟨q, vm₁, B, X₁.warmed, X', hpost, hstep₁ _ fun acts => by rw [doInvoke_state]; exact hsteps⟩
theorem vx_callVW (X : Stand p l e R s m args below meth c T locs cells slots) (hexec : p.tables.exec = Jvm.exec) {own C : String} {index : Nat} {y : MethodName} {bytes : ByteArray} {maxL : Nat} {ret : Option FieldType} {hh : List (Nat × Nat × Nat × Nat)}
    (hown : s.vm.findClass own = some m.cls) (hlink : (Cond.methodLink own index y).before args s = true) (hinst : (Cond.instanceMethod y).before args s = true) (hsel : (Cond.selects C y y).before args s = true)
    (hcode : (Cond.codeWith y bytes maxL ret hh).before args s = true) (hy : y.cls ≠ "java/lang/invoke/MethodHandle" ∧ y.cls ≠ "java/lang/invoke/VarHandle")
    {W9 : Nat} {Pre : Pt → Array Value → Prop} {Post : Pt → Array Value → Option Value → Pt → Prop} (hK : Back l R p e below s args y 3 W9 Pre Post)
    {b : Addr} {cellB : Cell} (hcell : T.heap[b]? = some cellB) (hobj : cellB.vm.isStatics = false) (hcls : s.vm.findClass C = some cellB.cls)
    {g : JFrame} (hg : g.method = m) (hsize : g.locals.size = c.maxLocals) {argsL rest : List Value} (hlen : ∀ sig, parseMethodDescriptor y.desc = some sig → argsL.length = sig.parameters.length)
    (hstack : g.stack = argsL.reverse ++ .ref b :: rest) (hW : 2 * g.monitorRoom + (rest.map fun v => v.category).sum ≤ W9) (hdg : decode c.code g.pc = .ok (.invokevirtual index, 3))
    (hpre : ∀ vm₁, s.WarmedH vm₁ → Pre ⟨T.setVm vm₁, locs, cells, slots⟩ (Value.ref b :: argsL).toArray) :
    ∃ (v : Option Value) (vm₁ : Vm) (B : Pt), s.WarmedH vm₁ ∧ Stand p l e R s m args below meth c B.U B.locs B.cells B.slots ∧ Post ⟨T.setVm vm₁, locs, cells, slots⟩ (Value.ref b :: argsL).toArray v B ∧
      ∀ target, Steps p.tables e below (B.U.setTop { g with pc := g.pc + 3, stack := v.toList ++ rest }) target → Steps p.tables e below (T.setTop g) target := by
  obtain ⟨mk, methM, hnamed, hmethM, hstM, habM⟩ := Cond.instanceMethod_spec hinst
  obtain ⟨m8, methM', cM, hn8, hmethM', -, -, -, -, -, -, hsigM⟩ := Cond.codeWith_spec hcode
  cases Option.some.inj (hn8.symm.trans hnamed)
  cases hmethM.symm.trans hmethM'
  obtain ⟨c2, r2, m2, q1, q2, q3, q4, kP, hkP, hkPi⟩ := Cond.selects_spec hsel
  cases hcls.symm.trans q1
  cases (State.methodFound?_of_named hnamed hy).symm.trans q2
  cases hnamed.symm.trans q3
  have hselP : selectMethod e.platform s.vm cellB.cls mk = .method mk := by rw [Launch.admits_selectMethod X.admits]; exact q4
  obtain ⟨vm₁, X₁, hstep₁⟩ := X.invokevirtual hexec hown hlink hnamed hmethM hstM hkP hkPi hy (a := b) (cell := cellB) hcell
    (fun z h => by rw [h] at hobj; cases hobj) hselP hmethM habM hkP hkPi (g := g) hg (argsL := argsL) (rest := rest) (hlen _ hsigM) hstack hdg
  obtain ⟨v, B, X', hpost, hsteps⟩ := hK m meth c ⟨T.setVm vm₁, locs, cells, slots⟩ { g with stack := rest } (.invokevirtual index) mk (Value.ref b :: argsL).toArray X₁ hg hsize hdg hW (X₁.named hnamed) (hpre vm₁ X₁.warmed)
  exact ⟨v, vm₁, B, X₁.warmed, X', hpost, fun target h => hstep₁ _ fun acts => by rw [doInvoke_state]; exact hsteps.trans h⟩
abbrev vx_CVW (R : Room) (s : State) (args : Array Value) (own C : String) (index : Nat) (y : MethodName) (bytes : ByteArray) (maxL : Nat) (ret : Option FieldType) (hh : List (Nat × Nat × Nat × Nat)) (ws : List Cond) (rm : Room) (mc ms n : Nat) : Prop :=
  (rm.cells = mc ∧ rm.slots = ms ∧ rm.frames + 1 ≤ R.frames ∧ 8 + (maxL + 11) + rm.locals ≤ R.locals ∧ (∀ w ∈ ws, ∀ (a' : Array Value) (U : State), s.WarmedH U.vm → w.before a' U = true) ∧ Cond.codeWith y bytes maxL ret hh ∈ ws) ∧
  (Cond.codeWith y bytes maxL ret hh).before args s = true ∧ (Cond.initialized y.cls).before args s = true ∧ (y.cls ≠ "java/lang/invoke/MethodHandle" ∧ y.cls ≠ "java/lang/invoke/VarHandle") ∧
  (∀ sig, parseMethodDescriptor y.desc = some sig → n = sig.parameters.length) ∧ (Cond.methodLink own index y).before args s = true ∧ (Cond.instanceMethod y).before args s = true ∧ (Cond.selects C y y).before args s = true
theorem vx_cwVW {own C : String} {index maxL mc ms : Nat} {y : MethodName} {bytes : ByteArray} {ret : Option FieldType} {hh : List (Nat × Nat × Nat × Nat)} {Ts ws ws' : List Cond} {rm : Room} (n : Nat) (ht : ∀ w ∈ Ts, w.before args s = true) (hT : GoodIn Ts (wsV own index C y ws)) (hw : ws = Cond.codeWith y bytes maxL ret hh :: ws') (hrc : rm.cells = mc) (hrs : rm.slots = ms)
    (hd : y.cls = C ∧ y.cls ≠ "java/lang/invoke/MethodHandle" ∧ y.cls ≠ "java/lang/invoke/VarHandle" ∧ (parseMethodDescriptor y.desc).map (fun d => d.parameters.length) = some n) (hR : rm.frames + 1 ≤ R.frames ∧ 8 + (maxL + 11) + rm.locals ≤ R.locals) :
    vx_CVW R s args own C index y bytes maxL ret hh ws rm mc ms n := by
  obtain ⟨hC, hd⟩ := hd
  subst hC
  have ok : ∀ w ∈ wsV own index y.cls y ws, w.before args s = true := fun w h => ht w (hT w h).1
  have hG : GoodIn Ts ws := fun w h => hT w (by unfold wsV; exact List.mem_append_right _ h)
  have hc : Cond.codeWith y bytes maxL ret hh ∈ ws := by rw [hw]; exact List.mem_cons_self
  refine ⟨⟨hrc, hrs, hR.1, hR.2, pay_in ht hG, hc⟩, ht _ (hG _ hc).1, ok _ (by simp [wsV]), ⟨hd.1, hd.2.1⟩, fun sig h => ?_, ok _ (by simp [wsV]), ok _ (by simp [wsV]), ok _ (by simp [wsV])⟩
  have h2 := hd.2.2
  rw [h] at h2
  exact (Option.some.inj h2).symm
theorem vx_runVW {y : MethodName} {bytes cc : ByteArray} {maxL nL mc ms n index : Nat} {ret : Option FieldType} {hh : List (Nat × Nat × Nat × Nat)} {ws : List Cond} {rm : Room} {Pc : Array Value → State → Prop} {Qc : Array Value → State → Outcome → State → Prop} {free : Addr → Prop} {Ts : List Cond} {own C : String} {b : Addr} {As rest : List Value} {g : JFrame}
    (S : CallFix p m c cc nL s args Ts own) (hM : Met l y ws rm Pc Qc mc ms free) (cw : vx_CVW R s args own C index y bytes maxL ret hh ws rm mc ms n) (hp : PreV s H C b Pc As)
    (hg : g.method = m) (hn : As.length = n) (hsize : g.locals.size = nL) (hstack : g.stack = As.reverse ++ .ref b :: rest) (hW : 2 * g.monitorRoom + (rest.map fun v => v.category).sum ≤ 8) (hdg : decode cc g.pc = .ok (.invokevirtual index, 3)) (hf : cells + mc ≤ R.cells ∧ slots + ms ≤ R.slots) :
    va_Run p l e R s m args below meth c H locs cells slots mc ms g rest (Qc (Value.ref b :: As).toArray) free := by
  obtain ⟨⟨hrc, hrs, hfr, hlo, hws, hcw⟩, hcode, hini, hy, hlen, hl, hin, hse⟩ := cw
  have hK : Back l R p e below s args y 3 8 (PreOf R mc ms Pc) (PostOf Qc mc ms free) := va_backW (hh := hh) (bytes := bytes) (maxL := maxL) (ret := ret) hM hp.1 hrc hrs hfr hlo hws hcw (fun a' U hW => word_at hW (Or.inl (by first | rfl | simp [Cond.onTables, Cond.keeps, Cond.steady])) hini)
  obtain ⟨hx, hb, hml, ho, -⟩ := S
  obtain ⟨-, ⟨cellB, hcB, hoB, hclB⟩, hPc⟩ := hp
  intro T hT X
  obtain ⟨v, vm₁, ⟨U', l2, c2, s2⟩, hW₁, X', ⟨g', mk, t, L, e1, e2, hq, h1, hL, h2, h3⟩, st⟩ := vx_callVW X hx (C := C) (hh := hh) (bytes := bytes) (maxL := maxL) (ret := ret) ho hl hin hse hcode hy hK (by rw [hT]; exact hcB) hoB hclB hg (hsize.trans hml.symm) (argsL := As) (rest := rest) (fun sig h => hn.trans (hlen sig h)) hstack hW (by rw [hb]; exact hdg)
    (fun vm₁ hW₁ => ⟨hf.1, hf.2, hPc (T.setVm vm₁) hT hW₁⟩)
  dsimp only [Pt.U, Pt.locs, Pt.cells, Pt.slots] at X' e1 e2 h1 h2 h3 st
  subst h1; subst h2; subst h3
  exact ⟨v, (T.setVm vm₁).calling g' mk (Value.ref b :: As).toArray, t, U', L, hT, X', hL, e1, e2, hq, st⟩
section
variable {y : MethodName} {bytes cc : ByteArray} {maxL nL mc ms n index : Nat} {ret : Option FieldType} {ws : List Cond} {rm : Room} {Pc : Array Value → State → Prop} {Qc : Array Value → State → Outcome → State → Prop} {XC : String → State → State → Prop} {free : Addr → Prop} {Ts : List Cond} {own C : String} {b : Addr} {As rest : List Value} {g : JFrame}
theorem vx_runVX {hh : List (Nat × Nat × Nat × Nat)} (S : CallFix p m c cc nL s args Ts own) (hM : vx_Met l y ws rm Pc Qc XC mc ms free) (cw : vx_CVW R s args own C index y bytes maxL ret hh ws rm mc ms n) (hp : PreV s H C b Pc As)
    (hg : g.method = m) (hn : As.length = n) (hsize : g.locals.size = nL) (hstack : g.stack = As.reverse ++ .ref b :: rest) (hW : 2 * g.monitorRoom + (rest.map fun v => v.category).sum ≤ 8) (hdg : decode cc g.pc = .ok (.invokevirtual index, 3)) (hf : cells + mc ≤ R.cells ∧ slots + ms ≤ R.slots) :
    vx_Run p l e R s m args below meth c H locs cells slots mc ms g rest (Qc (Value.ref b :: As).toArray) XC free := by
  obtain ⟨⟨hrc, hrs, hfr, hlo, hws, hcw⟩, hcode, hini, hy, hlen, hl, hin, hse⟩ := cw
  have hK : vx_Back l R p e below s args y 3 8 (PreOf R mc ms Pc) (PostOf Qc mc ms free) (vx_Post XC mc ms free) := vx_backW (hh := hh) (bytes := bytes) (maxL := maxL) (ret := ret) hM hp.1 hrc hrs hfr hlo hws hcw (fun a' U hW => word_at hW (Or.inl (by first | rfl | simp [Cond.onTables, Cond.keeps, Cond.steady])) hini)
  obtain ⟨hx, hb, hml, ho, -⟩ := S
  obtain ⟨-, ⟨cellB, hcB, hoB, hclB⟩, hPc⟩ := hp
  intro T hT X
  rcases vx_callVX X hx (C := C) (hh := hh) (bytes := bytes) (maxL := maxL) (ret := ret) ho hl hin hse hcode hy hK (by rw [hT]; exact hcB) hoB hclB hg (hsize.trans hml.symm) (argsL := As) (rest := rest) (fun sig h => hn.trans (hlen sig h)) hstack hW (by rw [hb]; exact hdg)
    (fun vm₁ hW₁ => ⟨hf.1, hf.2, hPc (T.setVm vm₁) hT hW₁⟩) with ⟨v, vm₁, ⟨U', l2, c2, s2⟩, hW₁, X', ⟨g', mk, t, L, e1, e2, hq, h1, hL, h2, h3⟩, st⟩ | ⟨q, vm₁, ⟨U', l2, c2, s2⟩, hW₁, X', ⟨g', mk, t, L, E, ce, e1, e2, hq, hce, hcv, hcl, h1, hL, h2, h3⟩, st⟩
  · dsimp only [Pt.U, Pt.locs, Pt.cells, Pt.slots] at X' e1 e2 h1 h2 h3 st
    subst h1; subst h2; subst h3
    exact Or.inl ⟨v, (T.setVm vm₁).calling g' mk (Value.ref b :: As).toArray, t, U', L, hT, X', hL, e1, e2, hq, st⟩
  · dsimp only [Pt.U, Pt.locs, Pt.cells, Pt.slots] at X' e1 e2 h1 h2 h3 st hcl
    subst h1; subst h2; subst h3
    exact Or.inr ⟨q, (T.setVm vm₁).calling g' mk (Value.ref b :: As).toArray, t, U', L, E, ce, hT, X', hL, e1, e2, hq, hce, hcv, vx_cls hW₁ hcl, st⟩
theorem vx_runSX {hh : List (Nat × Nat × Nat × Nat)} (S : CallFix p m c cc nL s args Ts own) (hM : vx_Met l y ws rm Pc Qc XC mc ms free) (cw : vx_CSW R s args own index y bytes maxL ret hh ws rm mc ms n) (hp : PreS s H Pc As)
    (hg : g.method = m) (hn : As.length = n) (hsize : g.locals.size = nL) (hstack : g.stack = As.reverse ++ rest) (hW : 2 * g.monitorRoom + (rest.map fun v => v.category).sum ≤ 8) (hdg : decode cc g.pc = .ok (.invokestatic index, 3)) (hf : cells + mc ≤ R.cells ∧ slots + ms ≤ R.slots) :
    vx_Run p l e R s m args below meth c H locs cells slots mc ms g rest (Qc As.toArray) XC free := by
  obtain ⟨⟨hrc, hrs, hfr, hlo, hws, hcw⟩, hcode, hini, hy, hlen, hl, hstt⟩ := cw
  have hK : vx_Back l R p e below s args y 3 8 (PreOf R mc ms Pc) (PostOf Qc mc ms free) (vx_Post XC mc ms free) := vx_backW (hh := hh) (bytes := bytes) (maxL := maxL) (ret := ret) hM hp.1 hrc hrs hfr hlo hws hcw (fun a' U hW => word_at hW (Or.inl (by first | rfl | simp [Cond.onTables, Cond.keeps, Cond.steady])) hini)
  obtain ⟨hx, hb, hml, ho, -⟩ := S
  intro T hT X
  rcases vx_callSX X hx (hh := hh) (bytes := bytes) (maxL := maxL) (ret := ret) ho hl hstt hini hcode hy hK hg (hsize.trans hml.symm) (argsL := As) (rest := rest) (fun sig h => hn.trans (hlen sig h)) hstack hW (by rw [hb]; exact hdg)
    (fun vm₁ hW₁ => ⟨hf.1, hf.2, hp.2 (T.setVm vm₁) hT hW₁⟩) with ⟨v, vm₁, ⟨U', l2, c2, s2⟩, hW₁, X', ⟨g', mk, t, L, e1, e2, hq, h1, hL, h2, h3⟩, st⟩ | ⟨q, vm₁, ⟨U', l2, c2, s2⟩, hW₁, X', ⟨g', mk, t, L, E, ce, e1, e2, hq, hce, hcv, hcl, h1, hL, h2, h3⟩, st⟩
  · dsimp only [Pt.U, Pt.locs, Pt.cells, Pt.slots] at X' e1 e2 h1 h2 h3 st
    subst h1; subst h2; subst h3
    exact Or.inl ⟨v, (T.setVm vm₁).calling g' mk As.toArray, t, U', L, hT, X', hL, e1, e2, hq, st⟩
  · dsimp only [Pt.U, Pt.locs, Pt.cells, Pt.slots] at X' e1 e2 h1 h2 h3 st hcl
    subst h1; subst h2; subst h3
    exact Or.inr ⟨q, (T.setVm vm₁).calling g' mk As.toArray, t, U', L, E, ce, hT, X', hL, e1, e2, hq, hce, hcv, vx_cls hW₁ hcl, st⟩
end
end VXH
theorem vx_ofWH {l : Launch} {y : MethodName} {ws ws' : List Cond} {rm : Room} {Pc : Array Value → State → Prop} {Qc : Array Value → State → Outcome → State → Prop} {XC : String → State → State → Prop} {mc ms : Nat} {free : Addr → Prop} {cc : ByteArray} {maxL : Nat} {ret : Option FieldType} {hh : List (Nat × Nat × Nat × Nat)}
    (hy : plainName y.cls = true) (hw : ws = Cond.codeWith y cc maxL ret hh :: ws')
    (body : ∀ p e s m args below meth c s₁, BodyLoose p l y (headSpec ws rm) cc maxL ret e s m args below meth c s₁ → c.maxLocals = maxL → Pc args s →
      W p l e (headSpec ws rm).room s m args below meth c s.heap [] 0 0 (vx_MQ below Qc XC args s mc ms free) (entryFrame m args maxL)) : vx_Met l y ws rm Pc Qc XC mc ms free := by
  refine MetFree.of_bodyS (code := cc) (maxLocals := maxL) (ret := ret) hy ?_ ?_
  · intro args s m h hn
    obtain ⟨m9, meth, c, hn9, h1, h2, h3, h4, -, h5, h6, -⟩ := Cond.codeWith_spec (atoms_spec (ws := ws) h _ (by rw [hw]; exact List.mem_cons_self))
    cases hn.symm.trans hn9
    exact ⟨meth, c, h1, h2, h3, h4, h5, h6⟩
  · intro p e s m args below meth c s₁ B hml hP _
    have hh0 : s₁.heap = s.heap := by rw [B.state]; rfl
    obtain ⟨t, a1, o, b1, b2, b3⟩ := body p e s m args below meth c s₁ B hml hP s₁ hh0 (Stand.of_body B)
    exact ⟨t, o, a1, b1, b2, b3⟩
/-! ===== END ===== -/
end
section
/-! ===== BEGIN printed: names, fields, word lists, decode rows ===== -/
def RX0 : String := "AffineHulls$Edge"
def TX0 : u_T := fun k => match k with
  | 0 => ("AffineHulls$Edge", "from", "I", false)
  | 1 => ("AffineHulls$Edge", "to", "I", false)
  | 2 => ("AffineHulls$Edge", "kind", "I", false)
  | 3 => ("AffineHulls$Edge", "variable", "I", false)
  | _ => ("AffineHulls$Edge", "form", "[I", true)
def tyX0 : Nat → FieldType := fun k => match k with
  | 0 => .int
  | 1 => .int
  | 2 => .int
  | 3 => .int
  | _ => .array .int
abbrev wsX00 : List Cond := u_ws RX0 TX0 5
theorem nmX0 : ∀ a, a < 5 → ∀ b, b < 5 → a ≠ b → (TX0 a).2.1 ≠ (TX0 b).2.1 := by decide +kernel
theorem tyX0_ok : ∀ k, k < 5 → parseFieldDescriptor (TX0 k).2.2.1 = some (tyX0 k) := by decide +kernel
abbrev cX0_init : ByteArray := prog_2_method_1_code
def yX0_init : MethodName := ⟨RX0, "<init>", "(I)V"⟩
abbrev cX0_set : ByteArray := prog_2_method_2_code
def yX0_set : MethodName := ⟨RX0, "set", "(IIII[I)V"⟩
abbrev cX0_isOpen : ByteArray := prog_2_method_3_code
def yX0_isOpen : MethodName := ⟨RX0, "isOpen", "([I)Z"⟩
abbrev cX0_step : ByteArray := prog_2_method_4_code
def yX0_step : MethodName := ⟨RX0, "step", "([II)V"⟩
abbrev cX0_stepBack : ByteArray := prog_2_method_5_code
def yX0_stepBack : MethodName := ⟨RX0, "stepBack", "([II)V"⟩
def RX1 : String := "AffineHulls$Hull"
def TX1 : u_T := fun k => match k with
  | 0 => ("AffineHulls$Hull", "span", "LAffineHulls$Span;", true)
  | 1 => ("AffineHulls$Hull", "members", "[I", true)
  | _ => ("AffineHulls$Hull", "pointCount", "I", false)
def tyX1 : Nat → FieldType := fun k => match k with
  | 0 => .object "AffineHulls$Span"
  | 1 => .array .int
  | _ => .int
abbrev wsX10 : List Cond := u_ws RX1 TX1 3
theorem nmX1 : ∀ a, a < 3 → ∀ b, b < 3 → a ≠ b → (TX1 a).2.1 ≠ (TX1 b).2.1 := by decide +kernel
theorem tyX1_ok : ∀ k, k < 3 → parseFieldDescriptor (TX1 k).2.2.1 = some (tyX1 k) := by decide +kernel
abbrev cX1_init : ByteArray := prog_3_method_1_code
def yX1_init : MethodName := ⟨RX1, "<init>", "(I)V"⟩
abbrev cX1_clear : ByteArray := prog_3_method_2_code
def yX1_clear : MethodName := ⟨RX1, "clear", "()V"⟩
abbrev cX1_equationCount : ByteArray := prog_3_method_3_code
def yX1_equationCount : MethodName := ⟨RX1, "equationCount", "()I"⟩
def RX2 : String := "AffineHulls$Note"
def TX2 : u_T := fun k => match k with
  | 0 => ("AffineHulls$Note", "node", "I", false)
  | _ => ("AffineHulls$Note", "form", "[I", true)
def tyX2 : Nat → FieldType := fun k => match k with
  | 0 => .int
  | _ => .array .int
abbrev wsX20 : List Cond := u_ws RX2 TX2 2
theorem nmX2 : ∀ a, a < 2 → ∀ b, b < 2 → a ≠ b → (TX2 a).2.1 ≠ (TX2 b).2.1 := by decide +kernel
theorem tyX2_ok : ∀ k, k < 2 → parseFieldDescriptor (TX2 k).2.2.1 = some (tyX2 k) := by decide +kernel
abbrev cX2_init : ByteArray := prog_4_method_1_code
def yX2_init : MethodName := ⟨RX2, "<init>", "(I)V"⟩
abbrev cX2_set : ByteArray := prog_4_method_2_code
def yX2_set : MethodName := ⟨RX2, "set", "(I[I)V"⟩
def RX3 : String := "AffineHulls$Point"
def TX3 : u_T := fun k => match k with
  | 0 => ("AffineHulls$Point", "node", "I", false)
  | 1 => ("AffineHulls$Point", "index", "I", false)
  | 2 => ("AffineHulls$Point", "origin", "I", false)
  | _ => ("AffineHulls$Point", "row", "[I", true)
def tyX3 : Nat → FieldType := fun k => match k with
  | 0 => .int
  | 1 => .int
  | 2 => .int
  | _ => .array .int
abbrev wsX30 : List Cond := u_ws RX3 TX3 4
theorem nmX3 : ∀ a, a < 4 → ∀ b, b < 4 → a ≠ b → (TX3 a).2.1 ≠ (TX3 b).2.1 := by decide +kernel
theorem tyX3_ok : ∀ k, k < 4 → parseFieldDescriptor (TX3 k).2.2.1 = some (tyX3 k) := by decide +kernel
abbrev cX3_init : ByteArray := prog_5_method_1_code
def yX3_init : MethodName := ⟨RX3, "<init>", "(I)V"⟩
abbrev cX3_set : ByteArray := prog_5_method_2_code
def yX3_set : MethodName := ⟨RX3, "set", "(III[I)V"⟩
def RX4 : String := "AffineHulls$Span"
def TX4 : u_T := fun k => match k with
  | 0 => ("AffineHulls$Span", "kept", "[[I", true)
  | 1 => ("AffineHulls$Span", "taken", "[Z", true)
  | _ => ("AffineHulls$Span", "rest", "[I", true)
def tyX4 : Nat → FieldType := fun k => match k with
  | 0 => .array (.array .int)
  | 1 => .array .boolean
  | _ => .array .int
abbrev wsX40 : List Cond := u_ws RX4 TX4 3
theorem nmX4 : ∀ a, a < 3 → ∀ b, b < 3 → a ≠ b → (TX4 a).2.1 ≠ (TX4 b).2.1 := by decide +kernel
theorem tyX4_ok : ∀ k, k < 3 → parseFieldDescriptor (TX4 k).2.2.1 = some (tyX4 k) := by decide +kernel
abbrev cX4_init : ByteArray := prog_6_method_1_code
def yX4_init : MethodName := ⟨RX4, "<init>", "(I)V"⟩
abbrev cX4_clear : ByteArray := prog_6_method_2_code
def yX4_clear : MethodName := ⟨RX4, "clear", "()V"⟩
abbrev cX4_contains : ByteArray := prog_6_method_3_code
def yX4_contains : MethodName := ⟨RX4, "contains", "([I)Z"⟩
abbrev cX4_add : ByteArray := prog_6_method_4_code
def yX4_add : MethodName := ⟨RX4, "add", "([I)Z"⟩
abbrev cX4_reduce : ByteArray := prog_6_method_5_code
def yX4_reduce : MethodName := ⟨RX4, "reduce", "([I)V"⟩
abbrev cX4_leadingPlace : ByteArray := prog_6_method_6_code
def yX4_leadingPlace : MethodName := ⟨RX4, "leadingPlace", "()I"⟩
abbrev cX4_freePlace : ByteArray := prog_6_method_7_code
def yX4_freePlace : MethodName := ⟨RX4, "freePlace", "(I)I"⟩
abbrev cX4_vanishing : ByteArray := prog_6_method_8_code
def yX4_vanishing : MethodName := ⟨RX4, "vanishing", "(II)I"⟩
def RX5 : String := "AffineHulls"
def TX5 : u_T := fun k => match k with
  | 0 => ("AffineHulls", "variables", "I", true)
  | 1 => ("AffineHulls", "draft", "[I", true)
  | 2 => ("AffineHulls", "edges", "[LAffineHulls$Edge;", true)
  | 3 => ("AffineHulls", "edgeCount", "I", false)
  | 4 => ("AffineHulls", "entryNode", "I", false)
  | 5 => ("AffineHulls", "hulls", "[LAffineHulls$Hull;", true)
  | 6 => ("AffineHulls", "arrivals", "[LAffineHulls$Point;", true)
  | 7 => ("AffineHulls", "arrivalCount", "I", false)
  | 8 => ("AffineHulls", "analysed", "Z", false)
  | 9 => ("AffineHulls", "place", "I", false)
  | 10 => ("AffineHulls", "values", "[I", true)
  | 11 => ("AffineHulls", "notes", "[LAffineHulls$Note;", true)
  | 12 => ("AffineHulls", "noteCount", "I", false)
  | 13 => ("AffineHulls", "noteSpan", "LAffineHulls$Span;", true)
  | _ => ("AffineHulls", "work", "[I", true)
def tyX5 : Nat → FieldType := fun k => match k with
  | 0 => .int
  | 1 => .array .int
  | 2 => .array (.object "AffineHulls$Edge")
  | 3 => .int
  | 4 => .int
  | 5 => .array (.object "AffineHulls$Hull")
  | 6 => .array (.object "AffineHulls$Point")
  | 7 => .int
  | 8 => .boolean
  | 9 => .int
  | 10 => .array .int
  | 11 => .array (.object "AffineHulls$Note")
  | 12 => .int
  | 13 => .object "AffineHulls$Span"
  | _ => .array .int
abbrev wsX50 : List Cond := u_ws RX5 TX5 15
theorem nmX5 : ∀ a, a < 15 → ∀ b, b < 15 → a ≠ b → (TX5 a).2.1 ≠ (TX5 b).2.1 := by decide +kernel
theorem tyX5_ok : ∀ k, k < 15 → parseFieldDescriptor (TX5 k).2.2.1 = some (tyX5 k) := by decide +kernel
abbrev cX5_init : ByteArray := prog_1_method_1_code
def yX5_init : MethodName := ⟨RX5, "<init>", "(II)V"⟩
abbrev cX5_term : ByteArray := prog_1_method_2_code
def yX5_term : MethodName := ⟨RX5, "term", "(II)V"⟩
abbrev cX5_edge : ByteArray := prog_1_method_3_code
def yX5_edge : MethodName := ⟨RX5, "edge", "(IIII)I"⟩
abbrev cX5_entry : ByteArray := prog_1_method_4_code
def yX5_entry : MethodName := ⟨RX5, "entry", "(I)V"⟩
abbrev cX5_analyse : ByteArray := prog_1_method_5_code
def yX5_analyse : MethodName := ⟨RX5, "analyse", "()I"⟩
abbrev cX5_points : ByteArray := prog_1_method_6_code
def yX5_points : MethodName := ⟨RX5, "points", "(I)I"⟩
abbrev cX5_point : ByteArray := prog_1_method_7_code
def yX5_point : MethodName := ⟨RX5, "point", "(III)I"⟩
abbrev cX5_equations : ByteArray := prog_1_method_8_code
def yX5_equations : MethodName := ⟨RX5, "equations", "(I)I"⟩
abbrev cX5_coefficient : ByteArray := prog_1_method_9_code
def yX5_coefficient : MethodName := ⟨RX5, "coefficient", "(III)I"⟩
abbrev cX5_holds : ByteArray := prog_1_method_10_code
def yX5_holds : MethodName := ⟨RX5, "holds", "(I)Z"⟩
abbrev cX5_begin : ByteArray := prog_1_method_11_code
def yX5_begin : MethodName := ⟨RX5, "begin", "(II)V"⟩
abbrev cX5_go : ByteArray := prog_1_method_12_code
def yX5_go : MethodName := ⟨RX5, "go", "(II)Z"⟩
abbrev cX5_at : ByteArray := prog_1_method_13_code
def yX5_at : MethodName := ⟨RX5, "at", "(I)I"⟩
abbrev cX5_note : ByteArray := prog_1_method_14_code
def yX5_note : MethodName := ⟨RX5, "note", "(I)I"⟩
abbrev cX5_noteAll : ByteArray := prog_1_method_15_code
def yX5_noteAll : MethodName := ⟨RX5, "noteAll", "()I"⟩
abbrev cX5_forget : ByteArray := prog_1_method_16_code
def yX5_forget : MethodName := ⟨RX5, "forget", "()I"⟩
abbrev cX5_sound : ByteArray := prog_1_method_17_code
def yX5_sound : MethodName := ⟨RX5, "sound", "()Z"⟩
abbrev cX5_requireNode : ByteArray := prog_1_method_18_code
def yX5_requireNode : MethodName := ⟨RX5, "requireNode", "(I)V"⟩
abbrev cX5_requireVariable : ByteArray := prog_1_method_19_code
def yX5_requireVariable : MethodName := ⟨RX5, "requireVariable", "(I)V"⟩
abbrev cX5_requirePlace : ByteArray := prog_1_method_20_code
def yX5_requirePlace : MethodName := ⟨RX5, "requirePlace", "(I)V"⟩
abbrev cX5_requireAnalysed : ByteArray := prog_1_method_21_code
def yX5_requireAnalysed : MethodName := ⟨RX5, "requireAnalysed", "()V"⟩
abbrev cX5_clearDraft : ByteArray := prog_1_method_22_code
def yX5_clearDraft : MethodName := ⟨RX5, "clearDraft", "()V"⟩
abbrev cX5_forgetPoints : ByteArray := prog_1_method_23_code
def yX5_forgetPoints : MethodName := ⟨RX5, "forgetPoints", "()V"⟩
abbrev cX5_addFirstPoints : ByteArray := prog_1_method_24_code
def yX5_addFirstPoints : MethodName := ⟨RX5, "addFirstPoints", "()V"⟩
abbrev cX5_workOff : ByteArray := prog_1_method_25_code
def yX5_workOff : MethodName := ⟨RX5, "workOff", "(LAffineHulls$Point;)V"⟩
abbrev cX5_follow : ByteArray := prog_1_method_26_code
def yX5_follow : MethodName := ⟨RX5, "follow", "(ILAffineHulls$Point;I)V"⟩
abbrev cX5_addPoint : ByteArray := prog_1_method_27_code
def yX5_addPoint : MethodName := ⟨RX5, "addPoint", "(I[II)V"⟩
abbrev cX5_holdsAtPoints : ByteArray := prog_1_method_28_code
def yX5_holdsAtPoints : MethodName := ⟨RX5, "holdsAtPoints", "(LAffineHulls$Hull;)Z"⟩
abbrev cX5_noteEquations : ByteArray := prog_1_method_29_code
def yX5_noteEquations : MethodName := ⟨RX5, "noteEquations", "(I)V"⟩
abbrev cX5_keepsNotes : ByteArray := prog_1_method_30_code
def yX5_keepsNotes : MethodName := ⟨RX5, "keepsNotes", "(LAffineHulls$Edge;)Z"⟩
abbrev cX5_spanNotesBefore : ByteArray := prog_1_method_31_code
def yX5_spanNotesBefore : MethodName := ⟨RX5, "spanNotesBefore", "(LAffineHulls$Edge;)V"⟩
abbrev cX5_followsBefore : ByteArray := prog_1_method_32_code
def yX5_followsBefore : MethodName := ⟨RX5, "followsBefore", "(LAffineHulls$Edge;LAffineHulls$Note;I)Z"⟩
abbrev cX5_number : ByteArray := prog_1_method_33_code
def yX5_number : MethodName := ⟨RX5, "number", "(I)I"⟩
abbrev cX5_valueOf : ByteArray := prog_1_method_34_code
def yX5_valueOf : MethodName := ⟨RX5, "valueOf", "([I[I)I"⟩
abbrev cX5_addMultiple : ByteArray := prog_1_method_35_code
def yX5_addMultiple : MethodName := ⟨RX5, "addMultiple", "([II[I)V"⟩
abbrev cX5_copy : ByteArray := prog_1_method_36_code
def yX5_copy : MethodName := ⟨RX5, "copy", "([I[I)V"⟩
abbrev cX5_inverse : ByteArray := prog_1_method_37_code
def yX5_inverse : MethodName := ⟨RX5, "inverse", "(I)I"⟩
def RX6 : String := "AffineHullsModel"
def TX6 : u_T := fun k => match k with
  | 0 => ("AffineHullsModel", "n", "I", true)
  | 1 => ("AffineHullsModel", "v", "I", true)
  | 2 => ("AffineHullsModel", "thrown", "I", false)
  | 3 => ("AffineHullsModel", "draft", "[I", true)
  | 4 => ("AffineHullsModel", "edges", "I", false)
  | 5 => ("AffineHullsModel", "froms", "[I", true)
  | 6 => ("AffineHullsModel", "tos", "[I", true)
  | 7 => ("AffineHullsModel", "kinds", "[I", true)
  | 8 => ("AffineHullsModel", "targets", "[I", true)
  | 9 => ("AffineHullsModel", "forms", "[I", true)
  | 10 => ("AffineHullsModel", "entry", "I", false)
  | 11 => ("AffineHullsModel", "analysed", "Z", false)
  | 12 => ("AffineHullsModel", "many", "[I", true)
  | 13 => ("AffineHullsModel", "points", "[I", true)
  | 14 => ("AffineHullsModel", "came", "[I", true)
  | 15 => ("AffineHullsModel", "all", "I", false)
  | 16 => ("AffineHullsModel", "nodeOf", "[I", true)
  | 17 => ("AffineHullsModel", "numberOf", "[I", true)
  | 18 => ("AffineHullsModel", "rows", "[I", true)
  | 19 => ("AffineHullsModel", "equations", "[I", true)
  | 20 => ("AffineHullsModel", "where", "I", false)
  | 21 => ("AffineHullsModel", "values", "[I", true)
  | 22 => ("AffineHullsModel", "notes", "I", false)
  | 23 => ("AffineHullsModel", "noteNode", "[I", true)
  | 24 => ("AffineHullsModel", "noteForm", "[I", true)
  | 25 => ("AffineHullsModel", "size", "I", false)
  | 26 => ("AffineHullsModel", "table", "[I", true)
  | 27 => ("AffineHullsModel", "pivots", "[I", true)
  | _ => ("AffineHullsModel", "row", "[I", true)
def tyX6 : Nat → FieldType := fun k => match k with
  | 0 => .int
  | 1 => .int
  | 2 => .int
  | 3 => .array .int
  | 4 => .int
  | 5 => .array .int
  | 6 => .array .int
  | 7 => .array .int
  | 8 => .array .int
  | 9 => .array .int
  | 10 => .int
  | 11 => .boolean
  | 12 => .array .int
  | 13 => .array .int
  | 14 => .array .int
  | 15 => .int
  | 16 => .array .int
  | 17 => .array .int
  | 18 => .array .int
  | 19 => .array .int
  | 20 => .int
  | 21 => .array .int
  | 22 => .int
  | 23 => .array .int
  | 24 => .array .int
  | 25 => .int
  | 26 => .array .int
  | 27 => .array .int
  | _ => .array .int
abbrev wsX60 : List Cond := u_ws RX6 TX6 29
theorem nmX6 : ∀ a, a < 29 → ∀ b, b < 29 → a ≠ b → (TX6 a).2.1 ≠ (TX6 b).2.1 := by decide +kernel
theorem tyX6_ok : ∀ k, k < 29 → parseFieldDescriptor (TX6 k).2.2.1 = some (tyX6 k) := by decide +kernel
abbrev cX6_init : ByteArray := prog_8_method_1_code
def yX6_init : MethodName := ⟨RX6, "<init>", "(II)V"⟩
abbrev cX6_thrown : ByteArray := prog_8_method_2_code
def yX6_thrown : MethodName := ⟨RX6, "thrown", "()I"⟩
abbrev cX6_mod : ByteArray := prog_8_method_3_code
def yX6_mod : MethodName := ⟨RX6, "mod", "(J)I"⟩
abbrev cX6_inverse : ByteArray := prog_8_method_4_code
def yX6_inverse : MethodName := ⟨RX6, "inverse", "(I)I"⟩
abbrev cX6_put : ByteArray := prog_8_method_5_code
def yX6_put : MethodName := ⟨RX6, "put", "(II)V"⟩
abbrev cX6_minus : ByteArray := prog_8_method_6_code
def yX6_minus : MethodName := ⟨RX6, "minus", "(III)V"⟩
abbrev cX6_exchange : ByteArray := prog_8_method_7_code
def yX6_exchange : MethodName := ⟨RX6, "exchange", "(II)V"⟩
abbrev cX6_rank : ByteArray := prog_8_method_8_code
def yX6_rank : MethodName := ⟨RX6, "rank", "()I"⟩
abbrev cX6_isNode : ByteArray := prog_8_method_9_code
def yX6_isNode : MethodName := ⟨RX6, "isNode", "(I)Z"⟩
abbrev cX6_clearDraft : ByteArray := prog_8_method_10_code
def yX6_clearDraft : MethodName := ⟨RX6, "clearDraft", "()V"⟩
abbrev cX6_term : ByteArray := prog_8_method_11_code
def yX6_term : MethodName := ⟨RX6, "term", "(II)V"⟩
abbrev cX6_edge : ByteArray := prog_8_method_12_code
def yX6_edge : MethodName := ⟨RX6, "edge", "(IIII)I"⟩
abbrev cX6_entry : ByteArray := prog_8_method_13_code
def yX6_entry : MethodName := ⟨RX6, "entry", "(I)V"⟩
abbrev cX6_formValue : ByteArray := prog_8_method_14_code
def yX6_formValue : MethodName := ⟨RX6, "formValue", "(I)I"⟩
abbrev cX6_change : ByteArray := prog_8_method_15_code
def yX6_change : MethodName := ⟨RX6, "change", "(II)V"⟩
abbrev cX6_layPoints : ByteArray := prog_8_method_16_code
def yX6_layPoints : MethodName := ⟨RX6, "layPoints", "(I)V"⟩
abbrev cX6_meet : ByteArray := prog_8_method_17_code
def yX6_meet : MethodName := ⟨RX6, "meet", "(II)V"⟩
abbrev cX6_pass : ByteArray := prog_8_method_18_code
def yX6_pass : MethodName := ⟨RX6, "pass", "(III)V"⟩
abbrev cX6_readEquations : ByteArray := prog_8_method_19_code
def yX6_readEquations : MethodName := ⟨RX6, "readEquations", "(I)V"⟩
abbrev cX6_analyse : ByteArray := prog_8_method_20_code
def yX6_analyse : MethodName := ⟨RX6, "analyse", "()I"⟩
abbrev cX6_asked : ByteArray := prog_8_method_21_code
def yX6_asked : MethodName := ⟨RX6, "asked", "(I)I"⟩
abbrev cX6_points : ByteArray := prog_8_method_22_code
def yX6_points : MethodName := ⟨RX6, "points", "(I)I"⟩
abbrev cX6_point : ByteArray := prog_8_method_23_code
def yX6_point : MethodName := ⟨RX6, "point", "(III)I"⟩
abbrev cX6_equations : ByteArray := prog_8_method_24_code
def yX6_equations : MethodName := ⟨RX6, "equations", "(I)I"⟩
abbrev cX6_coefficient : ByteArray := prog_8_method_25_code
def yX6_coefficient : MethodName := ⟨RX6, "coefficient", "(III)I"⟩
abbrev cX6_holds : ByteArray := prog_8_method_26_code
def yX6_holds : MethodName := ⟨RX6, "holds", "(I)Z"⟩
abbrev cX6_begin : ByteArray := prog_8_method_27_code
def yX6_begin : MethodName := ⟨RX6, "begin", "(II)V"⟩
abbrev cX6_go : ByteArray := prog_8_method_28_code
def yX6_go : MethodName := ⟨RX6, "go", "(II)Z"⟩
abbrev cX6_at : ByteArray := prog_8_method_29_code
def yX6_at : MethodName := ⟨RX6, "at", "(I)I"⟩
abbrev cX6_note : ByteArray := prog_8_method_30_code
def yX6_note : MethodName := ⟨RX6, "note", "(I)I"⟩
abbrev cX6_noteAll : ByteArray := prog_8_method_31_code
def yX6_noteAll : MethodName := ⟨RX6, "noteAll", "()I"⟩
abbrev cX6_forget : ByteArray := prog_8_method_32_code
def yX6_forget : MethodName := ⟨RX6, "forget", "()I"⟩
abbrev cX6_layNotes : ByteArray := prog_8_method_33_code
def yX6_layNotes : MethodName := ⟨RX6, "layNotes", "(I)V"⟩
abbrev cX6_layBefore : ByteArray := prog_8_method_34_code
def yX6_layBefore : MethodName := ⟨RX6, "layBefore", "(III)V"⟩
abbrev cX6_follows : ByteArray := prog_8_method_35_code
def yX6_follows : MethodName := ⟨RX6, "follows", "(II)Z"⟩
abbrev cX6_sound : ByteArray := prog_8_method_36_code
def yX6_sound : MethodName := ⟨RX6, "sound", "()Z"⟩
def RJx145de : String := "java/io/Serializable"
def TJx145de : u_T := fun k => match k with
  | _ => ("", "", "", false)
def tyJx145de : Nat → FieldType := fun k => match k with
  | _ => .int
abbrev wsJx145de0 : List Cond := u_ws RJx145de TJx145de 0
theorem nmJx145de : ∀ a, a < 0 → ∀ b, b < 0 → a ≠ b → (TJx145de a).2.1 ≠ (TJx145de b).2.1 := by decide +kernel
theorem tyJx145de_ok : ∀ k, k < 0 → parseFieldDescriptor (TJx145de k).2.2.1 = some (tyJx145de k) := by decide +kernel
def RJ9 : String := "java/lang/Math"
def TJ9 : u_T := fun k => match k with
  | _ => ("", "", "", false)
def tyJ9 : Nat → FieldType := fun k => match k with
  | _ => .int
abbrev wsJ90 : List Cond := u_ws RJ9 TJ9 0
theorem nmJ9 : ∀ a, a < 0 → ∀ b, b < 0 → a ≠ b → (TJ9 a).2.1 ≠ (TJ9 b).2.1 := by decide +kernel
theorem tyJ9_ok : ∀ k, k < 0 → parseFieldDescriptor (TJ9 k).2.2.1 = some (tyJ9 k) := by decide +kernel
abbrev cJ9_floorMod_7cf53 : ByteArray := prog_13_method_50_code
def yJ9_floorMod_7cf53 : MethodName := ⟨RJ9, "floorMod", "(II)I"⟩
abbrev cJ9_max_7cf53 : ByteArray := prog_13_method_65_code
def yJ9_max_7cf53 : MethodName := ⟨RJ9, "max", "(II)I"⟩
abbrev cJ9_min_7cf53 : ByteArray := prog_13_method_69_code
def yJ9_min_7cf53 : MethodName := ⟨RJ9, "min", "(II)I"⟩
def RJ0 : String := "java/lang/String"
def TJ0 : u_T := fun k => match k with
  | _ => ("", "", "", false)
def tyJ0 : Nat → FieldType := fun k => match k with
  | _ => .int
abbrev wsJ00 : List Cond := u_ws RJ0 TJ0 0
theorem nmJ0 : ∀ a, a < 0 → ∀ b, b < 0 → a ≠ b → (TJ0 a).2.1 ≠ (TJ0 b).2.1 := by decide +kernel
theorem tyJ0_ok : ∀ k, k < 0 → parseFieldDescriptor (TJ0 k).2.2.1 = some (tyJ0 k) := by decide +kernel
def RJ10 : String := "java/lang/System"
def TJ10 : u_T := fun k => match k with
  | _ => ("", "", "", false)
def tyJ10 : Nat → FieldType := fun k => match k with
  | _ => .int
abbrev wsJ100 : List Cond := u_ws RJ10 TJ10 0
theorem nmJ10 : ∀ a, a < 0 → ∀ b, b < 0 → a ≠ b → (TJ10 a).2.1 ≠ (TJ10 b).2.1 := by decide +kernel
theorem tyJ10_ok : ∀ k, k < 0 → parseFieldDescriptor (TJ10 k).2.2.1 = some (tyJ10 k) := by decide +kernel
def RJ7 : String := "java/util/Arrays"
def TJ7 : u_T := fun k => match k with
  | _ => ("", "", "", false)
def tyJ7 : Nat → FieldType := fun k => match k with
  | _ => .int
abbrev wsJ70 : List Cond := u_ws RJ7 TJ7 0
theorem nmJ7 : ∀ a, a < 0 → ∀ b, b < 0 → a ≠ b → (TJ7 a).2.1 ≠ (TJ7 b).2.1 := by decide +kernel
theorem tyJ7_ok : ∀ k, k < 0 → parseFieldDescriptor (TJ7 k).2.2.1 = some (tyJ7 k) := by decide +kernel
abbrev cJ7_fill_53178 : ByteArray := prog_19_method_103_code
def yJ7_fill_53178 : MethodName := ⟨RJ7, "fill", "([II)V"⟩
def RL : String := "AffineHullsLaw"
abbrev cL_cell : ByteArray := method_2_code
def yL_cell : MethodName := ⟨RL, "cell", "([II)I"⟩
abbrev cL_term : ByteArray := method_3_code
def yL_term : MethodName := ⟨RL, "term", "(LAffineHulls;II)I"⟩
abbrev cL_edge : ByteArray := method_4_code
def yL_edge : MethodName := ⟨RL, "edge", "(LAffineHulls;IIII[J)I"⟩
abbrev cL_entry : ByteArray := method_5_code
def yL_entry : MethodName := ⟨RL, "entry", "(LAffineHulls;I)I"⟩
abbrev cL_points : ByteArray := method_6_code
def yL_points : MethodName := ⟨RL, "points", "(LAffineHulls;I[J)I"⟩
abbrev cL_point : ByteArray := method_7_code
def yL_point : MethodName := ⟨RL, "point", "(LAffineHulls;III[J)I"⟩
abbrev cL_equations : ByteArray := method_8_code
def yL_equations : MethodName := ⟨RL, "equations", "(LAffineHulls;I[J)I"⟩
abbrev cL_coefficient : ByteArray := method_9_code
def yL_coefficient : MethodName := ⟨RL, "coefficient", "(LAffineHulls;III[J)I"⟩
abbrev cL_holds : ByteArray := method_10_code
def yL_holds : MethodName := ⟨RL, "holds", "(LAffineHulls;I[J)I"⟩
abbrev cL_begin : ByteArray := method_11_code
def yL_begin : MethodName := ⟨RL, "begin", "(LAffineHulls;II)I"⟩
abbrev cL_go : ByteArray := method_12_code
def yL_go : MethodName := ⟨RL, "go", "(LAffineHulls;II[J)I"⟩
abbrev cL_at : ByteArray := method_13_code
def yL_at : MethodName := ⟨RL, "at", "(LAffineHulls;I[J)I"⟩
abbrev cL_note : ByteArray := method_14_code
def yL_note : MethodName := ⟨RL, "note", "(LAffineHulls;I[J)I"⟩
abbrev cL_noteAll : ByteArray := method_15_code
def yL_noteAll : MethodName := ⟨RL, "noteAll", "(LAffineHulls;[J)I"⟩
abbrev cL_law : ByteArray := code
def yL_law : MethodName := ⟨RL, "law", "([I)Z"⟩
def wsX0_init : List Cond := .code yX0_init cX0_init 2 none :: ([.methodLink RX0 3 objectInit, .instanceMethod objectInit, .code objectInit ⟨#[0xb1]⟩ 1 none, .arrayClass .int, .fieldLink RX0 9 "AffineHulls$Edge" "form" "[I"] ++ wsX00)
def wsX5_copy : List Cond := .code yX5_copy cX5_copy 2 none :: ([.methodLink RX5 277 arraycopyName, .native arraycopyName, .static arraycopyName, .initialized "java/lang/System"])
def wsX0_set : List Cond := .code yX0_set cX0_set 6 none :: ([.fieldLink RX0 15 "AffineHulls$Edge" "from" "I", .fieldLink RX0 19 "AffineHulls$Edge" "to" "I", .fieldLink RX0 22 "AffineHulls$Edge" "kind" "I", .fieldLink RX0 25 "AffineHulls$Edge" "variable" "I", .fieldLink RX0 9 "AffineHulls$Edge" "form" "[I", .static yX5_copy, .initialized RX5, .code yX5_copy cX5_copy 2 none, .methodLink RX5 277 arraycopyName, .native arraycopyName, .static arraycopyName, .initialized "java/lang/System"] ++ wsX00)
def wsX5_valueOf : List Cond := .code yX5_valueOf cX5_valueOf 5 (some .int) :: ([.constantLong RX5 275 (65521)])
def wsX0_isOpen : List Cond := .code yX0_isOpen cX0_isOpen 2 (some .boolean) :: ([.fieldLink RX0 22 "AffineHulls$Edge" "kind" "I", .fieldLink RX0 9 "AffineHulls$Edge" "form" "[I", .static yX5_valueOf, .initialized RX5, .code yX5_valueOf cX5_valueOf 5 (some .int), .constantLong RX5 275 (65521)] ++ wsX00)
def wsX0_step : List Cond := .code yX0_step cX0_step 3 none :: ([.fieldLink RX0 22 "AffineHulls$Edge" "kind" "I", .fieldLink RX0 25 "AffineHulls$Edge" "variable" "I", .fieldLink RX0 9 "AffineHulls$Edge" "form" "[I", .static yX5_valueOf, .initialized RX5, .code yX5_valueOf cX5_valueOf 5 (some .int), .constantLong RX5 275 (65521)] ++ wsX00)
def wsX5_addMultiple : List Cond := .code yX5_addMultiple cX5_addMultiple 4 none :: ([.constantLong RX5 275 (65521)])
def wsJ9_floorMod_7cf53 : List Cond := .code yJ9_floorMod_7cf53 cJ9_floorMod_7cf53 3 (some .int) :: ([])
def wsX5_number : List Cond := .code yX5_number cX5_number 1 (some .int) :: ([.constant RX5 271 (65521), .methodLink RX5 272 yJ9_floorMod_7cf53, .static yJ9_floorMod_7cf53, .initialized RJ9, .code yJ9_floorMod_7cf53 cJ9_floorMod_7cf53 3 (some .int)])
def wsX0_stepBack : List Cond := .code yX0_stepBack cX0_stepBack 4 none :: ([.fieldLink RX0 22 "AffineHulls$Edge" "kind" "I", .fieldLink RX0 25 "AffineHulls$Edge" "variable" "I", .fieldLink RX0 9 "AffineHulls$Edge" "form" "[I", .static yX5_addMultiple, .initialized RX5, .code yX5_addMultiple cX5_addMultiple 4 none, .constantLong RX5 275 (65521), .static yX5_number, .code yX5_number cX5_number 1 (some .int), .constant RX5 271 (65521), .methodLink RX5 272 yJ9_floorMod_7cf53, .static yJ9_floorMod_7cf53, .initialized RJ9, .code yJ9_floorMod_7cf53 cJ9_floorMod_7cf53 3 (some .int)] ++ wsX00)
def wsX4_init : List Cond := .code yX4_init cX4_init 2 none :: ([.methodLink RX4 3 objectInit, .instanceMethod objectInit, .code objectInit ⟨#[0xb1]⟩ 1 none, .classLink RX4 9 "[[I", .arrayClass .int, .fieldLink RX4 11 "AffineHulls$Span" "kept" "[[I", .arrayClass .boolean, .fieldLink RX4 16 "AffineHulls$Span" "taken" "[Z", .fieldLink RX4 20 "AffineHulls$Span" "rest" "[I"] ++ wsX40)
def wsX1_init : List Cond := .code yX1_init cX1_init 2 none :: ([.methodLink RX1 1 objectInit, .instanceMethod objectInit, .code objectInit ⟨#[0xb1]⟩ 1 none, .classLink RX1 7 RX4, .instantiable RX4 3, .initialized RX4, .fieldLink RX1 12 "AffineHulls$Hull" "span" "LAffineHulls$Span;", .arrayClass .int, .fieldLink RX1 18 "AffineHulls$Hull" "members" "[I", .methodLink RX1 9 yX4_init, .instanceMethod yX4_init, .code yX4_init cX4_init 2 none, .methodLink RX4 3 objectInit, .classLink RX4 9 "[[I", .fieldLink RX4 11 "AffineHulls$Span" "kept" "[[I", .arrayClass .boolean, .fieldLink RX4 16 "AffineHulls$Span" "taken" "[Z", .fieldLink RX4 20 "AffineHulls$Span" "rest" "[I"] ++ wsX40 ++ wsX10)
def wsX4_clear : List Cond := .code yX4_clear cX4_clear 2 none :: ([.fieldLink RX4 16 "AffineHulls$Span" "taken" "[Z"] ++ wsX40)
def wsX1_clear : List Cond := .code yX1_clear cX1_clear 1 none :: ([.fieldLink RX1 12 "AffineHulls$Hull" "span" "LAffineHulls$Span;", .fieldLink RX1 25 "AffineHulls$Hull" "pointCount" "I", .methodLink RX1 22 yX4_clear, .instanceMethod yX4_clear, .selects RX4 yX4_clear yX4_clear, .initialized RX4, .code yX4_clear cX4_clear 2 none, .fieldLink RX4 16 "AffineHulls$Span" "taken" "[Z"] ++ wsX10 ++ wsX40)
def wsX1_equationCount : List Cond := .code yX1_equationCount cX1_equationCount 1 (some .int) :: ([.fieldLink RX1 18 "AffineHulls$Hull" "members" "[I", .fieldLink RX1 25 "AffineHulls$Hull" "pointCount" "I"] ++ wsX10)
def wsX2_init : List Cond := .code yX2_init cX2_init 2 none :: ([.methodLink RX2 1 objectInit, .instanceMethod objectInit, .code objectInit ⟨#[0xb1]⟩ 1 none, .arrayClass .int, .fieldLink RX2 7 "AffineHulls$Note" "form" "[I"] ++ wsX20)
def wsX2_set : List Cond := .code yX2_set cX2_set 3 none :: ([.fieldLink RX2 13 "AffineHulls$Note" "node" "I", .fieldLink RX2 7 "AffineHulls$Note" "form" "[I", .static yX5_copy, .initialized RX5, .code yX5_copy cX5_copy 2 none, .methodLink RX5 277 arraycopyName, .native arraycopyName, .static arraycopyName, .initialized "java/lang/System"] ++ wsX20)
def wsX3_init : List Cond := .code yX3_init cX3_init 2 none :: ([.methodLink RX3 1 objectInit, .instanceMethod objectInit, .code objectInit ⟨#[0xb1]⟩ 1 none, .arrayClass .int, .fieldLink RX3 7 "AffineHulls$Point" "row" "[I"] ++ wsX30)
def wsX3_set : List Cond := .code yX3_set cX3_set 5 none :: ([.fieldLink RX3 13 "AffineHulls$Point" "node" "I", .fieldLink RX3 17 "AffineHulls$Point" "index" "I", .fieldLink RX3 20 "AffineHulls$Point" "origin" "I", .fieldLink RX3 7 "AffineHulls$Point" "row" "[I", .static yX5_copy, .initialized RX5, .code yX5_copy cX5_copy 2 none, .methodLink RX5 277 arraycopyName, .native arraycopyName, .static arraycopyName, .initialized "java/lang/System"] ++ wsX30)
def wsX4_reduce : List Cond := .code yX4_reduce cX4_reduce 3 none :: ([.fieldLink RX4 20 "AffineHulls$Span" "rest" "[I", .fieldLink RX4 16 "AffineHulls$Span" "taken" "[Z", .constant RX4 46 (65521), .fieldLink RX4 11 "AffineHulls$Span" "kept" "[[I", .static yX5_copy, .initialized RX5, .code yX5_copy cX5_copy 2 none, .methodLink RX5 277 arraycopyName, .native arraycopyName, .static arraycopyName, .initialized "java/lang/System", .static yX5_addMultiple, .code yX5_addMultiple cX5_addMultiple 4 none, .constantLong RX5 275 (65521)] ++ wsX40)
def wsX4_leadingPlace : List Cond := .code yX4_leadingPlace cX4_leadingPlace 2 (some .int) :: ([.fieldLink RX4 20 "AffineHulls$Span" "rest" "[I"] ++ wsX40)
def wsX4_contains : List Cond := .code yX4_contains cX4_contains 2 (some .boolean) :: ([.methodLink RX4 24 yX4_reduce, .instanceMethod yX4_reduce, .selects RX4 yX4_reduce yX4_reduce, .initialized RX4, .code yX4_reduce cX4_reduce 3 none, .fieldLink RX4 20 "AffineHulls$Span" "rest" "[I", .fieldLink RX4 16 "AffineHulls$Span" "taken" "[Z", .constant RX4 46 (65521), .fieldLink RX4 11 "AffineHulls$Span" "kept" "[[I", .static yX5_copy, .initialized RX5, .code yX5_copy cX5_copy 2 none, .methodLink RX5 277 arraycopyName, .native arraycopyName, .static arraycopyName, .initialized "java/lang/System", .static yX5_addMultiple, .code yX5_addMultiple cX5_addMultiple 4 none, .constantLong RX5 275 (65521), .methodLink RX4 28 yX4_leadingPlace, .instanceMethod yX4_leadingPlace, .selects RX4 yX4_leadingPlace yX4_leadingPlace, .code yX4_leadingPlace cX4_leadingPlace 2 (some .int)] ++ wsX40)
def wsJ7_fill_53178 : List Cond := .code yJ7_fill_53178 cJ7_fill_53178 4 none :: ([])
def wsX5_inverse : List Cond := .code yX5_inverse cX5_inverse 6 (some .int) :: ([.constant RX5 283 (65519), .constantLong RX5 275 (65521)])
def wsX4_add_r1 : List Cond := [Cond.fieldLink RX4 11 "AffineHulls$Span" "kept" "[[I", Cond.fieldLink RX4 20 "AffineHulls$Span" "rest" "[I", Cond.fieldLink RX4 16 "AffineHulls$Span" "taken" "[Z", Cond.constant RX4 46 (65521), Cond.methodLink RX4 24 yX4_reduce, Cond.instanceMethod yX4_reduce, Cond.selects RX4 yX4_reduce yX4_reduce, Cond.initialized RX4, Cond.code yX4_reduce cX4_reduce 3 none, Cond.static yX5_copy, Cond.initialized RX5, Cond.code yX5_copy cX5_copy 2 none, Cond.methodLink RX5 277 arraycopyName, Cond.native arraycopyName, Cond.static arraycopyName, Cond.initialized "java/lang/System", Cond.static yX5_addMultiple, Cond.code yX5_addMultiple cX5_addMultiple 4 none, Cond.constantLong RX5 275 (65521), Cond.methodLink RX4 28 yX4_leadingPlace, Cond.instanceMethod yX4_leadingPlace, Cond.selects RX4 yX4_leadingPlace yX4_leadingPlace, Cond.code yX4_leadingPlace cX4_leadingPlace 2 (some .int), Cond.methodLink RX4 32 yJ7_fill_53178]
def wsX4_add_r2 : List Cond := [Cond.static yJ7_fill_53178, Cond.initialized RJ7, Cond.code yJ7_fill_53178 cJ7_fill_53178 4 none, Cond.static yX5_inverse, Cond.code yX5_inverse cX5_inverse 6 (some .int), Cond.constant RX5 283 (65519)]
def wsX4_add : List Cond := .code yX4_add cX4_add 5 (some .boolean) :: ((wsX4_add_r1 ++ wsX4_add_r2) ++ wsX40)
def wsX4_freePlace : List Cond := .code yX4_freePlace cX4_freePlace 4 (some .int) :: ([.fieldLink RX4 16 "AffineHulls$Span" "taken" "[Z"] ++ wsX40)
def wsX4_vanishing : List Cond := .code yX4_vanishing cX4_vanishing 3 (some .int) :: ([.fieldLink RX4 16 "AffineHulls$Span" "taken" "[Z", .fieldLink RX4 11 "AffineHulls$Span" "kept" "[[I", .static yX5_number, .initialized RX5, .code yX5_number cX5_number 1 (some .int), .constant RX5 271 (65521), .methodLink RX5 272 yJ9_floorMod_7cf53, .static yJ9_floorMod_7cf53, .initialized RJ9, .code yJ9_floorMod_7cf53 cJ9_floorMod_7cf53 3 (some .int)] ++ wsX40)
def wsX5_init_r1 : List Cond := [Cond.methodLink RX5 1 objectInit, Cond.instanceMethod objectInit, Cond.code objectInit ⟨#[0xb1]⟩ 1 none, Cond.methodLink RX5 9 Lib.Math.min.name, Cond.static Lib.Math.min.name, Cond.initialized "java/lang/Math", Cond.code Lib.Math.min.name Lib.Math.min.code 2 (some .int), Cond.methodLink RX5 15 Lib.Math.max.name, Cond.static Lib.Math.max.name, Cond.code Lib.Math.max.name Lib.Math.max.code 2 (some .int), Cond.fieldLink RX5 18 "AffineHulls" "variables" "I", Cond.arrayClass .int, Cond.fieldLink RX5 22 "AffineHulls" "draft" "[I", Cond.fieldLink RX5 26 "AffineHulls" "work" "[I", Cond.fieldLink RX5 29 "AffineHulls" "values" "[I", Cond.classLink RX5 32 RX4, Cond.instantiable RX4 3, Cond.initialized RX4, Cond.fieldLink RX5 37 "AffineHulls" "noteSpan" "LAffineHulls$Span;", Cond.classLink RX5 41 RX0, Cond.fieldLink RX5 43 "AffineHulls" "edges" "[LAffineHulls$Edge;", Cond.instantiable RX0 5, Cond.initialized RX0, Cond.classLink RX5 48 RX2]
def wsX5_init_r2 : List Cond := [Cond.fieldLink RX5 50 "AffineHulls" "notes" "[LAffineHulls$Note;", Cond.instantiable RX2 2, Cond.initialized RX2, Cond.classLink RX5 55 RX1, Cond.fieldLink RX5 57 "AffineHulls" "hulls" "[LAffineHulls$Hull;", Cond.instantiable RX1 3, Cond.initialized RX1, Cond.classLink RX5 62 RX3, Cond.fieldLink RX5 64 "AffineHulls" "arrivals" "[LAffineHulls$Point;", Cond.instantiable RX3 4, Cond.initialized RX3, Cond.methodLink RX5 34 yX4_init, Cond.instanceMethod yX4_init, Cond.code yX4_init cX4_init 2 none, Cond.methodLink RX4 3 objectInit, Cond.classLink RX4 9 "[[I", Cond.fieldLink RX4 11 "AffineHulls$Span" "kept" "[[I", Cond.arrayClass .boolean, Cond.fieldLink RX4 16 "AffineHulls$Span" "taken" "[Z", Cond.fieldLink RX4 20 "AffineHulls$Span" "rest" "[I", Cond.methodLink RX5 47 yX0_init, Cond.instanceMethod yX0_init, Cond.code yX0_init cX0_init 2 none, Cond.methodLink RX0 3 objectInit]
def wsX5_init_r3 : List Cond := [Cond.fieldLink RX0 9 "AffineHulls$Edge" "form" "[I", Cond.methodLink RX5 54 yX2_init, Cond.instanceMethod yX2_init, Cond.code yX2_init cX2_init 2 none, Cond.methodLink RX2 1 objectInit, Cond.fieldLink RX2 7 "AffineHulls$Note" "form" "[I", Cond.methodLink RX5 61 yX1_init, Cond.instanceMethod yX1_init, Cond.code yX1_init cX1_init 2 none, Cond.methodLink RX1 1 objectInit, Cond.classLink RX1 7 RX4, Cond.fieldLink RX1 12 "AffineHulls$Hull" "span" "LAffineHulls$Span;", Cond.fieldLink RX1 18 "AffineHulls$Hull" "members" "[I", Cond.methodLink RX1 9 yX4_init, Cond.methodLink RX5 68 yX3_init, Cond.instanceMethod yX3_init, Cond.code yX3_init cX3_init 2 none, Cond.methodLink RX3 1 objectInit, Cond.fieldLink RX3 7 "AffineHulls$Point" "row" "[I"]
def wsX5_init : List Cond := .code yX5_init cX5_init 6 none :: ((wsX5_init_r1 ++ (wsX5_init_r2 ++ wsX5_init_r3)) ++ wsX50 ++ wsX40 ++ wsX00 ++ wsX20 ++ wsX10 ++ wsX30)
def wsX5_requirePlace : List Cond := .code yX5_requirePlace cX5_requirePlace 2 none :: ([.classLink RX5 79 "java/lang/IllegalArgumentException", .initialized "java/lang/IllegalArgumentException", .fieldLink RX5 18 "AffineHulls" "variables" "I"] ++ wsX50 ++ (vx_atS RX5 83 "java/lang/IllegalArgumentException" ["java/lang/RuntimeException", "java/lang/Exception"]).filter goodWord)
def wsX5_term : List Cond := .code yX5_term cX5_term 3 none :: ([.fieldLink RX5 22 "AffineHulls" "draft" "[I", .methodLink RX5 69 yX5_requirePlace, .instanceMethod yX5_requirePlace, .selects RX5 yX5_requirePlace yX5_requirePlace, .initialized RX5, .code yX5_requirePlace cX5_requirePlace 2 none, .classLink RX5 79 "java/lang/IllegalArgumentException", .initialized "java/lang/IllegalArgumentException", .fieldLink RX5 18 "AffineHulls" "variables" "I", .methodLink RX5 72 yX5_number, .static yX5_number, .code yX5_number cX5_number 1 (some .int), .constant RX5 271 (65521), .methodLink RX5 272 yJ9_floorMod_7cf53, .static yJ9_floorMod_7cf53, .initialized RJ9, .code yJ9_floorMod_7cf53 cJ9_floorMod_7cf53 3 (some .int)] ++ wsX50 ++ (vx_atS RX5 83 "java/lang/IllegalArgumentException" ["java/lang/RuntimeException", "java/lang/Exception"]).filter goodWord)
def wsX5_requireNode : List Cond := .code yX5_requireNode cX5_requireNode 2 none :: ([.classLink RX5 79 "java/lang/IllegalArgumentException", .initialized "java/lang/IllegalArgumentException", .fieldLink RX5 57 "AffineHulls" "hulls" "[LAffineHulls$Hull;"] ++ wsX50 ++ (vx_atS RX5 83 "java/lang/IllegalArgumentException" ["java/lang/RuntimeException", "java/lang/Exception"]).filter goodWord)
def wsX5_requireVariable : List Cond := .code yX5_requireVariable cX5_requireVariable 2 none :: ([.classLink RX5 79 "java/lang/IllegalArgumentException", .initialized "java/lang/IllegalArgumentException", .fieldLink RX5 18 "AffineHulls" "variables" "I"] ++ wsX50 ++ (vx_atS RX5 83 "java/lang/IllegalArgumentException" ["java/lang/RuntimeException", "java/lang/Exception"]).filter goodWord)
def wsX5_clearDraft : List Cond := .code yX5_clearDraft cX5_clearDraft 1 none :: ([.fieldLink RX5 22 "AffineHulls" "draft" "[I", .methodLink RX5 215 yJ7_fill_53178, .static yJ7_fill_53178, .initialized RJ7, .code yJ7_fill_53178 cJ7_fill_53178 4 none] ++ wsX50)
def wsX5_edge_r1 : List Cond := [Cond.classLink RX5 79 "java/lang/IllegalArgumentException", Cond.initialized "java/lang/IllegalArgumentException", Cond.classLink RX5 92 "java/lang/IllegalStateException", Cond.initialized "java/lang/IllegalStateException", Cond.fieldLink RX5 89 "AffineHulls" "edgeCount" "I", Cond.fieldLink RX5 43 "AffineHulls" "edges" "[LAffineHulls$Edge;", Cond.fieldLink RX5 22 "AffineHulls" "draft" "[I", Cond.fieldLink RX5 104 "AffineHulls" "analysed" "Z", Cond.methodLink RX5 76 yX5_requireNode, Cond.instanceMethod yX5_requireNode, Cond.selects RX5 yX5_requireNode yX5_requireNode, Cond.initialized RX5, Cond.code yX5_requireNode cX5_requireNode 2 none, Cond.fieldLink RX5 57 "AffineHulls" "hulls" "[LAffineHulls$Hull;", Cond.methodLink RX5 86 yX5_requireVariable, Cond.instanceMethod yX5_requireVariable, Cond.selects RX5 yX5_requireVariable yX5_requireVariable, Cond.code yX5_requireVariable cX5_requireVariable 2 none, Cond.fieldLink RX5 18 "AffineHulls" "variables" "I", Cond.methodLink RX5 97 yX0_set, Cond.instanceMethod yX0_set, Cond.selects RX0 yX0_set yX0_set, Cond.initialized RX0, Cond.code yX0_set cX0_set 6 none]
def wsX5_edge_r2 : List Cond := [Cond.fieldLink RX0 15 "AffineHulls$Edge" "from" "I", Cond.fieldLink RX0 19 "AffineHulls$Edge" "to" "I", Cond.fieldLink RX0 22 "AffineHulls$Edge" "kind" "I", Cond.fieldLink RX0 25 "AffineHulls$Edge" "variable" "I", Cond.fieldLink RX0 9 "AffineHulls$Edge" "form" "[I", Cond.static yX5_copy, Cond.code yX5_copy cX5_copy 2 none, Cond.methodLink RX5 277 arraycopyName, Cond.native arraycopyName, Cond.static arraycopyName, Cond.initialized "java/lang/System", Cond.methodLink RX5 101 yX5_clearDraft, Cond.instanceMethod yX5_clearDraft, Cond.selects RX5 yX5_clearDraft yX5_clearDraft, Cond.code yX5_clearDraft cX5_clearDraft 1 none, Cond.methodLink RX5 215 yJ7_fill_53178, Cond.static yJ7_fill_53178, Cond.initialized RJ7, Cond.code yJ7_fill_53178 cJ7_fill_53178 4 none]
def wsX5_edge : List Cond := .code yX5_edge cX5_edge 5 (some .int) :: ((wsX5_edge_r1 ++ wsX5_edge_r2) ++ wsX50 ++ wsX00 ++ (vx_atS RX5 83 "java/lang/IllegalArgumentException" ["java/lang/RuntimeException", "java/lang/Exception"]).filter goodWord ++ (vx_atS RX5 96 "java/lang/IllegalStateException" ["java/lang/RuntimeException", "java/lang/Exception"]).filter goodWord)
def wsX5_entry : List Cond := .code yX5_entry cX5_entry 2 none :: ([.fieldLink RX5 108 "AffineHulls" "entryNode" "I", .fieldLink RX5 111 "AffineHulls" "place" "I", .fieldLink RX5 104 "AffineHulls" "analysed" "Z", .methodLink RX5 76 yX5_requireNode, .instanceMethod yX5_requireNode, .selects RX5 yX5_requireNode yX5_requireNode, .initialized RX5, .code yX5_requireNode cX5_requireNode 2 none, .classLink RX5 79 "java/lang/IllegalArgumentException", .initialized "java/lang/IllegalArgumentException", .fieldLink RX5 57 "AffineHulls" "hulls" "[LAffineHulls$Hull;"] ++ wsX50 ++ (vx_atS RX5 83 "java/lang/IllegalArgumentException" ["java/lang/RuntimeException", "java/lang/Exception"]).filter goodWord)
def wsX5_forgetPoints : List Cond := .code yX5_forgetPoints cX5_forgetPoints 2 none :: ([.fieldLink RX5 120 "AffineHulls" "arrivalCount" "I", .fieldLink RX5 57 "AffineHulls" "hulls" "[LAffineHulls$Hull;", .methodLink RX5 220 yX1_clear, .instanceMethod yX1_clear, .selects RX1 yX1_clear yX1_clear, .initialized RX1, .code yX1_clear cX1_clear 1 none, .fieldLink RX1 12 "AffineHulls$Hull" "span" "LAffineHulls$Span;", .fieldLink RX1 25 "AffineHulls$Hull" "pointCount" "I", .methodLink RX1 22 yX4_clear, .instanceMethod yX4_clear, .selects RX4 yX4_clear yX4_clear, .initialized RX4, .code yX4_clear cX4_clear 2 none, .fieldLink RX4 16 "AffineHulls$Span" "taken" "[Z"] ++ wsX50 ++ wsX10 ++ wsX40)
def wsX5_addPoint_r1 : List Cond := [Cond.fieldLink RX5 57 "AffineHulls" "hulls" "[LAffineHulls$Hull;", Cond.fieldLink RX5 120 "AffineHulls" "arrivalCount" "I", Cond.fieldLink RX5 64 "AffineHulls" "arrivals" "[LAffineHulls$Point;", Cond.fieldLink RX5 153 "AffineHulls$Hull" "span" "LAffineHulls$Span;", Cond.fieldLink RX5 130 "AffineHulls$Hull" "pointCount" "I", Cond.fieldLink RX5 138 "AffineHulls$Hull" "members" "[I", Cond.methodLink RX5 242 yX4_add, Cond.instanceMethod yX4_add, Cond.selects RX4 yX4_add yX4_add, Cond.initialized RX4, Cond.code yX4_add cX4_add 5 (some .boolean), Cond.fieldLink RX4 11 "AffineHulls$Span" "kept" "[[I", Cond.fieldLink RX4 20 "AffineHulls$Span" "rest" "[I", Cond.fieldLink RX4 16 "AffineHulls$Span" "taken" "[Z", Cond.constant RX4 46 (65521), Cond.methodLink RX4 24 yX4_reduce, Cond.instanceMethod yX4_reduce, Cond.selects RX4 yX4_reduce yX4_reduce, Cond.code yX4_reduce cX4_reduce 3 none, Cond.static yX5_copy, Cond.initialized RX5, Cond.code yX5_copy cX5_copy 2 none, Cond.methodLink RX5 277 arraycopyName, Cond.native arraycopyName]
def wsX5_addPoint_r2 : List Cond := [Cond.static arraycopyName, Cond.initialized "java/lang/System", Cond.static yX5_addMultiple, Cond.code yX5_addMultiple cX5_addMultiple 4 none, Cond.constantLong RX5 275 (65521), Cond.methodLink RX4 28 yX4_leadingPlace, Cond.instanceMethod yX4_leadingPlace, Cond.selects RX4 yX4_leadingPlace yX4_leadingPlace, Cond.code yX4_leadingPlace cX4_leadingPlace 2 (some .int), Cond.methodLink RX4 32 yJ7_fill_53178, Cond.static yJ7_fill_53178, Cond.initialized RJ7, Cond.code yJ7_fill_53178 cJ7_fill_53178 4 none, Cond.static yX5_inverse, Cond.code yX5_inverse cX5_inverse 6 (some .int), Cond.constant RX5 283 (65519), Cond.methodLink RX5 245 yX3_set, Cond.instanceMethod yX3_set, Cond.selects RX3 yX3_set yX3_set, Cond.initialized RX3, Cond.code yX3_set cX3_set 5 none, Cond.fieldLink RX3 13 "AffineHulls$Point" "node" "I", Cond.fieldLink RX3 17 "AffineHulls$Point" "index" "I", Cond.fieldLink RX3 20 "AffineHulls$Point" "origin" "I"]
def wsX5_addPoint_r3 : List Cond := [Cond.fieldLink RX3 7 "AffineHulls$Point" "row" "[I"]
def wsX5_addPoint : List Cond := .code yX5_addPoint cX5_addPoint 5 none :: ((wsX5_addPoint_r1 ++ (wsX5_addPoint_r2 ++ wsX5_addPoint_r3)) ++ wsX50 ++ wsX10 ++ wsX40 ++ wsX30)
def wsX5_addFirstPoints_r1 : List Cond := [Cond.fieldLink RX5 18 "AffineHulls" "variables" "I", Cond.fieldLink RX5 26 "AffineHulls" "work" "[I", Cond.fieldLink RX5 108 "AffineHulls" "entryNode" "I", Cond.methodLink RX5 215 yJ7_fill_53178, Cond.static yJ7_fill_53178, Cond.initialized RJ7, Cond.code yJ7_fill_53178 cJ7_fill_53178 4 none, Cond.methodLink RX5 223 yX5_addPoint, Cond.instanceMethod yX5_addPoint, Cond.selects RX5 yX5_addPoint yX5_addPoint, Cond.initialized RX5, Cond.code yX5_addPoint cX5_addPoint 5 none, Cond.fieldLink RX5 57 "AffineHulls" "hulls" "[LAffineHulls$Hull;", Cond.fieldLink RX5 120 "AffineHulls" "arrivalCount" "I", Cond.fieldLink RX5 64 "AffineHulls" "arrivals" "[LAffineHulls$Point;", Cond.fieldLink RX5 153 "AffineHulls$Hull" "span" "LAffineHulls$Span;", Cond.fieldLink RX5 130 "AffineHulls$Hull" "pointCount" "I", Cond.fieldLink RX5 138 "AffineHulls$Hull" "members" "[I", Cond.methodLink RX5 242 yX4_add, Cond.instanceMethod yX4_add, Cond.selects RX4 yX4_add yX4_add, Cond.initialized RX4, Cond.code yX4_add cX4_add 5 (some .boolean), Cond.fieldLink RX4 11 "AffineHulls$Span" "kept" "[[I"]
def wsX5_addFirstPoints_r2 : List Cond := [Cond.fieldLink RX4 20 "AffineHulls$Span" "rest" "[I", Cond.fieldLink RX4 16 "AffineHulls$Span" "taken" "[Z", Cond.constant RX4 46 (65521), Cond.methodLink RX4 24 yX4_reduce, Cond.instanceMethod yX4_reduce, Cond.selects RX4 yX4_reduce yX4_reduce, Cond.code yX4_reduce cX4_reduce 3 none, Cond.static yX5_copy, Cond.code yX5_copy cX5_copy 2 none, Cond.methodLink RX5 277 arraycopyName, Cond.native arraycopyName, Cond.static arraycopyName, Cond.initialized "java/lang/System", Cond.static yX5_addMultiple, Cond.code yX5_addMultiple cX5_addMultiple 4 none, Cond.constantLong RX5 275 (65521), Cond.methodLink RX4 28 yX4_leadingPlace, Cond.instanceMethod yX4_leadingPlace, Cond.selects RX4 yX4_leadingPlace yX4_leadingPlace, Cond.code yX4_leadingPlace cX4_leadingPlace 2 (some .int), Cond.methodLink RX4 32 yJ7_fill_53178, Cond.static yX5_inverse, Cond.code yX5_inverse cX5_inverse 6 (some .int), Cond.constant RX5 283 (65519)]
def wsX5_addFirstPoints_r3 : List Cond := [Cond.methodLink RX5 245 yX3_set, Cond.instanceMethod yX3_set, Cond.selects RX3 yX3_set yX3_set, Cond.initialized RX3, Cond.code yX3_set cX3_set 5 none, Cond.fieldLink RX3 13 "AffineHulls$Point" "node" "I", Cond.fieldLink RX3 17 "AffineHulls$Point" "index" "I", Cond.fieldLink RX3 20 "AffineHulls$Point" "origin" "I", Cond.fieldLink RX3 7 "AffineHulls$Point" "row" "[I"]
def wsX5_addFirstPoints : List Cond := .code yX5_addFirstPoints cX5_addFirstPoints 2 none :: ((wsX5_addFirstPoints_r1 ++ (wsX5_addFirstPoints_r2 ++ wsX5_addFirstPoints_r3)) ++ wsX50 ++ wsX10 ++ wsX40 ++ wsX30)
def wsX5_follow_r1 : List Cond := [Cond.fieldLink RX5 144 "AffineHulls$Point" "row" "[I", Cond.fieldLink RX5 26 "AffineHulls" "work" "[I", Cond.fieldLink RX5 43 "AffineHulls" "edges" "[LAffineHulls$Edge;", Cond.fieldLink RX5 227 "AffineHulls$Point" "node" "I", Cond.fieldLink RX5 239 "AffineHulls$Point" "index" "I", Cond.fieldLink RX5 181 "AffineHulls$Edge" "to" "I", Cond.methodLink RX5 235 yX5_copy, Cond.static yX5_copy, Cond.initialized RX5, Cond.code yX5_copy cX5_copy 2 none, Cond.methodLink RX5 277 arraycopyName, Cond.native arraycopyName, Cond.static arraycopyName, Cond.initialized "java/lang/System", Cond.methodLink RX5 177 yX0_step, Cond.instanceMethod yX0_step, Cond.selects RX0 yX0_step yX0_step, Cond.initialized RX0, Cond.code yX0_step cX0_step 3 none, Cond.fieldLink RX0 22 "AffineHulls$Edge" "kind" "I", Cond.fieldLink RX0 25 "AffineHulls$Edge" "variable" "I", Cond.fieldLink RX0 9 "AffineHulls$Edge" "form" "[I", Cond.static yX5_valueOf, Cond.code yX5_valueOf cX5_valueOf 5 (some .int)]
def wsX5_follow_r2 : List Cond := [Cond.constantLong RX5 275 (65521), Cond.methodLink RX5 223 yX5_addPoint, Cond.instanceMethod yX5_addPoint, Cond.selects RX5 yX5_addPoint yX5_addPoint, Cond.code yX5_addPoint cX5_addPoint 5 none, Cond.fieldLink RX5 57 "AffineHulls" "hulls" "[LAffineHulls$Hull;", Cond.fieldLink RX5 120 "AffineHulls" "arrivalCount" "I", Cond.fieldLink RX5 64 "AffineHulls" "arrivals" "[LAffineHulls$Point;", Cond.fieldLink RX5 153 "AffineHulls$Hull" "span" "LAffineHulls$Span;", Cond.fieldLink RX5 130 "AffineHulls$Hull" "pointCount" "I", Cond.fieldLink RX5 138 "AffineHulls$Hull" "members" "[I", Cond.methodLink RX5 242 yX4_add, Cond.instanceMethod yX4_add, Cond.selects RX4 yX4_add yX4_add, Cond.initialized RX4, Cond.code yX4_add cX4_add 5 (some .boolean), Cond.fieldLink RX4 11 "AffineHulls$Span" "kept" "[[I", Cond.fieldLink RX4 20 "AffineHulls$Span" "rest" "[I", Cond.fieldLink RX4 16 "AffineHulls$Span" "taken" "[Z", Cond.constant RX4 46 (65521), Cond.methodLink RX4 24 yX4_reduce, Cond.instanceMethod yX4_reduce, Cond.selects RX4 yX4_reduce yX4_reduce, Cond.code yX4_reduce cX4_reduce 3 none]
def wsX5_follow_r3 : List Cond := [Cond.static yX5_addMultiple, Cond.code yX5_addMultiple cX5_addMultiple 4 none, Cond.methodLink RX4 28 yX4_leadingPlace, Cond.instanceMethod yX4_leadingPlace, Cond.selects RX4 yX4_leadingPlace yX4_leadingPlace, Cond.code yX4_leadingPlace cX4_leadingPlace 2 (some .int), Cond.methodLink RX4 32 yJ7_fill_53178, Cond.static yJ7_fill_53178, Cond.initialized RJ7, Cond.code yJ7_fill_53178 cJ7_fill_53178 4 none, Cond.static yX5_inverse, Cond.code yX5_inverse cX5_inverse 6 (some .int), Cond.constant RX5 283 (65519), Cond.methodLink RX5 245 yX3_set, Cond.instanceMethod yX3_set, Cond.selects RX3 yX3_set yX3_set, Cond.initialized RX3, Cond.code yX3_set cX3_set 5 none, Cond.fieldLink RX3 13 "AffineHulls$Point" "node" "I", Cond.fieldLink RX3 17 "AffineHulls$Point" "index" "I", Cond.fieldLink RX3 20 "AffineHulls$Point" "origin" "I", Cond.fieldLink RX3 7 "AffineHulls$Point" "row" "[I"]
def wsX5_follow : List Cond := .code yX5_follow cX5_follow 5 none :: ((wsX5_follow_r1 ++ (wsX5_follow_r2 ++ wsX5_follow_r3)) ++ wsX30 ++ wsX50 ++ wsX00 ++ wsX10 ++ wsX40)
def wsX5_workOff_r1 : List Cond := [Cond.fieldLink RX5 89 "AffineHulls" "edgeCount" "I", Cond.fieldLink RX5 43 "AffineHulls" "edges" "[LAffineHulls$Edge;", Cond.fieldLink RX5 168 "AffineHulls$Edge" "from" "I", Cond.fieldLink RX5 227 "AffineHulls$Point" "node" "I", Cond.fieldLink RX5 232 "AffineHulls$Edge" "kind" "I", Cond.methodLink RX5 228 yX5_follow, Cond.instanceMethod yX5_follow, Cond.selects RX5 yX5_follow yX5_follow, Cond.initialized RX5, Cond.code yX5_follow cX5_follow 5 none, Cond.fieldLink RX5 144 "AffineHulls$Point" "row" "[I", Cond.fieldLink RX5 26 "AffineHulls" "work" "[I", Cond.fieldLink RX5 239 "AffineHulls$Point" "index" "I", Cond.fieldLink RX5 181 "AffineHulls$Edge" "to" "I", Cond.methodLink RX5 235 yX5_copy, Cond.static yX5_copy, Cond.code yX5_copy cX5_copy 2 none, Cond.methodLink RX5 277 arraycopyName, Cond.native arraycopyName, Cond.static arraycopyName, Cond.initialized "java/lang/System", Cond.methodLink RX5 177 yX0_step, Cond.instanceMethod yX0_step, Cond.selects RX0 yX0_step yX0_step]
def wsX5_workOff_r2 : List Cond := [Cond.initialized RX0, Cond.code yX0_step cX0_step 3 none, Cond.fieldLink RX0 22 "AffineHulls$Edge" "kind" "I", Cond.fieldLink RX0 25 "AffineHulls$Edge" "variable" "I", Cond.fieldLink RX0 9 "AffineHulls$Edge" "form" "[I", Cond.static yX5_valueOf, Cond.code yX5_valueOf cX5_valueOf 5 (some .int), Cond.constantLong RX5 275 (65521), Cond.methodLink RX5 223 yX5_addPoint, Cond.instanceMethod yX5_addPoint, Cond.selects RX5 yX5_addPoint yX5_addPoint, Cond.code yX5_addPoint cX5_addPoint 5 none, Cond.fieldLink RX5 57 "AffineHulls" "hulls" "[LAffineHulls$Hull;", Cond.fieldLink RX5 120 "AffineHulls" "arrivalCount" "I", Cond.fieldLink RX5 64 "AffineHulls" "arrivals" "[LAffineHulls$Point;", Cond.fieldLink RX5 153 "AffineHulls$Hull" "span" "LAffineHulls$Span;", Cond.fieldLink RX5 130 "AffineHulls$Hull" "pointCount" "I", Cond.fieldLink RX5 138 "AffineHulls$Hull" "members" "[I", Cond.methodLink RX5 242 yX4_add, Cond.instanceMethod yX4_add, Cond.selects RX4 yX4_add yX4_add, Cond.initialized RX4, Cond.code yX4_add cX4_add 5 (some .boolean), Cond.fieldLink RX4 11 "AffineHulls$Span" "kept" "[[I"]
def wsX5_workOff_r3 : List Cond := [Cond.fieldLink RX4 20 "AffineHulls$Span" "rest" "[I", Cond.fieldLink RX4 16 "AffineHulls$Span" "taken" "[Z", Cond.constant RX4 46 (65521), Cond.methodLink RX4 24 yX4_reduce, Cond.instanceMethod yX4_reduce, Cond.selects RX4 yX4_reduce yX4_reduce, Cond.code yX4_reduce cX4_reduce 3 none, Cond.static yX5_addMultiple, Cond.code yX5_addMultiple cX5_addMultiple 4 none, Cond.methodLink RX4 28 yX4_leadingPlace, Cond.instanceMethod yX4_leadingPlace, Cond.selects RX4 yX4_leadingPlace yX4_leadingPlace, Cond.code yX4_leadingPlace cX4_leadingPlace 2 (some .int), Cond.methodLink RX4 32 yJ7_fill_53178, Cond.static yJ7_fill_53178, Cond.initialized RJ7, Cond.code yJ7_fill_53178 cJ7_fill_53178 4 none, Cond.static yX5_inverse, Cond.code yX5_inverse cX5_inverse 6 (some .int), Cond.constant RX5 283 (65519), Cond.methodLink RX5 245 yX3_set, Cond.instanceMethod yX3_set, Cond.selects RX3 yX3_set yX3_set, Cond.initialized RX3]
def wsX5_workOff_r4 : List Cond := [Cond.code yX3_set cX3_set 5 none, Cond.fieldLink RX3 13 "AffineHulls$Point" "node" "I", Cond.fieldLink RX3 17 "AffineHulls$Point" "index" "I", Cond.fieldLink RX3 20 "AffineHulls$Point" "origin" "I", Cond.fieldLink RX3 7 "AffineHulls$Point" "row" "[I"]
def wsX5_workOff : List Cond := .code yX5_workOff cX5_workOff 3 none :: ((wsX5_workOff_r1 ++ (wsX5_workOff_r2 ++ (wsX5_workOff_r3 ++ wsX5_workOff_r4))) ++ wsX50 ++ wsX00 ++ wsX30 ++ wsX10 ++ wsX40)
def wsX5_analyse_r1 : List Cond := [Cond.fieldLink RX5 64 "AffineHulls" "arrivals" "[LAffineHulls$Point;", Cond.fieldLink RX5 120 "AffineHulls" "arrivalCount" "I", Cond.fieldLink RX5 104 "AffineHulls" "analysed" "Z", Cond.methodLink RX5 114 yX5_forgetPoints, Cond.instanceMethod yX5_forgetPoints, Cond.selects RX5 yX5_forgetPoints yX5_forgetPoints, Cond.initialized RX5, Cond.code yX5_forgetPoints cX5_forgetPoints 2 none, Cond.fieldLink RX5 57 "AffineHulls" "hulls" "[LAffineHulls$Hull;", Cond.methodLink RX5 220 yX1_clear, Cond.instanceMethod yX1_clear, Cond.selects RX1 yX1_clear yX1_clear, Cond.initialized RX1, Cond.code yX1_clear cX1_clear 1 none, Cond.fieldLink RX1 12 "AffineHulls$Hull" "span" "LAffineHulls$Span;", Cond.fieldLink RX1 25 "AffineHulls$Hull" "pointCount" "I", Cond.methodLink RX1 22 yX4_clear, Cond.instanceMethod yX4_clear, Cond.selects RX4 yX4_clear yX4_clear, Cond.initialized RX4, Cond.code yX4_clear cX4_clear 2 none, Cond.fieldLink RX4 16 "AffineHulls$Span" "taken" "[Z", Cond.methodLink RX5 117 yX5_addFirstPoints, Cond.instanceMethod yX5_addFirstPoints]
def wsX5_analyse_r2 : List Cond := [Cond.selects RX5 yX5_addFirstPoints yX5_addFirstPoints, Cond.code yX5_addFirstPoints cX5_addFirstPoints 2 none, Cond.fieldLink RX5 18 "AffineHulls" "variables" "I", Cond.fieldLink RX5 26 "AffineHulls" "work" "[I", Cond.fieldLink RX5 108 "AffineHulls" "entryNode" "I", Cond.methodLink RX5 215 yJ7_fill_53178, Cond.static yJ7_fill_53178, Cond.initialized RJ7, Cond.code yJ7_fill_53178 cJ7_fill_53178 4 none, Cond.methodLink RX5 223 yX5_addPoint, Cond.instanceMethod yX5_addPoint, Cond.selects RX5 yX5_addPoint yX5_addPoint, Cond.code yX5_addPoint cX5_addPoint 5 none, Cond.fieldLink RX5 153 "AffineHulls$Hull" "span" "LAffineHulls$Span;", Cond.fieldLink RX5 130 "AffineHulls$Hull" "pointCount" "I", Cond.fieldLink RX5 138 "AffineHulls$Hull" "members" "[I", Cond.methodLink RX5 242 yX4_add, Cond.instanceMethod yX4_add, Cond.selects RX4 yX4_add yX4_add, Cond.code yX4_add cX4_add 5 (some .boolean), Cond.fieldLink RX4 11 "AffineHulls$Span" "kept" "[[I", Cond.fieldLink RX4 20 "AffineHulls$Span" "rest" "[I", Cond.constant RX4 46 (65521), Cond.methodLink RX4 24 yX4_reduce]
def wsX5_analyse_r3 : List Cond := [Cond.instanceMethod yX4_reduce, Cond.selects RX4 yX4_reduce yX4_reduce, Cond.code yX4_reduce cX4_reduce 3 none, Cond.static yX5_copy, Cond.code yX5_copy cX5_copy 2 none, Cond.methodLink RX5 277 arraycopyName, Cond.native arraycopyName, Cond.static arraycopyName, Cond.initialized "java/lang/System", Cond.static yX5_addMultiple, Cond.code yX5_addMultiple cX5_addMultiple 4 none, Cond.constantLong RX5 275 (65521), Cond.methodLink RX4 28 yX4_leadingPlace, Cond.instanceMethod yX4_leadingPlace, Cond.selects RX4 yX4_leadingPlace yX4_leadingPlace, Cond.code yX4_leadingPlace cX4_leadingPlace 2 (some .int), Cond.methodLink RX4 32 yJ7_fill_53178, Cond.static yX5_inverse, Cond.code yX5_inverse cX5_inverse 6 (some .int), Cond.constant RX5 283 (65519), Cond.methodLink RX5 245 yX3_set, Cond.instanceMethod yX3_set, Cond.selects RX3 yX3_set yX3_set, Cond.initialized RX3]
def wsX5_analyse_r4 : List Cond := [Cond.code yX3_set cX3_set 5 none, Cond.fieldLink RX3 13 "AffineHulls$Point" "node" "I", Cond.fieldLink RX3 17 "AffineHulls$Point" "index" "I", Cond.fieldLink RX3 20 "AffineHulls$Point" "origin" "I", Cond.fieldLink RX3 7 "AffineHulls$Point" "row" "[I", Cond.methodLink RX5 123 yX5_workOff, Cond.instanceMethod yX5_workOff, Cond.selects RX5 yX5_workOff yX5_workOff, Cond.code yX5_workOff cX5_workOff 3 none, Cond.fieldLink RX5 89 "AffineHulls" "edgeCount" "I", Cond.fieldLink RX5 43 "AffineHulls" "edges" "[LAffineHulls$Edge;", Cond.fieldLink RX5 168 "AffineHulls$Edge" "from" "I", Cond.fieldLink RX5 227 "AffineHulls$Point" "node" "I", Cond.fieldLink RX5 232 "AffineHulls$Edge" "kind" "I", Cond.methodLink RX5 228 yX5_follow, Cond.instanceMethod yX5_follow, Cond.selects RX5 yX5_follow yX5_follow, Cond.code yX5_follow cX5_follow 5 none, Cond.fieldLink RX5 144 "AffineHulls$Point" "row" "[I", Cond.fieldLink RX5 239 "AffineHulls$Point" "index" "I", Cond.fieldLink RX5 181 "AffineHulls$Edge" "to" "I", Cond.methodLink RX5 235 yX5_copy, Cond.methodLink RX5 177 yX0_step, Cond.instanceMethod yX0_step]
def wsX5_analyse_r5 : List Cond := [Cond.selects RX0 yX0_step yX0_step, Cond.initialized RX0, Cond.code yX0_step cX0_step 3 none, Cond.fieldLink RX0 22 "AffineHulls$Edge" "kind" "I", Cond.fieldLink RX0 25 "AffineHulls$Edge" "variable" "I", Cond.fieldLink RX0 9 "AffineHulls$Edge" "form" "[I", Cond.static yX5_valueOf, Cond.code yX5_valueOf cX5_valueOf 5 (some .int)]
def wsX5_analyse : List Cond := .code yX5_analyse cX5_analyse 2 (some .int) :: ((wsX5_analyse_r1 ++ (wsX5_analyse_r2 ++ (wsX5_analyse_r3 ++ (wsX5_analyse_r4 ++ wsX5_analyse_r5)))) ++ wsX50 ++ wsX10 ++ wsX40 ++ wsX30 ++ wsX00)
def wsX5_requireAnalysed : List Cond := .code yX5_requireAnalysed cX5_requireAnalysed 1 none :: ([.classLink RX5 92 "java/lang/IllegalStateException", .initialized "java/lang/IllegalStateException", .fieldLink RX5 104 "AffineHulls" "analysed" "Z"] ++ wsX50 ++ (vx_atS RX5 96 "java/lang/IllegalStateException" ["java/lang/RuntimeException", "java/lang/Exception"]).filter goodWord)
def wsX5_points : List Cond := .code yX5_points cX5_points 2 (some .int) :: ([.fieldLink RX5 57 "AffineHulls" "hulls" "[LAffineHulls$Hull;", .fieldLink RX5 130 "AffineHulls$Hull" "pointCount" "I", .methodLink RX5 76 yX5_requireNode, .instanceMethod yX5_requireNode, .selects RX5 yX5_requireNode yX5_requireNode, .initialized RX5, .code yX5_requireNode cX5_requireNode 2 none, .classLink RX5 79 "java/lang/IllegalArgumentException", .initialized "java/lang/IllegalArgumentException", .methodLink RX5 127 yX5_requireAnalysed, .instanceMethod yX5_requireAnalysed, .selects RX5 yX5_requireAnalysed yX5_requireAnalysed, .code yX5_requireAnalysed cX5_requireAnalysed 1 none, .classLink RX5 92 "java/lang/IllegalStateException", .initialized "java/lang/IllegalStateException", .fieldLink RX5 104 "AffineHulls" "analysed" "Z"] ++ wsX50 ++ wsX10 ++ (vx_atS RX5 83 "java/lang/IllegalArgumentException" ["java/lang/RuntimeException", "java/lang/Exception"]).filter goodWord ++ (vx_atS RX5 96 "java/lang/IllegalStateException" ["java/lang/RuntimeException", "java/lang/Exception"]).filter goodWord)
def wsX5_point_r1 : List Cond := [Cond.classLink RX5 133 "java/lang/IndexOutOfBoundsException", Cond.initialized "java/lang/IndexOutOfBoundsException", Cond.fieldLink RX5 57 "AffineHulls" "hulls" "[LAffineHulls$Hull;", Cond.fieldLink RX5 130 "AffineHulls$Hull" "pointCount" "I", Cond.fieldLink RX5 64 "AffineHulls" "arrivals" "[LAffineHulls$Point;", Cond.fieldLink RX5 138 "AffineHulls$Hull" "members" "[I", Cond.fieldLink RX5 141 "AffineHulls$Point" "origin" "I", Cond.fieldLink RX5 144 "AffineHulls$Point" "row" "[I", Cond.methodLink RX5 76 yX5_requireNode, Cond.instanceMethod yX5_requireNode, Cond.selects RX5 yX5_requireNode yX5_requireNode, Cond.initialized RX5, Cond.code yX5_requireNode cX5_requireNode 2 none, Cond.classLink RX5 79 "java/lang/IllegalArgumentException", Cond.initialized "java/lang/IllegalArgumentException", Cond.methodLink RX5 69 yX5_requirePlace, Cond.instanceMethod yX5_requirePlace, Cond.selects RX5 yX5_requirePlace yX5_requirePlace, Cond.code yX5_requirePlace cX5_requirePlace 2 none, Cond.fieldLink RX5 18 "AffineHulls" "variables" "I", Cond.methodLink RX5 127 yX5_requireAnalysed, Cond.instanceMethod yX5_requireAnalysed, Cond.selects RX5 yX5_requireAnalysed yX5_requireAnalysed, Cond.code yX5_requireAnalysed cX5_requireAnalysed 1 none]
def wsX5_point_r2 : List Cond := [Cond.classLink RX5 92 "java/lang/IllegalStateException", Cond.initialized "java/lang/IllegalStateException", Cond.fieldLink RX5 104 "AffineHulls" "analysed" "Z"]
def wsX5_point : List Cond := .code yX5_point cX5_point 6 (some .int) :: ((wsX5_point_r1 ++ wsX5_point_r2) ++ wsX50 ++ wsX10 ++ wsX30 ++ (vx_atS RX5 137 "java/lang/IndexOutOfBoundsException" ["java/lang/RuntimeException", "java/lang/Exception"]).filter goodWord ++ (vx_atS RX5 83 "java/lang/IllegalArgumentException" ["java/lang/RuntimeException", "java/lang/Exception"]).filter goodWord ++ (vx_atS RX5 96 "java/lang/IllegalStateException" ["java/lang/RuntimeException", "java/lang/Exception"]).filter goodWord)
def wsX5_equations : List Cond := .code yX5_equations cX5_equations 2 (some .int) :: ([.fieldLink RX5 57 "AffineHulls" "hulls" "[LAffineHulls$Hull;", .methodLink RX5 76 yX5_requireNode, .instanceMethod yX5_requireNode, .selects RX5 yX5_requireNode yX5_requireNode, .initialized RX5, .code yX5_requireNode cX5_requireNode 2 none, .classLink RX5 79 "java/lang/IllegalArgumentException", .initialized "java/lang/IllegalArgumentException", .methodLink RX5 127 yX5_requireAnalysed, .instanceMethod yX5_requireAnalysed, .selects RX5 yX5_requireAnalysed yX5_requireAnalysed, .code yX5_requireAnalysed cX5_requireAnalysed 1 none, .classLink RX5 92 "java/lang/IllegalStateException", .initialized "java/lang/IllegalStateException", .fieldLink RX5 104 "AffineHulls" "analysed" "Z", .methodLink RX5 147 yX1_equationCount, .instanceMethod yX1_equationCount, .selects RX1 yX1_equationCount yX1_equationCount, .initialized RX1, .code yX1_equationCount cX1_equationCount 1 (some .int), .fieldLink RX1 18 "AffineHulls$Hull" "members" "[I", .fieldLink RX1 25 "AffineHulls$Hull" "pointCount" "I"] ++ wsX50 ++ wsX10 ++ (vx_atS RX5 83 "java/lang/IllegalArgumentException" ["java/lang/RuntimeException", "java/lang/Exception"]).filter goodWord ++ (vx_atS RX5 96 "java/lang/IllegalStateException" ["java/lang/RuntimeException", "java/lang/Exception"]).filter goodWord)
def wsX5_coefficient_r1 : List Cond := [Cond.classLink RX5 133 "java/lang/IndexOutOfBoundsException", Cond.initialized "java/lang/IndexOutOfBoundsException", Cond.fieldLink RX5 57 "AffineHulls" "hulls" "[LAffineHulls$Hull;", Cond.fieldLink RX5 153 "AffineHulls$Hull" "span" "LAffineHulls$Span;", Cond.methodLink RX5 76 yX5_requireNode, Cond.instanceMethod yX5_requireNode, Cond.selects RX5 yX5_requireNode yX5_requireNode, Cond.initialized RX5, Cond.code yX5_requireNode cX5_requireNode 2 none, Cond.classLink RX5 79 "java/lang/IllegalArgumentException", Cond.initialized "java/lang/IllegalArgumentException", Cond.methodLink RX5 69 yX5_requirePlace, Cond.instanceMethod yX5_requirePlace, Cond.selects RX5 yX5_requirePlace yX5_requirePlace, Cond.code yX5_requirePlace cX5_requirePlace 2 none, Cond.fieldLink RX5 18 "AffineHulls" "variables" "I", Cond.methodLink RX5 127 yX5_requireAnalysed, Cond.instanceMethod yX5_requireAnalysed, Cond.selects RX5 yX5_requireAnalysed yX5_requireAnalysed, Cond.code yX5_requireAnalysed cX5_requireAnalysed 1 none, Cond.classLink RX5 92 "java/lang/IllegalStateException", Cond.initialized "java/lang/IllegalStateException", Cond.fieldLink RX5 104 "AffineHulls" "analysed" "Z", Cond.methodLink RX5 147 yX1_equationCount]
def wsX5_coefficient_r2 : List Cond := [Cond.instanceMethod yX1_equationCount, Cond.selects RX1 yX1_equationCount yX1_equationCount, Cond.initialized RX1, Cond.code yX1_equationCount cX1_equationCount 1 (some .int), Cond.fieldLink RX1 18 "AffineHulls$Hull" "members" "[I", Cond.fieldLink RX1 25 "AffineHulls$Hull" "pointCount" "I", Cond.methodLink RX5 156 yX4_freePlace, Cond.instanceMethod yX4_freePlace, Cond.selects RX4 yX4_freePlace yX4_freePlace, Cond.initialized RX4, Cond.code yX4_freePlace cX4_freePlace 4 (some .int), Cond.fieldLink RX4 16 "AffineHulls$Span" "taken" "[Z", Cond.methodLink RX5 159 yX4_vanishing, Cond.instanceMethod yX4_vanishing, Cond.selects RX4 yX4_vanishing yX4_vanishing, Cond.code yX4_vanishing cX4_vanishing 3 (some .int), Cond.fieldLink RX4 11 "AffineHulls$Span" "kept" "[[I", Cond.static yX5_number, Cond.code yX5_number cX5_number 1 (some .int), Cond.constant RX5 271 (65521), Cond.methodLink RX5 272 yJ9_floorMod_7cf53, Cond.static yJ9_floorMod_7cf53, Cond.initialized RJ9, Cond.code yJ9_floorMod_7cf53 cJ9_floorMod_7cf53 3 (some .int)]
def wsX5_coefficient : List Cond := .code yX5_coefficient cX5_coefficient 5 (some .int) :: ((wsX5_coefficient_r1 ++ wsX5_coefficient_r2) ++ wsX50 ++ wsX10 ++ wsX40 ++ (vx_atS RX5 137 "java/lang/IndexOutOfBoundsException" ["java/lang/RuntimeException", "java/lang/Exception"]).filter goodWord ++ (vx_atS RX5 83 "java/lang/IllegalArgumentException" ["java/lang/RuntimeException", "java/lang/Exception"]).filter goodWord ++ (vx_atS RX5 96 "java/lang/IllegalStateException" ["java/lang/RuntimeException", "java/lang/Exception"]).filter goodWord)
def wsX5_holdsAtPoints : List Cond := .code yX5_holdsAtPoints cX5_holdsAtPoints 3 (some .boolean) :: ([.fieldLink RX5 130 "AffineHulls$Hull" "pointCount" "I", .fieldLink RX5 22 "AffineHulls" "draft" "[I", .fieldLink RX5 64 "AffineHulls" "arrivals" "[LAffineHulls$Point;", .fieldLink RX5 138 "AffineHulls$Hull" "members" "[I", .fieldLink RX5 144 "AffineHulls$Point" "row" "[I", .methodLink RX5 248 yX5_valueOf, .static yX5_valueOf, .initialized RX5, .code yX5_valueOf cX5_valueOf 5 (some .int), .constantLong RX5 275 (65521)] ++ wsX10 ++ wsX50 ++ wsX30)
def wsX5_holds_r1 : List Cond := [Cond.fieldLink RX5 57 "AffineHulls" "hulls" "[LAffineHulls$Hull;", Cond.methodLink RX5 76 yX5_requireNode, Cond.instanceMethod yX5_requireNode, Cond.selects RX5 yX5_requireNode yX5_requireNode, Cond.initialized RX5, Cond.code yX5_requireNode cX5_requireNode 2 none, Cond.classLink RX5 79 "java/lang/IllegalArgumentException", Cond.initialized "java/lang/IllegalArgumentException", Cond.methodLink RX5 127 yX5_requireAnalysed, Cond.instanceMethod yX5_requireAnalysed, Cond.selects RX5 yX5_requireAnalysed yX5_requireAnalysed, Cond.code yX5_requireAnalysed cX5_requireAnalysed 1 none, Cond.classLink RX5 92 "java/lang/IllegalStateException", Cond.initialized "java/lang/IllegalStateException", Cond.fieldLink RX5 104 "AffineHulls" "analysed" "Z", Cond.methodLink RX5 162 yX5_holdsAtPoints, Cond.instanceMethod yX5_holdsAtPoints, Cond.selects RX5 yX5_holdsAtPoints yX5_holdsAtPoints, Cond.code yX5_holdsAtPoints cX5_holdsAtPoints 3 (some .boolean), Cond.fieldLink RX5 130 "AffineHulls$Hull" "pointCount" "I", Cond.fieldLink RX5 22 "AffineHulls" "draft" "[I", Cond.fieldLink RX5 64 "AffineHulls" "arrivals" "[LAffineHulls$Point;", Cond.fieldLink RX5 138 "AffineHulls$Hull" "members" "[I", Cond.fieldLink RX5 144 "AffineHulls$Point" "row" "[I"]
def wsX5_holds_r2 : List Cond := [Cond.methodLink RX5 248 yX5_valueOf, Cond.static yX5_valueOf, Cond.code yX5_valueOf cX5_valueOf 5 (some .int), Cond.constantLong RX5 275 (65521), Cond.methodLink RX5 101 yX5_clearDraft, Cond.instanceMethod yX5_clearDraft, Cond.selects RX5 yX5_clearDraft yX5_clearDraft, Cond.code yX5_clearDraft cX5_clearDraft 1 none, Cond.methodLink RX5 215 yJ7_fill_53178, Cond.static yJ7_fill_53178, Cond.initialized RJ7, Cond.code yJ7_fill_53178 cJ7_fill_53178 4 none]
def wsX5_holds : List Cond := .code yX5_holds cX5_holds 3 (some .boolean) :: ((wsX5_holds_r1 ++ wsX5_holds_r2) ++ wsX50 ++ wsX10 ++ wsX30 ++ (vx_atS RX5 83 "java/lang/IllegalArgumentException" ["java/lang/RuntimeException", "java/lang/Exception"]).filter goodWord ++ (vx_atS RX5 96 "java/lang/IllegalStateException" ["java/lang/RuntimeException", "java/lang/Exception"]).filter goodWord)
def wsX5_begin : List Cond := .code yX5_begin cX5_begin 3 none :: ([.fieldLink RX5 29 "AffineHulls" "values" "[I", .fieldLink RX5 108 "AffineHulls" "entryNode" "I", .fieldLink RX5 111 "AffineHulls" "place" "I", .methodLink RX5 86 yX5_requireVariable, .instanceMethod yX5_requireVariable, .selects RX5 yX5_requireVariable yX5_requireVariable, .initialized RX5, .code yX5_requireVariable cX5_requireVariable 2 none, .classLink RX5 79 "java/lang/IllegalArgumentException", .initialized "java/lang/IllegalArgumentException", .fieldLink RX5 18 "AffineHulls" "variables" "I", .methodLink RX5 72 yX5_number, .static yX5_number, .code yX5_number cX5_number 1 (some .int), .constant RX5 271 (65521), .methodLink RX5 272 yJ9_floorMod_7cf53, .static yJ9_floorMod_7cf53, .initialized RJ9, .code yJ9_floorMod_7cf53 cJ9_floorMod_7cf53 3 (some .int)] ++ wsX50 ++ (vx_atS RX5 83 "java/lang/IllegalArgumentException" ["java/lang/RuntimeException", "java/lang/Exception"]).filter goodWord)
def wsX5_go_r1 : List Cond := [Cond.classLink RX5 79 "java/lang/IllegalArgumentException", Cond.initialized "java/lang/IllegalArgumentException", Cond.fieldLink RX5 89 "AffineHulls" "edgeCount" "I", Cond.fieldLink RX5 43 "AffineHulls" "edges" "[LAffineHulls$Edge;", Cond.fieldLink RX5 168 "AffineHulls$Edge" "from" "I", Cond.fieldLink RX5 111 "AffineHulls" "place" "I", Cond.fieldLink RX5 29 "AffineHulls" "values" "[I", Cond.fieldLink RX5 181 "AffineHulls$Edge" "to" "I", Cond.methodLink RX5 173 yX0_isOpen, Cond.instanceMethod yX0_isOpen, Cond.selects RX0 yX0_isOpen yX0_isOpen, Cond.initialized RX0, Cond.code yX0_isOpen cX0_isOpen 2 (some .boolean), Cond.fieldLink RX0 22 "AffineHulls$Edge" "kind" "I", Cond.fieldLink RX0 9 "AffineHulls$Edge" "form" "[I", Cond.static yX5_valueOf, Cond.initialized RX5, Cond.code yX5_valueOf cX5_valueOf 5 (some .int), Cond.constantLong RX5 275 (65521), Cond.methodLink RX5 72 yX5_number, Cond.static yX5_number, Cond.code yX5_number cX5_number 1 (some .int), Cond.constant RX5 271 (65521), Cond.methodLink RX5 272 yJ9_floorMod_7cf53]
def wsX5_go_r2 : List Cond := [Cond.static yJ9_floorMod_7cf53, Cond.initialized RJ9, Cond.code yJ9_floorMod_7cf53 cJ9_floorMod_7cf53 3 (some .int), Cond.methodLink RX5 177 yX0_step, Cond.instanceMethod yX0_step, Cond.selects RX0 yX0_step yX0_step, Cond.code yX0_step cX0_step 3 none, Cond.fieldLink RX0 25 "AffineHulls$Edge" "variable" "I"]
def wsX5_go : List Cond := .code yX5_go cX5_go 4 (some .boolean) :: ((wsX5_go_r1 ++ wsX5_go_r2) ++ wsX50 ++ wsX00 ++ (vx_atS RX5 83 "java/lang/IllegalArgumentException" ["java/lang/RuntimeException", "java/lang/Exception"]).filter goodWord)
def wsX5_at : List Cond := .code yX5_at cX5_at 2 (some .int) :: ([.fieldLink RX5 111 "AffineHulls" "place" "I", .fieldLink RX5 29 "AffineHulls" "values" "[I", .methodLink RX5 69 yX5_requirePlace, .instanceMethod yX5_requirePlace, .selects RX5 yX5_requirePlace yX5_requirePlace, .initialized RX5, .code yX5_requirePlace cX5_requirePlace 2 none, .classLink RX5 79 "java/lang/IllegalArgumentException", .initialized "java/lang/IllegalArgumentException", .fieldLink RX5 18 "AffineHulls" "variables" "I"] ++ wsX50 ++ (vx_atS RX5 83 "java/lang/IllegalArgumentException" ["java/lang/RuntimeException", "java/lang/Exception"]).filter goodWord)
def wsX5_note_r1 : List Cond := [Cond.classLink RX5 92 "java/lang/IllegalStateException", Cond.initialized "java/lang/IllegalStateException", Cond.fieldLink RX5 184 "AffineHulls" "noteCount" "I", Cond.fieldLink RX5 50 "AffineHulls" "notes" "[LAffineHulls$Note;", Cond.fieldLink RX5 22 "AffineHulls" "draft" "[I", Cond.methodLink RX5 76 yX5_requireNode, Cond.instanceMethod yX5_requireNode, Cond.selects RX5 yX5_requireNode yX5_requireNode, Cond.initialized RX5, Cond.code yX5_requireNode cX5_requireNode 2 none, Cond.classLink RX5 79 "java/lang/IllegalArgumentException", Cond.initialized "java/lang/IllegalArgumentException", Cond.fieldLink RX5 57 "AffineHulls" "hulls" "[LAffineHulls$Hull;", Cond.methodLink RX5 189 yX2_set, Cond.instanceMethod yX2_set, Cond.selects RX2 yX2_set yX2_set, Cond.initialized RX2, Cond.code yX2_set cX2_set 3 none, Cond.fieldLink RX2 13 "AffineHulls$Note" "node" "I", Cond.fieldLink RX2 7 "AffineHulls$Note" "form" "[I", Cond.static yX5_copy, Cond.code yX5_copy cX5_copy 2 none, Cond.methodLink RX5 277 arraycopyName, Cond.native arraycopyName]
def wsX5_note_r2 : List Cond := [Cond.static arraycopyName, Cond.initialized "java/lang/System", Cond.methodLink RX5 101 yX5_clearDraft, Cond.instanceMethod yX5_clearDraft, Cond.selects RX5 yX5_clearDraft yX5_clearDraft, Cond.code yX5_clearDraft cX5_clearDraft 1 none, Cond.methodLink RX5 215 yJ7_fill_53178, Cond.static yJ7_fill_53178, Cond.initialized RJ7, Cond.code yJ7_fill_53178 cJ7_fill_53178 4 none]
def wsX5_note : List Cond := .code yX5_note cX5_note 2 (some .int) :: ((wsX5_note_r1 ++ wsX5_note_r2) ++ wsX50 ++ wsX20 ++ (vx_atS RX5 96 "java/lang/IllegalStateException" ["java/lang/RuntimeException", "java/lang/Exception"]).filter goodWord ++ (vx_atS RX5 83 "java/lang/IllegalArgumentException" ["java/lang/RuntimeException", "java/lang/Exception"]).filter goodWord)
def wsX5_noteEquations_r1 : List Cond := [Cond.fieldLink RX5 57 "AffineHulls" "hulls" "[LAffineHulls$Hull;", Cond.fieldLink RX5 153 "AffineHulls$Hull" "span" "LAffineHulls$Span;", Cond.fieldLink RX5 18 "AffineHulls" "variables" "I", Cond.fieldLink RX5 26 "AffineHulls" "work" "[I", Cond.fieldLink RX5 50 "AffineHulls" "notes" "[LAffineHulls$Note;", Cond.fieldLink RX5 184 "AffineHulls" "noteCount" "I", Cond.methodLink RX5 147 yX1_equationCount, Cond.instanceMethod yX1_equationCount, Cond.selects RX1 yX1_equationCount yX1_equationCount, Cond.initialized RX1, Cond.code yX1_equationCount cX1_equationCount 1 (some .int), Cond.fieldLink RX1 18 "AffineHulls$Hull" "members" "[I", Cond.fieldLink RX1 25 "AffineHulls$Hull" "pointCount" "I", Cond.methodLink RX5 156 yX4_freePlace, Cond.instanceMethod yX4_freePlace, Cond.selects RX4 yX4_freePlace yX4_freePlace, Cond.initialized RX4, Cond.code yX4_freePlace cX4_freePlace 4 (some .int), Cond.fieldLink RX4 16 "AffineHulls$Span" "taken" "[Z", Cond.methodLink RX5 159 yX4_vanishing, Cond.instanceMethod yX4_vanishing, Cond.selects RX4 yX4_vanishing yX4_vanishing, Cond.code yX4_vanishing cX4_vanishing 3 (some .int), Cond.fieldLink RX4 11 "AffineHulls$Span" "kept" "[[I"]
def wsX5_noteEquations_r2 : List Cond := [Cond.static yX5_number, Cond.initialized RX5, Cond.code yX5_number cX5_number 1 (some .int), Cond.constant RX5 271 (65521), Cond.methodLink RX5 272 yJ9_floorMod_7cf53, Cond.static yJ9_floorMod_7cf53, Cond.initialized RJ9, Cond.code yJ9_floorMod_7cf53 cJ9_floorMod_7cf53 3 (some .int), Cond.methodLink RX5 189 yX2_set, Cond.instanceMethod yX2_set, Cond.selects RX2 yX2_set yX2_set, Cond.initialized RX2, Cond.code yX2_set cX2_set 3 none, Cond.fieldLink RX2 13 "AffineHulls$Note" "node" "I", Cond.fieldLink RX2 7 "AffineHulls$Note" "form" "[I", Cond.static yX5_copy, Cond.code yX5_copy cX5_copy 2 none, Cond.methodLink RX5 277 arraycopyName, Cond.native arraycopyName, Cond.static arraycopyName, Cond.initialized "java/lang/System"]
def wsX5_noteEquations : List Cond := .code yX5_noteEquations cX5_noteEquations 7 none :: ((wsX5_noteEquations_r1 ++ wsX5_noteEquations_r2) ++ wsX50 ++ wsX10 ++ wsX40 ++ wsX20)
def wsX5_noteAll_r1 : List Cond := [Cond.classLink RX5 192 "java/lang/UnsupportedOperationException", Cond.initialized "java/lang/UnsupportedOperationException", Cond.fieldLink RX5 57 "AffineHulls" "hulls" "[LAffineHulls$Hull;", Cond.fieldLink RX5 184 "AffineHulls" "noteCount" "I", Cond.methodLink RX5 127 yX5_requireAnalysed, Cond.instanceMethod yX5_requireAnalysed, Cond.selects RX5 yX5_requireAnalysed yX5_requireAnalysed, Cond.initialized RX5, Cond.code yX5_requireAnalysed cX5_requireAnalysed 1 none, Cond.classLink RX5 92 "java/lang/IllegalStateException", Cond.initialized "java/lang/IllegalStateException", Cond.fieldLink RX5 104 "AffineHulls" "analysed" "Z", Cond.methodLink RX5 147 yX1_equationCount, Cond.instanceMethod yX1_equationCount, Cond.selects RX1 yX1_equationCount yX1_equationCount, Cond.initialized RX1, Cond.code yX1_equationCount cX1_equationCount 1 (some .int), Cond.fieldLink RX1 18 "AffineHulls$Hull" "members" "[I", Cond.fieldLink RX1 25 "AffineHulls$Hull" "pointCount" "I", Cond.methodLink RX5 197 yX5_noteEquations, Cond.instanceMethod yX5_noteEquations, Cond.selects RX5 yX5_noteEquations yX5_noteEquations, Cond.code yX5_noteEquations cX5_noteEquations 7 none, Cond.fieldLink RX5 153 "AffineHulls$Hull" "span" "LAffineHulls$Span;"]
def wsX5_noteAll_r2 : List Cond := [Cond.fieldLink RX5 18 "AffineHulls" "variables" "I", Cond.fieldLink RX5 26 "AffineHulls" "work" "[I", Cond.fieldLink RX5 50 "AffineHulls" "notes" "[LAffineHulls$Note;", Cond.methodLink RX5 156 yX4_freePlace, Cond.instanceMethod yX4_freePlace, Cond.selects RX4 yX4_freePlace yX4_freePlace, Cond.initialized RX4, Cond.code yX4_freePlace cX4_freePlace 4 (some .int), Cond.fieldLink RX4 16 "AffineHulls$Span" "taken" "[Z", Cond.methodLink RX5 159 yX4_vanishing, Cond.instanceMethod yX4_vanishing, Cond.selects RX4 yX4_vanishing yX4_vanishing, Cond.code yX4_vanishing cX4_vanishing 3 (some .int), Cond.fieldLink RX4 11 "AffineHulls$Span" "kept" "[[I", Cond.static yX5_number, Cond.code yX5_number cX5_number 1 (some .int), Cond.constant RX5 271 (65521), Cond.methodLink RX5 272 yJ9_floorMod_7cf53, Cond.static yJ9_floorMod_7cf53, Cond.initialized RJ9, Cond.code yJ9_floorMod_7cf53 cJ9_floorMod_7cf53 3 (some .int), Cond.methodLink RX5 189 yX2_set, Cond.instanceMethod yX2_set, Cond.selects RX2 yX2_set yX2_set]
def wsX5_noteAll_r3 : List Cond := [Cond.initialized RX2, Cond.code yX2_set cX2_set 3 none, Cond.fieldLink RX2 13 "AffineHulls$Note" "node" "I", Cond.fieldLink RX2 7 "AffineHulls$Note" "form" "[I", Cond.static yX5_copy, Cond.code yX5_copy cX5_copy 2 none, Cond.methodLink RX5 277 arraycopyName, Cond.native arraycopyName, Cond.static arraycopyName, Cond.initialized "java/lang/System"]
def wsX5_noteAll : List Cond := .code yX5_noteAll cX5_noteAll 3 (some .int) :: ((wsX5_noteAll_r1 ++ (wsX5_noteAll_r2 ++ wsX5_noteAll_r3)) ++ wsX50 ++ wsX10 ++ wsX40 ++ wsX20 ++ (vx_atS RX5 196 "java/lang/UnsupportedOperationException" ["java/lang/RuntimeException", "java/lang/Exception"]).filter goodWord ++ (vx_atS RX5 96 "java/lang/IllegalStateException" ["java/lang/RuntimeException", "java/lang/Exception"]).filter goodWord)
def wsX5_forget : List Cond := .code yX5_forget cX5_forget 2 (some .int) :: ([.fieldLink RX5 184 "AffineHulls" "noteCount" "I"] ++ wsX50)
def wsX5_spanNotesBefore_r1 : List Cond := [Cond.fieldLink RX5 37 "AffineHulls" "noteSpan" "LAffineHulls$Span;", Cond.fieldLink RX5 184 "AffineHulls" "noteCount" "I", Cond.fieldLink RX5 50 "AffineHulls" "notes" "[LAffineHulls$Note;", Cond.fieldLink RX5 200 "AffineHulls$Note" "node" "I", Cond.fieldLink RX5 168 "AffineHulls$Edge" "from" "I", Cond.fieldLink RX5 261 "AffineHulls$Note" "form" "[I", Cond.fieldLink RX5 232 "AffineHulls$Edge" "kind" "I", Cond.fieldLink RX5 264 "AffineHulls$Edge" "form" "[I", Cond.methodLink RX5 260 yX4_clear, Cond.instanceMethod yX4_clear, Cond.selects RX4 yX4_clear yX4_clear, Cond.initialized RX4, Cond.code yX4_clear cX4_clear 2 none, Cond.fieldLink RX4 16 "AffineHulls$Span" "taken" "[Z", Cond.methodLink RX5 242 yX4_add, Cond.instanceMethod yX4_add, Cond.selects RX4 yX4_add yX4_add, Cond.code yX4_add cX4_add 5 (some .boolean), Cond.fieldLink RX4 11 "AffineHulls$Span" "kept" "[[I", Cond.fieldLink RX4 20 "AffineHulls$Span" "rest" "[I", Cond.constant RX4 46 (65521), Cond.methodLink RX4 24 yX4_reduce, Cond.instanceMethod yX4_reduce, Cond.selects RX4 yX4_reduce yX4_reduce]
def wsX5_spanNotesBefore_r2 : List Cond := [Cond.code yX4_reduce cX4_reduce 3 none, Cond.static yX5_copy, Cond.initialized RX5, Cond.code yX5_copy cX5_copy 2 none, Cond.methodLink RX5 277 arraycopyName, Cond.native arraycopyName, Cond.static arraycopyName, Cond.initialized "java/lang/System", Cond.static yX5_addMultiple, Cond.code yX5_addMultiple cX5_addMultiple 4 none, Cond.constantLong RX5 275 (65521), Cond.methodLink RX4 28 yX4_leadingPlace, Cond.instanceMethod yX4_leadingPlace, Cond.selects RX4 yX4_leadingPlace yX4_leadingPlace, Cond.code yX4_leadingPlace cX4_leadingPlace 2 (some .int), Cond.methodLink RX4 32 yJ7_fill_53178, Cond.static yJ7_fill_53178, Cond.initialized RJ7, Cond.code yJ7_fill_53178 cJ7_fill_53178 4 none, Cond.static yX5_inverse, Cond.code yX5_inverse cX5_inverse 6 (some .int), Cond.constant RX5 283 (65519)]
def wsX5_spanNotesBefore : List Cond := .code yX5_spanNotesBefore cX5_spanNotesBefore 3 none :: ((wsX5_spanNotesBefore_r1 ++ wsX5_spanNotesBefore_r2) ++ wsX50 ++ wsX20 ++ wsX00 ++ wsX40)
def wsX5_followsBefore_r1 : List Cond := [Cond.fieldLink RX5 261 "AffineHulls$Note" "form" "[I", Cond.fieldLink RX5 26 "AffineHulls" "work" "[I", Cond.fieldLink RX5 37 "AffineHulls" "noteSpan" "LAffineHulls$Span;", Cond.methodLink RX5 235 yX5_copy, Cond.static yX5_copy, Cond.initialized RX5, Cond.code yX5_copy cX5_copy 2 none, Cond.methodLink RX5 277 arraycopyName, Cond.native arraycopyName, Cond.static arraycopyName, Cond.initialized "java/lang/System", Cond.methodLink RX5 265 yX0_stepBack, Cond.instanceMethod yX0_stepBack, Cond.selects RX0 yX0_stepBack yX0_stepBack, Cond.initialized RX0, Cond.code yX0_stepBack cX0_stepBack 4 none, Cond.fieldLink RX0 22 "AffineHulls$Edge" "kind" "I", Cond.fieldLink RX0 25 "AffineHulls$Edge" "variable" "I", Cond.fieldLink RX0 9 "AffineHulls$Edge" "form" "[I", Cond.static yX5_addMultiple, Cond.code yX5_addMultiple cX5_addMultiple 4 none, Cond.constantLong RX5 275 (65521), Cond.static yX5_number, Cond.code yX5_number cX5_number 1 (some .int)]
def wsX5_followsBefore_r2 : List Cond := [Cond.constant RX5 271 (65521), Cond.methodLink RX5 272 yJ9_floorMod_7cf53, Cond.static yJ9_floorMod_7cf53, Cond.initialized RJ9, Cond.code yJ9_floorMod_7cf53 cJ9_floorMod_7cf53 3 (some .int), Cond.methodLink RX5 268 yX4_contains, Cond.instanceMethod yX4_contains, Cond.selects RX4 yX4_contains yX4_contains, Cond.initialized RX4, Cond.code yX4_contains cX4_contains 2 (some .boolean), Cond.methodLink RX4 24 yX4_reduce, Cond.instanceMethod yX4_reduce, Cond.selects RX4 yX4_reduce yX4_reduce, Cond.code yX4_reduce cX4_reduce 3 none, Cond.fieldLink RX4 20 "AffineHulls$Span" "rest" "[I", Cond.fieldLink RX4 16 "AffineHulls$Span" "taken" "[Z", Cond.constant RX4 46 (65521), Cond.fieldLink RX4 11 "AffineHulls$Span" "kept" "[[I", Cond.methodLink RX4 28 yX4_leadingPlace, Cond.instanceMethod yX4_leadingPlace, Cond.selects RX4 yX4_leadingPlace yX4_leadingPlace, Cond.code yX4_leadingPlace cX4_leadingPlace 2 (some .int)]
def wsX5_followsBefore : List Cond := .code yX5_followsBefore cX5_followsBefore 4 (some .boolean) :: ((wsX5_followsBefore_r1 ++ wsX5_followsBefore_r2) ++ wsX20 ++ wsX50 ++ wsX00 ++ wsX40)
def wsX5_keepsNotes_r1 : List Cond := [Cond.fieldLink RX5 184 "AffineHulls" "noteCount" "I", Cond.fieldLink RX5 50 "AffineHulls" "notes" "[LAffineHulls$Note;", Cond.fieldLink RX5 200 "AffineHulls$Note" "node" "I", Cond.fieldLink RX5 181 "AffineHulls$Edge" "to" "I", Cond.fieldLink RX5 232 "AffineHulls$Edge" "kind" "I", Cond.methodLink RX5 252 yX5_spanNotesBefore, Cond.instanceMethod yX5_spanNotesBefore, Cond.selects RX5 yX5_spanNotesBefore yX5_spanNotesBefore, Cond.initialized RX5, Cond.code yX5_spanNotesBefore cX5_spanNotesBefore 3 none, Cond.fieldLink RX5 37 "AffineHulls" "noteSpan" "LAffineHulls$Span;", Cond.fieldLink RX5 168 "AffineHulls$Edge" "from" "I", Cond.fieldLink RX5 261 "AffineHulls$Note" "form" "[I", Cond.fieldLink RX5 264 "AffineHulls$Edge" "form" "[I", Cond.methodLink RX5 260 yX4_clear, Cond.instanceMethod yX4_clear, Cond.selects RX4 yX4_clear yX4_clear, Cond.initialized RX4, Cond.code yX4_clear cX4_clear 2 none, Cond.fieldLink RX4 16 "AffineHulls$Span" "taken" "[Z", Cond.methodLink RX5 242 yX4_add, Cond.instanceMethod yX4_add, Cond.selects RX4 yX4_add yX4_add, Cond.code yX4_add cX4_add 5 (some .boolean)]
def wsX5_keepsNotes_r2 : List Cond := [Cond.fieldLink RX4 11 "AffineHulls$Span" "kept" "[[I", Cond.fieldLink RX4 20 "AffineHulls$Span" "rest" "[I", Cond.constant RX4 46 (65521), Cond.methodLink RX4 24 yX4_reduce, Cond.instanceMethod yX4_reduce, Cond.selects RX4 yX4_reduce yX4_reduce, Cond.code yX4_reduce cX4_reduce 3 none, Cond.static yX5_copy, Cond.code yX5_copy cX5_copy 2 none, Cond.methodLink RX5 277 arraycopyName, Cond.native arraycopyName, Cond.static arraycopyName, Cond.initialized "java/lang/System", Cond.static yX5_addMultiple, Cond.code yX5_addMultiple cX5_addMultiple 4 none, Cond.constantLong RX5 275 (65521), Cond.methodLink RX4 28 yX4_leadingPlace, Cond.instanceMethod yX4_leadingPlace, Cond.selects RX4 yX4_leadingPlace yX4_leadingPlace, Cond.code yX4_leadingPlace cX4_leadingPlace 2 (some .int), Cond.methodLink RX4 32 yJ7_fill_53178, Cond.static yJ7_fill_53178, Cond.initialized RJ7, Cond.code yJ7_fill_53178 cJ7_fill_53178 4 none]
def wsX5_keepsNotes_r3 : List Cond := [Cond.static yX5_inverse, Cond.code yX5_inverse cX5_inverse 6 (some .int), Cond.constant RX5 283 (65519), Cond.methodLink RX5 256 yX5_followsBefore, Cond.instanceMethod yX5_followsBefore, Cond.selects RX5 yX5_followsBefore yX5_followsBefore, Cond.code yX5_followsBefore cX5_followsBefore 4 (some .boolean), Cond.fieldLink RX5 26 "AffineHulls" "work" "[I", Cond.methodLink RX5 235 yX5_copy, Cond.methodLink RX5 265 yX0_stepBack, Cond.instanceMethod yX0_stepBack, Cond.selects RX0 yX0_stepBack yX0_stepBack, Cond.initialized RX0, Cond.code yX0_stepBack cX0_stepBack 4 none, Cond.fieldLink RX0 22 "AffineHulls$Edge" "kind" "I", Cond.fieldLink RX0 25 "AffineHulls$Edge" "variable" "I", Cond.fieldLink RX0 9 "AffineHulls$Edge" "form" "[I", Cond.static yX5_number, Cond.code yX5_number cX5_number 1 (some .int), Cond.constant RX5 271 (65521), Cond.methodLink RX5 272 yJ9_floorMod_7cf53, Cond.static yJ9_floorMod_7cf53, Cond.initialized RJ9, Cond.code yJ9_floorMod_7cf53 cJ9_floorMod_7cf53 3 (some .int)]
def wsX5_keepsNotes_r4 : List Cond := [Cond.methodLink RX5 268 yX4_contains, Cond.instanceMethod yX4_contains, Cond.selects RX4 yX4_contains yX4_contains, Cond.code yX4_contains cX4_contains 2 (some .boolean)]
def wsX5_keepsNotes : List Cond := .code yX5_keepsNotes cX5_keepsNotes 4 (some .boolean) :: ((wsX5_keepsNotes_r1 ++ (wsX5_keepsNotes_r2 ++ (wsX5_keepsNotes_r3 ++ wsX5_keepsNotes_r4))) ++ wsX50 ++ wsX20 ++ wsX00 ++ wsX40)
def wsX5_sound_r1 : List Cond := [Cond.fieldLink RX5 184 "AffineHulls" "noteCount" "I", Cond.fieldLink RX5 50 "AffineHulls" "notes" "[LAffineHulls$Note;", Cond.fieldLink RX5 200 "AffineHulls$Note" "node" "I", Cond.fieldLink RX5 108 "AffineHulls" "entryNode" "I", Cond.fieldLink RX5 89 "AffineHulls" "edgeCount" "I", Cond.fieldLink RX5 43 "AffineHulls" "edges" "[LAffineHulls$Edge;", Cond.methodLink RX5 203 yX5_keepsNotes, Cond.instanceMethod yX5_keepsNotes, Cond.selects RX5 yX5_keepsNotes yX5_keepsNotes, Cond.initialized RX5, Cond.code yX5_keepsNotes cX5_keepsNotes 4 (some .boolean), Cond.fieldLink RX5 181 "AffineHulls$Edge" "to" "I", Cond.fieldLink RX5 232 "AffineHulls$Edge" "kind" "I", Cond.methodLink RX5 252 yX5_spanNotesBefore, Cond.instanceMethod yX5_spanNotesBefore, Cond.selects RX5 yX5_spanNotesBefore yX5_spanNotesBefore, Cond.code yX5_spanNotesBefore cX5_spanNotesBefore 3 none, Cond.fieldLink RX5 37 "AffineHulls" "noteSpan" "LAffineHulls$Span;", Cond.fieldLink RX5 168 "AffineHulls$Edge" "from" "I", Cond.fieldLink RX5 261 "AffineHulls$Note" "form" "[I", Cond.fieldLink RX5 264 "AffineHulls$Edge" "form" "[I", Cond.methodLink RX5 260 yX4_clear, Cond.instanceMethod yX4_clear, Cond.selects RX4 yX4_clear yX4_clear]
def wsX5_sound_r2 : List Cond := [Cond.initialized RX4, Cond.code yX4_clear cX4_clear 2 none, Cond.fieldLink RX4 16 "AffineHulls$Span" "taken" "[Z", Cond.methodLink RX5 242 yX4_add, Cond.instanceMethod yX4_add, Cond.selects RX4 yX4_add yX4_add, Cond.code yX4_add cX4_add 5 (some .boolean), Cond.fieldLink RX4 11 "AffineHulls$Span" "kept" "[[I", Cond.fieldLink RX4 20 "AffineHulls$Span" "rest" "[I", Cond.constant RX4 46 (65521), Cond.methodLink RX4 24 yX4_reduce, Cond.instanceMethod yX4_reduce, Cond.selects RX4 yX4_reduce yX4_reduce, Cond.code yX4_reduce cX4_reduce 3 none, Cond.static yX5_copy, Cond.code yX5_copy cX5_copy 2 none, Cond.methodLink RX5 277 arraycopyName, Cond.native arraycopyName, Cond.static arraycopyName, Cond.initialized "java/lang/System", Cond.static yX5_addMultiple, Cond.code yX5_addMultiple cX5_addMultiple 4 none, Cond.constantLong RX5 275 (65521), Cond.methodLink RX4 28 yX4_leadingPlace]
def wsX5_sound_r3 : List Cond := [Cond.instanceMethod yX4_leadingPlace, Cond.selects RX4 yX4_leadingPlace yX4_leadingPlace, Cond.code yX4_leadingPlace cX4_leadingPlace 2 (some .int), Cond.methodLink RX4 32 yJ7_fill_53178, Cond.static yJ7_fill_53178, Cond.initialized RJ7, Cond.code yJ7_fill_53178 cJ7_fill_53178 4 none, Cond.static yX5_inverse, Cond.code yX5_inverse cX5_inverse 6 (some .int), Cond.constant RX5 283 (65519), Cond.methodLink RX5 256 yX5_followsBefore, Cond.instanceMethod yX5_followsBefore, Cond.selects RX5 yX5_followsBefore yX5_followsBefore, Cond.code yX5_followsBefore cX5_followsBefore 4 (some .boolean), Cond.fieldLink RX5 26 "AffineHulls" "work" "[I", Cond.methodLink RX5 235 yX5_copy, Cond.methodLink RX5 265 yX0_stepBack, Cond.instanceMethod yX0_stepBack, Cond.selects RX0 yX0_stepBack yX0_stepBack, Cond.initialized RX0, Cond.code yX0_stepBack cX0_stepBack 4 none, Cond.fieldLink RX0 22 "AffineHulls$Edge" "kind" "I", Cond.fieldLink RX0 25 "AffineHulls$Edge" "variable" "I", Cond.fieldLink RX0 9 "AffineHulls$Edge" "form" "[I"]
def wsX5_sound_r4 : List Cond := [Cond.static yX5_number, Cond.code yX5_number cX5_number 1 (some .int), Cond.constant RX5 271 (65521), Cond.methodLink RX5 272 yJ9_floorMod_7cf53, Cond.static yJ9_floorMod_7cf53, Cond.initialized RJ9, Cond.code yJ9_floorMod_7cf53 cJ9_floorMod_7cf53 3 (some .int), Cond.methodLink RX5 268 yX4_contains, Cond.instanceMethod yX4_contains, Cond.selects RX4 yX4_contains yX4_contains, Cond.code yX4_contains cX4_contains 2 (some .boolean)]
def wsX5_sound : List Cond := .code yX5_sound cX5_sound 2 (some .boolean) :: ((wsX5_sound_r1 ++ (wsX5_sound_r2 ++ (wsX5_sound_r3 ++ wsX5_sound_r4))) ++ wsX50 ++ wsX20 ++ wsX00 ++ wsX40)
def wsX6_init_r1 : List Cond := [Cond.methodLink RX6 1 objectInit, Cond.instanceMethod objectInit, Cond.code objectInit ⟨#[0xb1]⟩ 1 none, Cond.arrayClass .int, Cond.fieldLink RX6 7 "AffineHullsModel" "draft" "[I", Cond.fieldLink RX6 13 "AffineHullsModel" "froms" "[I", Cond.fieldLink RX6 16 "AffineHullsModel" "tos" "[I", Cond.fieldLink RX6 19 "AffineHullsModel" "kinds" "[I", Cond.fieldLink RX6 22 "AffineHullsModel" "targets" "[I", Cond.fieldLink RX6 25 "AffineHullsModel" "forms" "[I", Cond.fieldLink RX6 28 "AffineHullsModel" "many" "[I", Cond.fieldLink RX6 31 "AffineHullsModel" "points" "[I", Cond.fieldLink RX6 34 "AffineHullsModel" "came" "[I", Cond.fieldLink RX6 37 "AffineHullsModel" "nodeOf" "[I", Cond.fieldLink RX6 40 "AffineHullsModel" "numberOf" "[I", Cond.fieldLink RX6 43 "AffineHullsModel" "rows" "[I", Cond.fieldLink RX6 46 "AffineHullsModel" "equations" "[I", Cond.fieldLink RX6 49 "AffineHullsModel" "values" "[I", Cond.fieldLink RX6 52 "AffineHullsModel" "noteNode" "[I", Cond.fieldLink RX6 55 "AffineHullsModel" "noteForm" "[I", Cond.fieldLink RX6 58 "AffineHullsModel" "table" "[I", Cond.fieldLink RX6 61 "AffineHullsModel" "pivots" "[I", Cond.fieldLink RX6 64 "AffineHullsModel" "row" "[I", Cond.fieldLink RX6 67 "AffineHullsModel" "n" "I"]
def wsX6_init_r2 : List Cond := [Cond.fieldLink RX6 71 "AffineHullsModel" "v" "I"]
def wsX6_init : List Cond := .code yX6_init cX6_init 3 none :: ((wsX6_init_r1 ++ wsX6_init_r2) ++ wsX60)
def wsX6_thrown : List Cond := .code yX6_thrown cX6_thrown 1 (some .int) :: ([.fieldLink RX6 74 "AffineHullsModel" "thrown" "I"] ++ wsX60)
def wsX6_mod : List Cond := .code yX6_mod cX6_mod 4 (some .int) :: ([.constantLong RX6 77 (65521)])
def wsX6_inverse : List Cond := .code yX6_inverse cX6_inverse 11 (some .int) :: ([.constant RX6 79 (65521), .methodLink RX6 80 yX6_mod, .static yX6_mod, .initialized RX6, .code yX6_mod cX6_mod 4 (some .int), .constantLong RX6 77 (65521)])
def wsX6_put : List Cond := .code yX6_put cX6_put 3 none :: ([.fieldLink RX6 58 "AffineHullsModel" "table" "[I", .fieldLink RX6 84 "AffineHullsModel" "size" "I"] ++ wsX60)
def wsX6_minus : List Cond := .code yX6_minus cX6_minus 5 none :: ([.fieldLink RX6 58 "AffineHullsModel" "table" "[I", .methodLink RX6 80 yX6_mod, .static yX6_mod, .initialized RX6, .code yX6_mod cX6_mod 4 (some .int), .constantLong RX6 77 (65521)] ++ wsX60)
def wsX6_exchange : List Cond := .code yX6_exchange cX6_exchange 5 none :: ([.fieldLink RX6 58 "AffineHullsModel" "table" "[I"] ++ wsX60)
def wsX6_rank : List Cond := .code yX6_rank cX6_rank 7 (some .int) :: ([.fieldLink RX6 71 "AffineHullsModel" "v" "I", .fieldLink RX6 61 "AffineHullsModel" "pivots" "[I", .fieldLink RX6 84 "AffineHullsModel" "size" "I", .fieldLink RX6 58 "AffineHullsModel" "table" "[I", .methodLink RX6 87 yX6_exchange, .instanceMethod yX6_exchange, .selects RX6 yX6_exchange yX6_exchange, .initialized RX6, .code yX6_exchange cX6_exchange 5 none, .methodLink RX6 91 yX6_inverse, .static yX6_inverse, .code yX6_inverse cX6_inverse 11 (some .int), .constant RX6 79 (65521), .methodLink RX6 80 yX6_mod, .static yX6_mod, .code yX6_mod cX6_mod 4 (some .int), .constantLong RX6 77 (65521), .methodLink RX6 95 yX6_minus, .instanceMethod yX6_minus, .selects RX6 yX6_minus yX6_minus, .code yX6_minus cX6_minus 5 none] ++ wsX60)
def wsX6_isNode : List Cond := .code yX6_isNode cX6_isNode 2 (some .boolean) :: ([.fieldLink RX6 67 "AffineHullsModel" "n" "I"] ++ wsX60)
def wsX6_clearDraft : List Cond := .code yX6_clearDraft cX6_clearDraft 2 none :: ([.fieldLink RX6 7 "AffineHullsModel" "draft" "[I"] ++ wsX60)
def wsX6_term : List Cond := .code yX6_term cX6_term 3 none :: ([.fieldLink RX6 71 "AffineHullsModel" "v" "I", .fieldLink RX6 74 "AffineHullsModel" "thrown" "I", .fieldLink RX6 7 "AffineHullsModel" "draft" "[I", .methodLink RX6 80 yX6_mod, .static yX6_mod, .initialized RX6, .code yX6_mod cX6_mod 4 (some .int), .constantLong RX6 77 (65521)] ++ wsX60)
def wsX6_edge : List Cond := .code yX6_edge cX6_edge 8 (some .int) :: ([.fieldLink RX6 71 "AffineHullsModel" "v" "I", .fieldLink RX6 103 "AffineHullsModel" "edges" "I", .fieldLink RX6 74 "AffineHullsModel" "thrown" "I", .fieldLink RX6 13 "AffineHullsModel" "froms" "[I", .fieldLink RX6 16 "AffineHullsModel" "tos" "[I", .fieldLink RX6 19 "AffineHullsModel" "kinds" "[I", .fieldLink RX6 22 "AffineHullsModel" "targets" "[I", .fieldLink RX6 25 "AffineHullsModel" "forms" "[I", .fieldLink RX6 7 "AffineHullsModel" "draft" "[I", .fieldLink RX6 109 "AffineHullsModel" "analysed" "Z", .methodLink RX6 99 yX6_isNode, .instanceMethod yX6_isNode, .selects RX6 yX6_isNode yX6_isNode, .initialized RX6, .code yX6_isNode cX6_isNode 2 (some .boolean), .fieldLink RX6 67 "AffineHullsModel" "n" "I", .methodLink RX6 106 yX6_clearDraft, .instanceMethod yX6_clearDraft, .selects RX6 yX6_clearDraft yX6_clearDraft, .code yX6_clearDraft cX6_clearDraft 2 none] ++ wsX60)
def wsX6_entry : List Cond := .code yX6_entry cX6_entry 2 none :: ([.fieldLink RX6 74 "AffineHullsModel" "thrown" "I", .fieldLink RX6 113 "AffineHullsModel" "entry" "I", .fieldLink RX6 116 "AffineHullsModel" "where" "I", .fieldLink RX6 109 "AffineHullsModel" "analysed" "Z", .methodLink RX6 99 yX6_isNode, .instanceMethod yX6_isNode, .selects RX6 yX6_isNode yX6_isNode, .initialized RX6, .code yX6_isNode cX6_isNode 2 (some .boolean), .fieldLink RX6 67 "AffineHullsModel" "n" "I"] ++ wsX60)
def wsX6_formValue : List Cond := .code yX6_formValue cX6_formValue 5 (some .int) :: ([.fieldLink RX6 25 "AffineHullsModel" "forms" "[I", .fieldLink RX6 64 "AffineHullsModel" "row" "[I", .methodLink RX6 80 yX6_mod, .static yX6_mod, .initialized RX6, .code yX6_mod cX6_mod 4 (some .int), .constantLong RX6 77 (65521)] ++ wsX60)
def wsX6_change : List Cond := .code yX6_change cX6_change 3 none :: ([.fieldLink RX6 19 "AffineHullsModel" "kinds" "[I", .fieldLink RX6 64 "AffineHullsModel" "row" "[I", .fieldLink RX6 22 "AffineHullsModel" "targets" "[I", .methodLink RX6 119 yX6_formValue, .instanceMethod yX6_formValue, .selects RX6 yX6_formValue yX6_formValue, .initialized RX6, .code yX6_formValue cX6_formValue 5 (some .int), .fieldLink RX6 25 "AffineHullsModel" "forms" "[I", .methodLink RX6 80 yX6_mod, .static yX6_mod, .code yX6_mod cX6_mod 4 (some .int), .constantLong RX6 77 (65521)] ++ wsX60)
def wsX6_layPoints : List Cond := .code yX6_layPoints cX6_layPoints 4 none :: ([.fieldLink RX6 84 "AffineHullsModel" "size" "I", .fieldLink RX6 28 "AffineHullsModel" "many" "[I", .fieldLink RX6 31 "AffineHullsModel" "points" "[I", .methodLink RX6 122 yX6_put, .instanceMethod yX6_put, .selects RX6 yX6_put yX6_put, .initialized RX6, .code yX6_put cX6_put 3 none, .fieldLink RX6 58 "AffineHullsModel" "table" "[I"] ++ wsX60)
def wsX6_meet_r1 : List Cond := [Cond.fieldLink RX6 64 "AffineHullsModel" "row" "[I", Cond.fieldLink RX6 84 "AffineHullsModel" "size" "I", Cond.fieldLink RX6 28 "AffineHullsModel" "many" "[I", Cond.fieldLink RX6 31 "AffineHullsModel" "points" "[I", Cond.fieldLink RX6 34 "AffineHullsModel" "came" "[I", Cond.fieldLink RX6 37 "AffineHullsModel" "nodeOf" "[I", Cond.fieldLink RX6 133 "AffineHullsModel" "all" "I", Cond.fieldLink RX6 40 "AffineHullsModel" "numberOf" "[I", Cond.methodLink RX6 125 yX6_layPoints, Cond.instanceMethod yX6_layPoints, Cond.selects RX6 yX6_layPoints yX6_layPoints, Cond.initialized RX6, Cond.code yX6_layPoints cX6_layPoints 4 none, Cond.methodLink RX6 122 yX6_put, Cond.instanceMethod yX6_put, Cond.selects RX6 yX6_put yX6_put, Cond.code yX6_put cX6_put 3 none, Cond.fieldLink RX6 58 "AffineHullsModel" "table" "[I", Cond.methodLink RX6 129 yX6_rank, Cond.instanceMethod yX6_rank, Cond.selects RX6 yX6_rank yX6_rank, Cond.code yX6_rank cX6_rank 7 (some .int), Cond.fieldLink RX6 71 "AffineHullsModel" "v" "I", Cond.fieldLink RX6 61 "AffineHullsModel" "pivots" "[I"]
def wsX6_meet_r2 : List Cond := [Cond.methodLink RX6 87 yX6_exchange, Cond.instanceMethod yX6_exchange, Cond.selects RX6 yX6_exchange yX6_exchange, Cond.code yX6_exchange cX6_exchange 5 none, Cond.methodLink RX6 91 yX6_inverse, Cond.static yX6_inverse, Cond.code yX6_inverse cX6_inverse 11 (some .int), Cond.constant RX6 79 (65521), Cond.methodLink RX6 80 yX6_mod, Cond.static yX6_mod, Cond.code yX6_mod cX6_mod 4 (some .int), Cond.constantLong RX6 77 (65521), Cond.methodLink RX6 95 yX6_minus, Cond.instanceMethod yX6_minus, Cond.selects RX6 yX6_minus yX6_minus, Cond.code yX6_minus cX6_minus 5 none]
def wsX6_meet : List Cond := .code yX6_meet cX6_meet 5 none :: ((wsX6_meet_r1 ++ wsX6_meet_r2) ++ wsX60)
def wsX6_pass_r1 : List Cond := [Cond.fieldLink RX6 19 "AffineHullsModel" "kinds" "[I", Cond.fieldLink RX6 64 "AffineHullsModel" "row" "[I", Cond.fieldLink RX6 31 "AffineHullsModel" "points" "[I", Cond.fieldLink RX6 16 "AffineHullsModel" "tos" "[I", Cond.methodLink RX6 136 yX6_change, Cond.instanceMethod yX6_change, Cond.selects RX6 yX6_change yX6_change, Cond.initialized RX6, Cond.code yX6_change cX6_change 3 none, Cond.fieldLink RX6 22 "AffineHullsModel" "targets" "[I", Cond.methodLink RX6 119 yX6_formValue, Cond.instanceMethod yX6_formValue, Cond.selects RX6 yX6_formValue yX6_formValue, Cond.code yX6_formValue cX6_formValue 5 (some .int), Cond.fieldLink RX6 25 "AffineHullsModel" "forms" "[I", Cond.methodLink RX6 80 yX6_mod, Cond.static yX6_mod, Cond.code yX6_mod cX6_mod 4 (some .int), Cond.constantLong RX6 77 (65521), Cond.methodLink RX6 139 yX6_meet, Cond.instanceMethod yX6_meet, Cond.selects RX6 yX6_meet yX6_meet, Cond.code yX6_meet cX6_meet 5 none, Cond.fieldLink RX6 84 "AffineHullsModel" "size" "I"]
def wsX6_pass_r2 : List Cond := [Cond.fieldLink RX6 28 "AffineHullsModel" "many" "[I", Cond.fieldLink RX6 34 "AffineHullsModel" "came" "[I", Cond.fieldLink RX6 37 "AffineHullsModel" "nodeOf" "[I", Cond.fieldLink RX6 133 "AffineHullsModel" "all" "I", Cond.fieldLink RX6 40 "AffineHullsModel" "numberOf" "[I", Cond.methodLink RX6 125 yX6_layPoints, Cond.instanceMethod yX6_layPoints, Cond.selects RX6 yX6_layPoints yX6_layPoints, Cond.code yX6_layPoints cX6_layPoints 4 none, Cond.methodLink RX6 122 yX6_put, Cond.instanceMethod yX6_put, Cond.selects RX6 yX6_put yX6_put, Cond.code yX6_put cX6_put 3 none, Cond.fieldLink RX6 58 "AffineHullsModel" "table" "[I", Cond.methodLink RX6 129 yX6_rank, Cond.instanceMethod yX6_rank, Cond.selects RX6 yX6_rank yX6_rank, Cond.code yX6_rank cX6_rank 7 (some .int), Cond.fieldLink RX6 71 "AffineHullsModel" "v" "I", Cond.fieldLink RX6 61 "AffineHullsModel" "pivots" "[I", Cond.methodLink RX6 87 yX6_exchange, Cond.instanceMethod yX6_exchange, Cond.selects RX6 yX6_exchange yX6_exchange, Cond.code yX6_exchange cX6_exchange 5 none]
def wsX6_pass_r3 : List Cond := [Cond.methodLink RX6 91 yX6_inverse, Cond.static yX6_inverse, Cond.code yX6_inverse cX6_inverse 11 (some .int), Cond.constant RX6 79 (65521), Cond.methodLink RX6 95 yX6_minus, Cond.instanceMethod yX6_minus, Cond.selects RX6 yX6_minus yX6_minus, Cond.code yX6_minus cX6_minus 5 none]
def wsX6_pass : List Cond := .code yX6_pass cX6_pass 7 none :: ((wsX6_pass_r1 ++ (wsX6_pass_r2 ++ wsX6_pass_r3)) ++ wsX60)
def wsX6_readEquations_r1 : List Cond := [Cond.fieldLink RX6 43 "AffineHullsModel" "rows" "[I", Cond.fieldLink RX6 71 "AffineHullsModel" "v" "I", Cond.fieldLink RX6 61 "AffineHullsModel" "pivots" "[I", Cond.fieldLink RX6 46 "AffineHullsModel" "equations" "[I", Cond.fieldLink RX6 58 "AffineHullsModel" "table" "[I", Cond.methodLink RX6 125 yX6_layPoints, Cond.instanceMethod yX6_layPoints, Cond.selects RX6 yX6_layPoints yX6_layPoints, Cond.initialized RX6, Cond.code yX6_layPoints cX6_layPoints 4 none, Cond.fieldLink RX6 84 "AffineHullsModel" "size" "I", Cond.fieldLink RX6 28 "AffineHullsModel" "many" "[I", Cond.fieldLink RX6 31 "AffineHullsModel" "points" "[I", Cond.methodLink RX6 122 yX6_put, Cond.instanceMethod yX6_put, Cond.selects RX6 yX6_put yX6_put, Cond.code yX6_put cX6_put 3 none, Cond.methodLink RX6 129 yX6_rank, Cond.instanceMethod yX6_rank, Cond.selects RX6 yX6_rank yX6_rank, Cond.code yX6_rank cX6_rank 7 (some .int), Cond.methodLink RX6 87 yX6_exchange, Cond.instanceMethod yX6_exchange, Cond.selects RX6 yX6_exchange yX6_exchange]
def wsX6_readEquations_r2 : List Cond := [Cond.code yX6_exchange cX6_exchange 5 none, Cond.methodLink RX6 91 yX6_inverse, Cond.static yX6_inverse, Cond.code yX6_inverse cX6_inverse 11 (some .int), Cond.constant RX6 79 (65521), Cond.methodLink RX6 80 yX6_mod, Cond.static yX6_mod, Cond.code yX6_mod cX6_mod 4 (some .int), Cond.constantLong RX6 77 (65521), Cond.methodLink RX6 95 yX6_minus, Cond.instanceMethod yX6_minus, Cond.selects RX6 yX6_minus yX6_minus, Cond.code yX6_minus cX6_minus 5 none]
def wsX6_readEquations : List Cond := .code yX6_readEquations cX6_readEquations 6 none :: ((wsX6_readEquations_r1 ++ wsX6_readEquations_r2) ++ wsX60)
def wsX6_analyse_r1 : List Cond := [Cond.fieldLink RX6 74 "AffineHullsModel" "thrown" "I", Cond.fieldLink RX6 133 "AffineHullsModel" "all" "I", Cond.fieldLink RX6 28 "AffineHullsModel" "many" "[I", Cond.fieldLink RX6 71 "AffineHullsModel" "v" "I", Cond.fieldLink RX6 64 "AffineHullsModel" "row" "[I", Cond.fieldLink RX6 113 "AffineHullsModel" "entry" "I", Cond.fieldLink RX6 103 "AffineHullsModel" "edges" "I", Cond.fieldLink RX6 13 "AffineHullsModel" "froms" "[I", Cond.fieldLink RX6 37 "AffineHullsModel" "nodeOf" "[I", Cond.fieldLink RX6 40 "AffineHullsModel" "numberOf" "[I", Cond.fieldLink RX6 67 "AffineHullsModel" "n" "I", Cond.fieldLink RX6 109 "AffineHullsModel" "analysed" "Z", Cond.methodLink RX6 139 yX6_meet, Cond.instanceMethod yX6_meet, Cond.selects RX6 yX6_meet yX6_meet, Cond.initialized RX6, Cond.code yX6_meet cX6_meet 5 none, Cond.fieldLink RX6 84 "AffineHullsModel" "size" "I", Cond.fieldLink RX6 31 "AffineHullsModel" "points" "[I", Cond.fieldLink RX6 34 "AffineHullsModel" "came" "[I", Cond.methodLink RX6 125 yX6_layPoints, Cond.instanceMethod yX6_layPoints, Cond.selects RX6 yX6_layPoints yX6_layPoints, Cond.code yX6_layPoints cX6_layPoints 4 none]
def wsX6_analyse_r2 : List Cond := [Cond.methodLink RX6 122 yX6_put, Cond.instanceMethod yX6_put, Cond.selects RX6 yX6_put yX6_put, Cond.code yX6_put cX6_put 3 none, Cond.fieldLink RX6 58 "AffineHullsModel" "table" "[I", Cond.methodLink RX6 129 yX6_rank, Cond.instanceMethod yX6_rank, Cond.selects RX6 yX6_rank yX6_rank, Cond.code yX6_rank cX6_rank 7 (some .int), Cond.fieldLink RX6 61 "AffineHullsModel" "pivots" "[I", Cond.methodLink RX6 87 yX6_exchange, Cond.instanceMethod yX6_exchange, Cond.selects RX6 yX6_exchange yX6_exchange, Cond.code yX6_exchange cX6_exchange 5 none, Cond.methodLink RX6 91 yX6_inverse, Cond.static yX6_inverse, Cond.code yX6_inverse cX6_inverse 11 (some .int), Cond.constant RX6 79 (65521), Cond.methodLink RX6 80 yX6_mod, Cond.static yX6_mod, Cond.code yX6_mod cX6_mod 4 (some .int), Cond.constantLong RX6 77 (65521), Cond.methodLink RX6 95 yX6_minus, Cond.instanceMethod yX6_minus]
def wsX6_analyse_r3 : List Cond := [Cond.selects RX6 yX6_minus yX6_minus, Cond.code yX6_minus cX6_minus 5 none, Cond.methodLink RX6 142 yX6_pass, Cond.instanceMethod yX6_pass, Cond.selects RX6 yX6_pass yX6_pass, Cond.code yX6_pass cX6_pass 7 none, Cond.fieldLink RX6 19 "AffineHullsModel" "kinds" "[I", Cond.fieldLink RX6 16 "AffineHullsModel" "tos" "[I", Cond.methodLink RX6 136 yX6_change, Cond.instanceMethod yX6_change, Cond.selects RX6 yX6_change yX6_change, Cond.code yX6_change cX6_change 3 none, Cond.fieldLink RX6 22 "AffineHullsModel" "targets" "[I", Cond.methodLink RX6 119 yX6_formValue, Cond.instanceMethod yX6_formValue, Cond.selects RX6 yX6_formValue yX6_formValue, Cond.code yX6_formValue cX6_formValue 5 (some .int), Cond.fieldLink RX6 25 "AffineHullsModel" "forms" "[I", Cond.methodLink RX6 145 yX6_readEquations, Cond.instanceMethod yX6_readEquations, Cond.selects RX6 yX6_readEquations yX6_readEquations, Cond.code yX6_readEquations cX6_readEquations 6 none, Cond.fieldLink RX6 43 "AffineHullsModel" "rows" "[I", Cond.fieldLink RX6 46 "AffineHullsModel" "equations" "[I"]
def wsX6_analyse : List Cond := .code yX6_analyse cX6_analyse 3 (some .int) :: ((wsX6_analyse_r1 ++ (wsX6_analyse_r2 ++ wsX6_analyse_r3)) ++ wsX60)
def wsX6_asked : List Cond := .code yX6_asked cX6_asked 2 (some .int) :: ([.fieldLink RX6 109 "AffineHullsModel" "analysed" "Z", .methodLink RX6 99 yX6_isNode, .instanceMethod yX6_isNode, .selects RX6 yX6_isNode yX6_isNode, .initialized RX6, .code yX6_isNode cX6_isNode 2 (some .boolean), .fieldLink RX6 67 "AffineHullsModel" "n" "I"] ++ wsX60)
def wsX6_points : List Cond := .code yX6_points cX6_points 2 (some .int) :: ([.fieldLink RX6 74 "AffineHullsModel" "thrown" "I", .fieldLink RX6 28 "AffineHullsModel" "many" "[I", .methodLink RX6 148 yX6_asked, .instanceMethod yX6_asked, .selects RX6 yX6_asked yX6_asked, .initialized RX6, .code yX6_asked cX6_asked 2 (some .int), .fieldLink RX6 109 "AffineHullsModel" "analysed" "Z", .methodLink RX6 99 yX6_isNode, .instanceMethod yX6_isNode, .selects RX6 yX6_isNode yX6_isNode, .code yX6_isNode cX6_isNode 2 (some .boolean), .fieldLink RX6 67 "AffineHullsModel" "n" "I"] ++ wsX60)
def wsX6_point : List Cond := .code yX6_point cX6_point 4 (some .int) :: ([.fieldLink RX6 71 "AffineHullsModel" "v" "I", .fieldLink RX6 74 "AffineHullsModel" "thrown" "I", .fieldLink RX6 28 "AffineHullsModel" "many" "[I", .fieldLink RX6 34 "AffineHullsModel" "came" "[I", .fieldLink RX6 31 "AffineHullsModel" "points" "[I", .methodLink RX6 148 yX6_asked, .instanceMethod yX6_asked, .selects RX6 yX6_asked yX6_asked, .initialized RX6, .code yX6_asked cX6_asked 2 (some .int), .fieldLink RX6 109 "AffineHullsModel" "analysed" "Z", .methodLink RX6 99 yX6_isNode, .instanceMethod yX6_isNode, .selects RX6 yX6_isNode yX6_isNode, .code yX6_isNode cX6_isNode 2 (some .boolean), .fieldLink RX6 67 "AffineHullsModel" "n" "I"] ++ wsX60)
def wsX6_equations : List Cond := .code yX6_equations cX6_equations 2 (some .int) :: ([.fieldLink RX6 74 "AffineHullsModel" "thrown" "I", .fieldLink RX6 43 "AffineHullsModel" "rows" "[I", .methodLink RX6 148 yX6_asked, .instanceMethod yX6_asked, .selects RX6 yX6_asked yX6_asked, .initialized RX6, .code yX6_asked cX6_asked 2 (some .int), .fieldLink RX6 109 "AffineHullsModel" "analysed" "Z", .methodLink RX6 99 yX6_isNode, .instanceMethod yX6_isNode, .selects RX6 yX6_isNode yX6_isNode, .code yX6_isNode cX6_isNode 2 (some .boolean), .fieldLink RX6 67 "AffineHullsModel" "n" "I"] ++ wsX60)
def wsX6_coefficient : List Cond := .code yX6_coefficient cX6_coefficient 4 (some .int) :: ([.fieldLink RX6 71 "AffineHullsModel" "v" "I", .fieldLink RX6 74 "AffineHullsModel" "thrown" "I", .fieldLink RX6 43 "AffineHullsModel" "rows" "[I", .fieldLink RX6 46 "AffineHullsModel" "equations" "[I", .methodLink RX6 148 yX6_asked, .instanceMethod yX6_asked, .selects RX6 yX6_asked yX6_asked, .initialized RX6, .code yX6_asked cX6_asked 2 (some .int), .fieldLink RX6 109 "AffineHullsModel" "analysed" "Z", .methodLink RX6 99 yX6_isNode, .instanceMethod yX6_isNode, .selects RX6 yX6_isNode yX6_isNode, .code yX6_isNode cX6_isNode 2 (some .boolean), .fieldLink RX6 67 "AffineHullsModel" "n" "I"] ++ wsX60)
def wsX6_holds : List Cond := .code yX6_holds cX6_holds 7 (some .boolean) :: ([.fieldLink RX6 74 "AffineHullsModel" "thrown" "I", .fieldLink RX6 28 "AffineHullsModel" "many" "[I", .fieldLink RX6 7 "AffineHullsModel" "draft" "[I", .fieldLink RX6 31 "AffineHullsModel" "points" "[I", .methodLink RX6 148 yX6_asked, .instanceMethod yX6_asked, .selects RX6 yX6_asked yX6_asked, .initialized RX6, .code yX6_asked cX6_asked 2 (some .int), .fieldLink RX6 109 "AffineHullsModel" "analysed" "Z", .methodLink RX6 99 yX6_isNode, .instanceMethod yX6_isNode, .selects RX6 yX6_isNode yX6_isNode, .code yX6_isNode cX6_isNode 2 (some .boolean), .fieldLink RX6 67 "AffineHullsModel" "n" "I", .methodLink RX6 80 yX6_mod, .static yX6_mod, .code yX6_mod cX6_mod 4 (some .int), .constantLong RX6 77 (65521), .methodLink RX6 106 yX6_clearDraft, .instanceMethod yX6_clearDraft, .selects RX6 yX6_clearDraft yX6_clearDraft, .code yX6_clearDraft cX6_clearDraft 2 none] ++ wsX60)
def wsX6_begin : List Cond := .code yX6_begin cX6_begin 3 none :: ([.fieldLink RX6 71 "AffineHullsModel" "v" "I", .fieldLink RX6 74 "AffineHullsModel" "thrown" "I", .fieldLink RX6 49 "AffineHullsModel" "values" "[I", .fieldLink RX6 113 "AffineHullsModel" "entry" "I", .fieldLink RX6 116 "AffineHullsModel" "where" "I", .methodLink RX6 80 yX6_mod, .static yX6_mod, .initialized RX6, .code yX6_mod cX6_mod 4 (some .int), .constantLong RX6 77 (65521)] ++ wsX60)
def wsX6_go : List Cond := .code yX6_go cX6_go 4 (some .boolean) :: ([.fieldLink RX6 103 "AffineHullsModel" "edges" "I", .fieldLink RX6 13 "AffineHullsModel" "froms" "[I", .fieldLink RX6 116 "AffineHullsModel" "where" "I", .fieldLink RX6 74 "AffineHullsModel" "thrown" "I", .fieldLink RX6 64 "AffineHullsModel" "row" "[I", .fieldLink RX6 49 "AffineHullsModel" "values" "[I", .fieldLink RX6 19 "AffineHullsModel" "kinds" "[I", .fieldLink RX6 16 "AffineHullsModel" "tos" "[I", .methodLink RX6 119 yX6_formValue, .instanceMethod yX6_formValue, .selects RX6 yX6_formValue yX6_formValue, .initialized RX6, .code yX6_formValue cX6_formValue 5 (some .int), .fieldLink RX6 25 "AffineHullsModel" "forms" "[I", .methodLink RX6 80 yX6_mod, .static yX6_mod, .code yX6_mod cX6_mod 4 (some .int), .constantLong RX6 77 (65521), .methodLink RX6 136 yX6_change, .instanceMethod yX6_change, .selects RX6 yX6_change yX6_change, .code yX6_change cX6_change 3 none, .fieldLink RX6 22 "AffineHullsModel" "targets" "[I"] ++ wsX60)
def wsX6_at : List Cond := .code yX6_at cX6_at 2 (some .int) :: ([.fieldLink RX6 71 "AffineHullsModel" "v" "I", .fieldLink RX6 74 "AffineHullsModel" "thrown" "I", .fieldLink RX6 116 "AffineHullsModel" "where" "I", .fieldLink RX6 49 "AffineHullsModel" "values" "[I"] ++ wsX60)
def wsX6_note : List Cond := .code yX6_note cX6_note 3 (some .int) :: ([.fieldLink RX6 151 "AffineHullsModel" "notes" "I", .fieldLink RX6 74 "AffineHullsModel" "thrown" "I", .fieldLink RX6 52 "AffineHullsModel" "noteNode" "[I", .fieldLink RX6 55 "AffineHullsModel" "noteForm" "[I", .fieldLink RX6 7 "AffineHullsModel" "draft" "[I", .methodLink RX6 99 yX6_isNode, .instanceMethod yX6_isNode, .selects RX6 yX6_isNode yX6_isNode, .initialized RX6, .code yX6_isNode cX6_isNode 2 (some .boolean), .fieldLink RX6 67 "AffineHullsModel" "n" "I", .methodLink RX6 106 yX6_clearDraft, .instanceMethod yX6_clearDraft, .selects RX6 yX6_clearDraft yX6_clearDraft, .code yX6_clearDraft cX6_clearDraft 2 none] ++ wsX60)
def wsX6_noteAll : List Cond := .code yX6_noteAll cX6_noteAll 5 (some .int) :: ([.fieldLink RX6 67 "AffineHullsModel" "n" "I", .fieldLink RX6 109 "AffineHullsModel" "analysed" "Z", .fieldLink RX6 43 "AffineHullsModel" "rows" "[I", .fieldLink RX6 74 "AffineHullsModel" "thrown" "I", .fieldLink RX6 151 "AffineHullsModel" "notes" "I", .fieldLink RX6 52 "AffineHullsModel" "noteNode" "[I", .fieldLink RX6 55 "AffineHullsModel" "noteForm" "[I", .fieldLink RX6 46 "AffineHullsModel" "equations" "[I"] ++ wsX60)
def wsX6_forget : List Cond := .code yX6_forget cX6_forget 2 (some .int) :: ([.fieldLink RX6 74 "AffineHullsModel" "thrown" "I", .fieldLink RX6 151 "AffineHullsModel" "notes" "I"] ++ wsX60)
def wsX6_layNotes : List Cond := .code yX6_layNotes cX6_layNotes 4 none :: ([.fieldLink RX6 84 "AffineHullsModel" "size" "I", .fieldLink RX6 151 "AffineHullsModel" "notes" "I", .fieldLink RX6 52 "AffineHullsModel" "noteNode" "[I", .fieldLink RX6 13 "AffineHullsModel" "froms" "[I", .fieldLink RX6 55 "AffineHullsModel" "noteForm" "[I", .fieldLink RX6 19 "AffineHullsModel" "kinds" "[I", .fieldLink RX6 25 "AffineHullsModel" "forms" "[I", .methodLink RX6 122 yX6_put, .instanceMethod yX6_put, .selects RX6 yX6_put yX6_put, .initialized RX6, .code yX6_put cX6_put 3 none, .fieldLink RX6 58 "AffineHullsModel" "table" "[I"] ++ wsX60)
def wsX6_layBefore : List Cond := .code yX6_layBefore cX6_layBefore 8 none :: ([.fieldLink RX6 22 "AffineHullsModel" "targets" "[I", .fieldLink RX6 55 "AffineHullsModel" "noteForm" "[I", .fieldLink RX6 19 "AffineHullsModel" "kinds" "[I", .fieldLink RX6 25 "AffineHullsModel" "forms" "[I", .fieldLink RX6 58 "AffineHullsModel" "table" "[I", .fieldLink RX6 84 "AffineHullsModel" "size" "I", .methodLink RX6 122 yX6_put, .instanceMethod yX6_put, .selects RX6 yX6_put yX6_put, .initialized RX6, .code yX6_put cX6_put 3 none, .methodLink RX6 80 yX6_mod, .static yX6_mod, .code yX6_mod cX6_mod 4 (some .int), .constantLong RX6 77 (65521)] ++ wsX60)
def wsX6_follows_r1 : List Cond := [Cond.methodLink RX6 154 yX6_layNotes, Cond.instanceMethod yX6_layNotes, Cond.selects RX6 yX6_layNotes yX6_layNotes, Cond.initialized RX6, Cond.code yX6_layNotes cX6_layNotes 4 none, Cond.fieldLink RX6 84 "AffineHullsModel" "size" "I", Cond.fieldLink RX6 151 "AffineHullsModel" "notes" "I", Cond.fieldLink RX6 52 "AffineHullsModel" "noteNode" "[I", Cond.fieldLink RX6 13 "AffineHullsModel" "froms" "[I", Cond.fieldLink RX6 55 "AffineHullsModel" "noteForm" "[I", Cond.fieldLink RX6 19 "AffineHullsModel" "kinds" "[I", Cond.fieldLink RX6 25 "AffineHullsModel" "forms" "[I", Cond.methodLink RX6 122 yX6_put, Cond.instanceMethod yX6_put, Cond.selects RX6 yX6_put yX6_put, Cond.code yX6_put cX6_put 3 none, Cond.fieldLink RX6 58 "AffineHullsModel" "table" "[I", Cond.methodLink RX6 129 yX6_rank, Cond.instanceMethod yX6_rank, Cond.selects RX6 yX6_rank yX6_rank, Cond.code yX6_rank cX6_rank 7 (some .int), Cond.fieldLink RX6 71 "AffineHullsModel" "v" "I", Cond.fieldLink RX6 61 "AffineHullsModel" "pivots" "[I", Cond.methodLink RX6 87 yX6_exchange]
def wsX6_follows_r2 : List Cond := [Cond.instanceMethod yX6_exchange, Cond.selects RX6 yX6_exchange yX6_exchange, Cond.code yX6_exchange cX6_exchange 5 none, Cond.methodLink RX6 91 yX6_inverse, Cond.static yX6_inverse, Cond.code yX6_inverse cX6_inverse 11 (some .int), Cond.constant RX6 79 (65521), Cond.methodLink RX6 80 yX6_mod, Cond.static yX6_mod, Cond.code yX6_mod cX6_mod 4 (some .int), Cond.constantLong RX6 77 (65521), Cond.methodLink RX6 95 yX6_minus, Cond.instanceMethod yX6_minus, Cond.selects RX6 yX6_minus yX6_minus, Cond.code yX6_minus cX6_minus 5 none, Cond.methodLink RX6 157 yX6_layBefore, Cond.instanceMethod yX6_layBefore, Cond.selects RX6 yX6_layBefore yX6_layBefore, Cond.code yX6_layBefore cX6_layBefore 8 none, Cond.fieldLink RX6 22 "AffineHullsModel" "targets" "[I"]
def wsX6_follows : List Cond := .code yX6_follows cX6_follows 6 (some .boolean) :: ((wsX6_follows_r1 ++ wsX6_follows_r2) ++ wsX60)
def wsX6_sound_r1 : List Cond := [Cond.fieldLink RX6 74 "AffineHullsModel" "thrown" "I", Cond.fieldLink RX6 151 "AffineHullsModel" "notes" "I", Cond.fieldLink RX6 52 "AffineHullsModel" "noteNode" "[I", Cond.fieldLink RX6 113 "AffineHullsModel" "entry" "I", Cond.fieldLink RX6 103 "AffineHullsModel" "edges" "I", Cond.fieldLink RX6 16 "AffineHullsModel" "tos" "[I", Cond.methodLink RX6 160 yX6_follows, Cond.instanceMethod yX6_follows, Cond.selects RX6 yX6_follows yX6_follows, Cond.initialized RX6, Cond.code yX6_follows cX6_follows 6 (some .boolean), Cond.methodLink RX6 154 yX6_layNotes, Cond.instanceMethod yX6_layNotes, Cond.selects RX6 yX6_layNotes yX6_layNotes, Cond.code yX6_layNotes cX6_layNotes 4 none, Cond.fieldLink RX6 84 "AffineHullsModel" "size" "I", Cond.fieldLink RX6 13 "AffineHullsModel" "froms" "[I", Cond.fieldLink RX6 55 "AffineHullsModel" "noteForm" "[I", Cond.fieldLink RX6 19 "AffineHullsModel" "kinds" "[I", Cond.fieldLink RX6 25 "AffineHullsModel" "forms" "[I", Cond.methodLink RX6 122 yX6_put, Cond.instanceMethod yX6_put, Cond.selects RX6 yX6_put yX6_put, Cond.code yX6_put cX6_put 3 none]
def wsX6_sound_r2 : List Cond := [Cond.fieldLink RX6 58 "AffineHullsModel" "table" "[I", Cond.methodLink RX6 129 yX6_rank, Cond.instanceMethod yX6_rank, Cond.selects RX6 yX6_rank yX6_rank, Cond.code yX6_rank cX6_rank 7 (some .int), Cond.fieldLink RX6 71 "AffineHullsModel" "v" "I", Cond.fieldLink RX6 61 "AffineHullsModel" "pivots" "[I", Cond.methodLink RX6 87 yX6_exchange, Cond.instanceMethod yX6_exchange, Cond.selects RX6 yX6_exchange yX6_exchange, Cond.code yX6_exchange cX6_exchange 5 none, Cond.methodLink RX6 91 yX6_inverse, Cond.static yX6_inverse, Cond.code yX6_inverse cX6_inverse 11 (some .int), Cond.constant RX6 79 (65521), Cond.methodLink RX6 80 yX6_mod, Cond.static yX6_mod, Cond.code yX6_mod cX6_mod 4 (some .int), Cond.constantLong RX6 77 (65521), Cond.methodLink RX6 95 yX6_minus, Cond.instanceMethod yX6_minus, Cond.selects RX6 yX6_minus yX6_minus, Cond.code yX6_minus cX6_minus 5 none, Cond.methodLink RX6 157 yX6_layBefore]
def wsX6_sound_r3 : List Cond := [Cond.instanceMethod yX6_layBefore, Cond.selects RX6 yX6_layBefore yX6_layBefore, Cond.code yX6_layBefore cX6_layBefore 8 none, Cond.fieldLink RX6 22 "AffineHullsModel" "targets" "[I"]
def wsX6_sound : List Cond := .code yX6_sound cX6_sound 4 (some .boolean) :: ((wsX6_sound_r1 ++ (wsX6_sound_r2 ++ wsX6_sound_r3)) ++ wsX60)
def wsJ9_max_7cf53 : List Cond := .code yJ9_max_7cf53 cJ9_max_7cf53 2 (some .int) :: ([])
def wsJ9_min_7cf53 : List Cond := .code yJ9_min_7cf53 cJ9_min_7cf53 2 (some .int) :: ([])
def wsL_cell : List Cond := .code yL_cell cL_cell 2 (some .int) :: ([])
def wsL_term : List Cond := .codeWith yL_term cL_term 4 (some .int) [(0, 6, 9, 13)] :: ([.classLink RL 13 "java/lang/IllegalArgumentException", .methodLink RL 7 yX5_term, .instanceMethod yX5_term, .selects RX5 yX5_term yX5_term, .initialized RX5, .code yX5_term cX5_term 3 none, .fieldLink RX5 22 "AffineHulls" "draft" "[I", .methodLink RX5 69 yX5_requirePlace, .instanceMethod yX5_requirePlace, .selects RX5 yX5_requirePlace yX5_requirePlace, .code yX5_requirePlace cX5_requirePlace 2 none, .classLink RX5 79 "java/lang/IllegalArgumentException", .initialized "java/lang/IllegalArgumentException", .fieldLink RX5 18 "AffineHulls" "variables" "I", .methodLink RX5 72 yX5_number, .static yX5_number, .code yX5_number cX5_number 1 (some .int), .constant RX5 271 (65521), .methodLink RX5 272 yJ9_floorMod_7cf53, .static yJ9_floorMod_7cf53, .initialized RJ9, .code yJ9_floorMod_7cf53 cJ9_floorMod_7cf53 3 (some .int)] ++ wsX50 ++ (vx_atS RX5 83 "java/lang/IllegalArgumentException" ["java/lang/RuntimeException", "java/lang/Exception"]).filter goodWord)
def wsL_edge_r1 : List Cond := [Cond.classLink RL 13 "java/lang/IllegalArgumentException", Cond.classLink RL 19 "java/lang/IllegalStateException", Cond.methodLink RL 15 yX5_edge, Cond.instanceMethod yX5_edge, Cond.selects RX5 yX5_edge yX5_edge, Cond.initialized RX5, Cond.code yX5_edge cX5_edge 5 (some .int), Cond.classLink RX5 79 "java/lang/IllegalArgumentException", Cond.initialized "java/lang/IllegalArgumentException", Cond.classLink RX5 92 "java/lang/IllegalStateException", Cond.initialized "java/lang/IllegalStateException", Cond.fieldLink RX5 89 "AffineHulls" "edgeCount" "I", Cond.fieldLink RX5 43 "AffineHulls" "edges" "[LAffineHulls$Edge;", Cond.fieldLink RX5 22 "AffineHulls" "draft" "[I", Cond.fieldLink RX5 104 "AffineHulls" "analysed" "Z", Cond.methodLink RX5 76 yX5_requireNode, Cond.instanceMethod yX5_requireNode, Cond.selects RX5 yX5_requireNode yX5_requireNode, Cond.code yX5_requireNode cX5_requireNode 2 none, Cond.fieldLink RX5 57 "AffineHulls" "hulls" "[LAffineHulls$Hull;", Cond.methodLink RX5 86 yX5_requireVariable, Cond.instanceMethod yX5_requireVariable, Cond.selects RX5 yX5_requireVariable yX5_requireVariable, Cond.code yX5_requireVariable cX5_requireVariable 2 none]
def wsL_edge_r2 : List Cond := [Cond.fieldLink RX5 18 "AffineHulls" "variables" "I", Cond.methodLink RX5 97 yX0_set, Cond.instanceMethod yX0_set, Cond.selects RX0 yX0_set yX0_set, Cond.initialized RX0, Cond.code yX0_set cX0_set 6 none, Cond.fieldLink RX0 15 "AffineHulls$Edge" "from" "I", Cond.fieldLink RX0 19 "AffineHulls$Edge" "to" "I", Cond.fieldLink RX0 22 "AffineHulls$Edge" "kind" "I", Cond.fieldLink RX0 25 "AffineHulls$Edge" "variable" "I", Cond.fieldLink RX0 9 "AffineHulls$Edge" "form" "[I", Cond.static yX5_copy, Cond.code yX5_copy cX5_copy 2 none, Cond.methodLink RX5 277 arraycopyName, Cond.native arraycopyName, Cond.static arraycopyName, Cond.initialized "java/lang/System", Cond.methodLink RX5 101 yX5_clearDraft, Cond.instanceMethod yX5_clearDraft, Cond.selects RX5 yX5_clearDraft yX5_clearDraft, Cond.code yX5_clearDraft cX5_clearDraft 1 none, Cond.methodLink RX5 215 yJ7_fill_53178, Cond.static yJ7_fill_53178, Cond.initialized RJ7]
def wsL_edge_r3 : List Cond := [Cond.code yJ7_fill_53178 cJ7_fill_53178 4 none]
def wsL_edge : List Cond := .codeWith yL_edge cL_edge 7 (some .int) [(0, 14, 17, 13), (0, 14, 21, 19)] :: ((wsL_edge_r1 ++ (wsL_edge_r2 ++ wsL_edge_r3)) ++ wsX50 ++ wsX00 ++ (vx_atS RX5 83 "java/lang/IllegalArgumentException" ["java/lang/RuntimeException", "java/lang/Exception"]).filter goodWord ++ (vx_atS RX5 96 "java/lang/IllegalStateException" ["java/lang/RuntimeException", "java/lang/Exception"]).filter goodWord)
def wsL_entry : List Cond := .codeWith yL_entry cL_entry 3 (some .int) [(0, 5, 8, 13)] :: ([.classLink RL 13 "java/lang/IllegalArgumentException", .methodLink RL 21 yX5_entry, .instanceMethod yX5_entry, .selects RX5 yX5_entry yX5_entry, .initialized RX5, .code yX5_entry cX5_entry 2 none, .fieldLink RX5 108 "AffineHulls" "entryNode" "I", .fieldLink RX5 111 "AffineHulls" "place" "I", .fieldLink RX5 104 "AffineHulls" "analysed" "Z", .methodLink RX5 76 yX5_requireNode, .instanceMethod yX5_requireNode, .selects RX5 yX5_requireNode yX5_requireNode, .code yX5_requireNode cX5_requireNode 2 none, .classLink RX5 79 "java/lang/IllegalArgumentException", .initialized "java/lang/IllegalArgumentException", .fieldLink RX5 57 "AffineHulls" "hulls" "[LAffineHulls$Hull;"] ++ wsX50 ++ (vx_atS RX5 83 "java/lang/IllegalArgumentException" ["java/lang/RuntimeException", "java/lang/Exception"]).filter goodWord)
def wsL_points : List Cond := .codeWith yL_points cL_points 4 (some .int) [(0, 9, 12, 13), (0, 9, 15, 19)] :: ([.classLink RL 13 "java/lang/IllegalArgumentException", .classLink RL 19 "java/lang/IllegalStateException", .methodLink RL 25 yX5_points, .instanceMethod yX5_points, .selects RX5 yX5_points yX5_points, .initialized RX5, .code yX5_points cX5_points 2 (some .int), .fieldLink RX5 57 "AffineHulls" "hulls" "[LAffineHulls$Hull;", .fieldLink RX5 130 "AffineHulls$Hull" "pointCount" "I", .methodLink RX5 76 yX5_requireNode, .instanceMethod yX5_requireNode, .selects RX5 yX5_requireNode yX5_requireNode, .code yX5_requireNode cX5_requireNode 2 none, .classLink RX5 79 "java/lang/IllegalArgumentException", .initialized "java/lang/IllegalArgumentException", .methodLink RX5 127 yX5_requireAnalysed, .instanceMethod yX5_requireAnalysed, .selects RX5 yX5_requireAnalysed yX5_requireAnalysed, .code yX5_requireAnalysed cX5_requireAnalysed 1 none, .classLink RX5 92 "java/lang/IllegalStateException", .initialized "java/lang/IllegalStateException", .fieldLink RX5 104 "AffineHulls" "analysed" "Z"] ++ wsX50 ++ wsX10 ++ (vx_atS RX5 83 "java/lang/IllegalArgumentException" ["java/lang/RuntimeException", "java/lang/Exception"]).filter goodWord ++ (vx_atS RX5 96 "java/lang/IllegalStateException" ["java/lang/RuntimeException", "java/lang/Exception"]).filter goodWord)
def wsL_point_r1 : List Cond := [Cond.classLink RL 13 "java/lang/IllegalArgumentException", Cond.classLink RL 19 "java/lang/IllegalStateException", Cond.classLink RL 33 "java/lang/IndexOutOfBoundsException", Cond.methodLink RL 29 yX5_point, Cond.instanceMethod yX5_point, Cond.selects RX5 yX5_point yX5_point, Cond.initialized RX5, Cond.code yX5_point cX5_point 6 (some .int), Cond.classLink RX5 133 "java/lang/IndexOutOfBoundsException", Cond.initialized "java/lang/IndexOutOfBoundsException", Cond.fieldLink RX5 57 "AffineHulls" "hulls" "[LAffineHulls$Hull;", Cond.fieldLink RX5 130 "AffineHulls$Hull" "pointCount" "I", Cond.fieldLink RX5 64 "AffineHulls" "arrivals" "[LAffineHulls$Point;", Cond.fieldLink RX5 138 "AffineHulls$Hull" "members" "[I", Cond.fieldLink RX5 141 "AffineHulls$Point" "origin" "I", Cond.fieldLink RX5 144 "AffineHulls$Point" "row" "[I", Cond.methodLink RX5 76 yX5_requireNode, Cond.instanceMethod yX5_requireNode, Cond.selects RX5 yX5_requireNode yX5_requireNode, Cond.code yX5_requireNode cX5_requireNode 2 none, Cond.classLink RX5 79 "java/lang/IllegalArgumentException", Cond.initialized "java/lang/IllegalArgumentException", Cond.methodLink RX5 69 yX5_requirePlace, Cond.instanceMethod yX5_requirePlace]
def wsL_point_r2 : List Cond := [Cond.selects RX5 yX5_requirePlace yX5_requirePlace, Cond.code yX5_requirePlace cX5_requirePlace 2 none, Cond.fieldLink RX5 18 "AffineHulls" "variables" "I", Cond.methodLink RX5 127 yX5_requireAnalysed, Cond.instanceMethod yX5_requireAnalysed, Cond.selects RX5 yX5_requireAnalysed yX5_requireAnalysed, Cond.code yX5_requireAnalysed cX5_requireAnalysed 1 none, Cond.classLink RX5 92 "java/lang/IllegalStateException", Cond.initialized "java/lang/IllegalStateException", Cond.fieldLink RX5 104 "AffineHulls" "analysed" "Z"]
def wsL_point : List Cond := .codeWith yL_point cL_point 6 (some .int) [(0, 12, 15, 13), (0, 12, 19, 19), (0, 12, 23, 33)] :: ((wsL_point_r1 ++ wsL_point_r2) ++ wsX50 ++ wsX10 ++ wsX30 ++ (vx_atS RX5 137 "java/lang/IndexOutOfBoundsException" ["java/lang/RuntimeException", "java/lang/Exception"]).filter goodWord ++ (vx_atS RX5 83 "java/lang/IllegalArgumentException" ["java/lang/RuntimeException", "java/lang/Exception"]).filter goodWord ++ (vx_atS RX5 96 "java/lang/IllegalStateException" ["java/lang/RuntimeException", "java/lang/Exception"]).filter goodWord)
def wsL_equations_r1 : List Cond := [Cond.classLink RL 13 "java/lang/IllegalArgumentException", Cond.classLink RL 19 "java/lang/IllegalStateException", Cond.methodLink RL 35 yX5_equations, Cond.instanceMethod yX5_equations, Cond.selects RX5 yX5_equations yX5_equations, Cond.initialized RX5, Cond.code yX5_equations cX5_equations 2 (some .int), Cond.fieldLink RX5 57 "AffineHulls" "hulls" "[LAffineHulls$Hull;", Cond.methodLink RX5 76 yX5_requireNode, Cond.instanceMethod yX5_requireNode, Cond.selects RX5 yX5_requireNode yX5_requireNode, Cond.code yX5_requireNode cX5_requireNode 2 none, Cond.classLink RX5 79 "java/lang/IllegalArgumentException", Cond.initialized "java/lang/IllegalArgumentException", Cond.methodLink RX5 127 yX5_requireAnalysed, Cond.instanceMethod yX5_requireAnalysed, Cond.selects RX5 yX5_requireAnalysed yX5_requireAnalysed, Cond.code yX5_requireAnalysed cX5_requireAnalysed 1 none, Cond.classLink RX5 92 "java/lang/IllegalStateException", Cond.initialized "java/lang/IllegalStateException", Cond.fieldLink RX5 104 "AffineHulls" "analysed" "Z", Cond.methodLink RX5 147 yX1_equationCount, Cond.instanceMethod yX1_equationCount, Cond.selects RX1 yX1_equationCount yX1_equationCount]
def wsL_equations_r2 : List Cond := [Cond.initialized RX1, Cond.code yX1_equationCount cX1_equationCount 1 (some .int), Cond.fieldLink RX1 18 "AffineHulls$Hull" "members" "[I", Cond.fieldLink RX1 25 "AffineHulls$Hull" "pointCount" "I"]
def wsL_equations : List Cond := .codeWith yL_equations cL_equations 4 (some .int) [(0, 9, 12, 13), (0, 9, 15, 19)] :: ((wsL_equations_r1 ++ wsL_equations_r2) ++ wsX50 ++ wsX10 ++ (vx_atS RX5 83 "java/lang/IllegalArgumentException" ["java/lang/RuntimeException", "java/lang/Exception"]).filter goodWord ++ (vx_atS RX5 96 "java/lang/IllegalStateException" ["java/lang/RuntimeException", "java/lang/Exception"]).filter goodWord)
def wsL_coefficient_r1 : List Cond := [Cond.classLink RL 13 "java/lang/IllegalArgumentException", Cond.classLink RL 19 "java/lang/IllegalStateException", Cond.classLink RL 33 "java/lang/IndexOutOfBoundsException", Cond.methodLink RL 38 yX5_coefficient, Cond.instanceMethod yX5_coefficient, Cond.selects RX5 yX5_coefficient yX5_coefficient, Cond.initialized RX5, Cond.code yX5_coefficient cX5_coefficient 5 (some .int), Cond.classLink RX5 133 "java/lang/IndexOutOfBoundsException", Cond.initialized "java/lang/IndexOutOfBoundsException", Cond.fieldLink RX5 57 "AffineHulls" "hulls" "[LAffineHulls$Hull;", Cond.fieldLink RX5 153 "AffineHulls$Hull" "span" "LAffineHulls$Span;", Cond.methodLink RX5 76 yX5_requireNode, Cond.instanceMethod yX5_requireNode, Cond.selects RX5 yX5_requireNode yX5_requireNode, Cond.code yX5_requireNode cX5_requireNode 2 none, Cond.classLink RX5 79 "java/lang/IllegalArgumentException", Cond.initialized "java/lang/IllegalArgumentException", Cond.methodLink RX5 69 yX5_requirePlace, Cond.instanceMethod yX5_requirePlace, Cond.selects RX5 yX5_requirePlace yX5_requirePlace, Cond.code yX5_requirePlace cX5_requirePlace 2 none, Cond.fieldLink RX5 18 "AffineHulls" "variables" "I", Cond.methodLink RX5 127 yX5_requireAnalysed]
def wsL_coefficient_r2 : List Cond := [Cond.instanceMethod yX5_requireAnalysed, Cond.selects RX5 yX5_requireAnalysed yX5_requireAnalysed, Cond.code yX5_requireAnalysed cX5_requireAnalysed 1 none, Cond.classLink RX5 92 "java/lang/IllegalStateException", Cond.initialized "java/lang/IllegalStateException", Cond.fieldLink RX5 104 "AffineHulls" "analysed" "Z", Cond.methodLink RX5 147 yX1_equationCount, Cond.instanceMethod yX1_equationCount, Cond.selects RX1 yX1_equationCount yX1_equationCount, Cond.initialized RX1, Cond.code yX1_equationCount cX1_equationCount 1 (some .int), Cond.fieldLink RX1 18 "AffineHulls$Hull" "members" "[I", Cond.fieldLink RX1 25 "AffineHulls$Hull" "pointCount" "I", Cond.methodLink RX5 156 yX4_freePlace, Cond.instanceMethod yX4_freePlace, Cond.selects RX4 yX4_freePlace yX4_freePlace, Cond.initialized RX4, Cond.code yX4_freePlace cX4_freePlace 4 (some .int), Cond.fieldLink RX4 16 "AffineHulls$Span" "taken" "[Z", Cond.methodLink RX5 159 yX4_vanishing, Cond.instanceMethod yX4_vanishing, Cond.selects RX4 yX4_vanishing yX4_vanishing, Cond.code yX4_vanishing cX4_vanishing 3 (some .int), Cond.fieldLink RX4 11 "AffineHulls$Span" "kept" "[[I"]
def wsL_coefficient_r3 : List Cond := [Cond.static yX5_number, Cond.code yX5_number cX5_number 1 (some .int), Cond.constant RX5 271 (65521), Cond.methodLink RX5 272 yJ9_floorMod_7cf53, Cond.static yJ9_floorMod_7cf53, Cond.initialized RJ9, Cond.code yJ9_floorMod_7cf53 cJ9_floorMod_7cf53 3 (some .int)]
def wsL_coefficient : List Cond := .codeWith yL_coefficient cL_coefficient 6 (some .int) [(0, 12, 15, 13), (0, 12, 19, 19), (0, 12, 23, 33)] :: ((wsL_coefficient_r1 ++ (wsL_coefficient_r2 ++ wsL_coefficient_r3)) ++ wsX50 ++ wsX10 ++ wsX40 ++ (vx_atS RX5 137 "java/lang/IndexOutOfBoundsException" ["java/lang/RuntimeException", "java/lang/Exception"]).filter goodWord ++ (vx_atS RX5 83 "java/lang/IllegalArgumentException" ["java/lang/RuntimeException", "java/lang/Exception"]).filter goodWord ++ (vx_atS RX5 96 "java/lang/IllegalStateException" ["java/lang/RuntimeException", "java/lang/Exception"]).filter goodWord)
def wsL_holds_r1 : List Cond := [Cond.classLink RL 13 "java/lang/IllegalArgumentException", Cond.classLink RL 19 "java/lang/IllegalStateException", Cond.methodLink RL 41 yX5_holds, Cond.instanceMethod yX5_holds, Cond.selects RX5 yX5_holds yX5_holds, Cond.initialized RX5, Cond.code yX5_holds cX5_holds 3 (some .boolean), Cond.fieldLink RX5 57 "AffineHulls" "hulls" "[LAffineHulls$Hull;", Cond.methodLink RX5 76 yX5_requireNode, Cond.instanceMethod yX5_requireNode, Cond.selects RX5 yX5_requireNode yX5_requireNode, Cond.code yX5_requireNode cX5_requireNode 2 none, Cond.classLink RX5 79 "java/lang/IllegalArgumentException", Cond.initialized "java/lang/IllegalArgumentException", Cond.methodLink RX5 127 yX5_requireAnalysed, Cond.instanceMethod yX5_requireAnalysed, Cond.selects RX5 yX5_requireAnalysed yX5_requireAnalysed, Cond.code yX5_requireAnalysed cX5_requireAnalysed 1 none, Cond.classLink RX5 92 "java/lang/IllegalStateException", Cond.initialized "java/lang/IllegalStateException", Cond.fieldLink RX5 104 "AffineHulls" "analysed" "Z", Cond.methodLink RX5 162 yX5_holdsAtPoints, Cond.instanceMethod yX5_holdsAtPoints, Cond.selects RX5 yX5_holdsAtPoints yX5_holdsAtPoints]
def wsL_holds_r2 : List Cond := [Cond.code yX5_holdsAtPoints cX5_holdsAtPoints 3 (some .boolean), Cond.fieldLink RX5 130 "AffineHulls$Hull" "pointCount" "I", Cond.fieldLink RX5 22 "AffineHulls" "draft" "[I", Cond.fieldLink RX5 64 "AffineHulls" "arrivals" "[LAffineHulls$Point;", Cond.fieldLink RX5 138 "AffineHulls$Hull" "members" "[I", Cond.fieldLink RX5 144 "AffineHulls$Point" "row" "[I", Cond.methodLink RX5 248 yX5_valueOf, Cond.static yX5_valueOf, Cond.code yX5_valueOf cX5_valueOf 5 (some .int), Cond.constantLong RX5 275 (65521), Cond.methodLink RX5 101 yX5_clearDraft, Cond.instanceMethod yX5_clearDraft, Cond.selects RX5 yX5_clearDraft yX5_clearDraft, Cond.code yX5_clearDraft cX5_clearDraft 1 none, Cond.methodLink RX5 215 yJ7_fill_53178, Cond.static yJ7_fill_53178, Cond.initialized RJ7, Cond.code yJ7_fill_53178 cJ7_fill_53178 4 none]
def wsL_holds : List Cond := .codeWith yL_holds cL_holds 4 (some .int) [(0, 16, 19, 13), (0, 16, 22, 19)] :: ((wsL_holds_r1 ++ wsL_holds_r2) ++ wsX50 ++ wsX10 ++ wsX30 ++ (vx_atS RX5 83 "java/lang/IllegalArgumentException" ["java/lang/RuntimeException", "java/lang/Exception"]).filter goodWord ++ (vx_atS RX5 96 "java/lang/IllegalStateException" ["java/lang/RuntimeException", "java/lang/Exception"]).filter goodWord)
def wsL_begin : List Cond := .codeWith yL_begin cL_begin 4 (some .int) [(0, 6, 9, 13)] :: ([.classLink RL 13 "java/lang/IllegalArgumentException", .methodLink RL 45 yX5_begin, .instanceMethod yX5_begin, .selects RX5 yX5_begin yX5_begin, .initialized RX5, .code yX5_begin cX5_begin 3 none, .fieldLink RX5 29 "AffineHulls" "values" "[I", .fieldLink RX5 108 "AffineHulls" "entryNode" "I", .fieldLink RX5 111 "AffineHulls" "place" "I", .methodLink RX5 86 yX5_requireVariable, .instanceMethod yX5_requireVariable, .selects RX5 yX5_requireVariable yX5_requireVariable, .code yX5_requireVariable cX5_requireVariable 2 none, .classLink RX5 79 "java/lang/IllegalArgumentException", .initialized "java/lang/IllegalArgumentException", .fieldLink RX5 18 "AffineHulls" "variables" "I", .methodLink RX5 72 yX5_number, .static yX5_number, .code yX5_number cX5_number 1 (some .int), .constant RX5 271 (65521), .methodLink RX5 272 yJ9_floorMod_7cf53, .static yJ9_floorMod_7cf53, .initialized RJ9, .code yJ9_floorMod_7cf53 cJ9_floorMod_7cf53 3 (some .int)] ++ wsX50 ++ (vx_atS RX5 83 "java/lang/IllegalArgumentException" ["java/lang/RuntimeException", "java/lang/Exception"]).filter goodWord)
def wsL_go_r1 : List Cond := [Cond.classLink RL 13 "java/lang/IllegalArgumentException", Cond.methodLink RL 48 yX5_go, Cond.instanceMethod yX5_go, Cond.selects RX5 yX5_go yX5_go, Cond.initialized RX5, Cond.code yX5_go cX5_go 4 (some .boolean), Cond.classLink RX5 79 "java/lang/IllegalArgumentException", Cond.initialized "java/lang/IllegalArgumentException", Cond.fieldLink RX5 89 "AffineHulls" "edgeCount" "I", Cond.fieldLink RX5 43 "AffineHulls" "edges" "[LAffineHulls$Edge;", Cond.fieldLink RX5 168 "AffineHulls$Edge" "from" "I", Cond.fieldLink RX5 111 "AffineHulls" "place" "I", Cond.fieldLink RX5 29 "AffineHulls" "values" "[I", Cond.fieldLink RX5 181 "AffineHulls$Edge" "to" "I", Cond.methodLink RX5 173 yX0_isOpen, Cond.instanceMethod yX0_isOpen, Cond.selects RX0 yX0_isOpen yX0_isOpen, Cond.initialized RX0, Cond.code yX0_isOpen cX0_isOpen 2 (some .boolean), Cond.fieldLink RX0 22 "AffineHulls$Edge" "kind" "I", Cond.fieldLink RX0 9 "AffineHulls$Edge" "form" "[I", Cond.static yX5_valueOf, Cond.code yX5_valueOf cX5_valueOf 5 (some .int), Cond.constantLong RX5 275 (65521)]
def wsL_go_r2 : List Cond := [Cond.methodLink RX5 72 yX5_number, Cond.static yX5_number, Cond.code yX5_number cX5_number 1 (some .int), Cond.constant RX5 271 (65521), Cond.methodLink RX5 272 yJ9_floorMod_7cf53, Cond.static yJ9_floorMod_7cf53, Cond.initialized RJ9, Cond.code yJ9_floorMod_7cf53 cJ9_floorMod_7cf53 3 (some .int), Cond.methodLink RX5 177 yX0_step, Cond.instanceMethod yX0_step, Cond.selects RX0 yX0_step yX0_step, Cond.code yX0_step cX0_step 3 none, Cond.fieldLink RX0 25 "AffineHulls$Edge" "variable" "I"]
def wsL_go : List Cond := .codeWith yL_go cL_go 5 (some .int) [(0, 17, 20, 13)] :: ((wsL_go_r1 ++ wsL_go_r2) ++ wsX50 ++ wsX00 ++ (vx_atS RX5 83 "java/lang/IllegalArgumentException" ["java/lang/RuntimeException", "java/lang/Exception"]).filter goodWord)
def wsL_at : List Cond := .codeWith yL_at cL_at 4 (some .int) [(0, 9, 12, 13)] :: ([.classLink RL 13 "java/lang/IllegalArgumentException", .methodLink RL 52 yX5_at, .instanceMethod yX5_at, .selects RX5 yX5_at yX5_at, .initialized RX5, .code yX5_at cX5_at 2 (some .int), .fieldLink RX5 111 "AffineHulls" "place" "I", .fieldLink RX5 29 "AffineHulls" "values" "[I", .methodLink RX5 69 yX5_requirePlace, .instanceMethod yX5_requirePlace, .selects RX5 yX5_requirePlace yX5_requirePlace, .code yX5_requirePlace cX5_requirePlace 2 none, .classLink RX5 79 "java/lang/IllegalArgumentException", .initialized "java/lang/IllegalArgumentException", .fieldLink RX5 18 "AffineHulls" "variables" "I"] ++ wsX50 ++ (vx_atS RX5 83 "java/lang/IllegalArgumentException" ["java/lang/RuntimeException", "java/lang/Exception"]).filter goodWord)
def wsL_note_r1 : List Cond := [Cond.classLink RL 13 "java/lang/IllegalArgumentException", Cond.classLink RL 19 "java/lang/IllegalStateException", Cond.methodLink RL 55 yX5_note, Cond.instanceMethod yX5_note, Cond.selects RX5 yX5_note yX5_note, Cond.initialized RX5, Cond.code yX5_note cX5_note 2 (some .int), Cond.classLink RX5 92 "java/lang/IllegalStateException", Cond.initialized "java/lang/IllegalStateException", Cond.fieldLink RX5 184 "AffineHulls" "noteCount" "I", Cond.fieldLink RX5 50 "AffineHulls" "notes" "[LAffineHulls$Note;", Cond.fieldLink RX5 22 "AffineHulls" "draft" "[I", Cond.methodLink RX5 76 yX5_requireNode, Cond.instanceMethod yX5_requireNode, Cond.selects RX5 yX5_requireNode yX5_requireNode, Cond.code yX5_requireNode cX5_requireNode 2 none, Cond.classLink RX5 79 "java/lang/IllegalArgumentException", Cond.initialized "java/lang/IllegalArgumentException", Cond.fieldLink RX5 57 "AffineHulls" "hulls" "[LAffineHulls$Hull;", Cond.methodLink RX5 189 yX2_set, Cond.instanceMethod yX2_set, Cond.selects RX2 yX2_set yX2_set, Cond.initialized RX2, Cond.code yX2_set cX2_set 3 none]
def wsL_note_r2 : List Cond := [Cond.fieldLink RX2 13 "AffineHulls$Note" "node" "I", Cond.fieldLink RX2 7 "AffineHulls$Note" "form" "[I", Cond.static yX5_copy, Cond.code yX5_copy cX5_copy 2 none, Cond.methodLink RX5 277 arraycopyName, Cond.native arraycopyName, Cond.static arraycopyName, Cond.initialized "java/lang/System", Cond.methodLink RX5 101 yX5_clearDraft, Cond.instanceMethod yX5_clearDraft, Cond.selects RX5 yX5_clearDraft yX5_clearDraft, Cond.code yX5_clearDraft cX5_clearDraft 1 none, Cond.methodLink RX5 215 yJ7_fill_53178, Cond.static yJ7_fill_53178, Cond.initialized RJ7, Cond.code yJ7_fill_53178 cJ7_fill_53178 4 none]
def wsL_note : List Cond := .codeWith yL_note cL_note 4 (some .int) [(0, 9, 12, 13), (0, 9, 15, 19)] :: ((wsL_note_r1 ++ wsL_note_r2) ++ wsX50 ++ wsX20 ++ (vx_atS RX5 96 "java/lang/IllegalStateException" ["java/lang/RuntimeException", "java/lang/Exception"]).filter goodWord ++ (vx_atS RX5 83 "java/lang/IllegalArgumentException" ["java/lang/RuntimeException", "java/lang/Exception"]).filter goodWord)
def wsL_noteAll_r1 : List Cond := [Cond.classLink RL 19 "java/lang/IllegalStateException", Cond.classLink RL 62 "java/lang/UnsupportedOperationException", Cond.methodLink RL 58 yX5_noteAll, Cond.instanceMethod yX5_noteAll, Cond.selects RX5 yX5_noteAll yX5_noteAll, Cond.initialized RX5, Cond.code yX5_noteAll cX5_noteAll 3 (some .int), Cond.classLink RX5 192 "java/lang/UnsupportedOperationException", Cond.initialized "java/lang/UnsupportedOperationException", Cond.fieldLink RX5 57 "AffineHulls" "hulls" "[LAffineHulls$Hull;", Cond.fieldLink RX5 184 "AffineHulls" "noteCount" "I", Cond.methodLink RX5 127 yX5_requireAnalysed, Cond.instanceMethod yX5_requireAnalysed, Cond.selects RX5 yX5_requireAnalysed yX5_requireAnalysed, Cond.code yX5_requireAnalysed cX5_requireAnalysed 1 none, Cond.classLink RX5 92 "java/lang/IllegalStateException", Cond.initialized "java/lang/IllegalStateException", Cond.fieldLink RX5 104 "AffineHulls" "analysed" "Z", Cond.methodLink RX5 147 yX1_equationCount, Cond.instanceMethod yX1_equationCount, Cond.selects RX1 yX1_equationCount yX1_equationCount, Cond.initialized RX1, Cond.code yX1_equationCount cX1_equationCount 1 (some .int), Cond.fieldLink RX1 18 "AffineHulls$Hull" "members" "[I"]
def wsL_noteAll_r2 : List Cond := [Cond.fieldLink RX1 25 "AffineHulls$Hull" "pointCount" "I", Cond.methodLink RX5 197 yX5_noteEquations, Cond.instanceMethod yX5_noteEquations, Cond.selects RX5 yX5_noteEquations yX5_noteEquations, Cond.code yX5_noteEquations cX5_noteEquations 7 none, Cond.fieldLink RX5 153 "AffineHulls$Hull" "span" "LAffineHulls$Span;", Cond.fieldLink RX5 18 "AffineHulls" "variables" "I", Cond.fieldLink RX5 26 "AffineHulls" "work" "[I", Cond.fieldLink RX5 50 "AffineHulls" "notes" "[LAffineHulls$Note;", Cond.methodLink RX5 156 yX4_freePlace, Cond.instanceMethod yX4_freePlace, Cond.selects RX4 yX4_freePlace yX4_freePlace, Cond.initialized RX4, Cond.code yX4_freePlace cX4_freePlace 4 (some .int), Cond.fieldLink RX4 16 "AffineHulls$Span" "taken" "[Z", Cond.methodLink RX5 159 yX4_vanishing, Cond.instanceMethod yX4_vanishing, Cond.selects RX4 yX4_vanishing yX4_vanishing, Cond.code yX4_vanishing cX4_vanishing 3 (some .int), Cond.fieldLink RX4 11 "AffineHulls$Span" "kept" "[[I", Cond.static yX5_number, Cond.code yX5_number cX5_number 1 (some .int), Cond.constant RX5 271 (65521), Cond.methodLink RX5 272 yJ9_floorMod_7cf53]
def wsL_noteAll_r3 : List Cond := [Cond.static yJ9_floorMod_7cf53, Cond.initialized RJ9, Cond.code yJ9_floorMod_7cf53 cJ9_floorMod_7cf53 3 (some .int), Cond.methodLink RX5 189 yX2_set, Cond.instanceMethod yX2_set, Cond.selects RX2 yX2_set yX2_set, Cond.initialized RX2, Cond.code yX2_set cX2_set 3 none, Cond.fieldLink RX2 13 "AffineHulls$Note" "node" "I", Cond.fieldLink RX2 7 "AffineHulls$Note" "form" "[I", Cond.static yX5_copy, Cond.code yX5_copy cX5_copy 2 none, Cond.methodLink RX5 277 arraycopyName, Cond.native arraycopyName, Cond.static arraycopyName, Cond.initialized "java/lang/System"]
def wsL_noteAll : List Cond := .codeWith yL_noteAll cL_noteAll 3 (some .int) [(0, 8, 11, 19), (0, 8, 14, 62)] :: ((wsL_noteAll_r1 ++ (wsL_noteAll_r2 ++ wsL_noteAll_r3)) ++ wsX50 ++ wsX10 ++ wsX40 ++ wsX20 ++ (vx_atS RX5 196 "java/lang/UnsupportedOperationException" ["java/lang/RuntimeException", "java/lang/Exception"]).filter goodWord ++ (vx_atS RX5 96 "java/lang/IllegalStateException" ["java/lang/RuntimeException", "java/lang/Exception"]).filter goodWord)
def wsL_law0_r1 : List Cond := [Cond.classLink RL 8 RX5, Cond.instantiable RX5 15, Cond.initialized RX5, Cond.classLink RL 72 RX6, Cond.instantiable RX6 29, Cond.initialized RX6, Cond.arrayClass .long, Cond.methodLink RL 64 yL_cell, Cond.static yL_cell, Cond.initialized RL, Cond.code yL_cell cL_cell 2 (some .int), Cond.methodLink RL 70 yX5_init, Cond.instanceMethod yX5_init, Cond.code yX5_init cX5_init 6 none, Cond.methodLink RX5 1 objectInit, Cond.instanceMethod objectInit, Cond.code objectInit ⟨#[0xb1]⟩ 1 none, Cond.methodLink RX5 9 Lib.Math.min.name, Cond.static Lib.Math.min.name, Cond.initialized "java/lang/Math", Cond.code Lib.Math.min.name Lib.Math.min.code 2 (some .int), Cond.methodLink RX5 15 Lib.Math.max.name, Cond.static Lib.Math.max.name, Cond.code Lib.Math.max.name Lib.Math.max.code 2 (some .int)]
def wsL_law0_r2 : List Cond := [Cond.fieldLink RX5 18 "AffineHulls" "variables" "I", Cond.arrayClass .int, Cond.fieldLink RX5 22 "AffineHulls" "draft" "[I", Cond.fieldLink RX5 26 "AffineHulls" "work" "[I", Cond.fieldLink RX5 29 "AffineHulls" "values" "[I", Cond.classLink RX5 32 RX4, Cond.instantiable RX4 3, Cond.initialized RX4, Cond.fieldLink RX5 37 "AffineHulls" "noteSpan" "LAffineHulls$Span;", Cond.classLink RX5 41 RX0, Cond.fieldLink RX5 43 "AffineHulls" "edges" "[LAffineHulls$Edge;", Cond.instantiable RX0 5, Cond.initialized RX0, Cond.classLink RX5 48 RX2, Cond.fieldLink RX5 50 "AffineHulls" "notes" "[LAffineHulls$Note;", Cond.instantiable RX2 2, Cond.initialized RX2, Cond.classLink RX5 55 RX1, Cond.fieldLink RX5 57 "AffineHulls" "hulls" "[LAffineHulls$Hull;", Cond.instantiable RX1 3, Cond.initialized RX1, Cond.classLink RX5 62 RX3, Cond.fieldLink RX5 64 "AffineHulls" "arrivals" "[LAffineHulls$Point;", Cond.instantiable RX3 4]
def wsL_law0_r3 : List Cond := [Cond.initialized RX3, Cond.methodLink RX5 34 yX4_init, Cond.instanceMethod yX4_init, Cond.code yX4_init cX4_init 2 none, Cond.methodLink RX4 3 objectInit, Cond.classLink RX4 9 "[[I", Cond.fieldLink RX4 11 "AffineHulls$Span" "kept" "[[I", Cond.arrayClass .boolean, Cond.fieldLink RX4 16 "AffineHulls$Span" "taken" "[Z", Cond.fieldLink RX4 20 "AffineHulls$Span" "rest" "[I", Cond.methodLink RX5 47 yX0_init, Cond.instanceMethod yX0_init, Cond.code yX0_init cX0_init 2 none, Cond.methodLink RX0 3 objectInit, Cond.fieldLink RX0 9 "AffineHulls$Edge" "form" "[I", Cond.methodLink RX5 54 yX2_init, Cond.instanceMethod yX2_init, Cond.code yX2_init cX2_init 2 none, Cond.methodLink RX2 1 objectInit, Cond.fieldLink RX2 7 "AffineHulls$Note" "form" "[I", Cond.methodLink RX5 61 yX1_init, Cond.instanceMethod yX1_init, Cond.code yX1_init cX1_init 2 none, Cond.methodLink RX1 1 objectInit]
def wsL_law0_r4 : List Cond := [Cond.classLink RX1 7 RX4, Cond.fieldLink RX1 12 "AffineHulls$Hull" "span" "LAffineHulls$Span;", Cond.fieldLink RX1 18 "AffineHulls$Hull" "members" "[I", Cond.methodLink RX1 9 yX4_init, Cond.methodLink RX5 68 yX3_init, Cond.instanceMethod yX3_init, Cond.code yX3_init cX3_init 2 none, Cond.methodLink RX3 1 objectInit, Cond.fieldLink RX3 7 "AffineHulls$Point" "row" "[I", Cond.methodLink RL 74 yX6_init, Cond.instanceMethod yX6_init, Cond.code yX6_init cX6_init 3 none, Cond.methodLink RX6 1 objectInit, Cond.fieldLink RX6 7 "AffineHullsModel" "draft" "[I", Cond.fieldLink RX6 13 "AffineHullsModel" "froms" "[I", Cond.fieldLink RX6 16 "AffineHullsModel" "tos" "[I", Cond.fieldLink RX6 19 "AffineHullsModel" "kinds" "[I", Cond.fieldLink RX6 22 "AffineHullsModel" "targets" "[I", Cond.fieldLink RX6 25 "AffineHullsModel" "forms" "[I", Cond.fieldLink RX6 28 "AffineHullsModel" "many" "[I", Cond.fieldLink RX6 31 "AffineHullsModel" "points" "[I", Cond.fieldLink RX6 34 "AffineHullsModel" "came" "[I", Cond.fieldLink RX6 37 "AffineHullsModel" "nodeOf" "[I", Cond.fieldLink RX6 40 "AffineHullsModel" "numberOf" "[I"]
def wsL_law0_r5 : List Cond := [Cond.fieldLink RX6 43 "AffineHullsModel" "rows" "[I", Cond.fieldLink RX6 46 "AffineHullsModel" "equations" "[I", Cond.fieldLink RX6 49 "AffineHullsModel" "values" "[I", Cond.fieldLink RX6 52 "AffineHullsModel" "noteNode" "[I", Cond.fieldLink RX6 55 "AffineHullsModel" "noteForm" "[I", Cond.fieldLink RX6 58 "AffineHullsModel" "table" "[I", Cond.fieldLink RX6 61 "AffineHullsModel" "pivots" "[I", Cond.fieldLink RX6 64 "AffineHullsModel" "row" "[I", Cond.fieldLink RX6 67 "AffineHullsModel" "n" "I", Cond.fieldLink RX6 71 "AffineHullsModel" "v" "I", Cond.methodLink RL 75 yL_term, Cond.static yL_term, Cond.codeWith yL_term cL_term 4 (some .int) [(0, 6, 9, 13)], Cond.classLink RL 13 "java/lang/IllegalArgumentException", Cond.methodLink RL 7 yX5_term, Cond.instanceMethod yX5_term, Cond.selects RX5 yX5_term yX5_term, Cond.code yX5_term cX5_term 3 none, Cond.methodLink RX5 69 yX5_requirePlace, Cond.instanceMethod yX5_requirePlace, Cond.selects RX5 yX5_requirePlace yX5_requirePlace, Cond.code yX5_requirePlace cX5_requirePlace 2 none, Cond.classLink RX5 79 "java/lang/IllegalArgumentException", Cond.initialized "java/lang/IllegalArgumentException"]
def wsL_law0_r6 : List Cond := [Cond.methodLink RX5 72 yX5_number, Cond.static yX5_number, Cond.code yX5_number cX5_number 1 (some .int), Cond.constant RX5 271 (65521), Cond.methodLink RX5 272 yJ9_floorMod_7cf53, Cond.static yJ9_floorMod_7cf53, Cond.initialized RJ9, Cond.code yJ9_floorMod_7cf53 cJ9_floorMod_7cf53 3 (some .int), Cond.methodLink RL 78 yX6_term, Cond.instanceMethod yX6_term, Cond.selects RX6 yX6_term yX6_term, Cond.code yX6_term cX6_term 3 none, Cond.fieldLink RX6 74 "AffineHullsModel" "thrown" "I", Cond.methodLink RX6 80 yX6_mod, Cond.static yX6_mod, Cond.code yX6_mod cX6_mod 4 (some .int), Cond.constantLong RX6 77 (65521), Cond.methodLink RL 79 yX6_thrown, Cond.instanceMethod yX6_thrown, Cond.selects RX6 yX6_thrown yX6_thrown, Cond.code yX6_thrown cX6_thrown 1 (some .int), Cond.methodLink RL 82 yL_edge, Cond.static yL_edge, Cond.codeWith yL_edge cL_edge 7 (some .int) [(0, 14, 17, 13), (0, 14, 21, 19)]]
def wsL_law0_r7 : List Cond := [Cond.classLink RL 19 "java/lang/IllegalStateException", Cond.methodLink RL 15 yX5_edge, Cond.instanceMethod yX5_edge, Cond.selects RX5 yX5_edge yX5_edge, Cond.code yX5_edge cX5_edge 5 (some .int), Cond.classLink RX5 92 "java/lang/IllegalStateException", Cond.initialized "java/lang/IllegalStateException", Cond.fieldLink RX5 89 "AffineHulls" "edgeCount" "I", Cond.fieldLink RX5 104 "AffineHulls" "analysed" "Z", Cond.methodLink RX5 76 yX5_requireNode, Cond.instanceMethod yX5_requireNode, Cond.selects RX5 yX5_requireNode yX5_requireNode, Cond.code yX5_requireNode cX5_requireNode 2 none, Cond.methodLink RX5 86 yX5_requireVariable, Cond.instanceMethod yX5_requireVariable, Cond.selects RX5 yX5_requireVariable yX5_requireVariable, Cond.code yX5_requireVariable cX5_requireVariable 2 none, Cond.methodLink RX5 97 yX0_set, Cond.instanceMethod yX0_set, Cond.selects RX0 yX0_set yX0_set, Cond.code yX0_set cX0_set 6 none, Cond.fieldLink RX0 15 "AffineHulls$Edge" "from" "I", Cond.fieldLink RX0 19 "AffineHulls$Edge" "to" "I", Cond.fieldLink RX0 22 "AffineHulls$Edge" "kind" "I"]
def wsL_law0_r8 : List Cond := [Cond.fieldLink RX0 25 "AffineHulls$Edge" "variable" "I", Cond.static yX5_copy, Cond.code yX5_copy cX5_copy 2 none, Cond.methodLink RX5 277 arraycopyName, Cond.native arraycopyName, Cond.static arraycopyName, Cond.initialized "java/lang/System", Cond.methodLink RX5 101 yX5_clearDraft, Cond.instanceMethod yX5_clearDraft, Cond.selects RX5 yX5_clearDraft yX5_clearDraft, Cond.code yX5_clearDraft cX5_clearDraft 1 none, Cond.methodLink RX5 215 yJ7_fill_53178, Cond.static yJ7_fill_53178, Cond.initialized RJ7, Cond.code yJ7_fill_53178 cJ7_fill_53178 4 none, Cond.methodLink RL 85 yX6_edge, Cond.instanceMethod yX6_edge, Cond.selects RX6 yX6_edge yX6_edge, Cond.code yX6_edge cX6_edge 8 (some .int), Cond.fieldLink RX6 103 "AffineHullsModel" "edges" "I", Cond.fieldLink RX6 109 "AffineHullsModel" "analysed" "Z", Cond.methodLink RX6 99 yX6_isNode, Cond.instanceMethod yX6_isNode, Cond.selects RX6 yX6_isNode yX6_isNode]
def wsL_law0_r9 : List Cond := [Cond.code yX6_isNode cX6_isNode 2 (some .boolean), Cond.methodLink RX6 106 yX6_clearDraft, Cond.instanceMethod yX6_clearDraft, Cond.selects RX6 yX6_clearDraft yX6_clearDraft, Cond.code yX6_clearDraft cX6_clearDraft 2 none, Cond.methodLink RL 86 yL_entry, Cond.static yL_entry, Cond.codeWith yL_entry cL_entry 3 (some .int) [(0, 5, 8, 13)], Cond.methodLink RL 21 yX5_entry, Cond.instanceMethod yX5_entry, Cond.selects RX5 yX5_entry yX5_entry, Cond.code yX5_entry cX5_entry 2 none, Cond.fieldLink RX5 108 "AffineHulls" "entryNode" "I", Cond.fieldLink RX5 111 "AffineHulls" "place" "I", Cond.methodLink RL 89 yX6_entry, Cond.instanceMethod yX6_entry, Cond.selects RX6 yX6_entry yX6_entry, Cond.code yX6_entry cX6_entry 2 none, Cond.fieldLink RX6 113 "AffineHullsModel" "entry" "I", Cond.fieldLink RX6 116 "AffineHullsModel" "where" "I", Cond.methodLink RL 90 yX5_analyse, Cond.instanceMethod yX5_analyse, Cond.selects RX5 yX5_analyse yX5_analyse, Cond.code yX5_analyse cX5_analyse 2 (some .int)]
def wsL_law0_r10 : List Cond := [Cond.fieldLink RX5 120 "AffineHulls" "arrivalCount" "I", Cond.methodLink RX5 114 yX5_forgetPoints, Cond.instanceMethod yX5_forgetPoints, Cond.selects RX5 yX5_forgetPoints yX5_forgetPoints, Cond.code yX5_forgetPoints cX5_forgetPoints 2 none, Cond.methodLink RX5 220 yX1_clear, Cond.instanceMethod yX1_clear, Cond.selects RX1 yX1_clear yX1_clear, Cond.code yX1_clear cX1_clear 1 none, Cond.fieldLink RX1 25 "AffineHulls$Hull" "pointCount" "I", Cond.methodLink RX1 22 yX4_clear, Cond.instanceMethod yX4_clear, Cond.selects RX4 yX4_clear yX4_clear, Cond.code yX4_clear cX4_clear 2 none, Cond.methodLink RX5 117 yX5_addFirstPoints, Cond.instanceMethod yX5_addFirstPoints, Cond.selects RX5 yX5_addFirstPoints yX5_addFirstPoints, Cond.code yX5_addFirstPoints cX5_addFirstPoints 2 none, Cond.methodLink RX5 223 yX5_addPoint, Cond.instanceMethod yX5_addPoint, Cond.selects RX5 yX5_addPoint yX5_addPoint, Cond.code yX5_addPoint cX5_addPoint 5 none, Cond.fieldLink RX5 153 "AffineHulls$Hull" "span" "LAffineHulls$Span;", Cond.fieldLink RX5 130 "AffineHulls$Hull" "pointCount" "I"]
def wsL_law0_r11 : List Cond := [Cond.fieldLink RX5 138 "AffineHulls$Hull" "members" "[I", Cond.methodLink RX5 242 yX4_add, Cond.instanceMethod yX4_add, Cond.selects RX4 yX4_add yX4_add, Cond.code yX4_add cX4_add 5 (some .boolean), Cond.constant RX4 46 (65521), Cond.methodLink RX4 24 yX4_reduce, Cond.instanceMethod yX4_reduce, Cond.selects RX4 yX4_reduce yX4_reduce, Cond.code yX4_reduce cX4_reduce 3 none, Cond.static yX5_addMultiple, Cond.code yX5_addMultiple cX5_addMultiple 4 none, Cond.constantLong RX5 275 (65521), Cond.methodLink RX4 28 yX4_leadingPlace, Cond.instanceMethod yX4_leadingPlace, Cond.selects RX4 yX4_leadingPlace yX4_leadingPlace, Cond.code yX4_leadingPlace cX4_leadingPlace 2 (some .int), Cond.methodLink RX4 32 yJ7_fill_53178, Cond.static yX5_inverse, Cond.code yX5_inverse cX5_inverse 6 (some .int), Cond.constant RX5 283 (65519), Cond.methodLink RX5 245 yX3_set, Cond.instanceMethod yX3_set, Cond.selects RX3 yX3_set yX3_set]
def wsL_law0_r12 : List Cond := [Cond.code yX3_set cX3_set 5 none, Cond.fieldLink RX3 13 "AffineHulls$Point" "node" "I", Cond.fieldLink RX3 17 "AffineHulls$Point" "index" "I", Cond.fieldLink RX3 20 "AffineHulls$Point" "origin" "I", Cond.methodLink RX5 123 yX5_workOff, Cond.instanceMethod yX5_workOff, Cond.selects RX5 yX5_workOff yX5_workOff, Cond.code yX5_workOff cX5_workOff 3 none, Cond.fieldLink RX5 168 "AffineHulls$Edge" "from" "I", Cond.fieldLink RX5 227 "AffineHulls$Point" "node" "I", Cond.fieldLink RX5 232 "AffineHulls$Edge" "kind" "I", Cond.methodLink RX5 228 yX5_follow, Cond.instanceMethod yX5_follow, Cond.selects RX5 yX5_follow yX5_follow, Cond.code yX5_follow cX5_follow 5 none, Cond.fieldLink RX5 144 "AffineHulls$Point" "row" "[I", Cond.fieldLink RX5 239 "AffineHulls$Point" "index" "I", Cond.fieldLink RX5 181 "AffineHulls$Edge" "to" "I", Cond.methodLink RX5 235 yX5_copy, Cond.methodLink RX5 177 yX0_step, Cond.instanceMethod yX0_step, Cond.selects RX0 yX0_step yX0_step, Cond.code yX0_step cX0_step 3 none, Cond.static yX5_valueOf]
def wsL_law0_r13 : List Cond := [Cond.code yX5_valueOf cX5_valueOf 5 (some .int), Cond.methodLink RL 93 yX6_analyse, Cond.instanceMethod yX6_analyse, Cond.selects RX6 yX6_analyse yX6_analyse, Cond.code yX6_analyse cX6_analyse 3 (some .int), Cond.fieldLink RX6 133 "AffineHullsModel" "all" "I", Cond.methodLink RX6 139 yX6_meet, Cond.instanceMethod yX6_meet, Cond.selects RX6 yX6_meet yX6_meet, Cond.code yX6_meet cX6_meet 5 none, Cond.fieldLink RX6 84 "AffineHullsModel" "size" "I", Cond.methodLink RX6 125 yX6_layPoints, Cond.instanceMethod yX6_layPoints, Cond.selects RX6 yX6_layPoints yX6_layPoints, Cond.code yX6_layPoints cX6_layPoints 4 none, Cond.methodLink RX6 122 yX6_put, Cond.instanceMethod yX6_put, Cond.selects RX6 yX6_put yX6_put, Cond.code yX6_put cX6_put 3 none, Cond.methodLink RX6 129 yX6_rank, Cond.instanceMethod yX6_rank, Cond.selects RX6 yX6_rank yX6_rank, Cond.code yX6_rank cX6_rank 7 (some .int), Cond.methodLink RX6 87 yX6_exchange]
def wsL_law0_r14 : List Cond := [Cond.instanceMethod yX6_exchange, Cond.selects RX6 yX6_exchange yX6_exchange, Cond.code yX6_exchange cX6_exchange 5 none, Cond.methodLink RX6 91 yX6_inverse, Cond.static yX6_inverse, Cond.code yX6_inverse cX6_inverse 11 (some .int), Cond.constant RX6 79 (65521), Cond.methodLink RX6 95 yX6_minus, Cond.instanceMethod yX6_minus, Cond.selects RX6 yX6_minus yX6_minus, Cond.code yX6_minus cX6_minus 5 none, Cond.methodLink RX6 142 yX6_pass, Cond.instanceMethod yX6_pass, Cond.selects RX6 yX6_pass yX6_pass, Cond.code yX6_pass cX6_pass 7 none, Cond.methodLink RX6 136 yX6_change, Cond.instanceMethod yX6_change, Cond.selects RX6 yX6_change yX6_change, Cond.code yX6_change cX6_change 3 none, Cond.methodLink RX6 119 yX6_formValue, Cond.instanceMethod yX6_formValue, Cond.selects RX6 yX6_formValue yX6_formValue, Cond.code yX6_formValue cX6_formValue 5 (some .int), Cond.methodLink RX6 145 yX6_readEquations]
def wsL_law0_r15 : List Cond := [Cond.instanceMethod yX6_readEquations, Cond.selects RX6 yX6_readEquations yX6_readEquations, Cond.code yX6_readEquations cX6_readEquations 6 none, Cond.methodLink RL 94 yL_points, Cond.static yL_points, Cond.codeWith yL_points cL_points 4 (some .int) [(0, 9, 12, 13), (0, 9, 15, 19)], Cond.methodLink RL 25 yX5_points, Cond.instanceMethod yX5_points, Cond.selects RX5 yX5_points yX5_points, Cond.code yX5_points cX5_points 2 (some .int), Cond.methodLink RX5 127 yX5_requireAnalysed, Cond.instanceMethod yX5_requireAnalysed, Cond.selects RX5 yX5_requireAnalysed yX5_requireAnalysed, Cond.code yX5_requireAnalysed cX5_requireAnalysed 1 none, Cond.methodLink RL 97 yX6_points, Cond.instanceMethod yX6_points, Cond.selects RX6 yX6_points yX6_points, Cond.code yX6_points cX6_points 2 (some .int), Cond.methodLink RX6 148 yX6_asked, Cond.instanceMethod yX6_asked, Cond.selects RX6 yX6_asked yX6_asked, Cond.code yX6_asked cX6_asked 2 (some .int), Cond.methodLink RL 98 yL_point, Cond.static yL_point]
def wsL_law0_r16 : List Cond := [Cond.codeWith yL_point cL_point 6 (some .int) [(0, 12, 15, 13), (0, 12, 19, 19), (0, 12, 23, 33)], Cond.classLink RL 33 "java/lang/IndexOutOfBoundsException", Cond.methodLink RL 29 yX5_point, Cond.instanceMethod yX5_point, Cond.selects RX5 yX5_point yX5_point, Cond.code yX5_point cX5_point 6 (some .int), Cond.classLink RX5 133 "java/lang/IndexOutOfBoundsException", Cond.initialized "java/lang/IndexOutOfBoundsException", Cond.fieldLink RX5 141 "AffineHulls$Point" "origin" "I", Cond.methodLink RL 101 yX6_point, Cond.instanceMethod yX6_point, Cond.selects RX6 yX6_point yX6_point, Cond.code yX6_point cX6_point 4 (some .int), Cond.methodLink RL 102 yL_equations, Cond.static yL_equations, Cond.codeWith yL_equations cL_equations 4 (some .int) [(0, 9, 12, 13), (0, 9, 15, 19)], Cond.methodLink RL 35 yX5_equations, Cond.instanceMethod yX5_equations, Cond.selects RX5 yX5_equations yX5_equations, Cond.code yX5_equations cX5_equations 2 (some .int), Cond.methodLink RX5 147 yX1_equationCount, Cond.instanceMethod yX1_equationCount, Cond.selects RX1 yX1_equationCount yX1_equationCount, Cond.code yX1_equationCount cX1_equationCount 1 (some .int)]
def wsL_law0_r17 : List Cond := [Cond.methodLink RL 104 yX6_equations, Cond.instanceMethod yX6_equations, Cond.selects RX6 yX6_equations yX6_equations, Cond.code yX6_equations cX6_equations 2 (some .int), Cond.methodLink RL 105 yL_coefficient, Cond.static yL_coefficient, Cond.codeWith yL_coefficient cL_coefficient 6 (some .int) [(0, 12, 15, 13), (0, 12, 19, 19), (0, 12, 23, 33)], Cond.methodLink RL 38 yX5_coefficient, Cond.instanceMethod yX5_coefficient, Cond.selects RX5 yX5_coefficient yX5_coefficient, Cond.code yX5_coefficient cX5_coefficient 5 (some .int), Cond.methodLink RX5 156 yX4_freePlace, Cond.instanceMethod yX4_freePlace, Cond.selects RX4 yX4_freePlace yX4_freePlace, Cond.code yX4_freePlace cX4_freePlace 4 (some .int), Cond.methodLink RX5 159 yX4_vanishing, Cond.instanceMethod yX4_vanishing, Cond.selects RX4 yX4_vanishing yX4_vanishing, Cond.code yX4_vanishing cX4_vanishing 3 (some .int), Cond.methodLink RL 107 yX6_coefficient, Cond.instanceMethod yX6_coefficient, Cond.selects RX6 yX6_coefficient yX6_coefficient, Cond.code yX6_coefficient cX6_coefficient 4 (some .int), Cond.methodLink RL 108 yL_holds]
def wsL_law0_r18 : List Cond := [Cond.static yL_holds, Cond.codeWith yL_holds cL_holds 4 (some .int) [(0, 16, 19, 13), (0, 16, 22, 19)], Cond.methodLink RL 41 yX5_holds, Cond.instanceMethod yX5_holds, Cond.selects RX5 yX5_holds yX5_holds, Cond.code yX5_holds cX5_holds 3 (some .boolean), Cond.methodLink RX5 162 yX5_holdsAtPoints, Cond.instanceMethod yX5_holdsAtPoints, Cond.selects RX5 yX5_holdsAtPoints yX5_holdsAtPoints, Cond.code yX5_holdsAtPoints cX5_holdsAtPoints 3 (some .boolean), Cond.methodLink RX5 248 yX5_valueOf, Cond.methodLink RL 110 yX6_holds, Cond.instanceMethod yX6_holds, Cond.selects RX6 yX6_holds yX6_holds, Cond.code yX6_holds cX6_holds 7 (some .boolean), Cond.methodLink RL 111 yL_begin, Cond.static yL_begin, Cond.codeWith yL_begin cL_begin 4 (some .int) [(0, 6, 9, 13)], Cond.methodLink RL 45 yX5_begin, Cond.instanceMethod yX5_begin, Cond.selects RX5 yX5_begin yX5_begin, Cond.code yX5_begin cX5_begin 3 none, Cond.methodLink RL 113 yX6_begin, Cond.instanceMethod yX6_begin]
def wsL_law0_r19 : List Cond := [Cond.selects RX6 yX6_begin yX6_begin, Cond.code yX6_begin cX6_begin 3 none, Cond.methodLink RL 114 yL_go, Cond.static yL_go, Cond.codeWith yL_go cL_go 5 (some .int) [(0, 17, 20, 13)], Cond.methodLink RL 48 yX5_go, Cond.instanceMethod yX5_go, Cond.selects RX5 yX5_go yX5_go, Cond.code yX5_go cX5_go 4 (some .boolean), Cond.methodLink RX5 173 yX0_isOpen, Cond.instanceMethod yX0_isOpen, Cond.selects RX0 yX0_isOpen yX0_isOpen, Cond.code yX0_isOpen cX0_isOpen 2 (some .boolean), Cond.methodLink RL 117 yX6_go, Cond.instanceMethod yX6_go, Cond.selects RX6 yX6_go yX6_go, Cond.code yX6_go cX6_go 4 (some .boolean), Cond.methodLink RL 118 yL_at, Cond.static yL_at, Cond.codeWith yL_at cL_at 4 (some .int) [(0, 9, 12, 13)], Cond.methodLink RL 52 yX5_at, Cond.instanceMethod yX5_at, Cond.selects RX5 yX5_at yX5_at, Cond.code yX5_at cX5_at 2 (some .int)]
def wsL_law0_r20 : List Cond := [Cond.methodLink RL 120 yX6_at, Cond.instanceMethod yX6_at, Cond.selects RX6 yX6_at yX6_at, Cond.code yX6_at cX6_at 2 (some .int), Cond.methodLink RL 121 yL_note, Cond.static yL_note, Cond.codeWith yL_note cL_note 4 (some .int) [(0, 9, 12, 13), (0, 9, 15, 19)], Cond.methodLink RL 55 yX5_note, Cond.instanceMethod yX5_note, Cond.selects RX5 yX5_note yX5_note, Cond.code yX5_note cX5_note 2 (some .int), Cond.fieldLink RX5 184 "AffineHulls" "noteCount" "I", Cond.methodLink RX5 189 yX2_set, Cond.instanceMethod yX2_set, Cond.selects RX2 yX2_set yX2_set, Cond.code yX2_set cX2_set 3 none, Cond.fieldLink RX2 13 "AffineHulls$Note" "node" "I", Cond.methodLink RL 123 yX6_note, Cond.instanceMethod yX6_note, Cond.selects RX6 yX6_note yX6_note, Cond.code yX6_note cX6_note 3 (some .int), Cond.fieldLink RX6 151 "AffineHullsModel" "notes" "I", Cond.methodLink RL 124 yL_noteAll, Cond.static yL_noteAll]
def wsL_law0_r21 : List Cond := [Cond.codeWith yL_noteAll cL_noteAll 3 (some .int) [(0, 8, 11, 19), (0, 8, 14, 62)], Cond.classLink RL 62 "java/lang/UnsupportedOperationException", Cond.methodLink RL 58 yX5_noteAll, Cond.instanceMethod yX5_noteAll, Cond.selects RX5 yX5_noteAll yX5_noteAll, Cond.code yX5_noteAll cX5_noteAll 3 (some .int), Cond.classLink RX5 192 "java/lang/UnsupportedOperationException", Cond.initialized "java/lang/UnsupportedOperationException", Cond.methodLink RX5 197 yX5_noteEquations, Cond.instanceMethod yX5_noteEquations, Cond.selects RX5 yX5_noteEquations yX5_noteEquations, Cond.code yX5_noteEquations cX5_noteEquations 7 none, Cond.methodLink RL 127 yX6_noteAll, Cond.instanceMethod yX6_noteAll, Cond.selects RX6 yX6_noteAll yX6_noteAll, Cond.code yX6_noteAll cX6_noteAll 5 (some .int), Cond.methodLink RL 128 yX5_forget, Cond.instanceMethod yX5_forget, Cond.selects RX5 yX5_forget yX5_forget, Cond.code yX5_forget cX5_forget 2 (some .int), Cond.methodLink RL 131 yX6_forget, Cond.instanceMethod yX6_forget, Cond.selects RX6 yX6_forget yX6_forget, Cond.code yX6_forget cX6_forget 2 (some .int)]
def wsL_law0_r22 : List Cond := [Cond.methodLink RL 132 yX5_sound, Cond.instanceMethod yX5_sound, Cond.selects RX5 yX5_sound yX5_sound, Cond.code yX5_sound cX5_sound 2 (some .boolean), Cond.fieldLink RX5 200 "AffineHulls$Note" "node" "I", Cond.methodLink RX5 203 yX5_keepsNotes, Cond.instanceMethod yX5_keepsNotes, Cond.selects RX5 yX5_keepsNotes yX5_keepsNotes, Cond.code yX5_keepsNotes cX5_keepsNotes 4 (some .boolean), Cond.methodLink RX5 252 yX5_spanNotesBefore, Cond.instanceMethod yX5_spanNotesBefore, Cond.selects RX5 yX5_spanNotesBefore yX5_spanNotesBefore, Cond.code yX5_spanNotesBefore cX5_spanNotesBefore 3 none, Cond.fieldLink RX5 261 "AffineHulls$Note" "form" "[I", Cond.fieldLink RX5 264 "AffineHulls$Edge" "form" "[I", Cond.methodLink RX5 260 yX4_clear, Cond.methodLink RX5 256 yX5_followsBefore, Cond.instanceMethod yX5_followsBefore, Cond.selects RX5 yX5_followsBefore yX5_followsBefore, Cond.code yX5_followsBefore cX5_followsBefore 4 (some .boolean), Cond.methodLink RX5 265 yX0_stepBack, Cond.instanceMethod yX0_stepBack, Cond.selects RX0 yX0_stepBack yX0_stepBack, Cond.code yX0_stepBack cX0_stepBack 4 none]
def wsL_law0_r23 : List Cond := [Cond.methodLink RX5 268 yX4_contains, Cond.instanceMethod yX4_contains, Cond.selects RX4 yX4_contains yX4_contains, Cond.code yX4_contains cX4_contains 2 (some .boolean), Cond.methodLink RL 136 yX6_sound, Cond.instanceMethod yX6_sound, Cond.selects RX6 yX6_sound yX6_sound, Cond.code yX6_sound cX6_sound 4 (some .boolean), Cond.methodLink RX6 160 yX6_follows, Cond.instanceMethod yX6_follows, Cond.selects RX6 yX6_follows yX6_follows, Cond.code yX6_follows cX6_follows 6 (some .boolean), Cond.methodLink RX6 154 yX6_layNotes, Cond.instanceMethod yX6_layNotes, Cond.selects RX6 yX6_layNotes yX6_layNotes, Cond.code yX6_layNotes cX6_layNotes 4 none, Cond.methodLink RX6 157 yX6_layBefore, Cond.instanceMethod yX6_layBefore, Cond.selects RX6 yX6_layBefore yX6_layBefore, Cond.code yX6_layBefore cX6_layBefore 8 none]
def wsL_law0 : List Cond := (wsL_law0_r1 ++ (wsL_law0_r2 ++ (wsL_law0_r3 ++ (wsL_law0_r4 ++ (wsL_law0_r5 ++ (wsL_law0_r6 ++ (wsL_law0_r7 ++ (wsL_law0_r8 ++ (wsL_law0_r9 ++ (wsL_law0_r10 ++ (wsL_law0_r11 ++ (wsL_law0_r12 ++ (wsL_law0_r13 ++ (wsL_law0_r14 ++ (wsL_law0_r15 ++ (wsL_law0_r16 ++ (wsL_law0_r17 ++ (wsL_law0_r18 ++ (wsL_law0_r19 ++ (wsL_law0_r20 ++ (wsL_law0_r21 ++ (wsL_law0_r22 ++ wsL_law0_r23)))))))))))))))))))))) ++ wsX50 ++ wsX60 ++ wsX40 ++ wsX00 ++ wsX20 ++ wsX10 ++ wsX30 ++ ([] : List Cond)
def wsL_law : List Cond := wsL_law0 ++ (vx_atS RX5 83 "java/lang/IllegalArgumentException" ["java/lang/RuntimeException", "java/lang/Exception"]).filter goodWord ++ (vx_atS RX5 96 "java/lang/IllegalStateException" ["java/lang/RuntimeException", "java/lang/Exception"]).filter goodWord ++ (vx_atS RX5 137 "java/lang/IndexOutOfBoundsException" ["java/lang/RuntimeException", "java/lang/Exception"]).filter goodWord ++ (vx_atS RX5 196 "java/lang/UnsupportedOperationException" ["java/lang/RuntimeException", "java/lang/Exception"]).filter goodWord
abbrev vwCl : List vw_C := [(RX0, TX0, 5), (RX1, TX1, 3), (RX2, TX2, 2), (RX3, TX3, 4), (RX4, TX4, 3), (RX5, TX5, 15), (RX6, TX6, 29)]
end
section
theorem dX0_init_0 : decode cX0_init 0 = .ok (.aload_n 0, 1) := by decide +kernel
theorem dX0_init_1 : decode cX0_init 1 = .ok (.invokespecial 3, 3) := by decide +kernel
theorem dX0_init_4 : decode cX0_init 4 = .ok (.aload_n 0, 1) := by decide +kernel
theorem dX0_init_5 : decode cX0_init 5 = .ok (.iload_n 1, 1) := by decide +kernel
theorem dX0_init_6 : decode cX0_init 6 = .ok (.newarray .int, 2) := by decide +kernel
theorem dX0_init_8 : decode cX0_init 8 = .ok (.putfield 9, 3) := by decide +kernel
theorem dX0_init_11 : decode cX0_init 11 = .ok (.return_, 1) := by decide +kernel
set_option maxRecDepth 20000 in
theorem ggX0_set_X5_copy : GoodIn wsX0_set wsX5_copy := goodIn_r _ [8, 9, 10, 11, 12] (by decide +kernel) (by decide +kernel)
set_option maxRecDepth 20000 in
theorem gX0_set_X5_copy_n28 : GoodIn wsX0_set (wsX5_copy) := ggX0_set_X5_copy
theorem dX0_set_0 : decode cX0_set 0 = .ok (.aload_n 0, 1) := by decide +kernel
theorem dX0_set_1 : decode cX0_set 1 = .ok (.iload_n 1, 1) := by decide +kernel
theorem dX0_set_2 : decode cX0_set 2 = .ok (.putfield 15, 3) := by decide +kernel
theorem dX0_set_5 : decode cX0_set 5 = .ok (.aload_n 0, 1) := by decide +kernel
theorem dX0_set_6 : decode cX0_set 6 = .ok (.iload_n 2, 1) := by decide +kernel
theorem dX0_set_7 : decode cX0_set 7 = .ok (.putfield 19, 3) := by decide +kernel
theorem dX0_set_10 : decode cX0_set 10 = .ok (.aload_n 0, 1) := by decide +kernel
theorem dX0_set_11 : decode cX0_set 11 = .ok (.iload_n 3, 1) := by decide +kernel
theorem dX0_set_12 : decode cX0_set 12 = .ok (.putfield 22, 3) := by decide +kernel
theorem dX0_set_15 : decode cX0_set 15 = .ok (.aload_n 0, 1) := by decide +kernel
theorem dX0_set_16 : decode cX0_set 16 = .ok (.iload 4, 2) := by decide +kernel
theorem dX0_set_18 : decode cX0_set 18 = .ok (.putfield 25, 3) := by decide +kernel
theorem dX0_set_21 : decode cX0_set 21 = .ok (.aload 5, 2) := by decide +kernel
theorem dX0_set_23 : decode cX0_set 23 = .ok (.aload_n 0, 1) := by decide +kernel
theorem dX0_set_24 : decode cX0_set 24 = .ok (.getfield 9, 3) := by decide +kernel
theorem dX0_set_27 : decode cX0_set 27 = .ok (.invokestatic 28, 3) := by decide +kernel
theorem dX0_set_30 : decode cX0_set 30 = .ok (.return_, 1) := by decide +kernel
set_option maxRecDepth 20000 in
theorem ggX0_isOpen_X5_valueOf : GoodIn wsX0_isOpen wsX5_valueOf := goodIn_r _ [5, 6] (by decide +kernel) (by decide +kernel)
set_option maxRecDepth 20000 in
theorem gX0_isOpen_X5_valueOf_n32 : GoodIn wsX0_isOpen (wsX5_valueOf) := ggX0_isOpen_X5_valueOf
theorem dX0_isOpen_0 : decode cX0_isOpen 0 = .ok (.aload_n 0, 1) := by decide +kernel
theorem dX0_isOpen_1 : decode cX0_isOpen 1 = .ok (.getfield 22, 3) := by decide +kernel
theorem dX0_isOpen_4 : decode cX0_isOpen 4 = .ok (.iconst 3, 1) := by decide +kernel
theorem dX0_isOpen_5 : decode cX0_isOpen 5 = .ok (.if_icmp .ne 20, 3) := by decide +kernel
theorem dX0_isOpen_8 : decode cX0_isOpen 8 = .ok (.aload_n 0, 1) := by decide +kernel
theorem dX0_isOpen_9 : decode cX0_isOpen 9 = .ok (.getfield 9, 3) := by decide +kernel
theorem dX0_isOpen_12 : decode cX0_isOpen 12 = .ok (.aload_n 1, 1) := by decide +kernel
theorem dX0_isOpen_13 : decode cX0_isOpen 13 = .ok (.invokestatic 32, 3) := by decide +kernel
theorem dX0_isOpen_16 : decode cX0_isOpen 16 = .ok (.ifCond .ne 7, 3) := by decide +kernel
theorem dX0_isOpen_19 : decode cX0_isOpen 19 = .ok (.iconst 1, 1) := by decide +kernel
theorem dX0_isOpen_20 : decode cX0_isOpen 20 = .ok (.goto 4, 3) := by decide +kernel
theorem dX0_isOpen_23 : decode cX0_isOpen 23 = .ok (.iconst 0, 1) := by decide +kernel
theorem dX0_isOpen_24 : decode cX0_isOpen 24 = .ok (.ireturn, 1) := by decide +kernel
theorem dX0_isOpen_25 : decode cX0_isOpen 25 = .ok (.aload_n 0, 1) := by decide +kernel
theorem dX0_isOpen_26 : decode cX0_isOpen 26 = .ok (.getfield 22, 3) := by decide +kernel
theorem dX0_isOpen_29 : decode cX0_isOpen 29 = .ok (.iconst 4, 1) := by decide +kernel
theorem dX0_isOpen_30 : decode cX0_isOpen 30 = .ok (.if_icmp .ne 14, 3) := by decide +kernel
theorem dX0_isOpen_33 : decode cX0_isOpen 33 = .ok (.aload_n 0, 1) := by decide +kernel
theorem dX0_isOpen_34 : decode cX0_isOpen 34 = .ok (.getfield 9, 3) := by decide +kernel
theorem dX0_isOpen_37 : decode cX0_isOpen 37 = .ok (.aload_n 1, 1) := by decide +kernel
theorem dX0_isOpen_38 : decode cX0_isOpen 38 = .ok (.invokestatic 32, 3) := by decide +kernel
theorem dX0_isOpen_41 : decode cX0_isOpen 41 = .ok (.ifCond .eq 7, 3) := by decide +kernel
theorem dX0_isOpen_44 : decode cX0_isOpen 44 = .ok (.iconst 1, 1) := by decide +kernel
theorem dX0_isOpen_45 : decode cX0_isOpen 45 = .ok (.goto 4, 3) := by decide +kernel
theorem dX0_isOpen_48 : decode cX0_isOpen 48 = .ok (.iconst 0, 1) := by decide +kernel
theorem dX0_isOpen_49 : decode cX0_isOpen 49 = .ok (.ireturn, 1) := by decide +kernel
set_option maxRecDepth 20000 in
theorem ggX0_step_X5_valueOf : GoodIn wsX0_step wsX5_valueOf := goodIn_r _ [6, 7] (by decide +kernel) (by decide +kernel)
set_option maxRecDepth 20000 in
theorem gX0_step_X5_valueOf_n32 : GoodIn wsX0_step (wsX5_valueOf) := ggX0_step_X5_valueOf
theorem dX0_step_0 : decode cX0_step 0 = .ok (.aload_n 0, 1) := by decide +kernel
theorem dX0_step_1 : decode cX0_step 1 = .ok (.getfield 22, 3) := by decide +kernel
theorem dX0_step_4 : decode cX0_step 4 = .ok (.iconst 1, 1) := by decide +kernel
theorem dX0_step_5 : decode cX0_step 5 = .ok (.if_icmp .ne 20, 3) := by decide +kernel
theorem dX0_step_8 : decode cX0_step 8 = .ok (.aload_n 1, 1) := by decide +kernel
theorem dX0_step_9 : decode cX0_step 9 = .ok (.aload_n 0, 1) := by decide +kernel
theorem dX0_step_10 : decode cX0_step 10 = .ok (.getfield 25, 3) := by decide +kernel
theorem dX0_step_13 : decode cX0_step 13 = .ok (.aload_n 0, 1) := by decide +kernel
theorem dX0_step_14 : decode cX0_step 14 = .ok (.getfield 9, 3) := by decide +kernel
theorem dX0_step_17 : decode cX0_step 17 = .ok (.aload_n 1, 1) := by decide +kernel
theorem dX0_step_18 : decode cX0_step 18 = .ok (.invokestatic 32, 3) := by decide +kernel
theorem dX0_step_21 : decode cX0_step 21 = .ok (.iastore, 1) := by decide +kernel
theorem dX0_step_22 : decode cX0_step 22 = .ok (.goto 18, 3) := by decide +kernel
theorem dX0_step_25 : decode cX0_step 25 = .ok (.aload_n 0, 1) := by decide +kernel
theorem dX0_step_26 : decode cX0_step 26 = .ok (.getfield 22, 3) := by decide +kernel
theorem dX0_step_29 : decode cX0_step 29 = .ok (.iconst 2, 1) := by decide +kernel
theorem dX0_step_30 : decode cX0_step 30 = .ok (.if_icmp .ne 10, 3) := by decide +kernel
theorem dX0_step_33 : decode cX0_step 33 = .ok (.aload_n 1, 1) := by decide +kernel
theorem dX0_step_34 : decode cX0_step 34 = .ok (.aload_n 0, 1) := by decide +kernel
theorem dX0_step_35 : decode cX0_step 35 = .ok (.getfield 25, 3) := by decide +kernel
theorem dX0_step_38 : decode cX0_step 38 = .ok (.iload_n 2, 1) := by decide +kernel
theorem dX0_step_39 : decode cX0_step 39 = .ok (.iastore, 1) := by decide +kernel
theorem dX0_step_40 : decode cX0_step 40 = .ok (.return_, 1) := by decide +kernel
set_option maxRecDepth 20000 in
theorem ggX0_stepBack_X5_addMultiple : GoodIn wsX0_stepBack wsX5_addMultiple := goodIn_r _ [6, 7] (by decide +kernel) (by decide +kernel)
set_option maxRecDepth 20000 in
theorem gX0_stepBack_X5_addMultiple_n36 : GoodIn wsX0_stepBack (wsX5_addMultiple) := ggX0_stepBack_X5_addMultiple
set_option maxRecDepth 20000 in
theorem ggX0_stepBack_X5_number : GoodIn wsX0_stepBack wsX5_number := goodIn_r _ [9, 10, 11, 12, 13, 14] (by decide +kernel) (by decide +kernel)
set_option maxRecDepth 20000 in
theorem gX0_stepBack_X5_number_n40 : GoodIn wsX0_stepBack (wsX5_number) := ggX0_stepBack_X5_number
theorem dX0_stepBack_0 : decode cX0_stepBack 0 = .ok (.aload_n 0, 1) := by decide +kernel
theorem dX0_stepBack_1 : decode cX0_stepBack 1 = .ok (.getfield 22, 3) := by decide +kernel
theorem dX0_stepBack_4 : decode cX0_stepBack 4 = .ok (.iconst 1, 1) := by decide +kernel
theorem dX0_stepBack_5 : decode cX0_stepBack 5 = .ok (.if_icmp .eq 12, 3) := by decide +kernel
theorem dX0_stepBack_8 : decode cX0_stepBack 8 = .ok (.aload_n 0, 1) := by decide +kernel
theorem dX0_stepBack_9 : decode cX0_stepBack 9 = .ok (.getfield 22, 3) := by decide +kernel
theorem dX0_stepBack_12 : decode cX0_stepBack 12 = .ok (.iconst 2, 1) := by decide +kernel
theorem dX0_stepBack_13 : decode cX0_stepBack 13 = .ok (.if_icmp .eq 4, 3) := by decide +kernel
theorem dX0_stepBack_16 : decode cX0_stepBack 16 = .ok (.return_, 1) := by decide +kernel
theorem dX0_stepBack_17 : decode cX0_stepBack 17 = .ok (.aload_n 1, 1) := by decide +kernel
theorem dX0_stepBack_18 : decode cX0_stepBack 18 = .ok (.aload_n 0, 1) := by decide +kernel
theorem dX0_stepBack_19 : decode cX0_stepBack 19 = .ok (.getfield 25, 3) := by decide +kernel
theorem dX0_stepBack_22 : decode cX0_stepBack 22 = .ok (.iaload, 1) := by decide +kernel
theorem dX0_stepBack_23 : decode cX0_stepBack 23 = .ok (.istore_n 3, 1) := by decide +kernel
theorem dX0_stepBack_24 : decode cX0_stepBack 24 = .ok (.aload_n 1, 1) := by decide +kernel
theorem dX0_stepBack_25 : decode cX0_stepBack 25 = .ok (.aload_n 0, 1) := by decide +kernel
theorem dX0_stepBack_26 : decode cX0_stepBack 26 = .ok (.getfield 25, 3) := by decide +kernel
theorem dX0_stepBack_29 : decode cX0_stepBack 29 = .ok (.iconst 0, 1) := by decide +kernel
theorem dX0_stepBack_30 : decode cX0_stepBack 30 = .ok (.iastore, 1) := by decide +kernel
theorem dX0_stepBack_31 : decode cX0_stepBack 31 = .ok (.aload_n 0, 1) := by decide +kernel
theorem dX0_stepBack_32 : decode cX0_stepBack 32 = .ok (.getfield 22, 3) := by decide +kernel
theorem dX0_stepBack_35 : decode cX0_stepBack 35 = .ok (.iconst 1, 1) := by decide +kernel
theorem dX0_stepBack_36 : decode cX0_stepBack 36 = .ok (.if_icmp .ne 15, 3) := by decide +kernel
theorem dX0_stepBack_39 : decode cX0_stepBack 39 = .ok (.aload_n 1, 1) := by decide +kernel
theorem dX0_stepBack_40 : decode cX0_stepBack 40 = .ok (.iload_n 3, 1) := by decide +kernel
theorem dX0_stepBack_41 : decode cX0_stepBack 41 = .ok (.aload_n 0, 1) := by decide +kernel
theorem dX0_stepBack_42 : decode cX0_stepBack 42 = .ok (.getfield 9, 3) := by decide +kernel
theorem dX0_stepBack_45 : decode cX0_stepBack 45 = .ok (.invokestatic 36, 3) := by decide +kernel
theorem dX0_stepBack_48 : decode cX0_stepBack 48 = .ok (.goto 16, 3) := by decide +kernel
theorem dX0_stepBack_51 : decode cX0_stepBack 51 = .ok (.aload_n 1, 1) := by decide +kernel
theorem dX0_stepBack_52 : decode cX0_stepBack 52 = .ok (.iconst 0, 1) := by decide +kernel
theorem dX0_stepBack_53 : decode cX0_stepBack 53 = .ok (.aload_n 1, 1) := by decide +kernel
theorem dX0_stepBack_54 : decode cX0_stepBack 54 = .ok (.iconst 0, 1) := by decide +kernel
theorem dX0_stepBack_55 : decode cX0_stepBack 55 = .ok (.iaload, 1) := by decide +kernel
theorem dX0_stepBack_56 : decode cX0_stepBack 56 = .ok (.iload_n 3, 1) := by decide +kernel
theorem dX0_stepBack_57 : decode cX0_stepBack 57 = .ok (.iload_n 2, 1) := by decide +kernel
theorem dX0_stepBack_58 : decode cX0_stepBack 58 = .ok (.imul, 1) := by decide +kernel
theorem dX0_stepBack_59 : decode cX0_stepBack 59 = .ok (.iadd, 1) := by decide +kernel
theorem dX0_stepBack_60 : decode cX0_stepBack 60 = .ok (.invokestatic 40, 3) := by decide +kernel
theorem dX0_stepBack_63 : decode cX0_stepBack 63 = .ok (.iastore, 1) := by decide +kernel
theorem dX0_stepBack_64 : decode cX0_stepBack 64 = .ok (.return_, 1) := by decide +kernel
set_option maxRecDepth 20000 in
theorem ggX1_init_X4_init : GoodIn wsX1_init wsX4_init := goodIn_r _ [12, 13, 2, 3, 14, 8, 15, 16, 17, 18, 19, 20, 21] (by decide +kernel) (by decide +kernel)
set_option maxRecDepth 20000 in
theorem gX1_init_X4_init : GoodIn wsX1_init (wsX4_init) := ggX1_init_X4_init
theorem dX1_init_0 : decode cX1_init 0 = .ok (.aload_n 0, 1) := by decide +kernel
theorem dX1_init_1 : decode cX1_init 1 = .ok (.invokespecial 1, 3) := by decide +kernel
theorem dX1_init_4 : decode cX1_init 4 = .ok (.aload_n 0, 1) := by decide +kernel
theorem dX1_init_5 : decode cX1_init 5 = .ok (.new 7, 3) := by decide +kernel
theorem dX1_init_8 : decode cX1_init 8 = .ok (.dup, 1) := by decide +kernel
theorem dX1_init_9 : decode cX1_init 9 = .ok (.iload_n 1, 1) := by decide +kernel
theorem dX1_init_10 : decode cX1_init 10 = .ok (.invokespecial 9, 3) := by decide +kernel
theorem dX1_init_13 : decode cX1_init 13 = .ok (.putfield 12, 3) := by decide +kernel
theorem dX1_init_16 : decode cX1_init 16 = .ok (.aload_n 0, 1) := by decide +kernel
theorem dX1_init_17 : decode cX1_init 17 = .ok (.iload_n 1, 1) := by decide +kernel
theorem dX1_init_18 : decode cX1_init 18 = .ok (.newarray .int, 2) := by decide +kernel
theorem dX1_init_20 : decode cX1_init 20 = .ok (.putfield 18, 3) := by decide +kernel
theorem dX1_init_23 : decode cX1_init 23 = .ok (.return_, 1) := by decide +kernel
set_option maxRecDepth 20000 in
theorem ggX1_clear_X4_clear : GoodIn wsX1_clear wsX4_clear := goodIn_r _ [7, 8, 12, 13, 14] (by decide +kernel) (by decide +kernel)
set_option maxRecDepth 20000 in
theorem gX1_clear_X4_clear : GoodIn wsX1_clear (wsV RX1 22 RX4 yX4_clear wsX4_clear) := goodIn_app (goodIn_of _ (by decide +kernel)) ggX1_clear_X4_clear
theorem dX1_clear_0 : decode cX1_clear 0 = .ok (.aload_n 0, 1) := by decide +kernel
theorem dX1_clear_1 : decode cX1_clear 1 = .ok (.getfield 12, 3) := by decide +kernel
theorem dX1_clear_4 : decode cX1_clear 4 = .ok (.invokevirtual 22, 3) := by decide +kernel
theorem dX1_clear_7 : decode cX1_clear 7 = .ok (.aload_n 0, 1) := by decide +kernel
theorem dX1_clear_8 : decode cX1_clear 8 = .ok (.iconst 0, 1) := by decide +kernel
theorem dX1_clear_9 : decode cX1_clear 9 = .ok (.putfield 25, 3) := by decide +kernel
theorem dX1_clear_12 : decode cX1_clear 12 = .ok (.return_, 1) := by decide +kernel
theorem dX1_equationCount_0 : decode cX1_equationCount 0 = .ok (.aload_n 0, 1) := by decide +kernel
theorem dX1_equationCount_1 : decode cX1_equationCount 1 = .ok (.getfield 18, 3) := by decide +kernel
theorem dX1_equationCount_4 : decode cX1_equationCount 4 = .ok (.arraylength, 1) := by decide +kernel
theorem dX1_equationCount_5 : decode cX1_equationCount 5 = .ok (.aload_n 0, 1) := by decide +kernel
theorem dX1_equationCount_6 : decode cX1_equationCount 6 = .ok (.getfield 25, 3) := by decide +kernel
theorem dX1_equationCount_9 : decode cX1_equationCount 9 = .ok (.isub, 1) := by decide +kernel
theorem dX1_equationCount_10 : decode cX1_equationCount 10 = .ok (.ireturn, 1) := by decide +kernel
theorem dX2_init_0 : decode cX2_init 0 = .ok (.aload_n 0, 1) := by decide +kernel
theorem dX2_init_1 : decode cX2_init 1 = .ok (.invokespecial 1, 3) := by decide +kernel
theorem dX2_init_4 : decode cX2_init 4 = .ok (.aload_n 0, 1) := by decide +kernel
theorem dX2_init_5 : decode cX2_init 5 = .ok (.iload_n 1, 1) := by decide +kernel
theorem dX2_init_6 : decode cX2_init 6 = .ok (.newarray .int, 2) := by decide +kernel
theorem dX2_init_8 : decode cX2_init 8 = .ok (.putfield 7, 3) := by decide +kernel
theorem dX2_init_11 : decode cX2_init 11 = .ok (.return_, 1) := by decide +kernel
set_option maxRecDepth 20000 in
theorem ggX2_set_X5_copy : GoodIn wsX2_set wsX5_copy := goodIn_r _ [5, 6, 7, 8, 9] (by decide +kernel) (by decide +kernel)
set_option maxRecDepth 20000 in
theorem gX2_set_X5_copy_n17 : GoodIn wsX2_set (wsX5_copy) := ggX2_set_X5_copy
theorem dX2_set_0 : decode cX2_set 0 = .ok (.aload_n 0, 1) := by decide +kernel
theorem dX2_set_1 : decode cX2_set 1 = .ok (.iload_n 1, 1) := by decide +kernel
theorem dX2_set_2 : decode cX2_set 2 = .ok (.putfield 13, 3) := by decide +kernel
theorem dX2_set_5 : decode cX2_set 5 = .ok (.aload_n 2, 1) := by decide +kernel
theorem dX2_set_6 : decode cX2_set 6 = .ok (.aload_n 0, 1) := by decide +kernel
theorem dX2_set_7 : decode cX2_set 7 = .ok (.getfield 7, 3) := by decide +kernel
theorem dX2_set_10 : decode cX2_set 10 = .ok (.invokestatic 17, 3) := by decide +kernel
theorem dX2_set_13 : decode cX2_set 13 = .ok (.return_, 1) := by decide +kernel
theorem dX3_init_0 : decode cX3_init 0 = .ok (.aload_n 0, 1) := by decide +kernel
theorem dX3_init_1 : decode cX3_init 1 = .ok (.invokespecial 1, 3) := by decide +kernel
theorem dX3_init_4 : decode cX3_init 4 = .ok (.aload_n 0, 1) := by decide +kernel
theorem dX3_init_5 : decode cX3_init 5 = .ok (.iload_n 1, 1) := by decide +kernel
theorem dX3_init_6 : decode cX3_init 6 = .ok (.newarray .int, 2) := by decide +kernel
theorem dX3_init_8 : decode cX3_init 8 = .ok (.putfield 7, 3) := by decide +kernel
theorem dX3_init_11 : decode cX3_init 11 = .ok (.return_, 1) := by decide +kernel
set_option maxRecDepth 20000 in
theorem ggX3_set_X5_copy : GoodIn wsX3_set wsX5_copy := goodIn_r _ [7, 8, 9, 10, 11] (by decide +kernel) (by decide +kernel)
set_option maxRecDepth 20000 in
theorem gX3_set_X5_copy_n23 : GoodIn wsX3_set (wsX5_copy) := ggX3_set_X5_copy
theorem dX3_set_0 : decode cX3_set 0 = .ok (.aload_n 0, 1) := by decide +kernel
theorem dX3_set_1 : decode cX3_set 1 = .ok (.iload_n 1, 1) := by decide +kernel
theorem dX3_set_2 : decode cX3_set 2 = .ok (.putfield 13, 3) := by decide +kernel
theorem dX3_set_5 : decode cX3_set 5 = .ok (.aload_n 0, 1) := by decide +kernel
theorem dX3_set_6 : decode cX3_set 6 = .ok (.iload_n 2, 1) := by decide +kernel
theorem dX3_set_7 : decode cX3_set 7 = .ok (.putfield 17, 3) := by decide +kernel
theorem dX3_set_10 : decode cX3_set 10 = .ok (.aload_n 0, 1) := by decide +kernel
theorem dX3_set_11 : decode cX3_set 11 = .ok (.iload_n 3, 1) := by decide +kernel
theorem dX3_set_12 : decode cX3_set 12 = .ok (.putfield 20, 3) := by decide +kernel
theorem dX3_set_15 : decode cX3_set 15 = .ok (.aload 4, 2) := by decide +kernel
theorem dX3_set_17 : decode cX3_set 17 = .ok (.aload_n 0, 1) := by decide +kernel
theorem dX3_set_18 : decode cX3_set 18 = .ok (.getfield 7, 3) := by decide +kernel
theorem dX3_set_21 : decode cX3_set 21 = .ok (.invokestatic 23, 3) := by decide +kernel
theorem dX3_set_24 : decode cX3_set 24 = .ok (.return_, 1) := by decide +kernel
theorem dX4_init_0 : decode cX4_init 0 = .ok (.aload_n 0, 1) := by decide +kernel
theorem dX4_init_1 : decode cX4_init 1 = .ok (.invokespecial 3, 3) := by decide +kernel
theorem dX4_init_4 : decode cX4_init 4 = .ok (.aload_n 0, 1) := by decide +kernel
theorem dX4_init_5 : decode cX4_init 5 = .ok (.iload_n 1, 1) := by decide +kernel
theorem dX4_init_6 : decode cX4_init 6 = .ok (.iload_n 1, 1) := by decide +kernel
theorem dX4_init_7 : decode cX4_init 7 = .ok (.multianewarray 9 2, 4) := by decide +kernel
theorem dX4_init_11 : decode cX4_init 11 = .ok (.putfield 11, 3) := by decide +kernel
theorem dX4_init_14 : decode cX4_init 14 = .ok (.aload_n 0, 1) := by decide +kernel
theorem dX4_init_15 : decode cX4_init 15 = .ok (.iload_n 1, 1) := by decide +kernel
theorem dX4_init_16 : decode cX4_init 16 = .ok (.newarray .boolean, 2) := by decide +kernel
theorem dX4_init_18 : decode cX4_init 18 = .ok (.putfield 16, 3) := by decide +kernel
theorem dX4_init_21 : decode cX4_init 21 = .ok (.aload_n 0, 1) := by decide +kernel
theorem dX4_init_22 : decode cX4_init 22 = .ok (.iload_n 1, 1) := by decide +kernel
theorem dX4_init_23 : decode cX4_init 23 = .ok (.newarray .int, 2) := by decide +kernel
theorem dX4_init_25 : decode cX4_init 25 = .ok (.putfield 20, 3) := by decide +kernel
theorem dX4_init_28 : decode cX4_init 28 = .ok (.return_, 1) := by decide +kernel
theorem dX4_clear_0 : decode cX4_clear 0 = .ok (.iconst 0, 1) := by decide +kernel
theorem dX4_clear_1 : decode cX4_clear 1 = .ok (.istore_n 1, 1) := by decide +kernel
theorem dX4_clear_2 : decode cX4_clear 2 = .ok (.iload_n 1, 1) := by decide +kernel
theorem dX4_clear_3 : decode cX4_clear 3 = .ok (.aload_n 0, 1) := by decide +kernel
theorem dX4_clear_4 : decode cX4_clear 4 = .ok (.getfield 16, 3) := by decide +kernel
theorem dX4_clear_7 : decode cX4_clear 7 = .ok (.arraylength, 1) := by decide +kernel
theorem dX4_clear_8 : decode cX4_clear 8 = .ok (.if_icmp .ge 16, 3) := by decide +kernel
theorem dX4_clear_11 : decode cX4_clear 11 = .ok (.aload_n 0, 1) := by decide +kernel
theorem dX4_clear_12 : decode cX4_clear 12 = .ok (.getfield 16, 3) := by decide +kernel
theorem dX4_clear_15 : decode cX4_clear 15 = .ok (.iload_n 1, 1) := by decide +kernel
theorem dX4_clear_16 : decode cX4_clear 16 = .ok (.iconst 0, 1) := by decide +kernel
theorem dX4_clear_17 : decode cX4_clear 17 = .ok (.bastore, 1) := by decide +kernel
theorem dX4_clear_18 : decode cX4_clear 18 = .ok (.iinc 1 1, 3) := by decide +kernel
theorem dX4_clear_21 : decode cX4_clear 21 = .ok (.goto (-19), 3) := by decide +kernel
theorem dX4_clear_24 : decode cX4_clear 24 = .ok (.return_, 1) := by decide +kernel
set_option maxRecDepth 20000 in
theorem ggX4_contains_X4_reduce : GoodIn wsX4_contains wsX4_reduce := goodIn_r _ [5, 6, 7, 8, 9, 10, 11, 12, 13, 14, 15, 16, 17, 18, 19, 24, 25, 26] (by decide +kernel) (by decide +kernel)
set_option maxRecDepth 20000 in
theorem gX4_contains_X4_reduce : GoodIn wsX4_contains (wsV RX4 24 RX4 yX4_reduce wsX4_reduce) := goodIn_app (goodIn_of _ (by decide +kernel)) ggX4_contains_X4_reduce
set_option maxRecDepth 20000 in
theorem ggX4_contains_X4_leadingPlace : GoodIn wsX4_contains wsX4_leadingPlace := goodIn_r _ [23, 6, 24, 25, 26] (by decide +kernel) (by decide +kernel)
set_option maxRecDepth 20000 in
theorem gX4_contains_X4_leadingPlace : GoodIn wsX4_contains (wsV RX4 28 RX4 yX4_leadingPlace wsX4_leadingPlace) := goodIn_app (goodIn_of _ (by decide +kernel)) ggX4_contains_X4_leadingPlace
theorem dX4_contains_0 : decode cX4_contains 0 = .ok (.aload_n 0, 1) := by decide +kernel
theorem dX4_contains_1 : decode cX4_contains 1 = .ok (.aload_n 1, 1) := by decide +kernel
theorem dX4_contains_2 : decode cX4_contains 2 = .ok (.invokevirtual 24, 3) := by decide +kernel
theorem dX4_contains_5 : decode cX4_contains 5 = .ok (.aload_n 0, 1) := by decide +kernel
theorem dX4_contains_6 : decode cX4_contains 6 = .ok (.invokevirtual 28, 3) := by decide +kernel
theorem dX4_contains_9 : decode cX4_contains 9 = .ok (.ifCond .ge 7, 3) := by decide +kernel
theorem dX4_contains_12 : decode cX4_contains 12 = .ok (.iconst 1, 1) := by decide +kernel
theorem dX4_contains_13 : decode cX4_contains 13 = .ok (.goto 4, 3) := by decide +kernel
theorem dX4_contains_16 : decode cX4_contains 16 = .ok (.iconst 0, 1) := by decide +kernel
theorem dX4_contains_17 : decode cX4_contains 17 = .ok (.ireturn, 1) := by decide +kernel
set_option maxRecDepth 20000 in
theorem ggX4_add_X4_reduce : GoodIn wsX4_add wsX4_reduce := goodIn_r _ [9, 2, 3, 4, 1, 10, 11, 12, 13, 14, 15, 16, 17, 18, 19, 31, 32, 33] (by decide +kernel) (by decide +kernel)
set_option maxRecDepth 20000 in
theorem gX4_add_X4_reduce : GoodIn wsX4_add (wsV RX4 24 RX4 yX4_reduce wsX4_reduce) := goodIn_app (goodIn_of _ (by decide +kernel)) ggX4_add_X4_reduce
set_option maxRecDepth 20000 in
theorem ggX4_add_X4_leadingPlace : GoodIn wsX4_add wsX4_leadingPlace := goodIn_r _ [23, 2, 31, 32, 33] (by decide +kernel) (by decide +kernel)
set_option maxRecDepth 20000 in
theorem gX4_add_X4_leadingPlace : GoodIn wsX4_add (wsV RX4 28 RX4 yX4_leadingPlace wsX4_leadingPlace) := goodIn_app (goodIn_of _ (by decide +kernel)) ggX4_add_X4_leadingPlace
set_option maxRecDepth 20000 in
theorem ggX4_add_J7_fill_53178 : GoodIn wsX4_add wsJ7_fill_53178 := goodIn_r _ [27] (by decide +kernel) (by decide +kernel)
set_option maxRecDepth 20000 in
theorem gX4_add_J7_fill_53178 : GoodIn wsX4_add (va_wsS RX4 32 yJ7_fill_53178 wsJ7_fill_53178) := goodIn_app (goodIn_of _ (by decide +kernel)) ggX4_add_J7_fill_53178
set_option maxRecDepth 20000 in
theorem ggX4_add_X5_inverse : GoodIn wsX4_add wsX5_inverse := goodIn_r _ [29, 30, 19] (by decide +kernel) (by decide +kernel)
set_option maxRecDepth 20000 in
theorem gX4_add_X5_inverse_n38 : GoodIn wsX4_add (wsX5_inverse) := ggX4_add_X5_inverse
set_option maxRecDepth 20000 in
theorem ggX4_add_X5_addMultiple : GoodIn wsX4_add wsX5_addMultiple := goodIn_r _ [18, 19] (by decide +kernel) (by decide +kernel)
set_option maxRecDepth 20000 in
theorem gX4_add_X5_addMultiple_n42 : GoodIn wsX4_add (wsX5_addMultiple) := ggX4_add_X5_addMultiple
theorem dX4_add_0 : decode cX4_add 0 = .ok (.aload_n 0, 1) := by decide +kernel
theorem dX4_add_1 : decode cX4_add 1 = .ok (.aload_n 1, 1) := by decide +kernel
theorem dX4_add_2 : decode cX4_add 2 = .ok (.invokevirtual 24, 3) := by decide +kernel
theorem dX4_add_5 : decode cX4_add 5 = .ok (.aload_n 0, 1) := by decide +kernel
theorem dX4_add_6 : decode cX4_add 6 = .ok (.invokevirtual 28, 3) := by decide +kernel
theorem dX4_add_9 : decode cX4_add 9 = .ok (.istore_n 2, 1) := by decide +kernel
theorem dX4_add_10 : decode cX4_add 10 = .ok (.iload_n 2, 1) := by decide +kernel
theorem dX4_add_11 : decode cX4_add 11 = .ok (.ifCond .ge 5, 3) := by decide +kernel
theorem dX4_add_14 : decode cX4_add 14 = .ok (.iconst 0, 1) := by decide +kernel
theorem dX4_add_15 : decode cX4_add 15 = .ok (.ireturn, 1) := by decide +kernel
theorem dX4_add_16 : decode cX4_add 16 = .ok (.aload_n 0, 1) := by decide +kernel
theorem dX4_add_17 : decode cX4_add 17 = .ok (.getfield 11, 3) := by decide +kernel
theorem dX4_add_20 : decode cX4_add 20 = .ok (.iload_n 2, 1) := by decide +kernel
theorem dX4_add_21 : decode cX4_add 21 = .ok (.aaload, 1) := by decide +kernel
theorem dX4_add_22 : decode cX4_add 22 = .ok (.astore_n 3, 1) := by decide +kernel
theorem dX4_add_23 : decode cX4_add 23 = .ok (.aload_n 3, 1) := by decide +kernel
theorem dX4_add_24 : decode cX4_add 24 = .ok (.iconst 0, 1) := by decide +kernel
theorem dX4_add_25 : decode cX4_add 25 = .ok (.invokestatic 32, 3) := by decide +kernel
theorem dX4_add_28 : decode cX4_add 28 = .ok (.aload_n 3, 1) := by decide +kernel
theorem dX4_add_29 : decode cX4_add 29 = .ok (.aload_n 0, 1) := by decide +kernel
theorem dX4_add_30 : decode cX4_add 30 = .ok (.getfield 20, 3) := by decide +kernel
theorem dX4_add_33 : decode cX4_add 33 = .ok (.iload_n 2, 1) := by decide +kernel
theorem dX4_add_34 : decode cX4_add 34 = .ok (.iaload, 1) := by decide +kernel
theorem dX4_add_35 : decode cX4_add 35 = .ok (.invokestatic 38, 3) := by decide +kernel
theorem dX4_add_38 : decode cX4_add 38 = .ok (.aload_n 0, 1) := by decide +kernel
theorem dX4_add_39 : decode cX4_add 39 = .ok (.getfield 20, 3) := by decide +kernel
theorem dX4_add_42 : decode cX4_add 42 = .ok (.invokestatic 42, 3) := by decide +kernel
theorem dX4_add_45 : decode cX4_add 45 = .ok (.iconst 0, 1) := by decide +kernel
theorem dX4_add_46 : decode cX4_add 46 = .ok (.istore 4, 2) := by decide +kernel
theorem dX4_add_48 : decode cX4_add 48 = .ok (.iload 4, 2) := by decide +kernel
theorem dX4_add_50 : decode cX4_add 50 = .ok (.aload_n 0, 1) := by decide +kernel
theorem dX4_add_51 : decode cX4_add 51 = .ok (.getfield 16, 3) := by decide +kernel
theorem dX4_add_54 : decode cX4_add 54 = .ok (.arraylength, 1) := by decide +kernel
theorem dX4_add_55 : decode cX4_add 55 = .ok (.if_icmp .ge 42, 3) := by decide +kernel
theorem dX4_add_58 : decode cX4_add 58 = .ok (.aload_n 0, 1) := by decide +kernel
theorem dX4_add_59 : decode cX4_add 59 = .ok (.getfield 16, 3) := by decide +kernel
theorem dX4_add_62 : decode cX4_add 62 = .ok (.iload 4, 2) := by decide +kernel
theorem dX4_add_64 : decode cX4_add 64 = .ok (.baload, 1) := by decide +kernel
theorem dX4_add_65 : decode cX4_add 65 = .ok (.ifCond .eq 26, 3) := by decide +kernel
theorem dX4_add_68 : decode cX4_add 68 = .ok (.aload_n 0, 1) := by decide +kernel
theorem dX4_add_69 : decode cX4_add 69 = .ok (.getfield 11, 3) := by decide +kernel
theorem dX4_add_72 : decode cX4_add 72 = .ok (.iload 4, 2) := by decide +kernel
theorem dX4_add_74 : decode cX4_add 74 = .ok (.aaload, 1) := by decide +kernel
theorem dX4_add_75 : decode cX4_add 75 = .ok (.ldc 46, 2) := by decide +kernel
theorem dX4_add_77 : decode cX4_add 77 = .ok (.aload_n 0, 1) := by decide +kernel
theorem dX4_add_78 : decode cX4_add 78 = .ok (.getfield 11, 3) := by decide +kernel
theorem dX4_add_81 : decode cX4_add 81 = .ok (.iload 4, 2) := by decide +kernel
theorem dX4_add_83 : decode cX4_add 83 = .ok (.aaload, 1) := by decide +kernel
theorem dX4_add_84 : decode cX4_add 84 = .ok (.iload_n 2, 1) := by decide +kernel
theorem dX4_add_85 : decode cX4_add 85 = .ok (.iaload, 1) := by decide +kernel
theorem dX4_add_86 : decode cX4_add 86 = .ok (.isub, 1) := by decide +kernel
theorem dX4_add_87 : decode cX4_add 87 = .ok (.aload_n 3, 1) := by decide +kernel
theorem dX4_add_88 : decode cX4_add 88 = .ok (.invokestatic 42, 3) := by decide +kernel
theorem dX4_add_91 : decode cX4_add 91 = .ok (.iinc 4 1, 3) := by decide +kernel
theorem dX4_add_94 : decode cX4_add 94 = .ok (.goto (-46), 3) := by decide +kernel
theorem dX4_add_97 : decode cX4_add 97 = .ok (.aload_n 0, 1) := by decide +kernel
theorem dX4_add_98 : decode cX4_add 98 = .ok (.getfield 16, 3) := by decide +kernel
theorem dX4_add_101 : decode cX4_add 101 = .ok (.iload_n 2, 1) := by decide +kernel
theorem dX4_add_102 : decode cX4_add 102 = .ok (.iconst 1, 1) := by decide +kernel
theorem dX4_add_103 : decode cX4_add 103 = .ok (.bastore, 1) := by decide +kernel
theorem dX4_add_104 : decode cX4_add 104 = .ok (.iconst 1, 1) := by decide +kernel
theorem dX4_add_105 : decode cX4_add 105 = .ok (.ireturn, 1) := by decide +kernel
set_option maxRecDepth 20000 in
theorem ggX4_reduce_X5_copy : GoodIn wsX4_reduce wsX5_copy := goodIn_r _ [7, 8, 9, 10, 11] (by decide +kernel) (by decide +kernel)
set_option maxRecDepth 20000 in
theorem gX4_reduce_X5_copy_n47 : GoodIn wsX4_reduce (wsX5_copy) := ggX4_reduce_X5_copy
set_option maxRecDepth 20000 in
theorem ggX4_reduce_X5_addMultiple : GoodIn wsX4_reduce wsX5_addMultiple := goodIn_r _ [13, 14] (by decide +kernel) (by decide +kernel)
set_option maxRecDepth 20000 in
theorem gX4_reduce_X5_addMultiple_n42 : GoodIn wsX4_reduce (wsX5_addMultiple) := ggX4_reduce_X5_addMultiple
theorem dX4_reduce_0 : decode cX4_reduce 0 = .ok (.aload_n 1, 1) := by decide +kernel
theorem dX4_reduce_1 : decode cX4_reduce 1 = .ok (.aload_n 0, 1) := by decide +kernel
theorem dX4_reduce_2 : decode cX4_reduce 2 = .ok (.getfield 20, 3) := by decide +kernel
theorem dX4_reduce_5 : decode cX4_reduce 5 = .ok (.invokestatic 47, 3) := by decide +kernel
theorem dX4_reduce_8 : decode cX4_reduce 8 = .ok (.iconst 0, 1) := by decide +kernel
theorem dX4_reduce_9 : decode cX4_reduce 9 = .ok (.istore_n 2, 1) := by decide +kernel
theorem dX4_reduce_10 : decode cX4_reduce 10 = .ok (.iload_n 2, 1) := by decide +kernel
theorem dX4_reduce_11 : decode cX4_reduce 11 = .ok (.aload_n 0, 1) := by decide +kernel
theorem dX4_reduce_12 : decode cX4_reduce 12 = .ok (.getfield 16, 3) := by decide +kernel
theorem dX4_reduce_15 : decode cX4_reduce 15 = .ok (.arraylength, 1) := by decide +kernel
theorem dX4_reduce_16 : decode cX4_reduce 16 = .ok (.if_icmp .ge 40, 3) := by decide +kernel
theorem dX4_reduce_19 : decode cX4_reduce 19 = .ok (.aload_n 0, 1) := by decide +kernel
theorem dX4_reduce_20 : decode cX4_reduce 20 = .ok (.getfield 16, 3) := by decide +kernel
theorem dX4_reduce_23 : decode cX4_reduce 23 = .ok (.iload_n 2, 1) := by decide +kernel
theorem dX4_reduce_24 : decode cX4_reduce 24 = .ok (.baload, 1) := by decide +kernel
theorem dX4_reduce_25 : decode cX4_reduce 25 = .ok (.ifCond .eq 25, 3) := by decide +kernel
theorem dX4_reduce_28 : decode cX4_reduce 28 = .ok (.aload_n 0, 1) := by decide +kernel
theorem dX4_reduce_29 : decode cX4_reduce 29 = .ok (.getfield 20, 3) := by decide +kernel
theorem dX4_reduce_32 : decode cX4_reduce 32 = .ok (.ldc 46, 2) := by decide +kernel
theorem dX4_reduce_34 : decode cX4_reduce 34 = .ok (.aload_n 0, 1) := by decide +kernel
theorem dX4_reduce_35 : decode cX4_reduce 35 = .ok (.getfield 20, 3) := by decide +kernel
theorem dX4_reduce_38 : decode cX4_reduce 38 = .ok (.iload_n 2, 1) := by decide +kernel
theorem dX4_reduce_39 : decode cX4_reduce 39 = .ok (.iaload, 1) := by decide +kernel
theorem dX4_reduce_40 : decode cX4_reduce 40 = .ok (.isub, 1) := by decide +kernel
theorem dX4_reduce_41 : decode cX4_reduce 41 = .ok (.aload_n 0, 1) := by decide +kernel
theorem dX4_reduce_42 : decode cX4_reduce 42 = .ok (.getfield 11, 3) := by decide +kernel
theorem dX4_reduce_45 : decode cX4_reduce 45 = .ok (.iload_n 2, 1) := by decide +kernel
theorem dX4_reduce_46 : decode cX4_reduce 46 = .ok (.aaload, 1) := by decide +kernel
theorem dX4_reduce_47 : decode cX4_reduce 47 = .ok (.invokestatic 42, 3) := by decide +kernel
theorem dX4_reduce_50 : decode cX4_reduce 50 = .ok (.iinc 2 1, 3) := by decide +kernel
theorem dX4_reduce_53 : decode cX4_reduce 53 = .ok (.goto (-43), 3) := by decide +kernel
theorem dX4_reduce_56 : decode cX4_reduce 56 = .ok (.return_, 1) := by decide +kernel
theorem dX4_leadingPlace_0 : decode cX4_leadingPlace 0 = .ok (.aload_n 0, 1) := by decide +kernel
theorem dX4_leadingPlace_1 : decode cX4_leadingPlace 1 = .ok (.getfield 20, 3) := by decide +kernel
theorem dX4_leadingPlace_4 : decode cX4_leadingPlace 4 = .ok (.iconst 0, 1) := by decide +kernel
theorem dX4_leadingPlace_5 : decode cX4_leadingPlace 5 = .ok (.iaload, 1) := by decide +kernel
theorem dX4_leadingPlace_6 : decode cX4_leadingPlace 6 = .ok (.ifCond .eq 5, 3) := by decide +kernel
theorem dX4_leadingPlace_9 : decode cX4_leadingPlace 9 = .ok (.iconst 0, 1) := by decide +kernel
theorem dX4_leadingPlace_10 : decode cX4_leadingPlace 10 = .ok (.ireturn, 1) := by decide +kernel
theorem dX4_leadingPlace_11 : decode cX4_leadingPlace 11 = .ok (.aload_n 0, 1) := by decide +kernel
theorem dX4_leadingPlace_12 : decode cX4_leadingPlace 12 = .ok (.getfield 20, 3) := by decide +kernel
theorem dX4_leadingPlace_15 : decode cX4_leadingPlace 15 = .ok (.arraylength, 1) := by decide +kernel
theorem dX4_leadingPlace_16 : decode cX4_leadingPlace 16 = .ok (.iconst 1, 1) := by decide +kernel
theorem dX4_leadingPlace_17 : decode cX4_leadingPlace 17 = .ok (.isub, 1) := by decide +kernel
theorem dX4_leadingPlace_18 : decode cX4_leadingPlace 18 = .ok (.istore_n 1, 1) := by decide +kernel
theorem dX4_leadingPlace_19 : decode cX4_leadingPlace 19 = .ok (.iload_n 1, 1) := by decide +kernel
theorem dX4_leadingPlace_20 : decode cX4_leadingPlace 20 = .ok (.ifCond .le 20, 3) := by decide +kernel
theorem dX4_leadingPlace_23 : decode cX4_leadingPlace 23 = .ok (.aload_n 0, 1) := by decide +kernel
theorem dX4_leadingPlace_24 : decode cX4_leadingPlace 24 = .ok (.getfield 20, 3) := by decide +kernel
theorem dX4_leadingPlace_27 : decode cX4_leadingPlace 27 = .ok (.iload_n 1, 1) := by decide +kernel
theorem dX4_leadingPlace_28 : decode cX4_leadingPlace 28 = .ok (.iaload, 1) := by decide +kernel
theorem dX4_leadingPlace_29 : decode cX4_leadingPlace 29 = .ok (.ifCond .eq 5, 3) := by decide +kernel
theorem dX4_leadingPlace_32 : decode cX4_leadingPlace 32 = .ok (.iload_n 1, 1) := by decide +kernel
theorem dX4_leadingPlace_33 : decode cX4_leadingPlace 33 = .ok (.ireturn, 1) := by decide +kernel
theorem dX4_leadingPlace_34 : decode cX4_leadingPlace 34 = .ok (.iinc 1 (-1), 3) := by decide +kernel
theorem dX4_leadingPlace_37 : decode cX4_leadingPlace 37 = .ok (.goto (-18), 3) := by decide +kernel
theorem dX4_leadingPlace_40 : decode cX4_leadingPlace 40 = .ok (.iconst (-1), 1) := by decide +kernel
theorem dX4_leadingPlace_41 : decode cX4_leadingPlace 41 = .ok (.ireturn, 1) := by decide +kernel
theorem dX4_freePlace_0 : decode cX4_freePlace 0 = .ok (.iload_n 1, 1) := by decide +kernel
theorem dX4_freePlace_1 : decode cX4_freePlace 1 = .ok (.istore_n 2, 1) := by decide +kernel
theorem dX4_freePlace_2 : decode cX4_freePlace 2 = .ok (.iconst 1, 1) := by decide +kernel
theorem dX4_freePlace_3 : decode cX4_freePlace 3 = .ok (.istore_n 3, 1) := by decide +kernel
theorem dX4_freePlace_4 : decode cX4_freePlace 4 = .ok (.iload_n 3, 1) := by decide +kernel
theorem dX4_freePlace_5 : decode cX4_freePlace 5 = .ok (.aload_n 0, 1) := by decide +kernel
theorem dX4_freePlace_6 : decode cX4_freePlace 6 = .ok (.getfield 16, 3) := by decide +kernel
theorem dX4_freePlace_9 : decode cX4_freePlace 9 = .ok (.arraylength, 1) := by decide +kernel
theorem dX4_freePlace_10 : decode cX4_freePlace 10 = .ok (.if_icmp .ge 27, 3) := by decide +kernel
theorem dX4_freePlace_13 : decode cX4_freePlace 13 = .ok (.aload_n 0, 1) := by decide +kernel
theorem dX4_freePlace_14 : decode cX4_freePlace 14 = .ok (.getfield 16, 3) := by decide +kernel
theorem dX4_freePlace_17 : decode cX4_freePlace 17 = .ok (.iload_n 3, 1) := by decide +kernel
theorem dX4_freePlace_18 : decode cX4_freePlace 18 = .ok (.baload, 1) := by decide +kernel
theorem dX4_freePlace_19 : decode cX4_freePlace 19 = .ok (.ifCond .ne 12, 3) := by decide +kernel
theorem dX4_freePlace_22 : decode cX4_freePlace 22 = .ok (.iload_n 2, 1) := by decide +kernel
theorem dX4_freePlace_23 : decode cX4_freePlace 23 = .ok (.ifCond .ne 5, 3) := by decide +kernel
theorem dX4_freePlace_26 : decode cX4_freePlace 26 = .ok (.iload_n 3, 1) := by decide +kernel
theorem dX4_freePlace_27 : decode cX4_freePlace 27 = .ok (.ireturn, 1) := by decide +kernel
theorem dX4_freePlace_28 : decode cX4_freePlace 28 = .ok (.iinc 2 (-1), 3) := by decide +kernel
theorem dX4_freePlace_31 : decode cX4_freePlace 31 = .ok (.iinc 3 1, 3) := by decide +kernel
theorem dX4_freePlace_34 : decode cX4_freePlace 34 = .ok (.goto (-30), 3) := by decide +kernel
theorem dX4_freePlace_37 : decode cX4_freePlace 37 = .ok (.iconst 0, 1) := by decide +kernel
theorem dX4_freePlace_38 : decode cX4_freePlace 38 = .ok (.ireturn, 1) := by decide +kernel
set_option maxRecDepth 20000 in
theorem ggX4_vanishing_X5_number : GoodIn wsX4_vanishing wsX5_number := goodIn_r _ [5, 6, 7, 8, 9, 10] (by decide +kernel) (by decide +kernel)
set_option maxRecDepth 20000 in
theorem gX4_vanishing_X5_number_n51 : GoodIn wsX4_vanishing (wsX5_number) := ggX4_vanishing_X5_number
theorem dX4_vanishing_0 : decode cX4_vanishing 0 = .ok (.iload_n 2, 1) := by decide +kernel
theorem dX4_vanishing_1 : decode cX4_vanishing 1 = .ok (.iload_n 1, 1) := by decide +kernel
theorem dX4_vanishing_2 : decode cX4_vanishing 2 = .ok (.if_icmp .ne 5, 3) := by decide +kernel
theorem dX4_vanishing_5 : decode cX4_vanishing 5 = .ok (.iconst 1, 1) := by decide +kernel
theorem dX4_vanishing_6 : decode cX4_vanishing 6 = .ok (.ireturn, 1) := by decide +kernel
theorem dX4_vanishing_7 : decode cX4_vanishing 7 = .ok (.aload_n 0, 1) := by decide +kernel
theorem dX4_vanishing_8 : decode cX4_vanishing 8 = .ok (.getfield 16, 3) := by decide +kernel
theorem dX4_vanishing_11 : decode cX4_vanishing 11 = .ok (.iload_n 2, 1) := by decide +kernel
theorem dX4_vanishing_12 : decode cX4_vanishing 12 = .ok (.baload, 1) := by decide +kernel
theorem dX4_vanishing_13 : decode cX4_vanishing 13 = .ok (.ifCond .eq 18, 3) := by decide +kernel
theorem dX4_vanishing_16 : decode cX4_vanishing 16 = .ok (.aload_n 0, 1) := by decide +kernel
theorem dX4_vanishing_17 : decode cX4_vanishing 17 = .ok (.getfield 11, 3) := by decide +kernel
theorem dX4_vanishing_20 : decode cX4_vanishing 20 = .ok (.iload_n 2, 1) := by decide +kernel
theorem dX4_vanishing_21 : decode cX4_vanishing 21 = .ok (.aaload, 1) := by decide +kernel
theorem dX4_vanishing_22 : decode cX4_vanishing 22 = .ok (.iload_n 1, 1) := by decide +kernel
theorem dX4_vanishing_23 : decode cX4_vanishing 23 = .ok (.iaload, 1) := by decide +kernel
theorem dX4_vanishing_24 : decode cX4_vanishing 24 = .ok (.ineg, 1) := by decide +kernel
theorem dX4_vanishing_25 : decode cX4_vanishing 25 = .ok (.invokestatic 51, 3) := by decide +kernel
theorem dX4_vanishing_28 : decode cX4_vanishing 28 = .ok (.goto 4, 3) := by decide +kernel
theorem dX4_vanishing_31 : decode cX4_vanishing 31 = .ok (.iconst 0, 1) := by decide +kernel
theorem dX4_vanishing_32 : decode cX4_vanishing 32 = .ok (.ireturn, 1) := by decide +kernel
set_option maxRecDepth 20000 in
theorem ggX5_init_X4_init : GoodIn wsX5_init wsX4_init := goodIn_r _ [38, 39, 2, 3, 40, 12, 41, 42, 43, 44, 83, 84, 85] (by decide +kernel) (by decide +kernel)
set_option maxRecDepth 20000 in
theorem gX5_init_X4_init : GoodIn wsX5_init (wsX4_init) := ggX5_init_X4_init
set_option maxRecDepth 20000 in
theorem ggX5_init_X0_init : GoodIn wsX5_init wsX0_init := goodIn_r _ [47, 48, 2, 3, 12, 49, 86, 87, 88, 89, 90] (by decide +kernel) (by decide +kernel)
set_option maxRecDepth 20000 in
theorem gX5_init_X0_init : GoodIn wsX5_init (wsX0_init) := ggX5_init_X0_init
set_option maxRecDepth 20000 in
theorem ggX5_init_X2_init : GoodIn wsX5_init wsX2_init := goodIn_r _ [52, 53, 2, 3, 12, 54, 91, 92] (by decide +kernel) (by decide +kernel)
set_option maxRecDepth 20000 in
theorem gX5_init_X2_init : GoodIn wsX5_init (wsX2_init) := ggX5_init_X2_init
set_option maxRecDepth 20000 in
theorem ggX5_init_X1_init : GoodIn wsX5_init wsX1_init := goodIn_r _ [57, 58, 2, 3, 59, 17, 18, 60, 12, 61, 62, 37, 38, 39, 40, 41, 42, 43, 44, 83, 84, 85, 93, 94, 95] (by decide +kernel) (by decide +kernel)
set_option maxRecDepth 20000 in
theorem gX5_init_X1_init : GoodIn wsX5_init (wsX1_init) := ggX5_init_X1_init
set_option maxRecDepth 20000 in
theorem ggX5_init_X3_init : GoodIn wsX5_init wsX3_init := goodIn_r _ [65, 66, 2, 3, 12, 67, 96, 97, 98, 99] (by decide +kernel) (by decide +kernel)
set_option maxRecDepth 20000 in
theorem gX5_init_X3_init : GoodIn wsX5_init (wsX3_init) := ggX5_init_X3_init
theorem dX5_init_0 : decode cX5_init 0 = .ok (.aload_n 0, 1) := by decide +kernel
theorem dX5_init_1 : decode cX5_init 1 = .ok (.invokespecial 1, 3) := by decide +kernel
theorem dX5_init_4 : decode cX5_init 4 = .ok (.iconst 1, 1) := by decide +kernel
theorem dX5_init_5 : decode cX5_init 5 = .ok (.bipush 8, 2) := by decide +kernel
theorem dX5_init_7 : decode cX5_init 7 = .ok (.iload_n 1, 1) := by decide +kernel
theorem dX5_init_8 : decode cX5_init 8 = .ok (.invokestatic 9, 3) := by decide +kernel
theorem dX5_init_11 : decode cX5_init 11 = .ok (.invokestatic 15, 3) := by decide +kernel
theorem dX5_init_14 : decode cX5_init 14 = .ok (.istore_n 3, 1) := by decide +kernel
theorem dX5_init_15 : decode cX5_init 15 = .ok (.aload_n 0, 1) := by decide +kernel
theorem dX5_init_16 : decode cX5_init 16 = .ok (.iconst 1, 1) := by decide +kernel
theorem dX5_init_17 : decode cX5_init 17 = .ok (.iconst 4, 1) := by decide +kernel
theorem dX5_init_18 : decode cX5_init 18 = .ok (.iload_n 2, 1) := by decide +kernel
theorem dX5_init_19 : decode cX5_init 19 = .ok (.invokestatic 9, 3) := by decide +kernel
theorem dX5_init_22 : decode cX5_init 22 = .ok (.invokestatic 15, 3) := by decide +kernel
theorem dX5_init_25 : decode cX5_init 25 = .ok (.putfield 18, 3) := by decide +kernel
theorem dX5_init_28 : decode cX5_init 28 = .ok (.aload_n 0, 1) := by decide +kernel
theorem dX5_init_29 : decode cX5_init 29 = .ok (.getfield 18, 3) := by decide +kernel
theorem dX5_init_32 : decode cX5_init 32 = .ok (.iconst 1, 1) := by decide +kernel
theorem dX5_init_33 : decode cX5_init 33 = .ok (.iadd, 1) := by decide +kernel
theorem dX5_init_34 : decode cX5_init 34 = .ok (.istore 4, 2) := by decide +kernel
theorem dX5_init_36 : decode cX5_init 36 = .ok (.aload_n 0, 1) := by decide +kernel
theorem dX5_init_37 : decode cX5_init 37 = .ok (.iload 4, 2) := by decide +kernel
theorem dX5_init_39 : decode cX5_init 39 = .ok (.newarray .int, 2) := by decide +kernel
theorem dX5_init_41 : decode cX5_init 41 = .ok (.putfield 22, 3) := by decide +kernel
theorem dX5_init_44 : decode cX5_init 44 = .ok (.aload_n 0, 1) := by decide +kernel
theorem dX5_init_45 : decode cX5_init 45 = .ok (.iload 4, 2) := by decide +kernel
theorem dX5_init_47 : decode cX5_init 47 = .ok (.newarray .int, 2) := by decide +kernel
theorem dX5_init_49 : decode cX5_init 49 = .ok (.putfield 26, 3) := by decide +kernel
theorem dX5_init_52 : decode cX5_init 52 = .ok (.aload_n 0, 1) := by decide +kernel
theorem dX5_init_53 : decode cX5_init 53 = .ok (.iload 4, 2) := by decide +kernel
theorem dX5_init_55 : decode cX5_init 55 = .ok (.newarray .int, 2) := by decide +kernel
theorem dX5_init_57 : decode cX5_init 57 = .ok (.putfield 29, 3) := by decide +kernel
theorem dX5_init_60 : decode cX5_init 60 = .ok (.aload_n 0, 1) := by decide +kernel
theorem dX5_init_61 : decode cX5_init 61 = .ok (.getfield 29, 3) := by decide +kernel
theorem dX5_init_64 : decode cX5_init 64 = .ok (.iconst 0, 1) := by decide +kernel
theorem dX5_init_65 : decode cX5_init 65 = .ok (.iconst 1, 1) := by decide +kernel
theorem dX5_init_66 : decode cX5_init 66 = .ok (.iastore, 1) := by decide +kernel
theorem dX5_init_67 : decode cX5_init 67 = .ok (.aload_n 0, 1) := by decide +kernel
theorem dX5_init_68 : decode cX5_init 68 = .ok (.new 32, 3) := by decide +kernel
theorem dX5_init_71 : decode cX5_init 71 = .ok (.dup, 1) := by decide +kernel
theorem dX5_init_72 : decode cX5_init 72 = .ok (.iload 4, 2) := by decide +kernel
theorem dX5_init_74 : decode cX5_init 74 = .ok (.invokespecial 34, 3) := by decide +kernel
theorem dX5_init_77 : decode cX5_init 77 = .ok (.putfield 37, 3) := by decide +kernel
theorem dX5_init_80 : decode cX5_init 80 = .ok (.aload_n 0, 1) := by decide +kernel
theorem dX5_init_81 : decode cX5_init 81 = .ok (.bipush 20, 2) := by decide +kernel
theorem dX5_init_83 : decode cX5_init 83 = .ok (.anewarray 41, 3) := by decide +kernel
theorem dX5_init_86 : decode cX5_init 86 = .ok (.putfield 43, 3) := by decide +kernel
theorem dX5_init_89 : decode cX5_init 89 = .ok (.iconst 0, 1) := by decide +kernel
theorem dX5_init_90 : decode cX5_init 90 = .ok (.istore 5, 2) := by decide +kernel
theorem dX5_init_92 : decode cX5_init 92 = .ok (.iload 5, 2) := by decide +kernel
theorem dX5_init_94 : decode cX5_init 94 = .ok (.bipush 20, 2) := by decide +kernel
theorem dX5_init_96 : decode cX5_init 96 = .ok (.if_icmp .ge 25, 3) := by decide +kernel
theorem dX5_init_99 : decode cX5_init 99 = .ok (.aload_n 0, 1) := by decide +kernel
theorem dX5_init_100 : decode cX5_init 100 = .ok (.getfield 43, 3) := by decide +kernel
theorem dX5_init_103 : decode cX5_init 103 = .ok (.iload 5, 2) := by decide +kernel
theorem dX5_init_105 : decode cX5_init 105 = .ok (.new 41, 3) := by decide +kernel
theorem dX5_init_108 : decode cX5_init 108 = .ok (.dup, 1) := by decide +kernel
theorem dX5_init_109 : decode cX5_init 109 = .ok (.iload 4, 2) := by decide +kernel
theorem dX5_init_111 : decode cX5_init 111 = .ok (.invokespecial 47, 3) := by decide +kernel
theorem dX5_init_114 : decode cX5_init 114 = .ok (.aastore, 1) := by decide +kernel
theorem dX5_init_115 : decode cX5_init 115 = .ok (.iinc 5 1, 3) := by decide +kernel
theorem dX5_init_118 : decode cX5_init 118 = .ok (.goto (-26), 3) := by decide +kernel
theorem dX5_init_121 : decode cX5_init 121 = .ok (.aload_n 0, 1) := by decide +kernel
theorem dX5_init_122 : decode cX5_init 122 = .ok (.bipush 24, 2) := by decide +kernel
theorem dX5_init_124 : decode cX5_init 124 = .ok (.anewarray 48, 3) := by decide +kernel
theorem dX5_init_127 : decode cX5_init 127 = .ok (.putfield 50, 3) := by decide +kernel
theorem dX5_init_130 : decode cX5_init 130 = .ok (.iconst 0, 1) := by decide +kernel
theorem dX5_init_131 : decode cX5_init 131 = .ok (.istore 5, 2) := by decide +kernel
theorem dX5_init_133 : decode cX5_init 133 = .ok (.iload 5, 2) := by decide +kernel
theorem dX5_init_135 : decode cX5_init 135 = .ok (.bipush 24, 2) := by decide +kernel
theorem dX5_init_137 : decode cX5_init 137 = .ok (.if_icmp .ge 25, 3) := by decide +kernel
theorem dX5_init_140 : decode cX5_init 140 = .ok (.aload_n 0, 1) := by decide +kernel
theorem dX5_init_141 : decode cX5_init 141 = .ok (.getfield 50, 3) := by decide +kernel
theorem dX5_init_144 : decode cX5_init 144 = .ok (.iload 5, 2) := by decide +kernel
theorem dX5_init_146 : decode cX5_init 146 = .ok (.new 48, 3) := by decide +kernel
theorem dX5_init_149 : decode cX5_init 149 = .ok (.dup, 1) := by decide +kernel
theorem dX5_init_150 : decode cX5_init 150 = .ok (.iload 4, 2) := by decide +kernel
theorem dX5_init_152 : decode cX5_init 152 = .ok (.invokespecial 54, 3) := by decide +kernel
theorem dX5_init_155 : decode cX5_init 155 = .ok (.aastore, 1) := by decide +kernel
theorem dX5_init_156 : decode cX5_init 156 = .ok (.iinc 5 1, 3) := by decide +kernel
theorem dX5_init_159 : decode cX5_init 159 = .ok (.goto (-26), 3) := by decide +kernel
theorem dX5_init_162 : decode cX5_init 162 = .ok (.aload_n 0, 1) := by decide +kernel
theorem dX5_init_163 : decode cX5_init 163 = .ok (.iload_n 3, 1) := by decide +kernel
theorem dX5_init_164 : decode cX5_init 164 = .ok (.anewarray 55, 3) := by decide +kernel
theorem dX5_init_167 : decode cX5_init 167 = .ok (.putfield 57, 3) := by decide +kernel
theorem dX5_init_170 : decode cX5_init 170 = .ok (.iconst 0, 1) := by decide +kernel
theorem dX5_init_171 : decode cX5_init 171 = .ok (.istore 5, 2) := by decide +kernel
theorem dX5_init_173 : decode cX5_init 173 = .ok (.iload 5, 2) := by decide +kernel
theorem dX5_init_175 : decode cX5_init 175 = .ok (.iload_n 3, 1) := by decide +kernel
theorem dX5_init_176 : decode cX5_init 176 = .ok (.if_icmp .ge 25, 3) := by decide +kernel
theorem dX5_init_179 : decode cX5_init 179 = .ok (.aload_n 0, 1) := by decide +kernel
theorem dX5_init_180 : decode cX5_init 180 = .ok (.getfield 57, 3) := by decide +kernel
theorem dX5_init_183 : decode cX5_init 183 = .ok (.iload 5, 2) := by decide +kernel
theorem dX5_init_185 : decode cX5_init 185 = .ok (.new 55, 3) := by decide +kernel
theorem dX5_init_188 : decode cX5_init 188 = .ok (.dup, 1) := by decide +kernel
theorem dX5_init_189 : decode cX5_init 189 = .ok (.iload 4, 2) := by decide +kernel
theorem dX5_init_191 : decode cX5_init 191 = .ok (.invokespecial 61, 3) := by decide +kernel
theorem dX5_init_194 : decode cX5_init 194 = .ok (.aastore, 1) := by decide +kernel
theorem dX5_init_195 : decode cX5_init 195 = .ok (.iinc 5 1, 3) := by decide +kernel
theorem dX5_init_198 : decode cX5_init 198 = .ok (.goto (-25), 3) := by decide +kernel
theorem dX5_init_201 : decode cX5_init 201 = .ok (.aload_n 0, 1) := by decide +kernel
theorem dX5_init_202 : decode cX5_init 202 = .ok (.iload_n 3, 1) := by decide +kernel
theorem dX5_init_203 : decode cX5_init 203 = .ok (.iload 4, 2) := by decide +kernel
theorem dX5_init_205 : decode cX5_init 205 = .ok (.imul, 1) := by decide +kernel
theorem dX5_init_206 : decode cX5_init 206 = .ok (.anewarray 62, 3) := by decide +kernel
theorem dX5_init_209 : decode cX5_init 209 = .ok (.putfield 64, 3) := by decide +kernel
theorem dX5_init_212 : decode cX5_init 212 = .ok (.iconst 0, 1) := by decide +kernel
theorem dX5_init_213 : decode cX5_init 213 = .ok (.istore 5, 2) := by decide +kernel
theorem dX5_init_215 : decode cX5_init 215 = .ok (.iload 5, 2) := by decide +kernel
theorem dX5_init_217 : decode cX5_init 217 = .ok (.aload_n 0, 1) := by decide +kernel
theorem dX5_init_218 : decode cX5_init 218 = .ok (.getfield 64, 3) := by decide +kernel
theorem dX5_init_221 : decode cX5_init 221 = .ok (.arraylength, 1) := by decide +kernel
theorem dX5_init_222 : decode cX5_init 222 = .ok (.if_icmp .ge 25, 3) := by decide +kernel
theorem dX5_init_225 : decode cX5_init 225 = .ok (.aload_n 0, 1) := by decide +kernel
theorem dX5_init_226 : decode cX5_init 226 = .ok (.getfield 64, 3) := by decide +kernel
theorem dX5_init_229 : decode cX5_init 229 = .ok (.iload 5, 2) := by decide +kernel
theorem dX5_init_231 : decode cX5_init 231 = .ok (.new 62, 3) := by decide +kernel
theorem dX5_init_234 : decode cX5_init 234 = .ok (.dup, 1) := by decide +kernel
theorem dX5_init_235 : decode cX5_init 235 = .ok (.iload 4, 2) := by decide +kernel
theorem dX5_init_237 : decode cX5_init 237 = .ok (.invokespecial 68, 3) := by decide +kernel
theorem dX5_init_240 : decode cX5_init 240 = .ok (.aastore, 1) := by decide +kernel
theorem dX5_init_241 : decode cX5_init 241 = .ok (.iinc 5 1, 3) := by decide +kernel
theorem dX5_init_244 : decode cX5_init 244 = .ok (.goto (-29), 3) := by decide +kernel
theorem dX5_init_247 : decode cX5_init 247 = .ok (.return_, 1) := by decide +kernel
set_option maxRecDepth 20000 in
theorem ggX5_term_X5_requirePlace : GoodIn wsX5_term wsX5_requirePlace := goodIn_ca (goodIn_r _ [6, 7, 8, 9, 18, 19, 20, 21, 22, 23, 24, 25, 26, 27, 28, 29, 30, 31, 32] (by decide +kernel) (by decide +kernel)) (goodIn_sub (fun _ h => List.mem_cons_of_mem _ (List.mem_append_right _ h)) (by decide +kernel))
set_option maxRecDepth 20000 in
theorem gX5_term_X5_requirePlace : GoodIn wsX5_term (wsV RX5 69 RX5 yX5_requirePlace wsX5_requirePlace) := goodIn_app (goodIn_of _ (by decide +kernel)) ggX5_term_X5_requirePlace
set_option maxRecDepth 20000 in
theorem ggX5_term_X5_number : GoodIn wsX5_term wsX5_number := goodIn_r _ [12, 13, 14, 15, 16, 17] (by decide +kernel) (by decide +kernel)
set_option maxRecDepth 20000 in
theorem gX5_term_X5_number : GoodIn wsX5_term (va_wsS RX5 72 yX5_number wsX5_number) := goodIn_app (goodIn_of _ (by decide +kernel)) ggX5_term_X5_number
theorem dX5_term_0 : decode cX5_term 0 = .ok (.aload_n 0, 1) := by decide +kernel
theorem dX5_term_1 : decode cX5_term 1 = .ok (.iload_n 1, 1) := by decide +kernel
theorem dX5_term_2 : decode cX5_term 2 = .ok (.invokevirtual 69, 3) := by decide +kernel
theorem dX5_term_5 : decode cX5_term 5 = .ok (.aload_n 0, 1) := by decide +kernel
theorem dX5_term_6 : decode cX5_term 6 = .ok (.getfield 22, 3) := by decide +kernel
theorem dX5_term_9 : decode cX5_term 9 = .ok (.iload_n 1, 1) := by decide +kernel
theorem dX5_term_10 : decode cX5_term 10 = .ok (.iload_n 2, 1) := by decide +kernel
theorem dX5_term_11 : decode cX5_term 11 = .ok (.invokestatic 72, 3) := by decide +kernel
theorem dX5_term_14 : decode cX5_term 14 = .ok (.iastore, 1) := by decide +kernel
theorem dX5_term_15 : decode cX5_term 15 = .ok (.return_, 1) := by decide +kernel
set_option maxRecDepth 20000 in
theorem ggX5_edge_X5_requireNode : GoodIn wsX5_edge wsX5_requireNode := goodIn_ca (goodIn_r _ [13, 1, 2, 14, 44, 45, 46, 47, 48, 49, 50, 51, 52, 53, 54, 55, 56, 57, 58] (by decide +kernel) (by decide +kernel)) (goodIn_sub (fun _ h => List.mem_cons_of_mem _ (List.mem_append_left _ (List.mem_append_right _ h))) (by decide +kernel))
set_option maxRecDepth 20000 in
theorem gX5_edge_X5_requireNode : GoodIn wsX5_edge (wsV RX5 76 RX5 yX5_requireNode wsX5_requireNode) := goodIn_app (goodIn_of _ (by decide +kernel)) ggX5_edge_X5_requireNode
set_option maxRecDepth 20000 in
theorem ggX5_edge_X5_requireVariable : GoodIn wsX5_edge wsX5_requireVariable := goodIn_ca (goodIn_r _ [18, 1, 2, 19, 44, 45, 46, 47, 48, 49, 50, 51, 52, 53, 54, 55, 56, 57, 58] (by decide +kernel) (by decide +kernel)) (goodIn_sub (fun _ h => List.mem_cons_of_mem _ (List.mem_append_left _ (List.mem_append_right _ h))) (by decide +kernel))
set_option maxRecDepth 20000 in
theorem gX5_edge_X5_requireVariable : GoodIn wsX5_edge (wsV RX5 86 RX5 yX5_requireVariable wsX5_requireVariable) := goodIn_app (goodIn_of _ (by decide +kernel)) ggX5_edge_X5_requireVariable
set_option maxRecDepth 20000 in
theorem ggX5_edge_X0_set : GoodIn wsX5_edge wsX0_set := goodIn_r _ [24, 25, 26, 27, 28, 29, 30, 12, 31, 32, 33, 34, 35, 59, 60, 61, 62, 63] (by decide +kernel) (by decide +kernel)
set_option maxRecDepth 20000 in
theorem gX5_edge_X0_set : GoodIn wsX5_edge (wsV RX5 97 RX0 yX0_set wsX0_set) := goodIn_app (goodIn_of _ (by decide +kernel)) ggX5_edge_X0_set
set_option maxRecDepth 20000 in
theorem ggX5_edge_X5_clearDraft : GoodIn wsX5_edge wsX5_clearDraft := goodIn_r _ [39, 7, 40, 41, 42, 43, 44, 45, 46, 47, 48, 49, 50, 51, 52, 53, 54, 55, 56, 57, 58] (by decide +kernel) (by decide +kernel)
set_option maxRecDepth 20000 in
theorem gX5_edge_X5_clearDraft : GoodIn wsX5_edge (wsV RX5 101 RX5 yX5_clearDraft wsX5_clearDraft) := goodIn_app (goodIn_of _ (by decide +kernel)) ggX5_edge_X5_clearDraft
theorem dX5_edge_0 : decode cX5_edge 0 = .ok (.aload_n 0, 1) := by decide +kernel
theorem dX5_edge_1 : decode cX5_edge 1 = .ok (.iload_n 1, 1) := by decide +kernel
theorem dX5_edge_2 : decode cX5_edge 2 = .ok (.invokevirtual 76, 3) := by decide +kernel
theorem dX5_edge_5 : decode cX5_edge 5 = .ok (.aload_n 0, 1) := by decide +kernel
theorem dX5_edge_6 : decode cX5_edge 6 = .ok (.iload_n 2, 1) := by decide +kernel
theorem dX5_edge_7 : decode cX5_edge 7 = .ok (.invokevirtual 76, 3) := by decide +kernel
theorem dX5_edge_10 : decode cX5_edge 10 = .ok (.iload_n 3, 1) := by decide +kernel
theorem dX5_edge_11 : decode cX5_edge 11 = .ok (.ifCond .lt 8, 3) := by decide +kernel
theorem dX5_edge_14 : decode cX5_edge 14 = .ok (.iload_n 3, 1) := by decide +kernel
theorem dX5_edge_15 : decode cX5_edge 15 = .ok (.iconst 4, 1) := by decide +kernel
theorem dX5_edge_16 : decode cX5_edge 16 = .ok (.if_icmp .le 13, 3) := by decide +kernel
theorem dX5_edge_19 : decode cX5_edge 19 = .ok (.new 79, 3) := by decide +kernel
theorem dX5_edge_22 : decode cX5_edge 22 = .ok (.dup, 1) := by decide +kernel
theorem dX5_edge_23 : decode cX5_edge 23 = .ok (.ldc 81, 2) := by decide +kernel
theorem dX5_edge_25 : decode cX5_edge 25 = .ok (.invokespecial 83, 3) := by decide +kernel
theorem dX5_edge_28 : decode cX5_edge 28 = .ok (.athrow, 1) := by decide +kernel
theorem dX5_edge_29 : decode cX5_edge 29 = .ok (.iload_n 3, 1) := by decide +kernel
theorem dX5_edge_30 : decode cX5_edge 30 = .ok (.iconst 1, 1) := by decide +kernel
theorem dX5_edge_31 : decode cX5_edge 31 = .ok (.if_icmp .eq 8, 3) := by decide +kernel
theorem dX5_edge_34 : decode cX5_edge 34 = .ok (.iload_n 3, 1) := by decide +kernel
theorem dX5_edge_35 : decode cX5_edge 35 = .ok (.iconst 2, 1) := by decide +kernel
theorem dX5_edge_36 : decode cX5_edge 36 = .ok (.if_icmp .ne 9, 3) := by decide +kernel
theorem dX5_edge_39 : decode cX5_edge 39 = .ok (.aload_n 0, 1) := by decide +kernel
theorem dX5_edge_40 : decode cX5_edge 40 = .ok (.iload 4, 2) := by decide +kernel
theorem dX5_edge_42 : decode cX5_edge 42 = .ok (.invokevirtual 86, 3) := by decide +kernel
theorem dX5_edge_45 : decode cX5_edge 45 = .ok (.aload_n 0, 1) := by decide +kernel
theorem dX5_edge_46 : decode cX5_edge 46 = .ok (.getfield 89, 3) := by decide +kernel
theorem dX5_edge_49 : decode cX5_edge 49 = .ok (.bipush 20, 2) := by decide +kernel
theorem dX5_edge_51 : decode cX5_edge 51 = .ok (.if_icmp .lt 13, 3) := by decide +kernel
theorem dX5_edge_54 : decode cX5_edge 54 = .ok (.new 92, 3) := by decide +kernel
theorem dX5_edge_57 : decode cX5_edge 57 = .ok (.dup, 1) := by decide +kernel
theorem dX5_edge_58 : decode cX5_edge 58 = .ok (.ldc 94, 2) := by decide +kernel
theorem dX5_edge_60 : decode cX5_edge 60 = .ok (.invokespecial 96, 3) := by decide +kernel
theorem dX5_edge_63 : decode cX5_edge 63 = .ok (.athrow, 1) := by decide +kernel
theorem dX5_edge_64 : decode cX5_edge 64 = .ok (.aload_n 0, 1) := by decide +kernel
theorem dX5_edge_65 : decode cX5_edge 65 = .ok (.getfield 43, 3) := by decide +kernel
theorem dX5_edge_68 : decode cX5_edge 68 = .ok (.aload_n 0, 1) := by decide +kernel
theorem dX5_edge_69 : decode cX5_edge 69 = .ok (.getfield 89, 3) := by decide +kernel
theorem dX5_edge_72 : decode cX5_edge 72 = .ok (.aaload, 1) := by decide +kernel
theorem dX5_edge_73 : decode cX5_edge 73 = .ok (.iload_n 1, 1) := by decide +kernel
theorem dX5_edge_74 : decode cX5_edge 74 = .ok (.iload_n 2, 1) := by decide +kernel
theorem dX5_edge_75 : decode cX5_edge 75 = .ok (.iload_n 3, 1) := by decide +kernel
theorem dX5_edge_76 : decode cX5_edge 76 = .ok (.iload 4, 2) := by decide +kernel
theorem dX5_edge_78 : decode cX5_edge 78 = .ok (.aload_n 0, 1) := by decide +kernel
theorem dX5_edge_79 : decode cX5_edge 79 = .ok (.getfield 22, 3) := by decide +kernel
theorem dX5_edge_82 : decode cX5_edge 82 = .ok (.invokevirtual 97, 3) := by decide +kernel
theorem dX5_edge_85 : decode cX5_edge 85 = .ok (.aload_n 0, 1) := by decide +kernel
theorem dX5_edge_86 : decode cX5_edge 86 = .ok (.dup, 1) := by decide +kernel
theorem dX5_edge_87 : decode cX5_edge 87 = .ok (.getfield 89, 3) := by decide +kernel
theorem dX5_edge_90 : decode cX5_edge 90 = .ok (.iconst 1, 1) := by decide +kernel
theorem dX5_edge_91 : decode cX5_edge 91 = .ok (.iadd, 1) := by decide +kernel
theorem dX5_edge_92 : decode cX5_edge 92 = .ok (.putfield 89, 3) := by decide +kernel
theorem dX5_edge_95 : decode cX5_edge 95 = .ok (.aload_n 0, 1) := by decide +kernel
theorem dX5_edge_96 : decode cX5_edge 96 = .ok (.invokevirtual 101, 3) := by decide +kernel
theorem dX5_edge_99 : decode cX5_edge 99 = .ok (.aload_n 0, 1) := by decide +kernel
theorem dX5_edge_100 : decode cX5_edge 100 = .ok (.iconst 0, 1) := by decide +kernel
theorem dX5_edge_101 : decode cX5_edge 101 = .ok (.putfield 104, 3) := by decide +kernel
theorem dX5_edge_104 : decode cX5_edge 104 = .ok (.aload_n 0, 1) := by decide +kernel
theorem dX5_edge_105 : decode cX5_edge 105 = .ok (.getfield 89, 3) := by decide +kernel
theorem dX5_edge_108 : decode cX5_edge 108 = .ok (.iconst 1, 1) := by decide +kernel
theorem dX5_edge_109 : decode cX5_edge 109 = .ok (.isub, 1) := by decide +kernel
theorem dX5_edge_110 : decode cX5_edge 110 = .ok (.ireturn, 1) := by decide +kernel
set_option maxRecDepth 20000 in
theorem ggX5_entry_X5_requireNode : GoodIn wsX5_entry wsX5_requireNode := goodIn_ca (goodIn_r _ [8, 9, 10, 11, 12, 13, 14, 15, 16, 17, 18, 19, 20, 21, 22, 23, 24, 25, 26] (by decide +kernel) (by decide +kernel)) (goodIn_sub (fun _ h => List.mem_cons_of_mem _ (List.mem_append_right _ h)) (by decide +kernel))
set_option maxRecDepth 20000 in
theorem gX5_entry_X5_requireNode : GoodIn wsX5_entry (wsV RX5 76 RX5 yX5_requireNode wsX5_requireNode) := goodIn_app (goodIn_of _ (by decide +kernel)) ggX5_entry_X5_requireNode
end
section
theorem dX5_entry_0 : decode cX5_entry 0 = .ok (.aload_n 0, 1) := by decide +kernel
theorem dX5_entry_1 : decode cX5_entry 1 = .ok (.iload_n 1, 1) := by decide +kernel
theorem dX5_entry_2 : decode cX5_entry 2 = .ok (.invokevirtual 76, 3) := by decide +kernel
theorem dX5_entry_5 : decode cX5_entry 5 = .ok (.aload_n 0, 1) := by decide +kernel
theorem dX5_entry_6 : decode cX5_entry 6 = .ok (.iload_n 1, 1) := by decide +kernel
theorem dX5_entry_7 : decode cX5_entry 7 = .ok (.putfield 108, 3) := by decide +kernel
theorem dX5_entry_10 : decode cX5_entry 10 = .ok (.aload_n 0, 1) := by decide +kernel
theorem dX5_entry_11 : decode cX5_entry 11 = .ok (.iload_n 1, 1) := by decide +kernel
theorem dX5_entry_12 : decode cX5_entry 12 = .ok (.putfield 111, 3) := by decide +kernel
theorem dX5_entry_15 : decode cX5_entry 15 = .ok (.aload_n 0, 1) := by decide +kernel
theorem dX5_entry_16 : decode cX5_entry 16 = .ok (.iconst 0, 1) := by decide +kernel
theorem dX5_entry_17 : decode cX5_entry 17 = .ok (.putfield 104, 3) := by decide +kernel
theorem dX5_entry_20 : decode cX5_entry 20 = .ok (.return_, 1) := by decide +kernel
set_option maxRecDepth 20000 in
theorem ggX5_analyse_X5_forgetPoints : GoodIn wsX5_analyse wsX5_forgetPoints := goodIn_r _ [8, 2, 9, 10, 11, 12, 13, 14, 15, 16, 17, 18, 19, 20, 21, 22, 105, 106, 107, 108, 109, 110, 111, 112, 113, 114, 115, 116, 117, 118, 119, 120, 121, 122, 123, 124, 125] (by decide +kernel) (by decide +kernel)
set_option maxRecDepth 20000 in
theorem gX5_analyse_X5_forgetPoints : GoodIn wsX5_analyse (wsV RX5 114 RX5 yX5_forgetPoints wsX5_forgetPoints) := goodIn_app (goodIn_of _ (by decide +kernel)) ggX5_analyse_X5_forgetPoints
set_option maxRecDepth 20000 in
theorem ggX5_analyse_X5_addFirstPoints : GoodIn wsX5_analyse wsX5_addFirstPoints := goodIn_r _ [26, 27, 28, 29, 30, 31, 32, 33, 34, 35, 36, 7, 37, 9, 2, 1, 38, 39, 40, 41, 42, 43, 20, 44, 45, 46, 22, 47, 48, 49, 50, 51, 52, 53, 54, 55, 56, 57, 58, 59, 60, 61, 62, 63, 64, 65, 66, 67, 68, 69, 70, 71, 72, 73, 74, 75, 76, 77, 105, 106, 107, 108, 109, 110, 111, 112, 113, 114, 115, 116, 117, 118, 119, 120, 121, 122, 123, 124, 125, 126, 127, 128, 129] (by decide +kernel) (by decide +kernel)
set_option maxRecDepth 20000 in
theorem gX5_analyse_X5_addFirstPoints : GoodIn wsX5_analyse (wsV RX5 117 RX5 yX5_addFirstPoints wsX5_addFirstPoints) := goodIn_app (goodIn_of _ (by decide +kernel)) ggX5_analyse_X5_addFirstPoints
set_option maxRecDepth 20000 in
theorem ggX5_analyse_X5_workOff : GoodIn wsX5_analyse wsX5_workOff := goodIn_r _ [81, 82, 83, 84, 85, 86, 87, 88, 89, 7, 90, 91, 28, 92, 93, 94, 52, 53, 54, 55, 56, 57, 95, 96, 97, 98, 99, 100, 101, 102, 103, 104, 60, 34, 35, 36, 37, 9, 2, 1, 38, 39, 40, 41, 42, 43, 20, 44, 45, 46, 22, 47, 48, 49, 50, 51, 58, 59, 61, 62, 63, 64, 65, 31, 32, 33, 66, 67, 68, 69, 70, 71, 72, 73, 74, 75, 76, 77, 105, 106, 107, 108, 109, 110, 111, 112, 113, 114, 115, 116, 117, 118, 119, 130, 131, 132, 133, 134, 126, 127, 128, 129, 120, 121, 122, 123, 124, 125] (by decide +kernel) (by decide +kernel)
set_option maxRecDepth 20000 in
theorem gX5_analyse_X5_workOff : GoodIn wsX5_analyse (wsV RX5 123 RX5 yX5_workOff wsX5_workOff) := goodIn_app (goodIn_of _ (by decide +kernel)) ggX5_analyse_X5_workOff
theorem dX5_analyse_0 : decode cX5_analyse 0 = .ok (.aload_n 0, 1) := by decide +kernel
theorem dX5_analyse_1 : decode cX5_analyse 1 = .ok (.invokevirtual 114, 3) := by decide +kernel
theorem dX5_analyse_4 : decode cX5_analyse 4 = .ok (.aload_n 0, 1) := by decide +kernel
theorem dX5_analyse_5 : decode cX5_analyse 5 = .ok (.invokevirtual 117, 3) := by decide +kernel
theorem dX5_analyse_8 : decode cX5_analyse 8 = .ok (.iconst 0, 1) := by decide +kernel
theorem dX5_analyse_9 : decode cX5_analyse 9 = .ok (.istore_n 1, 1) := by decide +kernel
theorem dX5_analyse_10 : decode cX5_analyse 10 = .ok (.iload_n 1, 1) := by decide +kernel
theorem dX5_analyse_11 : decode cX5_analyse 11 = .ok (.aload_n 0, 1) := by decide +kernel
theorem dX5_analyse_12 : decode cX5_analyse 12 = .ok (.getfield 64, 3) := by decide +kernel
theorem dX5_analyse_15 : decode cX5_analyse 15 = .ok (.arraylength, 1) := by decide +kernel
theorem dX5_analyse_16 : decode cX5_analyse 16 = .ok (.if_icmp .ge 27, 3) := by decide +kernel
theorem dX5_analyse_19 : decode cX5_analyse 19 = .ok (.iload_n 1, 1) := by decide +kernel
theorem dX5_analyse_20 : decode cX5_analyse 20 = .ok (.aload_n 0, 1) := by decide +kernel
theorem dX5_analyse_21 : decode cX5_analyse 21 = .ok (.getfield 120, 3) := by decide +kernel
theorem dX5_analyse_24 : decode cX5_analyse 24 = .ok (.if_icmp .ge 19, 3) := by decide +kernel
theorem dX5_analyse_27 : decode cX5_analyse 27 = .ok (.aload_n 0, 1) := by decide +kernel
theorem dX5_analyse_28 : decode cX5_analyse 28 = .ok (.aload_n 0, 1) := by decide +kernel
theorem dX5_analyse_29 : decode cX5_analyse 29 = .ok (.getfield 64, 3) := by decide +kernel
theorem dX5_analyse_32 : decode cX5_analyse 32 = .ok (.iload_n 1, 1) := by decide +kernel
theorem dX5_analyse_33 : decode cX5_analyse 33 = .ok (.aaload, 1) := by decide +kernel
theorem dX5_analyse_34 : decode cX5_analyse 34 = .ok (.invokevirtual 123, 3) := by decide +kernel
theorem dX5_analyse_37 : decode cX5_analyse 37 = .ok (.iinc 1 1, 3) := by decide +kernel
theorem dX5_analyse_40 : decode cX5_analyse 40 = .ok (.goto (-30), 3) := by decide +kernel
theorem dX5_analyse_43 : decode cX5_analyse 43 = .ok (.aload_n 0, 1) := by decide +kernel
theorem dX5_analyse_44 : decode cX5_analyse 44 = .ok (.iconst 1, 1) := by decide +kernel
theorem dX5_analyse_45 : decode cX5_analyse 45 = .ok (.putfield 104, 3) := by decide +kernel
theorem dX5_analyse_48 : decode cX5_analyse 48 = .ok (.aload_n 0, 1) := by decide +kernel
theorem dX5_analyse_49 : decode cX5_analyse 49 = .ok (.getfield 120, 3) := by decide +kernel
theorem dX5_analyse_52 : decode cX5_analyse 52 = .ok (.ireturn, 1) := by decide +kernel
set_option maxRecDepth 20000 in
theorem ggX5_points_X5_requireNode : GoodIn wsX5_points wsX5_requireNode := goodIn_ca (goodIn_r _ [7, 8, 9, 1, 17, 18, 19, 20, 21, 22, 23, 24, 25, 26, 27, 28, 29, 30, 31] (by decide +kernel) (by decide +kernel)) (goodIn_sub (fun _ h => List.mem_cons_of_mem _ (List.mem_append_left _ (List.mem_append_right _ h))) (by decide +kernel))
set_option maxRecDepth 20000 in
theorem gX5_points_X5_requireNode : GoodIn wsX5_points (wsV RX5 76 RX5 yX5_requireNode wsX5_requireNode) := goodIn_app (goodIn_of _ (by decide +kernel)) ggX5_points_X5_requireNode
set_option maxRecDepth 20000 in
theorem ggX5_points_X5_requireAnalysed : GoodIn wsX5_points wsX5_requireAnalysed := goodIn_ca (goodIn_r _ [13, 14, 15, 16, 17, 18, 19, 20, 21, 22, 23, 24, 25, 26, 27, 28, 29, 30, 31] (by decide +kernel) (by decide +kernel)) (goodIn_sub (fun _ h => List.mem_cons_of_mem _ (List.mem_append_right _ h)) (by decide +kernel))
set_option maxRecDepth 20000 in
theorem gX5_points_X5_requireAnalysed : GoodIn wsX5_points (wsV RX5 127 RX5 yX5_requireAnalysed wsX5_requireAnalysed) := goodIn_app (goodIn_of _ (by decide +kernel)) ggX5_points_X5_requireAnalysed
theorem dX5_points_0 : decode cX5_points 0 = .ok (.aload_n 0, 1) := by decide +kernel
theorem dX5_points_1 : decode cX5_points 1 = .ok (.iload_n 1, 1) := by decide +kernel
theorem dX5_points_2 : decode cX5_points 2 = .ok (.invokevirtual 76, 3) := by decide +kernel
theorem dX5_points_5 : decode cX5_points 5 = .ok (.aload_n 0, 1) := by decide +kernel
theorem dX5_points_6 : decode cX5_points 6 = .ok (.invokevirtual 127, 3) := by decide +kernel
theorem dX5_points_9 : decode cX5_points 9 = .ok (.aload_n 0, 1) := by decide +kernel
theorem dX5_points_10 : decode cX5_points 10 = .ok (.getfield 57, 3) := by decide +kernel
theorem dX5_points_13 : decode cX5_points 13 = .ok (.iload_n 1, 1) := by decide +kernel
theorem dX5_points_14 : decode cX5_points 14 = .ok (.aaload, 1) := by decide +kernel
theorem dX5_points_15 : decode cX5_points 15 = .ok (.getfield 130, 3) := by decide +kernel
theorem dX5_points_18 : decode cX5_points 18 = .ok (.ireturn, 1) := by decide +kernel
set_option maxRecDepth 20000 in
theorem ggX5_point_X5_requireNode : GoodIn wsX5_point wsX5_requireNode := goodIn_ca (goodIn_r _ [13, 14, 15, 3, 28, 29, 30, 31, 32, 33, 34, 35, 36, 37, 38, 39, 40, 41, 42] (by decide +kernel) (by decide +kernel)) (goodIn_sub (fun _ h => List.mem_cons_of_mem _ (List.mem_append_left _ (List.mem_append_right _ h))) (by decide +kernel))
set_option maxRecDepth 20000 in
theorem gX5_point_X5_requireNode : GoodIn wsX5_point (wsV RX5 76 RX5 yX5_requireNode wsX5_requireNode) := goodIn_app (goodIn_of _ (by decide +kernel)) ggX5_point_X5_requireNode
set_option maxRecDepth 20000 in
theorem ggX5_point_X5_requirePlace : GoodIn wsX5_point wsX5_requirePlace := goodIn_ca (goodIn_r _ [19, 14, 15, 20, 28, 29, 30, 31, 32, 33, 34, 35, 36, 37, 38, 39, 40, 41, 42] (by decide +kernel) (by decide +kernel)) (goodIn_sub (fun _ h => List.mem_cons_of_mem _ (List.mem_append_left _ (List.mem_append_right _ h))) (by decide +kernel))
set_option maxRecDepth 20000 in
theorem gX5_point_X5_requirePlace : GoodIn wsX5_point (wsV RX5 69 RX5 yX5_requirePlace wsX5_requirePlace) := goodIn_app (goodIn_of _ (by decide +kernel)) ggX5_point_X5_requirePlace
set_option maxRecDepth 20000 in
theorem ggX5_point_X5_requireAnalysed : GoodIn wsX5_point wsX5_requireAnalysed := goodIn_ca (goodIn_r _ [24, 25, 26, 27, 28, 29, 30, 31, 32, 33, 34, 35, 36, 37, 38, 39, 40, 41, 42] (by decide +kernel) (by decide +kernel)) (goodIn_sub (fun _ h => List.mem_cons_of_mem _ (List.mem_append_right _ h)) (by decide +kernel))
set_option maxRecDepth 20000 in
theorem gX5_point_X5_requireAnalysed : GoodIn wsX5_point (wsV RX5 127 RX5 yX5_requireAnalysed wsX5_requireAnalysed) := goodIn_app (goodIn_of _ (by decide +kernel)) ggX5_point_X5_requireAnalysed
theorem dX5_point_0 : decode cX5_point 0 = .ok (.aload_n 0, 1) := by decide +kernel
theorem dX5_point_1 : decode cX5_point 1 = .ok (.iload_n 1, 1) := by decide +kernel
theorem dX5_point_2 : decode cX5_point 2 = .ok (.invokevirtual 76, 3) := by decide +kernel
theorem dX5_point_5 : decode cX5_point 5 = .ok (.aload_n 0, 1) := by decide +kernel
theorem dX5_point_6 : decode cX5_point 6 = .ok (.iload_n 3, 1) := by decide +kernel
theorem dX5_point_7 : decode cX5_point 7 = .ok (.invokevirtual 69, 3) := by decide +kernel
theorem dX5_point_10 : decode cX5_point 10 = .ok (.aload_n 0, 1) := by decide +kernel
theorem dX5_point_11 : decode cX5_point 11 = .ok (.invokevirtual 127, 3) := by decide +kernel
theorem dX5_point_14 : decode cX5_point 14 = .ok (.aload_n 0, 1) := by decide +kernel
theorem dX5_point_15 : decode cX5_point 15 = .ok (.getfield 57, 3) := by decide +kernel
theorem dX5_point_18 : decode cX5_point 18 = .ok (.iload_n 1, 1) := by decide +kernel
theorem dX5_point_19 : decode cX5_point 19 = .ok (.aaload, 1) := by decide +kernel
theorem dX5_point_20 : decode cX5_point 20 = .ok (.astore 4, 2) := by decide +kernel
theorem dX5_point_22 : decode cX5_point 22 = .ok (.iload_n 2, 1) := by decide +kernel
theorem dX5_point_23 : decode cX5_point 23 = .ok (.ifCond .lt 12, 3) := by decide +kernel
theorem dX5_point_26 : decode cX5_point 26 = .ok (.iload_n 2, 1) := by decide +kernel
theorem dX5_point_27 : decode cX5_point 27 = .ok (.aload 4, 2) := by decide +kernel
theorem dX5_point_29 : decode cX5_point 29 = .ok (.getfield 130, 3) := by decide +kernel
theorem dX5_point_32 : decode cX5_point 32 = .ok (.if_icmp .lt 13, 3) := by decide +kernel
theorem dX5_point_35 : decode cX5_point 35 = .ok (.new 133, 3) := by decide +kernel
theorem dX5_point_38 : decode cX5_point 38 = .ok (.dup, 1) := by decide +kernel
theorem dX5_point_39 : decode cX5_point 39 = .ok (.ldc 135, 2) := by decide +kernel
theorem dX5_point_41 : decode cX5_point 41 = .ok (.invokespecial 137, 3) := by decide +kernel
theorem dX5_point_44 : decode cX5_point 44 = .ok (.athrow, 1) := by decide +kernel
theorem dX5_point_45 : decode cX5_point 45 = .ok (.aload_n 0, 1) := by decide +kernel
theorem dX5_point_46 : decode cX5_point 46 = .ok (.getfield 64, 3) := by decide +kernel
theorem dX5_point_49 : decode cX5_point 49 = .ok (.aload 4, 2) := by decide +kernel
theorem dX5_point_51 : decode cX5_point 51 = .ok (.getfield 138, 3) := by decide +kernel
theorem dX5_point_54 : decode cX5_point 54 = .ok (.iload_n 2, 1) := by decide +kernel
theorem dX5_point_55 : decode cX5_point 55 = .ok (.iaload, 1) := by decide +kernel
theorem dX5_point_56 : decode cX5_point 56 = .ok (.aaload, 1) := by decide +kernel
theorem dX5_point_57 : decode cX5_point 57 = .ok (.astore 5, 2) := by decide +kernel
theorem dX5_point_59 : decode cX5_point 59 = .ok (.iload_n 3, 1) := by decide +kernel
theorem dX5_point_60 : decode cX5_point 60 = .ok (.ifCond .ne 11, 3) := by decide +kernel
theorem dX5_point_63 : decode cX5_point 63 = .ok (.aload 5, 2) := by decide +kernel
theorem dX5_point_65 : decode cX5_point 65 = .ok (.getfield 141, 3) := by decide +kernel
theorem dX5_point_68 : decode cX5_point 68 = .ok (.goto 10, 3) := by decide +kernel
theorem dX5_point_71 : decode cX5_point 71 = .ok (.aload 5, 2) := by decide +kernel
theorem dX5_point_73 : decode cX5_point 73 = .ok (.getfield 144, 3) := by decide +kernel
theorem dX5_point_76 : decode cX5_point 76 = .ok (.iload_n 3, 1) := by decide +kernel
theorem dX5_point_77 : decode cX5_point 77 = .ok (.iaload, 1) := by decide +kernel
theorem dX5_point_78 : decode cX5_point 78 = .ok (.ireturn, 1) := by decide +kernel
set_option maxRecDepth 20000 in
theorem ggX5_equations_X5_requireNode : GoodIn wsX5_equations wsX5_requireNode := goodIn_ca (goodIn_r _ [6, 7, 8, 1, 23, 24, 25, 26, 27, 28, 29, 30, 31, 32, 33, 34, 35, 36, 37] (by decide +kernel) (by decide +kernel)) (goodIn_sub (fun _ h => List.mem_cons_of_mem _ (List.mem_append_left _ (List.mem_append_right _ h))) (by decide +kernel))
set_option maxRecDepth 20000 in
theorem gX5_equations_X5_requireNode : GoodIn wsX5_equations (wsV RX5 76 RX5 yX5_requireNode wsX5_requireNode) := goodIn_app (goodIn_of _ (by decide +kernel)) ggX5_equations_X5_requireNode
set_option maxRecDepth 20000 in
theorem ggX5_equations_X5_requireAnalysed : GoodIn wsX5_equations wsX5_requireAnalysed := goodIn_ca (goodIn_r _ [12, 13, 14, 15, 23, 24, 25, 26, 27, 28, 29, 30, 31, 32, 33, 34, 35, 36, 37] (by decide +kernel) (by decide +kernel)) (goodIn_sub (fun _ h => List.mem_cons_of_mem _ (List.mem_append_right _ h)) (by decide +kernel))
set_option maxRecDepth 20000 in
theorem gX5_equations_X5_requireAnalysed : GoodIn wsX5_equations (wsV RX5 127 RX5 yX5_requireAnalysed wsX5_requireAnalysed) := goodIn_app (goodIn_of _ (by decide +kernel)) ggX5_equations_X5_requireAnalysed
set_option maxRecDepth 20000 in
theorem ggX5_equations_X1_equationCount : GoodIn wsX5_equations wsX1_equationCount := goodIn_r _ [20, 21, 22, 38, 39, 40] (by decide +kernel) (by decide +kernel)
set_option maxRecDepth 20000 in
theorem gX5_equations_X1_equationCount : GoodIn wsX5_equations (wsV RX5 147 RX1 yX1_equationCount wsX1_equationCount) := goodIn_app (goodIn_of _ (by decide +kernel)) ggX5_equations_X1_equationCount
theorem dX5_equations_0 : decode cX5_equations 0 = .ok (.aload_n 0, 1) := by decide +kernel
theorem dX5_equations_1 : decode cX5_equations 1 = .ok (.iload_n 1, 1) := by decide +kernel
theorem dX5_equations_2 : decode cX5_equations 2 = .ok (.invokevirtual 76, 3) := by decide +kernel
theorem dX5_equations_5 : decode cX5_equations 5 = .ok (.aload_n 0, 1) := by decide +kernel
theorem dX5_equations_6 : decode cX5_equations 6 = .ok (.invokevirtual 127, 3) := by decide +kernel
theorem dX5_equations_9 : decode cX5_equations 9 = .ok (.aload_n 0, 1) := by decide +kernel
theorem dX5_equations_10 : decode cX5_equations 10 = .ok (.getfield 57, 3) := by decide +kernel
theorem dX5_equations_13 : decode cX5_equations 13 = .ok (.iload_n 1, 1) := by decide +kernel
theorem dX5_equations_14 : decode cX5_equations 14 = .ok (.aaload, 1) := by decide +kernel
theorem dX5_equations_15 : decode cX5_equations 15 = .ok (.invokevirtual 147, 3) := by decide +kernel
theorem dX5_equations_18 : decode cX5_equations 18 = .ok (.ireturn, 1) := by decide +kernel
set_option maxRecDepth 20000 in
theorem ggX5_coefficient_X5_requireNode : GoodIn wsX5_coefficient wsX5_requireNode := goodIn_ca (goodIn_r _ [9, 10, 11, 3, 49, 50, 51, 52, 53, 54, 55, 56, 57, 58, 59, 60, 61, 62, 63] (by decide +kernel) (by decide +kernel)) (goodIn_sub (fun _ h => List.mem_cons_of_mem _ (List.mem_append_left _ (List.mem_append_right _ h))) (by decide +kernel))
set_option maxRecDepth 20000 in
theorem gX5_coefficient_X5_requireNode : GoodIn wsX5_coefficient (wsV RX5 76 RX5 yX5_requireNode wsX5_requireNode) := goodIn_app (goodIn_of _ (by decide +kernel)) ggX5_coefficient_X5_requireNode
set_option maxRecDepth 20000 in
theorem ggX5_coefficient_X5_requirePlace : GoodIn wsX5_coefficient wsX5_requirePlace := goodIn_ca (goodIn_r _ [15, 10, 11, 16, 49, 50, 51, 52, 53, 54, 55, 56, 57, 58, 59, 60, 61, 62, 63] (by decide +kernel) (by decide +kernel)) (goodIn_sub (fun _ h => List.mem_cons_of_mem _ (List.mem_append_left _ (List.mem_append_right _ h))) (by decide +kernel))
set_option maxRecDepth 20000 in
theorem gX5_coefficient_X5_requirePlace : GoodIn wsX5_coefficient (wsV RX5 69 RX5 yX5_requirePlace wsX5_requirePlace) := goodIn_app (goodIn_of _ (by decide +kernel)) ggX5_coefficient_X5_requirePlace
set_option maxRecDepth 20000 in
theorem ggX5_coefficient_X5_requireAnalysed : GoodIn wsX5_coefficient wsX5_requireAnalysed := goodIn_ca (goodIn_r _ [20, 21, 22, 23, 49, 50, 51, 52, 53, 54, 55, 56, 57, 58, 59, 60, 61, 62, 63] (by decide +kernel) (by decide +kernel)) (goodIn_sub (fun _ h => List.mem_cons_of_mem _ (List.mem_append_right _ h)) (by decide +kernel))
set_option maxRecDepth 20000 in
theorem gX5_coefficient_X5_requireAnalysed : GoodIn wsX5_coefficient (wsV RX5 127 RX5 yX5_requireAnalysed wsX5_requireAnalysed) := goodIn_app (goodIn_of _ (by decide +kernel)) ggX5_coefficient_X5_requireAnalysed
set_option maxRecDepth 20000 in
theorem ggX5_coefficient_X1_equationCount : GoodIn wsX5_coefficient wsX1_equationCount := goodIn_r _ [28, 29, 30, 64, 65, 66] (by decide +kernel) (by decide +kernel)
set_option maxRecDepth 20000 in
theorem gX5_coefficient_X1_equationCount : GoodIn wsX5_coefficient (wsV RX5 147 RX1 yX1_equationCount wsX1_equationCount) := goodIn_app (goodIn_of _ (by decide +kernel)) ggX5_coefficient_X1_equationCount
set_option maxRecDepth 20000 in
theorem ggX5_coefficient_X4_freePlace : GoodIn wsX5_coefficient wsX4_freePlace := goodIn_r _ [35, 36, 67, 68, 69] (by decide +kernel) (by decide +kernel)
set_option maxRecDepth 20000 in
theorem gX5_coefficient_X4_freePlace : GoodIn wsX5_coefficient (wsV RX5 156 RX4 yX4_freePlace wsX4_freePlace) := goodIn_app (goodIn_of _ (by decide +kernel)) ggX5_coefficient_X4_freePlace
set_option maxRecDepth 20000 in
theorem ggX5_coefficient_X4_vanishing : GoodIn wsX5_coefficient wsX4_vanishing := goodIn_r _ [40, 36, 41, 42, 8, 43, 44, 45, 46, 47, 48, 67, 68, 69] (by decide +kernel) (by decide +kernel)
set_option maxRecDepth 20000 in
theorem gX5_coefficient_X4_vanishing : GoodIn wsX5_coefficient (wsV RX5 159 RX4 yX4_vanishing wsX4_vanishing) := goodIn_app (goodIn_of _ (by decide +kernel)) ggX5_coefficient_X4_vanishing
theorem dX5_coefficient_0 : decode cX5_coefficient 0 = .ok (.aload_n 0, 1) := by decide +kernel
theorem dX5_coefficient_1 : decode cX5_coefficient 1 = .ok (.iload_n 1, 1) := by decide +kernel
theorem dX5_coefficient_2 : decode cX5_coefficient 2 = .ok (.invokevirtual 76, 3) := by decide +kernel
theorem dX5_coefficient_5 : decode cX5_coefficient 5 = .ok (.aload_n 0, 1) := by decide +kernel
theorem dX5_coefficient_6 : decode cX5_coefficient 6 = .ok (.iload_n 3, 1) := by decide +kernel
theorem dX5_coefficient_7 : decode cX5_coefficient 7 = .ok (.invokevirtual 69, 3) := by decide +kernel
theorem dX5_coefficient_10 : decode cX5_coefficient 10 = .ok (.aload_n 0, 1) := by decide +kernel
theorem dX5_coefficient_11 : decode cX5_coefficient 11 = .ok (.invokevirtual 127, 3) := by decide +kernel
theorem dX5_coefficient_14 : decode cX5_coefficient 14 = .ok (.aload_n 0, 1) := by decide +kernel
theorem dX5_coefficient_15 : decode cX5_coefficient 15 = .ok (.getfield 57, 3) := by decide +kernel
theorem dX5_coefficient_18 : decode cX5_coefficient 18 = .ok (.iload_n 1, 1) := by decide +kernel
theorem dX5_coefficient_19 : decode cX5_coefficient 19 = .ok (.aaload, 1) := by decide +kernel
theorem dX5_coefficient_20 : decode cX5_coefficient 20 = .ok (.astore 4, 2) := by decide +kernel
theorem dX5_coefficient_22 : decode cX5_coefficient 22 = .ok (.iload_n 2, 1) := by decide +kernel
theorem dX5_coefficient_23 : decode cX5_coefficient 23 = .ok (.ifCond .lt 12, 3) := by decide +kernel
theorem dX5_coefficient_26 : decode cX5_coefficient 26 = .ok (.iload_n 2, 1) := by decide +kernel
theorem dX5_coefficient_27 : decode cX5_coefficient 27 = .ok (.aload 4, 2) := by decide +kernel
theorem dX5_coefficient_29 : decode cX5_coefficient 29 = .ok (.invokevirtual 147, 3) := by decide +kernel
theorem dX5_coefficient_32 : decode cX5_coefficient 32 = .ok (.if_icmp .lt 13, 3) := by decide +kernel
theorem dX5_coefficient_35 : decode cX5_coefficient 35 = .ok (.new 133, 3) := by decide +kernel
theorem dX5_coefficient_38 : decode cX5_coefficient 38 = .ok (.dup, 1) := by decide +kernel
theorem dX5_coefficient_39 : decode cX5_coefficient 39 = .ok (.ldc 151, 2) := by decide +kernel
theorem dX5_coefficient_41 : decode cX5_coefficient 41 = .ok (.invokespecial 137, 3) := by decide +kernel
theorem dX5_coefficient_44 : decode cX5_coefficient 44 = .ok (.athrow, 1) := by decide +kernel
theorem dX5_coefficient_45 : decode cX5_coefficient 45 = .ok (.aload 4, 2) := by decide +kernel
theorem dX5_coefficient_47 : decode cX5_coefficient 47 = .ok (.getfield 153, 3) := by decide +kernel
theorem dX5_coefficient_50 : decode cX5_coefficient 50 = .ok (.aload 4, 2) := by decide +kernel
theorem dX5_coefficient_52 : decode cX5_coefficient 52 = .ok (.getfield 153, 3) := by decide +kernel
theorem dX5_coefficient_55 : decode cX5_coefficient 55 = .ok (.iload_n 2, 1) := by decide +kernel
theorem dX5_coefficient_56 : decode cX5_coefficient 56 = .ok (.invokevirtual 156, 3) := by decide +kernel
theorem dX5_coefficient_59 : decode cX5_coefficient 59 = .ok (.iload_n 3, 1) := by decide +kernel
theorem dX5_coefficient_60 : decode cX5_coefficient 60 = .ok (.invokevirtual 159, 3) := by decide +kernel
theorem dX5_coefficient_63 : decode cX5_coefficient 63 = .ok (.ireturn, 1) := by decide +kernel
set_option maxRecDepth 20000 in
theorem ggX5_holds_X5_requireNode : GoodIn wsX5_holds wsX5_requireNode := goodIn_ca (goodIn_r _ [6, 7, 8, 1, 37, 38, 39, 40, 41, 42, 43, 44, 45, 46, 47, 48, 49, 50, 51] (by decide +kernel) (by decide +kernel)) (goodIn_sub (fun _ h => List.mem_cons_of_mem _ (List.mem_append_left _ (List.mem_append_right _ h))) (by decide +kernel))
set_option maxRecDepth 20000 in
theorem gX5_holds_X5_requireNode : GoodIn wsX5_holds (wsV RX5 76 RX5 yX5_requireNode wsX5_requireNode) := goodIn_app (goodIn_of _ (by decide +kernel)) ggX5_holds_X5_requireNode
set_option maxRecDepth 20000 in
theorem ggX5_holds_X5_requireAnalysed : GoodIn wsX5_holds wsX5_requireAnalysed := goodIn_ca (goodIn_r _ [12, 13, 14, 15, 37, 38, 39, 40, 41, 42, 43, 44, 45, 46, 47, 48, 49, 50, 51] (by decide +kernel) (by decide +kernel)) (goodIn_sub (fun _ h => List.mem_cons_of_mem _ (List.mem_append_right _ h)) (by decide +kernel))
set_option maxRecDepth 20000 in
theorem gX5_holds_X5_requireAnalysed : GoodIn wsX5_holds (wsV RX5 127 RX5 yX5_requireAnalysed wsX5_requireAnalysed) := goodIn_app (goodIn_of _ (by decide +kernel)) ggX5_holds_X5_requireAnalysed
set_option maxRecDepth 20000 in
theorem ggX5_holds_X5_holdsAtPoints : GoodIn wsX5_holds wsX5_holdsAtPoints := goodIn_r _ [19, 20, 21, 22, 23, 24, 25, 26, 5, 27, 28, 52, 53, 54, 37, 38, 39, 40, 41, 42, 43, 44, 45, 46, 47, 48, 49, 50, 51, 55, 56, 57, 58] (by decide +kernel) (by decide +kernel)
set_option maxRecDepth 20000 in
theorem gX5_holds_X5_holdsAtPoints : GoodIn wsX5_holds (wsV RX5 162 RX5 yX5_holdsAtPoints wsX5_holdsAtPoints) := goodIn_app (goodIn_of _ (by decide +kernel)) ggX5_holds_X5_holdsAtPoints
set_option maxRecDepth 20000 in
theorem ggX5_holds_X5_clearDraft : GoodIn wsX5_holds wsX5_clearDraft := goodIn_r _ [32, 21, 33, 34, 35, 36, 37, 38, 39, 40, 41, 42, 43, 44, 45, 46, 47, 48, 49, 50, 51] (by decide +kernel) (by decide +kernel)
set_option maxRecDepth 20000 in
theorem gX5_holds_X5_clearDraft : GoodIn wsX5_holds (wsV RX5 101 RX5 yX5_clearDraft wsX5_clearDraft) := goodIn_app (goodIn_of _ (by decide +kernel)) ggX5_holds_X5_clearDraft
theorem dX5_holds_0 : decode cX5_holds 0 = .ok (.aload_n 0, 1) := by decide +kernel
theorem dX5_holds_1 : decode cX5_holds 1 = .ok (.iload_n 1, 1) := by decide +kernel
theorem dX5_holds_2 : decode cX5_holds 2 = .ok (.invokevirtual 76, 3) := by decide +kernel
theorem dX5_holds_5 : decode cX5_holds 5 = .ok (.aload_n 0, 1) := by decide +kernel
theorem dX5_holds_6 : decode cX5_holds 6 = .ok (.invokevirtual 127, 3) := by decide +kernel
theorem dX5_holds_9 : decode cX5_holds 9 = .ok (.aload_n 0, 1) := by decide +kernel
theorem dX5_holds_10 : decode cX5_holds 10 = .ok (.aload_n 0, 1) := by decide +kernel
theorem dX5_holds_11 : decode cX5_holds 11 = .ok (.getfield 57, 3) := by decide +kernel
theorem dX5_holds_14 : decode cX5_holds 14 = .ok (.iload_n 1, 1) := by decide +kernel
theorem dX5_holds_15 : decode cX5_holds 15 = .ok (.aaload, 1) := by decide +kernel
theorem dX5_holds_16 : decode cX5_holds 16 = .ok (.invokevirtual 162, 3) := by decide +kernel
theorem dX5_holds_19 : decode cX5_holds 19 = .ok (.istore_n 2, 1) := by decide +kernel
theorem dX5_holds_20 : decode cX5_holds 20 = .ok (.aload_n 0, 1) := by decide +kernel
theorem dX5_holds_21 : decode cX5_holds 21 = .ok (.invokevirtual 101, 3) := by decide +kernel
theorem dX5_holds_24 : decode cX5_holds 24 = .ok (.iload_n 2, 1) := by decide +kernel
theorem dX5_holds_25 : decode cX5_holds 25 = .ok (.ireturn, 1) := by decide +kernel
set_option maxRecDepth 20000 in
theorem ggX5_begin_X5_requireVariable : GoodIn wsX5_begin wsX5_requireVariable := goodIn_ca (goodIn_r _ [8, 9, 10, 11, 20, 21, 22, 23, 24, 25, 26, 27, 28, 29, 30, 31, 32, 33, 34] (by decide +kernel) (by decide +kernel)) (goodIn_sub (fun _ h => List.mem_cons_of_mem _ (List.mem_append_right _ h)) (by decide +kernel))
set_option maxRecDepth 20000 in
theorem gX5_begin_X5_requireVariable : GoodIn wsX5_begin (wsV RX5 86 RX5 yX5_requireVariable wsX5_requireVariable) := goodIn_app (goodIn_of _ (by decide +kernel)) ggX5_begin_X5_requireVariable
set_option maxRecDepth 20000 in
theorem ggX5_begin_X5_number : GoodIn wsX5_begin wsX5_number := goodIn_r _ [14, 15, 16, 17, 18, 19] (by decide +kernel) (by decide +kernel)
set_option maxRecDepth 20000 in
theorem gX5_begin_X5_number : GoodIn wsX5_begin (va_wsS RX5 72 yX5_number wsX5_number) := goodIn_app (goodIn_of _ (by decide +kernel)) ggX5_begin_X5_number
theorem dX5_begin_0 : decode cX5_begin 0 = .ok (.aload_n 0, 1) := by decide +kernel
theorem dX5_begin_1 : decode cX5_begin 1 = .ok (.iload_n 1, 1) := by decide +kernel
theorem dX5_begin_2 : decode cX5_begin 2 = .ok (.invokevirtual 86, 3) := by decide +kernel
theorem dX5_begin_5 : decode cX5_begin 5 = .ok (.aload_n 0, 1) := by decide +kernel
theorem dX5_begin_6 : decode cX5_begin 6 = .ok (.getfield 29, 3) := by decide +kernel
theorem dX5_begin_9 : decode cX5_begin 9 = .ok (.iload_n 1, 1) := by decide +kernel
theorem dX5_begin_10 : decode cX5_begin 10 = .ok (.iload_n 2, 1) := by decide +kernel
theorem dX5_begin_11 : decode cX5_begin 11 = .ok (.invokestatic 72, 3) := by decide +kernel
theorem dX5_begin_14 : decode cX5_begin 14 = .ok (.iastore, 1) := by decide +kernel
theorem dX5_begin_15 : decode cX5_begin 15 = .ok (.aload_n 0, 1) := by decide +kernel
theorem dX5_begin_16 : decode cX5_begin 16 = .ok (.aload_n 0, 1) := by decide +kernel
theorem dX5_begin_17 : decode cX5_begin 17 = .ok (.getfield 108, 3) := by decide +kernel
theorem dX5_begin_20 : decode cX5_begin 20 = .ok (.putfield 111, 3) := by decide +kernel
theorem dX5_begin_23 : decode cX5_begin 23 = .ok (.return_, 1) := by decide +kernel
set_option maxRecDepth 20000 in
theorem ggX5_go_X0_isOpen : GoodIn wsX5_go wsX0_isOpen := goodIn_r _ [13, 14, 15, 16, 17, 18, 19, 48, 49, 50, 51, 52] (by decide +kernel) (by decide +kernel)
set_option maxRecDepth 20000 in
theorem gX5_go_X0_isOpen : GoodIn wsX5_go (wsV RX5 173 RX0 yX0_isOpen wsX0_isOpen) := goodIn_app (goodIn_of _ (by decide +kernel)) ggX5_go_X0_isOpen
set_option maxRecDepth 20000 in
theorem ggX5_go_X5_number : GoodIn wsX5_go wsX5_number := goodIn_r _ [22, 23, 24, 25, 26, 27] (by decide +kernel) (by decide +kernel)
set_option maxRecDepth 20000 in
theorem gX5_go_X5_number : GoodIn wsX5_go (va_wsS RX5 72 yX5_number wsX5_number) := goodIn_app (goodIn_of _ (by decide +kernel)) ggX5_go_X5_number
set_option maxRecDepth 20000 in
theorem ggX5_go_X0_step : GoodIn wsX5_go wsX0_step := goodIn_r _ [31, 14, 32, 15, 16, 17, 18, 19, 48, 49, 50, 51, 52] (by decide +kernel) (by decide +kernel)
set_option maxRecDepth 20000 in
theorem gX5_go_X0_step : GoodIn wsX5_go (wsV RX5 177 RX0 yX0_step wsX0_step) := goodIn_app (goodIn_of _ (by decide +kernel)) ggX5_go_X0_step
theorem dX5_go_0 : decode cX5_go 0 = .ok (.iload_n 1, 1) := by decide +kernel
theorem dX5_go_1 : decode cX5_go 1 = .ok (.ifCond .lt 11, 3) := by decide +kernel
theorem dX5_go_4 : decode cX5_go 4 = .ok (.iload_n 1, 1) := by decide +kernel
theorem dX5_go_5 : decode cX5_go 5 = .ok (.aload_n 0, 1) := by decide +kernel
theorem dX5_go_6 : decode cX5_go 6 = .ok (.getfield 89, 3) := by decide +kernel
theorem dX5_go_9 : decode cX5_go 9 = .ok (.if_icmp .lt 13, 3) := by decide +kernel
theorem dX5_go_12 : decode cX5_go 12 = .ok (.new 79, 3) := by decide +kernel
theorem dX5_go_15 : decode cX5_go 15 = .ok (.dup, 1) := by decide +kernel
theorem dX5_go_16 : decode cX5_go 16 = .ok (.ldc 166, 2) := by decide +kernel
theorem dX5_go_18 : decode cX5_go 18 = .ok (.invokespecial 83, 3) := by decide +kernel
theorem dX5_go_21 : decode cX5_go 21 = .ok (.athrow, 1) := by decide +kernel
theorem dX5_go_22 : decode cX5_go 22 = .ok (.aload_n 0, 1) := by decide +kernel
theorem dX5_go_23 : decode cX5_go 23 = .ok (.getfield 43, 3) := by decide +kernel
theorem dX5_go_26 : decode cX5_go 26 = .ok (.iload_n 1, 1) := by decide +kernel
theorem dX5_go_27 : decode cX5_go 27 = .ok (.aaload, 1) := by decide +kernel
theorem dX5_go_28 : decode cX5_go 28 = .ok (.astore_n 3, 1) := by decide +kernel
theorem dX5_go_29 : decode cX5_go 29 = .ok (.aload_n 3, 1) := by decide +kernel
theorem dX5_go_30 : decode cX5_go 30 = .ok (.getfield 168, 3) := by decide +kernel
theorem dX5_go_33 : decode cX5_go 33 = .ok (.aload_n 0, 1) := by decide +kernel
theorem dX5_go_34 : decode cX5_go 34 = .ok (.getfield 111, 3) := by decide +kernel
theorem dX5_go_37 : decode cX5_go 37 = .ok (.if_icmp .eq 13, 3) := by decide +kernel
theorem dX5_go_40 : decode cX5_go 40 = .ok (.new 79, 3) := by decide +kernel
theorem dX5_go_43 : decode cX5_go 43 = .ok (.dup, 1) := by decide +kernel
theorem dX5_go_44 : decode cX5_go 44 = .ok (.ldc 171, 2) := by decide +kernel
theorem dX5_go_46 : decode cX5_go 46 = .ok (.invokespecial 83, 3) := by decide +kernel
theorem dX5_go_49 : decode cX5_go 49 = .ok (.athrow, 1) := by decide +kernel
theorem dX5_go_50 : decode cX5_go 50 = .ok (.aload_n 3, 1) := by decide +kernel
theorem dX5_go_51 : decode cX5_go 51 = .ok (.aload_n 0, 1) := by decide +kernel
theorem dX5_go_52 : decode cX5_go 52 = .ok (.getfield 29, 3) := by decide +kernel
theorem dX5_go_55 : decode cX5_go 55 = .ok (.invokevirtual 173, 3) := by decide +kernel
theorem dX5_go_58 : decode cX5_go 58 = .ok (.ifCond .ne 5, 3) := by decide +kernel
theorem dX5_go_61 : decode cX5_go 61 = .ok (.iconst 0, 1) := by decide +kernel
theorem dX5_go_62 : decode cX5_go 62 = .ok (.ireturn, 1) := by decide +kernel
theorem dX5_go_63 : decode cX5_go 63 = .ok (.aload_n 3, 1) := by decide +kernel
theorem dX5_go_64 : decode cX5_go 64 = .ok (.aload_n 0, 1) := by decide +kernel
theorem dX5_go_65 : decode cX5_go 65 = .ok (.getfield 29, 3) := by decide +kernel
theorem dX5_go_68 : decode cX5_go 68 = .ok (.iload_n 2, 1) := by decide +kernel
theorem dX5_go_69 : decode cX5_go 69 = .ok (.invokestatic 72, 3) := by decide +kernel
theorem dX5_go_72 : decode cX5_go 72 = .ok (.invokevirtual 177, 3) := by decide +kernel
theorem dX5_go_75 : decode cX5_go 75 = .ok (.aload_n 0, 1) := by decide +kernel
theorem dX5_go_76 : decode cX5_go 76 = .ok (.aload_n 3, 1) := by decide +kernel
theorem dX5_go_77 : decode cX5_go 77 = .ok (.getfield 181, 3) := by decide +kernel
theorem dX5_go_80 : decode cX5_go 80 = .ok (.putfield 111, 3) := by decide +kernel
theorem dX5_go_83 : decode cX5_go 83 = .ok (.iconst 1, 1) := by decide +kernel
theorem dX5_go_84 : decode cX5_go 84 = .ok (.ireturn, 1) := by decide +kernel
set_option maxRecDepth 20000 in
theorem ggX5_at_X5_requirePlace : GoodIn wsX5_at wsX5_requirePlace := goodIn_ca (goodIn_r _ [7, 8, 9, 10, 11, 12, 13, 14, 15, 16, 17, 18, 19, 20, 21, 22, 23, 24, 25] (by decide +kernel) (by decide +kernel)) (goodIn_sub (fun _ h => List.mem_cons_of_mem _ (List.mem_append_right _ h)) (by decide +kernel))
set_option maxRecDepth 20000 in
theorem gX5_at_X5_requirePlace : GoodIn wsX5_at (wsV RX5 69 RX5 yX5_requirePlace wsX5_requirePlace) := goodIn_app (goodIn_of _ (by decide +kernel)) ggX5_at_X5_requirePlace
theorem dX5_at_0 : decode cX5_at 0 = .ok (.aload_n 0, 1) := by decide +kernel
theorem dX5_at_1 : decode cX5_at 1 = .ok (.iload_n 1, 1) := by decide +kernel
theorem dX5_at_2 : decode cX5_at 2 = .ok (.invokevirtual 69, 3) := by decide +kernel
theorem dX5_at_5 : decode cX5_at 5 = .ok (.iload_n 1, 1) := by decide +kernel
theorem dX5_at_6 : decode cX5_at 6 = .ok (.ifCond .ne 10, 3) := by decide +kernel
theorem dX5_at_9 : decode cX5_at 9 = .ok (.aload_n 0, 1) := by decide +kernel
theorem dX5_at_10 : decode cX5_at 10 = .ok (.getfield 111, 3) := by decide +kernel
theorem dX5_at_13 : decode cX5_at 13 = .ok (.goto 9, 3) := by decide +kernel
theorem dX5_at_16 : decode cX5_at 16 = .ok (.aload_n 0, 1) := by decide +kernel
theorem dX5_at_17 : decode cX5_at 17 = .ok (.getfield 29, 3) := by decide +kernel
theorem dX5_at_20 : decode cX5_at 20 = .ok (.iload_n 1, 1) := by decide +kernel
theorem dX5_at_21 : decode cX5_at 21 = .ok (.iaload, 1) := by decide +kernel
theorem dX5_at_22 : decode cX5_at 22 = .ok (.ireturn, 1) := by decide +kernel
set_option maxRecDepth 20000 in
theorem ggX5_note_X5_requireNode : GoodIn wsX5_note wsX5_requireNode := goodIn_ca (goodIn_r _ [10, 11, 12, 13, 35, 36, 37, 38, 39, 40, 41, 42, 43, 44, 45, 46, 47, 48, 49] (by decide +kernel) (by decide +kernel)) (goodIn_sub (fun _ h => List.mem_cons_of_mem _ (List.mem_append_right _ h)) (by decide +kernel))
set_option maxRecDepth 20000 in
theorem gX5_note_X5_requireNode : GoodIn wsX5_note (wsV RX5 76 RX5 yX5_requireNode wsX5_requireNode) := goodIn_app (goodIn_of _ (by decide +kernel)) ggX5_note_X5_requireNode
set_option maxRecDepth 20000 in
theorem ggX5_note_X2_set : GoodIn wsX5_note wsX2_set := goodIn_r _ [18, 19, 20, 21, 9, 22, 23, 24, 25, 26, 50, 51] (by decide +kernel) (by decide +kernel)
set_option maxRecDepth 20000 in
theorem gX5_note_X2_set : GoodIn wsX5_note (wsV RX5 189 RX2 yX2_set wsX2_set) := goodIn_app (goodIn_of _ (by decide +kernel)) ggX5_note_X2_set
set_option maxRecDepth 20000 in
theorem ggX5_note_X5_clearDraft : GoodIn wsX5_note wsX5_clearDraft := goodIn_r _ [30, 5, 31, 32, 33, 34, 35, 36, 37, 38, 39, 40, 41, 42, 43, 44, 45, 46, 47, 48, 49] (by decide +kernel) (by decide +kernel)
set_option maxRecDepth 20000 in
theorem gX5_note_X5_clearDraft : GoodIn wsX5_note (wsV RX5 101 RX5 yX5_clearDraft wsX5_clearDraft) := goodIn_app (goodIn_of _ (by decide +kernel)) ggX5_note_X5_clearDraft
theorem dX5_note_0 : decode cX5_note 0 = .ok (.aload_n 0, 1) := by decide +kernel
theorem dX5_note_1 : decode cX5_note 1 = .ok (.iload_n 1, 1) := by decide +kernel
theorem dX5_note_2 : decode cX5_note 2 = .ok (.invokevirtual 76, 3) := by decide +kernel
theorem dX5_note_5 : decode cX5_note 5 = .ok (.aload_n 0, 1) := by decide +kernel
theorem dX5_note_6 : decode cX5_note 6 = .ok (.getfield 184, 3) := by decide +kernel
theorem dX5_note_9 : decode cX5_note 9 = .ok (.bipush 24, 2) := by decide +kernel
theorem dX5_note_11 : decode cX5_note 11 = .ok (.if_icmp .lt 13, 3) := by decide +kernel
theorem dX5_note_14 : decode cX5_note 14 = .ok (.new 92, 3) := by decide +kernel
theorem dX5_note_17 : decode cX5_note 17 = .ok (.dup, 1) := by decide +kernel
theorem dX5_note_18 : decode cX5_note 18 = .ok (.ldc 187, 2) := by decide +kernel
theorem dX5_note_20 : decode cX5_note 20 = .ok (.invokespecial 96, 3) := by decide +kernel
theorem dX5_note_23 : decode cX5_note 23 = .ok (.athrow, 1) := by decide +kernel
theorem dX5_note_24 : decode cX5_note 24 = .ok (.aload_n 0, 1) := by decide +kernel
theorem dX5_note_25 : decode cX5_note 25 = .ok (.getfield 50, 3) := by decide +kernel
theorem dX5_note_28 : decode cX5_note 28 = .ok (.aload_n 0, 1) := by decide +kernel
theorem dX5_note_29 : decode cX5_note 29 = .ok (.getfield 184, 3) := by decide +kernel
theorem dX5_note_32 : decode cX5_note 32 = .ok (.aaload, 1) := by decide +kernel
theorem dX5_note_33 : decode cX5_note 33 = .ok (.iload_n 1, 1) := by decide +kernel
theorem dX5_note_34 : decode cX5_note 34 = .ok (.aload_n 0, 1) := by decide +kernel
theorem dX5_note_35 : decode cX5_note 35 = .ok (.getfield 22, 3) := by decide +kernel
theorem dX5_note_38 : decode cX5_note 38 = .ok (.invokevirtual 189, 3) := by decide +kernel
theorem dX5_note_41 : decode cX5_note 41 = .ok (.aload_n 0, 1) := by decide +kernel
theorem dX5_note_42 : decode cX5_note 42 = .ok (.dup, 1) := by decide +kernel
theorem dX5_note_43 : decode cX5_note 43 = .ok (.getfield 184, 3) := by decide +kernel
theorem dX5_note_46 : decode cX5_note 46 = .ok (.iconst 1, 1) := by decide +kernel
theorem dX5_note_47 : decode cX5_note 47 = .ok (.iadd, 1) := by decide +kernel
theorem dX5_note_48 : decode cX5_note 48 = .ok (.putfield 184, 3) := by decide +kernel
theorem dX5_note_51 : decode cX5_note 51 = .ok (.aload_n 0, 1) := by decide +kernel
theorem dX5_note_52 : decode cX5_note 52 = .ok (.invokevirtual 101, 3) := by decide +kernel
theorem dX5_note_55 : decode cX5_note 55 = .ok (.aload_n 0, 1) := by decide +kernel
theorem dX5_note_56 : decode cX5_note 56 = .ok (.getfield 184, 3) := by decide +kernel
theorem dX5_note_59 : decode cX5_note 59 = .ok (.ireturn, 1) := by decide +kernel
set_option maxRecDepth 20000 in
theorem ggX5_noteAll_X5_requireAnalysed : GoodIn wsX5_noteAll wsX5_requireAnalysed := goodIn_ca (goodIn_r _ [9, 10, 11, 12, 59, 60, 61, 62, 63, 64, 65, 66, 67, 68, 69, 70, 71, 72, 73] (by decide +kernel) (by decide +kernel)) (goodIn_sub (fun _ h => List.mem_cons_of_mem _ (List.mem_append_right _ h)) (by decide +kernel))
set_option maxRecDepth 20000 in
theorem gX5_noteAll_X5_requireAnalysed : GoodIn wsX5_noteAll (wsV RX5 127 RX5 yX5_requireAnalysed wsX5_requireAnalysed) := goodIn_app (goodIn_of _ (by decide +kernel)) ggX5_noteAll_X5_requireAnalysed
set_option maxRecDepth 20000 in
theorem ggX5_noteAll_X1_equationCount : GoodIn wsX5_noteAll wsX1_equationCount := goodIn_r _ [17, 18, 19, 74, 75, 76] (by decide +kernel) (by decide +kernel)
set_option maxRecDepth 20000 in
theorem gX5_noteAll_X1_equationCount : GoodIn wsX5_noteAll (wsV RX5 147 RX1 yX1_equationCount wsX1_equationCount) := goodIn_app (goodIn_of _ (by decide +kernel)) ggX5_noteAll_X1_equationCount
set_option maxRecDepth 20000 in
theorem ggX5_noteAll_X5_noteEquations : GoodIn wsX5_noteAll wsX5_noteEquations := goodIn_r _ [23, 3, 24, 25, 26, 27, 4, 13, 14, 15, 16, 17, 18, 19, 28, 29, 30, 31, 32, 33, 34, 35, 36, 37, 38, 39, 8, 40, 41, 42, 43, 44, 45, 46, 47, 48, 49, 50, 51, 52, 53, 54, 55, 56, 57, 58, 59, 60, 61, 62, 63, 64, 65, 66, 67, 68, 69, 70, 71, 72, 73, 74, 75, 76, 77, 78, 79, 80, 81] (by decide +kernel) (by decide +kernel)
set_option maxRecDepth 20000 in
theorem gX5_noteAll_X5_noteEquations : GoodIn wsX5_noteAll (wsV RX5 197 RX5 yX5_noteEquations wsX5_noteEquations) := goodIn_app (goodIn_of _ (by decide +kernel)) ggX5_noteAll_X5_noteEquations
theorem dX5_noteAll_0 : decode cX5_noteAll 0 = .ok (.aload_n 0, 1) := by decide +kernel
theorem dX5_noteAll_1 : decode cX5_noteAll 1 = .ok (.invokevirtual 127, 3) := by decide +kernel
theorem dX5_noteAll_4 : decode cX5_noteAll 4 = .ok (.iconst 0, 1) := by decide +kernel
theorem dX5_noteAll_5 : decode cX5_noteAll 5 = .ok (.istore_n 1, 1) := by decide +kernel
theorem dX5_noteAll_6 : decode cX5_noteAll 6 = .ok (.iconst 0, 1) := by decide +kernel
theorem dX5_noteAll_7 : decode cX5_noteAll 7 = .ok (.istore_n 2, 1) := by decide +kernel
theorem dX5_noteAll_8 : decode cX5_noteAll 8 = .ok (.iload_n 2, 1) := by decide +kernel
theorem dX5_noteAll_9 : decode cX5_noteAll 9 = .ok (.aload_n 0, 1) := by decide +kernel
theorem dX5_noteAll_10 : decode cX5_noteAll 10 = .ok (.getfield 57, 3) := by decide +kernel
theorem dX5_noteAll_13 : decode cX5_noteAll 13 = .ok (.arraylength, 1) := by decide +kernel
theorem dX5_noteAll_14 : decode cX5_noteAll 14 = .ok (.if_icmp .ge 21, 3) := by decide +kernel
theorem dX5_noteAll_17 : decode cX5_noteAll 17 = .ok (.iload_n 1, 1) := by decide +kernel
theorem dX5_noteAll_18 : decode cX5_noteAll 18 = .ok (.aload_n 0, 1) := by decide +kernel
theorem dX5_noteAll_19 : decode cX5_noteAll 19 = .ok (.getfield 57, 3) := by decide +kernel
theorem dX5_noteAll_22 : decode cX5_noteAll 22 = .ok (.iload_n 2, 1) := by decide +kernel
theorem dX5_noteAll_23 : decode cX5_noteAll 23 = .ok (.aaload, 1) := by decide +kernel
theorem dX5_noteAll_24 : decode cX5_noteAll 24 = .ok (.invokevirtual 147, 3) := by decide +kernel
theorem dX5_noteAll_27 : decode cX5_noteAll 27 = .ok (.iadd, 1) := by decide +kernel
theorem dX5_noteAll_28 : decode cX5_noteAll 28 = .ok (.istore_n 1, 1) := by decide +kernel
theorem dX5_noteAll_29 : decode cX5_noteAll 29 = .ok (.iinc 2 1, 3) := by decide +kernel
theorem dX5_noteAll_32 : decode cX5_noteAll 32 = .ok (.goto (-24), 3) := by decide +kernel
theorem dX5_noteAll_35 : decode cX5_noteAll 35 = .ok (.iload_n 1, 1) := by decide +kernel
theorem dX5_noteAll_36 : decode cX5_noteAll 36 = .ok (.bipush 24, 2) := by decide +kernel
theorem dX5_noteAll_38 : decode cX5_noteAll 38 = .ok (.if_icmp .le 13, 3) := by decide +kernel
theorem dX5_noteAll_41 : decode cX5_noteAll 41 = .ok (.new 192, 3) := by decide +kernel
theorem dX5_noteAll_44 : decode cX5_noteAll 44 = .ok (.dup, 1) := by decide +kernel
theorem dX5_noteAll_45 : decode cX5_noteAll 45 = .ok (.ldc 194, 2) := by decide +kernel
theorem dX5_noteAll_47 : decode cX5_noteAll 47 = .ok (.invokespecial 196, 3) := by decide +kernel
theorem dX5_noteAll_50 : decode cX5_noteAll 50 = .ok (.athrow, 1) := by decide +kernel
theorem dX5_noteAll_51 : decode cX5_noteAll 51 = .ok (.aload_n 0, 1) := by decide +kernel
theorem dX5_noteAll_52 : decode cX5_noteAll 52 = .ok (.iconst 0, 1) := by decide +kernel
theorem dX5_noteAll_53 : decode cX5_noteAll 53 = .ok (.putfield 184, 3) := by decide +kernel
theorem dX5_noteAll_56 : decode cX5_noteAll 56 = .ok (.iconst 0, 1) := by decide +kernel
theorem dX5_noteAll_57 : decode cX5_noteAll 57 = .ok (.istore_n 2, 1) := by decide +kernel
theorem dX5_noteAll_58 : decode cX5_noteAll 58 = .ok (.iload_n 2, 1) := by decide +kernel
theorem dX5_noteAll_59 : decode cX5_noteAll 59 = .ok (.aload_n 0, 1) := by decide +kernel
theorem dX5_noteAll_60 : decode cX5_noteAll 60 = .ok (.getfield 57, 3) := by decide +kernel
theorem dX5_noteAll_63 : decode cX5_noteAll 63 = .ok (.arraylength, 1) := by decide +kernel
theorem dX5_noteAll_64 : decode cX5_noteAll 64 = .ok (.if_icmp .ge 14, 3) := by decide +kernel
theorem dX5_noteAll_67 : decode cX5_noteAll 67 = .ok (.aload_n 0, 1) := by decide +kernel
theorem dX5_noteAll_68 : decode cX5_noteAll 68 = .ok (.iload_n 2, 1) := by decide +kernel
theorem dX5_noteAll_69 : decode cX5_noteAll 69 = .ok (.invokevirtual 197, 3) := by decide +kernel
theorem dX5_noteAll_72 : decode cX5_noteAll 72 = .ok (.iinc 2 1, 3) := by decide +kernel
theorem dX5_noteAll_75 : decode cX5_noteAll 75 = .ok (.goto (-17), 3) := by decide +kernel
theorem dX5_noteAll_78 : decode cX5_noteAll 78 = .ok (.aload_n 0, 1) := by decide +kernel
theorem dX5_noteAll_79 : decode cX5_noteAll 79 = .ok (.getfield 184, 3) := by decide +kernel
theorem dX5_noteAll_82 : decode cX5_noteAll 82 = .ok (.ireturn, 1) := by decide +kernel
theorem dX5_forget_0 : decode cX5_forget 0 = .ok (.aload_n 0, 1) := by decide +kernel
theorem dX5_forget_1 : decode cX5_forget 1 = .ok (.getfield 184, 3) := by decide +kernel
theorem dX5_forget_4 : decode cX5_forget 4 = .ok (.istore_n 1, 1) := by decide +kernel
theorem dX5_forget_5 : decode cX5_forget 5 = .ok (.aload_n 0, 1) := by decide +kernel
theorem dX5_forget_6 : decode cX5_forget 6 = .ok (.iconst 0, 1) := by decide +kernel
theorem dX5_forget_7 : decode cX5_forget 7 = .ok (.putfield 184, 3) := by decide +kernel
theorem dX5_forget_10 : decode cX5_forget 10 = .ok (.iload_n 1, 1) := by decide +kernel
theorem dX5_forget_11 : decode cX5_forget 11 = .ok (.ireturn, 1) := by decide +kernel
set_option maxRecDepth 20000 in
theorem ggX5_sound_X5_keepsNotes : GoodIn wsX5_sound wsX5_keepsNotes := goodIn_r _ [11, 1, 2, 3, 12, 13, 14, 15, 16, 10, 17, 18, 19, 20, 21, 22, 23, 24, 25, 26, 27, 28, 29, 30, 31, 32, 33, 34, 35, 36, 37, 38, 39, 40, 41, 42, 43, 44, 45, 46, 47, 48, 49, 50, 51, 52, 53, 54, 55, 56, 57, 58, 59, 60, 61, 62, 63, 64, 65, 66, 67, 68, 69, 70, 71, 72, 73, 74, 75, 76, 77, 78, 79, 80, 81, 82, 83, 84, 85, 86, 87, 88, 89, 90, 91, 92, 93, 94, 95, 96, 97, 98, 99, 100, 101, 102, 103, 104, 105, 106, 107, 108] (by decide +kernel) (by decide +kernel)
set_option maxRecDepth 20000 in
theorem gX5_sound_X5_keepsNotes : GoodIn wsX5_sound (wsV RX5 203 RX5 yX5_keepsNotes wsX5_keepsNotes) := goodIn_app (goodIn_of _ (by decide +kernel)) ggX5_sound_X5_keepsNotes
theorem dX5_sound_0 : decode cX5_sound 0 = .ok (.iconst 0, 1) := by decide +kernel
theorem dX5_sound_1 : decode cX5_sound 1 = .ok (.istore_n 1, 1) := by decide +kernel
theorem dX5_sound_2 : decode cX5_sound 2 = .ok (.iload_n 1, 1) := by decide +kernel
theorem dX5_sound_3 : decode cX5_sound 3 = .ok (.aload_n 0, 1) := by decide +kernel
theorem dX5_sound_4 : decode cX5_sound 4 = .ok (.getfield 184, 3) := by decide +kernel
theorem dX5_sound_7 : decode cX5_sound 7 = .ok (.if_icmp .ge 27, 3) := by decide +kernel
theorem dX5_sound_10 : decode cX5_sound 10 = .ok (.aload_n 0, 1) := by decide +kernel
theorem dX5_sound_11 : decode cX5_sound 11 = .ok (.getfield 50, 3) := by decide +kernel
theorem dX5_sound_14 : decode cX5_sound 14 = .ok (.iload_n 1, 1) := by decide +kernel
theorem dX5_sound_15 : decode cX5_sound 15 = .ok (.aaload, 1) := by decide +kernel
theorem dX5_sound_16 : decode cX5_sound 16 = .ok (.getfield 200, 3) := by decide +kernel
theorem dX5_sound_19 : decode cX5_sound 19 = .ok (.aload_n 0, 1) := by decide +kernel
theorem dX5_sound_20 : decode cX5_sound 20 = .ok (.getfield 108, 3) := by decide +kernel
theorem dX5_sound_23 : decode cX5_sound 23 = .ok (.if_icmp .ne 5, 3) := by decide +kernel
theorem dX5_sound_26 : decode cX5_sound 26 = .ok (.iconst 0, 1) := by decide +kernel
theorem dX5_sound_27 : decode cX5_sound 27 = .ok (.ireturn, 1) := by decide +kernel
theorem dX5_sound_28 : decode cX5_sound 28 = .ok (.iinc 1 1, 3) := by decide +kernel
theorem dX5_sound_31 : decode cX5_sound 31 = .ok (.goto (-29), 3) := by decide +kernel
theorem dX5_sound_34 : decode cX5_sound 34 = .ok (.iconst 0, 1) := by decide +kernel
theorem dX5_sound_35 : decode cX5_sound 35 = .ok (.istore_n 1, 1) := by decide +kernel
theorem dX5_sound_36 : decode cX5_sound 36 = .ok (.iload_n 1, 1) := by decide +kernel
theorem dX5_sound_37 : decode cX5_sound 37 = .ok (.aload_n 0, 1) := by decide +kernel
theorem dX5_sound_38 : decode cX5_sound 38 = .ok (.getfield 89, 3) := by decide +kernel
theorem dX5_sound_41 : decode cX5_sound 41 = .ok (.if_icmp .ge 24, 3) := by decide +kernel
theorem dX5_sound_44 : decode cX5_sound 44 = .ok (.aload_n 0, 1) := by decide +kernel
theorem dX5_sound_45 : decode cX5_sound 45 = .ok (.aload_n 0, 1) := by decide +kernel
theorem dX5_sound_46 : decode cX5_sound 46 = .ok (.getfield 43, 3) := by decide +kernel
theorem dX5_sound_49 : decode cX5_sound 49 = .ok (.iload_n 1, 1) := by decide +kernel
theorem dX5_sound_50 : decode cX5_sound 50 = .ok (.aaload, 1) := by decide +kernel
theorem dX5_sound_51 : decode cX5_sound 51 = .ok (.invokevirtual 203, 3) := by decide +kernel
theorem dX5_sound_54 : decode cX5_sound 54 = .ok (.ifCond .ne 5, 3) := by decide +kernel
theorem dX5_sound_57 : decode cX5_sound 57 = .ok (.iconst 0, 1) := by decide +kernel
theorem dX5_sound_58 : decode cX5_sound 58 = .ok (.ireturn, 1) := by decide +kernel
theorem dX5_sound_59 : decode cX5_sound 59 = .ok (.iinc 1 1, 3) := by decide +kernel
theorem dX5_sound_62 : decode cX5_sound 62 = .ok (.goto (-26), 3) := by decide +kernel
theorem dX5_sound_65 : decode cX5_sound 65 = .ok (.iconst 1, 1) := by decide +kernel
theorem dX5_sound_66 : decode cX5_sound 66 = .ok (.ireturn, 1) := by decide +kernel
theorem dX5_requireNode_0 : decode cX5_requireNode 0 = .ok (.iload_n 1, 1) := by decide +kernel
theorem dX5_requireNode_1 : decode cX5_requireNode 1 = .ok (.ifCond .lt 12, 3) := by decide +kernel
theorem dX5_requireNode_4 : decode cX5_requireNode 4 = .ok (.iload_n 1, 1) := by decide +kernel
theorem dX5_requireNode_5 : decode cX5_requireNode 5 = .ok (.aload_n 0, 1) := by decide +kernel
theorem dX5_requireNode_6 : decode cX5_requireNode 6 = .ok (.getfield 57, 3) := by decide +kernel
theorem dX5_requireNode_9 : decode cX5_requireNode 9 = .ok (.arraylength, 1) := by decide +kernel
theorem dX5_requireNode_10 : decode cX5_requireNode 10 = .ok (.if_icmp .lt 13, 3) := by decide +kernel
theorem dX5_requireNode_13 : decode cX5_requireNode 13 = .ok (.new 79, 3) := by decide +kernel
theorem dX5_requireNode_16 : decode cX5_requireNode 16 = .ok (.dup, 1) := by decide +kernel
theorem dX5_requireNode_17 : decode cX5_requireNode 17 = .ok (.ldc 207, 2) := by decide +kernel
theorem dX5_requireNode_19 : decode cX5_requireNode 19 = .ok (.invokespecial 83, 3) := by decide +kernel
theorem dX5_requireNode_22 : decode cX5_requireNode 22 = .ok (.athrow, 1) := by decide +kernel
theorem dX5_requireNode_23 : decode cX5_requireNode 23 = .ok (.return_, 1) := by decide +kernel
theorem dX5_requireVariable_0 : decode cX5_requireVariable 0 = .ok (.iload_n 1, 1) := by decide +kernel
theorem dX5_requireVariable_1 : decode cX5_requireVariable 1 = .ok (.iconst 1, 1) := by decide +kernel
theorem dX5_requireVariable_2 : decode cX5_requireVariable 2 = .ok (.if_icmp .lt 11, 3) := by decide +kernel
theorem dX5_requireVariable_5 : decode cX5_requireVariable 5 = .ok (.iload_n 1, 1) := by decide +kernel
theorem dX5_requireVariable_6 : decode cX5_requireVariable 6 = .ok (.aload_n 0, 1) := by decide +kernel
theorem dX5_requireVariable_7 : decode cX5_requireVariable 7 = .ok (.getfield 18, 3) := by decide +kernel
theorem dX5_requireVariable_10 : decode cX5_requireVariable 10 = .ok (.if_icmp .le 13, 3) := by decide +kernel
theorem dX5_requireVariable_13 : decode cX5_requireVariable 13 = .ok (.new 79, 3) := by decide +kernel
theorem dX5_requireVariable_16 : decode cX5_requireVariable 16 = .ok (.dup, 1) := by decide +kernel
theorem dX5_requireVariable_17 : decode cX5_requireVariable 17 = .ok (.ldc 209, 2) := by decide +kernel
theorem dX5_requireVariable_19 : decode cX5_requireVariable 19 = .ok (.invokespecial 83, 3) := by decide +kernel
theorem dX5_requireVariable_22 : decode cX5_requireVariable 22 = .ok (.athrow, 1) := by decide +kernel
theorem dX5_requireVariable_23 : decode cX5_requireVariable 23 = .ok (.return_, 1) := by decide +kernel
theorem dX5_requirePlace_0 : decode cX5_requirePlace 0 = .ok (.iload_n 1, 1) := by decide +kernel
theorem dX5_requirePlace_1 : decode cX5_requirePlace 1 = .ok (.ifCond .lt 11, 3) := by decide +kernel
theorem dX5_requirePlace_4 : decode cX5_requirePlace 4 = .ok (.iload_n 1, 1) := by decide +kernel
theorem dX5_requirePlace_5 : decode cX5_requirePlace 5 = .ok (.aload_n 0, 1) := by decide +kernel
theorem dX5_requirePlace_6 : decode cX5_requirePlace 6 = .ok (.getfield 18, 3) := by decide +kernel
theorem dX5_requirePlace_9 : decode cX5_requirePlace 9 = .ok (.if_icmp .le 13, 3) := by decide +kernel
theorem dX5_requirePlace_12 : decode cX5_requirePlace 12 = .ok (.new 79, 3) := by decide +kernel
theorem dX5_requirePlace_15 : decode cX5_requirePlace 15 = .ok (.dup, 1) := by decide +kernel
theorem dX5_requirePlace_16 : decode cX5_requirePlace 16 = .ok (.ldc 211, 2) := by decide +kernel
theorem dX5_requirePlace_18 : decode cX5_requirePlace 18 = .ok (.invokespecial 83, 3) := by decide +kernel
theorem dX5_requirePlace_21 : decode cX5_requirePlace 21 = .ok (.athrow, 1) := by decide +kernel
theorem dX5_requirePlace_22 : decode cX5_requirePlace 22 = .ok (.return_, 1) := by decide +kernel
theorem dX5_requireAnalysed_0 : decode cX5_requireAnalysed 0 = .ok (.aload_n 0, 1) := by decide +kernel
theorem dX5_requireAnalysed_1 : decode cX5_requireAnalysed 1 = .ok (.getfield 104, 3) := by decide +kernel
theorem dX5_requireAnalysed_4 : decode cX5_requireAnalysed 4 = .ok (.ifCond .ne 13, 3) := by decide +kernel
theorem dX5_requireAnalysed_7 : decode cX5_requireAnalysed 7 = .ok (.new 92, 3) := by decide +kernel
theorem dX5_requireAnalysed_10 : decode cX5_requireAnalysed 10 = .ok (.dup, 1) := by decide +kernel
theorem dX5_requireAnalysed_11 : decode cX5_requireAnalysed 11 = .ok (.ldc 213, 2) := by decide +kernel
theorem dX5_requireAnalysed_13 : decode cX5_requireAnalysed 13 = .ok (.invokespecial 96, 3) := by decide +kernel
theorem dX5_requireAnalysed_16 : decode cX5_requireAnalysed 16 = .ok (.athrow, 1) := by decide +kernel
theorem dX5_requireAnalysed_17 : decode cX5_requireAnalysed 17 = .ok (.return_, 1) := by decide +kernel
set_option maxRecDepth 20000 in
theorem ggX5_clearDraft_J7_fill_53178 : GoodIn wsX5_clearDraft wsJ7_fill_53178 := goodIn_r _ [5] (by decide +kernel) (by decide +kernel)
set_option maxRecDepth 20000 in
theorem gX5_clearDraft_J7_fill_53178 : GoodIn wsX5_clearDraft (va_wsS RX5 215 yJ7_fill_53178 wsJ7_fill_53178) := goodIn_app (goodIn_of _ (by decide +kernel)) ggX5_clearDraft_J7_fill_53178
theorem dX5_clearDraft_0 : decode cX5_clearDraft 0 = .ok (.aload_n 0, 1) := by decide +kernel
theorem dX5_clearDraft_1 : decode cX5_clearDraft 1 = .ok (.getfield 22, 3) := by decide +kernel
theorem dX5_clearDraft_4 : decode cX5_clearDraft 4 = .ok (.iconst 0, 1) := by decide +kernel
theorem dX5_clearDraft_5 : decode cX5_clearDraft 5 = .ok (.invokestatic 215, 3) := by decide +kernel
theorem dX5_clearDraft_8 : decode cX5_clearDraft 8 = .ok (.return_, 1) := by decide +kernel
set_option maxRecDepth 20000 in
theorem ggX5_forgetPoints_X1_clear : GoodIn wsX5_forgetPoints wsX1_clear := goodIn_r _ [7, 8, 9, 10, 11, 12, 13, 14, 15, 31, 32, 33, 34, 35, 36] (by decide +kernel) (by decide +kernel)
set_option maxRecDepth 20000 in
theorem gX5_forgetPoints_X1_clear : GoodIn wsX5_forgetPoints (wsV RX5 220 RX1 yX1_clear wsX1_clear) := goodIn_app (goodIn_of _ (by decide +kernel)) ggX5_forgetPoints_X1_clear
theorem dX5_forgetPoints_0 : decode cX5_forgetPoints 0 = .ok (.aload_n 0, 1) := by decide +kernel
theorem dX5_forgetPoints_1 : decode cX5_forgetPoints 1 = .ok (.iconst 0, 1) := by decide +kernel
theorem dX5_forgetPoints_2 : decode cX5_forgetPoints 2 = .ok (.putfield 120, 3) := by decide +kernel
theorem dX5_forgetPoints_5 : decode cX5_forgetPoints 5 = .ok (.iconst 0, 1) := by decide +kernel
theorem dX5_forgetPoints_6 : decode cX5_forgetPoints 6 = .ok (.istore_n 1, 1) := by decide +kernel
theorem dX5_forgetPoints_7 : decode cX5_forgetPoints 7 = .ok (.iload_n 1, 1) := by decide +kernel
theorem dX5_forgetPoints_8 : decode cX5_forgetPoints 8 = .ok (.aload_n 0, 1) := by decide +kernel
theorem dX5_forgetPoints_9 : decode cX5_forgetPoints 9 = .ok (.getfield 57, 3) := by decide +kernel
theorem dX5_forgetPoints_12 : decode cX5_forgetPoints 12 = .ok (.arraylength, 1) := by decide +kernel
theorem dX5_forgetPoints_13 : decode cX5_forgetPoints 13 = .ok (.if_icmp .ge 18, 3) := by decide +kernel
theorem dX5_forgetPoints_16 : decode cX5_forgetPoints 16 = .ok (.aload_n 0, 1) := by decide +kernel
theorem dX5_forgetPoints_17 : decode cX5_forgetPoints 17 = .ok (.getfield 57, 3) := by decide +kernel
theorem dX5_forgetPoints_20 : decode cX5_forgetPoints 20 = .ok (.iload_n 1, 1) := by decide +kernel
theorem dX5_forgetPoints_21 : decode cX5_forgetPoints 21 = .ok (.aaload, 1) := by decide +kernel
theorem dX5_forgetPoints_22 : decode cX5_forgetPoints 22 = .ok (.invokevirtual 220, 3) := by decide +kernel
theorem dX5_forgetPoints_25 : decode cX5_forgetPoints 25 = .ok (.iinc 1 1, 3) := by decide +kernel
theorem dX5_forgetPoints_28 : decode cX5_forgetPoints 28 = .ok (.goto (-21), 3) := by decide +kernel
theorem dX5_forgetPoints_31 : decode cX5_forgetPoints 31 = .ok (.return_, 1) := by decide +kernel
set_option maxRecDepth 20000 in
theorem ggX5_addFirstPoints_J7_fill_53178 : GoodIn wsX5_addFirstPoints wsJ7_fill_53178 := goodIn_r _ [7] (by decide +kernel) (by decide +kernel)
set_option maxRecDepth 20000 in
theorem gX5_addFirstPoints_J7_fill_53178 : GoodIn wsX5_addFirstPoints (va_wsS RX5 215 yJ7_fill_53178 wsJ7_fill_53178) := goodIn_app (goodIn_of _ (by decide +kernel)) ggX5_addFirstPoints_J7_fill_53178
set_option maxRecDepth 20000 in
theorem ggX5_addFirstPoints_X5_addPoint : GoodIn wsX5_addFirstPoints wsX5_addPoint := goodIn_r _ [12, 13, 14, 15, 16, 17, 18, 19, 20, 21, 22, 23, 24, 25, 26, 27, 28, 29, 30, 31, 32, 11, 33, 34, 35, 36, 37, 38, 39, 40, 41, 42, 43, 44, 45, 5, 6, 7, 46, 47, 48, 49, 50, 51, 52, 53, 54, 55, 56, 57, 58, 59, 60, 61, 62, 63, 64, 65, 66, 67, 68, 69, 70, 71, 72, 73, 74, 75, 76, 77, 78, 79, 80, 81, 82] (by decide +kernel) (by decide +kernel)
set_option maxRecDepth 20000 in
theorem gX5_addFirstPoints_X5_addPoint : GoodIn wsX5_addFirstPoints (wsV RX5 223 RX5 yX5_addPoint wsX5_addPoint) := goodIn_app (goodIn_of _ (by decide +kernel)) ggX5_addFirstPoints_X5_addPoint
theorem dX5_addFirstPoints_0 : decode cX5_addFirstPoints 0 = .ok (.iconst 0, 1) := by decide +kernel
theorem dX5_addFirstPoints_1 : decode cX5_addFirstPoints 1 = .ok (.istore_n 1, 1) := by decide +kernel
theorem dX5_addFirstPoints_2 : decode cX5_addFirstPoints 2 = .ok (.iload_n 1, 1) := by decide +kernel
theorem dX5_addFirstPoints_3 : decode cX5_addFirstPoints 3 = .ok (.aload_n 0, 1) := by decide +kernel
theorem dX5_addFirstPoints_4 : decode cX5_addFirstPoints 4 = .ok (.getfield 18, 3) := by decide +kernel
theorem dX5_addFirstPoints_7 : decode cX5_addFirstPoints 7 = .ok (.if_icmp .gt 44, 3) := by decide +kernel
theorem dX5_addFirstPoints_10 : decode cX5_addFirstPoints 10 = .ok (.aload_n 0, 1) := by decide +kernel
theorem dX5_addFirstPoints_11 : decode cX5_addFirstPoints 11 = .ok (.getfield 26, 3) := by decide +kernel
theorem dX5_addFirstPoints_14 : decode cX5_addFirstPoints 14 = .ok (.iconst 0, 1) := by decide +kernel
theorem dX5_addFirstPoints_15 : decode cX5_addFirstPoints 15 = .ok (.invokestatic 215, 3) := by decide +kernel
theorem dX5_addFirstPoints_18 : decode cX5_addFirstPoints 18 = .ok (.aload_n 0, 1) := by decide +kernel
theorem dX5_addFirstPoints_19 : decode cX5_addFirstPoints 19 = .ok (.getfield 26, 3) := by decide +kernel
theorem dX5_addFirstPoints_22 : decode cX5_addFirstPoints 22 = .ok (.iload_n 1, 1) := by decide +kernel
theorem dX5_addFirstPoints_23 : decode cX5_addFirstPoints 23 = .ok (.iconst 1, 1) := by decide +kernel
theorem dX5_addFirstPoints_24 : decode cX5_addFirstPoints 24 = .ok (.iastore, 1) := by decide +kernel
theorem dX5_addFirstPoints_25 : decode cX5_addFirstPoints 25 = .ok (.aload_n 0, 1) := by decide +kernel
theorem dX5_addFirstPoints_26 : decode cX5_addFirstPoints 26 = .ok (.getfield 26, 3) := by decide +kernel
theorem dX5_addFirstPoints_29 : decode cX5_addFirstPoints 29 = .ok (.iconst 0, 1) := by decide +kernel
theorem dX5_addFirstPoints_30 : decode cX5_addFirstPoints 30 = .ok (.iconst 1, 1) := by decide +kernel
theorem dX5_addFirstPoints_31 : decode cX5_addFirstPoints 31 = .ok (.iastore, 1) := by decide +kernel
theorem dX5_addFirstPoints_32 : decode cX5_addFirstPoints 32 = .ok (.aload_n 0, 1) := by decide +kernel
theorem dX5_addFirstPoints_33 : decode cX5_addFirstPoints 33 = .ok (.aload_n 0, 1) := by decide +kernel
theorem dX5_addFirstPoints_34 : decode cX5_addFirstPoints 34 = .ok (.getfield 108, 3) := by decide +kernel
theorem dX5_addFirstPoints_37 : decode cX5_addFirstPoints 37 = .ok (.aload_n 0, 1) := by decide +kernel
theorem dX5_addFirstPoints_38 : decode cX5_addFirstPoints 38 = .ok (.getfield 26, 3) := by decide +kernel
theorem dX5_addFirstPoints_41 : decode cX5_addFirstPoints 41 = .ok (.iconst (-1), 1) := by decide +kernel
theorem dX5_addFirstPoints_42 : decode cX5_addFirstPoints 42 = .ok (.invokevirtual 223, 3) := by decide +kernel
theorem dX5_addFirstPoints_45 : decode cX5_addFirstPoints 45 = .ok (.iinc 1 1, 3) := by decide +kernel
theorem dX5_addFirstPoints_48 : decode cX5_addFirstPoints 48 = .ok (.goto (-46), 3) := by decide +kernel
theorem dX5_addFirstPoints_51 : decode cX5_addFirstPoints 51 = .ok (.return_, 1) := by decide +kernel
set_option maxRecDepth 20000 in
theorem ggX5_workOff_X5_follow : GoodIn wsX5_workOff wsX5_follow := goodIn_r _ [10, 11, 12, 2, 4, 13, 14, 15, 16, 9, 17, 18, 19, 20, 21, 22, 23, 24, 25, 26, 27, 28, 29, 30, 31, 32, 33, 34, 35, 36, 37, 38, 39, 40, 41, 42, 43, 44, 45, 46, 47, 48, 49, 50, 51, 52, 53, 54, 55, 56, 57, 58, 59, 60, 61, 62, 63, 64, 65, 66, 67, 68, 69, 70, 71, 72, 73, 74, 75, 76, 77, 98, 99, 100, 101, 78, 79, 80, 81, 82, 83, 84, 85, 86, 87, 88, 89, 90, 91, 92, 93, 94, 95, 96, 97, 102, 103, 104, 105, 106, 107] (by decide +kernel) (by decide +kernel)
set_option maxRecDepth 20000 in
theorem gX5_workOff_X5_follow : GoodIn wsX5_workOff (wsV RX5 228 RX5 yX5_follow wsX5_follow) := goodIn_app (goodIn_of _ (by decide +kernel)) ggX5_workOff_X5_follow
theorem dX5_workOff_0 : decode cX5_workOff 0 = .ok (.iconst 0, 1) := by decide +kernel
theorem dX5_workOff_1 : decode cX5_workOff 1 = .ok (.istore_n 2, 1) := by decide +kernel
theorem dX5_workOff_2 : decode cX5_workOff 2 = .ok (.iload_n 2, 1) := by decide +kernel
theorem dX5_workOff_3 : decode cX5_workOff 3 = .ok (.aload_n 0, 1) := by decide +kernel
theorem dX5_workOff_4 : decode cX5_workOff 4 = .ok (.getfield 89, 3) := by decide +kernel
theorem dX5_workOff_7 : decode cX5_workOff 7 = .ok (.if_icmp .ge 52, 3) := by decide +kernel
theorem dX5_workOff_10 : decode cX5_workOff 10 = .ok (.aload_n 0, 1) := by decide +kernel
theorem dX5_workOff_11 : decode cX5_workOff 11 = .ok (.getfield 43, 3) := by decide +kernel
theorem dX5_workOff_14 : decode cX5_workOff 14 = .ok (.iload_n 2, 1) := by decide +kernel
theorem dX5_workOff_15 : decode cX5_workOff 15 = .ok (.aaload, 1) := by decide +kernel
theorem dX5_workOff_16 : decode cX5_workOff 16 = .ok (.getfield 168, 3) := by decide +kernel
theorem dX5_workOff_19 : decode cX5_workOff 19 = .ok (.aload_n 1, 1) := by decide +kernel
theorem dX5_workOff_20 : decode cX5_workOff 20 = .ok (.getfield 227, 3) := by decide +kernel
theorem dX5_workOff_23 : decode cX5_workOff 23 = .ok (.if_icmp .ne 30, 3) := by decide +kernel
theorem dX5_workOff_26 : decode cX5_workOff 26 = .ok (.aload_n 0, 1) := by decide +kernel
theorem dX5_workOff_27 : decode cX5_workOff 27 = .ok (.iload_n 2, 1) := by decide +kernel
theorem dX5_workOff_28 : decode cX5_workOff 28 = .ok (.aload_n 1, 1) := by decide +kernel
theorem dX5_workOff_29 : decode cX5_workOff 29 = .ok (.iconst 0, 1) := by decide +kernel
theorem dX5_workOff_30 : decode cX5_workOff 30 = .ok (.invokevirtual 228, 3) := by decide +kernel
theorem dX5_workOff_33 : decode cX5_workOff 33 = .ok (.aload_n 0, 1) := by decide +kernel
theorem dX5_workOff_34 : decode cX5_workOff 34 = .ok (.getfield 43, 3) := by decide +kernel
theorem dX5_workOff_37 : decode cX5_workOff 37 = .ok (.iload_n 2, 1) := by decide +kernel
theorem dX5_workOff_38 : decode cX5_workOff 38 = .ok (.aaload, 1) := by decide +kernel
theorem dX5_workOff_39 : decode cX5_workOff 39 = .ok (.getfield 232, 3) := by decide +kernel
theorem dX5_workOff_42 : decode cX5_workOff 42 = .ok (.iconst 2, 1) := by decide +kernel
theorem dX5_workOff_43 : decode cX5_workOff 43 = .ok (.if_icmp .ne 10, 3) := by decide +kernel
theorem dX5_workOff_46 : decode cX5_workOff 46 = .ok (.aload_n 0, 1) := by decide +kernel
theorem dX5_workOff_47 : decode cX5_workOff 47 = .ok (.iload_n 2, 1) := by decide +kernel
theorem dX5_workOff_48 : decode cX5_workOff 48 = .ok (.aload_n 1, 1) := by decide +kernel
theorem dX5_workOff_49 : decode cX5_workOff 49 = .ok (.iconst 1, 1) := by decide +kernel
theorem dX5_workOff_50 : decode cX5_workOff 50 = .ok (.invokevirtual 228, 3) := by decide +kernel
theorem dX5_workOff_53 : decode cX5_workOff 53 = .ok (.iinc 2 1, 3) := by decide +kernel
theorem dX5_workOff_56 : decode cX5_workOff 56 = .ok (.goto (-54), 3) := by decide +kernel
theorem dX5_workOff_59 : decode cX5_workOff 59 = .ok (.return_, 1) := by decide +kernel
set_option maxRecDepth 20000 in
theorem ggX5_follow_X5_copy : GoodIn wsX5_follow wsX5_copy := goodIn_r _ [10, 11, 12, 13, 14] (by decide +kernel) (by decide +kernel)
set_option maxRecDepth 20000 in
theorem gX5_follow_X5_copy : GoodIn wsX5_follow (va_wsS RX5 235 yX5_copy wsX5_copy) := goodIn_app (goodIn_of _ (by decide +kernel)) ggX5_follow_X5_copy
set_option maxRecDepth 20000 in
theorem ggX5_follow_X0_step : GoodIn wsX5_follow wsX0_step := goodIn_r _ [19, 20, 21, 22, 23, 9, 24, 25, 90, 91, 92, 93, 94] (by decide +kernel) (by decide +kernel)
set_option maxRecDepth 20000 in
theorem gX5_follow_X0_step : GoodIn wsX5_follow (wsV RX5 177 RX0 yX0_step wsX0_step) := goodIn_app (goodIn_of _ (by decide +kernel)) ggX5_follow_X0_step
set_option maxRecDepth 20000 in
theorem ggX5_follow_X5_addPoint : GoodIn wsX5_follow wsX5_addPoint := goodIn_r _ [29, 30, 31, 32, 33, 34, 35, 36, 37, 38, 39, 40, 41, 42, 43, 44, 45, 46, 47, 48, 8, 9, 10, 11, 12, 13, 14, 49, 50, 25, 51, 52, 53, 54, 55, 56, 57, 58, 59, 60, 61, 62, 63, 64, 65, 66, 67, 68, 69, 70, 75, 76, 77, 78, 79, 80, 81, 82, 83, 84, 85, 86, 87, 88, 89, 95, 96, 97, 98, 99, 100, 71, 72, 73, 74] (by decide +kernel) (by decide +kernel)
set_option maxRecDepth 20000 in
theorem gX5_follow_X5_addPoint : GoodIn wsX5_follow (wsV RX5 223 RX5 yX5_addPoint wsX5_addPoint) := goodIn_app (goodIn_of _ (by decide +kernel)) ggX5_follow_X5_addPoint
theorem dX5_follow_0 : decode cX5_follow 0 = .ok (.aload_n 2, 1) := by decide +kernel
theorem dX5_follow_1 : decode cX5_follow 1 = .ok (.getfield 144, 3) := by decide +kernel
theorem dX5_follow_4 : decode cX5_follow 4 = .ok (.aload_n 0, 1) := by decide +kernel
theorem dX5_follow_5 : decode cX5_follow 5 = .ok (.getfield 26, 3) := by decide +kernel
theorem dX5_follow_8 : decode cX5_follow 8 = .ok (.invokestatic 235, 3) := by decide +kernel
theorem dX5_follow_11 : decode cX5_follow 11 = .ok (.aload_n 0, 1) := by decide +kernel
theorem dX5_follow_12 : decode cX5_follow 12 = .ok (.getfield 43, 3) := by decide +kernel
theorem dX5_follow_15 : decode cX5_follow 15 = .ok (.iload_n 1, 1) := by decide +kernel
theorem dX5_follow_16 : decode cX5_follow 16 = .ok (.aaload, 1) := by decide +kernel
theorem dX5_follow_17 : decode cX5_follow 17 = .ok (.aload_n 0, 1) := by decide +kernel
theorem dX5_follow_18 : decode cX5_follow 18 = .ok (.getfield 26, 3) := by decide +kernel
theorem dX5_follow_21 : decode cX5_follow 21 = .ok (.iload_n 3, 1) := by decide +kernel
theorem dX5_follow_22 : decode cX5_follow 22 = .ok (.invokevirtual 177, 3) := by decide +kernel
theorem dX5_follow_25 : decode cX5_follow 25 = .ok (.sipush 10000, 3) := by decide +kernel
theorem dX5_follow_28 : decode cX5_follow 28 = .ok (.iload_n 1, 1) := by decide +kernel
theorem dX5_follow_29 : decode cX5_follow 29 = .ok (.imul, 1) := by decide +kernel
theorem dX5_follow_30 : decode cX5_follow 30 = .ok (.sipush 1000, 3) := by decide +kernel
theorem dX5_follow_33 : decode cX5_follow 33 = .ok (.aload_n 2, 1) := by decide +kernel
theorem dX5_follow_34 : decode cX5_follow 34 = .ok (.getfield 227, 3) := by decide +kernel
theorem dX5_follow_37 : decode cX5_follow 37 = .ok (.imul, 1) := by decide +kernel
theorem dX5_follow_38 : decode cX5_follow 38 = .ok (.iadd, 1) := by decide +kernel
theorem dX5_follow_39 : decode cX5_follow 39 = .ok (.bipush 10, 2) := by decide +kernel
theorem dX5_follow_41 : decode cX5_follow 41 = .ok (.aload_n 2, 1) := by decide +kernel
theorem dX5_follow_42 : decode cX5_follow 42 = .ok (.getfield 239, 3) := by decide +kernel
theorem dX5_follow_45 : decode cX5_follow 45 = .ok (.imul, 1) := by decide +kernel
theorem dX5_follow_46 : decode cX5_follow 46 = .ok (.iadd, 1) := by decide +kernel
theorem dX5_follow_47 : decode cX5_follow 47 = .ok (.iload_n 3, 1) := by decide +kernel
theorem dX5_follow_48 : decode cX5_follow 48 = .ok (.iadd, 1) := by decide +kernel
theorem dX5_follow_49 : decode cX5_follow 49 = .ok (.istore 4, 2) := by decide +kernel
theorem dX5_follow_51 : decode cX5_follow 51 = .ok (.aload_n 0, 1) := by decide +kernel
theorem dX5_follow_52 : decode cX5_follow 52 = .ok (.aload_n 0, 1) := by decide +kernel
theorem dX5_follow_53 : decode cX5_follow 53 = .ok (.getfield 43, 3) := by decide +kernel
theorem dX5_follow_56 : decode cX5_follow 56 = .ok (.iload_n 1, 1) := by decide +kernel
theorem dX5_follow_57 : decode cX5_follow 57 = .ok (.aaload, 1) := by decide +kernel
theorem dX5_follow_58 : decode cX5_follow 58 = .ok (.getfield 181, 3) := by decide +kernel
theorem dX5_follow_61 : decode cX5_follow 61 = .ok (.aload_n 0, 1) := by decide +kernel
theorem dX5_follow_62 : decode cX5_follow 62 = .ok (.getfield 26, 3) := by decide +kernel
theorem dX5_follow_65 : decode cX5_follow 65 = .ok (.iload 4, 2) := by decide +kernel
theorem dX5_follow_67 : decode cX5_follow 67 = .ok (.invokevirtual 223, 3) := by decide +kernel
theorem dX5_follow_70 : decode cX5_follow 70 = .ok (.return_, 1) := by decide +kernel
set_option maxRecDepth 20000 in
theorem ggX5_addPoint_X4_add : GoodIn wsX5_addPoint wsX4_add := goodIn_r _ [11, 12, 13, 14, 15, 16, 17, 18, 10, 19, 20, 21, 22, 23, 24, 25, 26, 27, 28, 29, 30, 31, 32, 33, 34, 35, 36, 37, 38, 39, 40, 68, 69, 70] (by decide +kernel) (by decide +kernel)
set_option maxRecDepth 20000 in
theorem gX5_addPoint_X4_add : GoodIn wsX5_addPoint (wsV RX5 242 RX4 yX4_add wsX4_add) := goodIn_app (goodIn_of _ (by decide +kernel)) ggX5_addPoint_X4_add
set_option maxRecDepth 20000 in
theorem ggX5_addPoint_X3_set : GoodIn wsX5_addPoint wsX3_set := goodIn_r _ [45, 46, 47, 48, 49, 20, 21, 22, 23, 24, 25, 26, 71, 72, 73, 74] (by decide +kernel) (by decide +kernel)
set_option maxRecDepth 20000 in
theorem gX5_addPoint_X3_set : GoodIn wsX5_addPoint (wsV RX5 245 RX3 yX3_set wsX3_set) := goodIn_app (goodIn_of _ (by decide +kernel)) ggX5_addPoint_X3_set
theorem dX5_addPoint_0 : decode cX5_addPoint 0 = .ok (.aload_n 0, 1) := by decide +kernel
theorem dX5_addPoint_1 : decode cX5_addPoint 1 = .ok (.getfield 57, 3) := by decide +kernel
theorem dX5_addPoint_4 : decode cX5_addPoint 4 = .ok (.iload_n 1, 1) := by decide +kernel
theorem dX5_addPoint_5 : decode cX5_addPoint 5 = .ok (.aaload, 1) := by decide +kernel
theorem dX5_addPoint_6 : decode cX5_addPoint 6 = .ok (.astore 4, 2) := by decide +kernel
theorem dX5_addPoint_8 : decode cX5_addPoint 8 = .ok (.aload_n 0, 1) := by decide +kernel
theorem dX5_addPoint_9 : decode cX5_addPoint 9 = .ok (.getfield 120, 3) := by decide +kernel
theorem dX5_addPoint_12 : decode cX5_addPoint 12 = .ok (.aload_n 0, 1) := by decide +kernel
theorem dX5_addPoint_13 : decode cX5_addPoint 13 = .ok (.getfield 64, 3) := by decide +kernel
theorem dX5_addPoint_16 : decode cX5_addPoint 16 = .ok (.arraylength, 1) := by decide +kernel
theorem dX5_addPoint_17 : decode cX5_addPoint 17 = .ok (.if_icmp .ge 71, 3) := by decide +kernel
theorem dX5_addPoint_20 : decode cX5_addPoint 20 = .ok (.aload 4, 2) := by decide +kernel
theorem dX5_addPoint_22 : decode cX5_addPoint 22 = .ok (.getfield 153, 3) := by decide +kernel
theorem dX5_addPoint_25 : decode cX5_addPoint 25 = .ok (.aload_n 2, 1) := by decide +kernel
theorem dX5_addPoint_26 : decode cX5_addPoint 26 = .ok (.invokevirtual 242, 3) := by decide +kernel
theorem dX5_addPoint_29 : decode cX5_addPoint 29 = .ok (.ifCond .eq 59, 3) := by decide +kernel
theorem dX5_addPoint_32 : decode cX5_addPoint 32 = .ok (.aload_n 0, 1) := by decide +kernel
theorem dX5_addPoint_33 : decode cX5_addPoint 33 = .ok (.getfield 64, 3) := by decide +kernel
theorem dX5_addPoint_36 : decode cX5_addPoint 36 = .ok (.aload_n 0, 1) := by decide +kernel
theorem dX5_addPoint_37 : decode cX5_addPoint 37 = .ok (.getfield 120, 3) := by decide +kernel
theorem dX5_addPoint_40 : decode cX5_addPoint 40 = .ok (.aaload, 1) := by decide +kernel
theorem dX5_addPoint_41 : decode cX5_addPoint 41 = .ok (.iload_n 1, 1) := by decide +kernel
theorem dX5_addPoint_42 : decode cX5_addPoint 42 = .ok (.aload 4, 2) := by decide +kernel
theorem dX5_addPoint_44 : decode cX5_addPoint 44 = .ok (.getfield 130, 3) := by decide +kernel
theorem dX5_addPoint_47 : decode cX5_addPoint 47 = .ok (.iload_n 3, 1) := by decide +kernel
theorem dX5_addPoint_48 : decode cX5_addPoint 48 = .ok (.aload_n 2, 1) := by decide +kernel
theorem dX5_addPoint_49 : decode cX5_addPoint 49 = .ok (.invokevirtual 245, 3) := by decide +kernel
end
section
theorem dX5_addPoint_52 : decode cX5_addPoint 52 = .ok (.aload 4, 2) := by decide +kernel
theorem dX5_addPoint_54 : decode cX5_addPoint 54 = .ok (.getfield 138, 3) := by decide +kernel
theorem dX5_addPoint_57 : decode cX5_addPoint 57 = .ok (.aload 4, 2) := by decide +kernel
theorem dX5_addPoint_59 : decode cX5_addPoint 59 = .ok (.getfield 130, 3) := by decide +kernel
theorem dX5_addPoint_62 : decode cX5_addPoint 62 = .ok (.aload_n 0, 1) := by decide +kernel
theorem dX5_addPoint_63 : decode cX5_addPoint 63 = .ok (.getfield 120, 3) := by decide +kernel
theorem dX5_addPoint_66 : decode cX5_addPoint 66 = .ok (.iastore, 1) := by decide +kernel
theorem dX5_addPoint_67 : decode cX5_addPoint 67 = .ok (.aload 4, 2) := by decide +kernel
theorem dX5_addPoint_69 : decode cX5_addPoint 69 = .ok (.dup, 1) := by decide +kernel
theorem dX5_addPoint_70 : decode cX5_addPoint 70 = .ok (.getfield 130, 3) := by decide +kernel
theorem dX5_addPoint_73 : decode cX5_addPoint 73 = .ok (.iconst 1, 1) := by decide +kernel
theorem dX5_addPoint_74 : decode cX5_addPoint 74 = .ok (.iadd, 1) := by decide +kernel
theorem dX5_addPoint_75 : decode cX5_addPoint 75 = .ok (.putfield 130, 3) := by decide +kernel
theorem dX5_addPoint_78 : decode cX5_addPoint 78 = .ok (.aload_n 0, 1) := by decide +kernel
theorem dX5_addPoint_79 : decode cX5_addPoint 79 = .ok (.dup, 1) := by decide +kernel
theorem dX5_addPoint_80 : decode cX5_addPoint 80 = .ok (.getfield 120, 3) := by decide +kernel
theorem dX5_addPoint_83 : decode cX5_addPoint 83 = .ok (.iconst 1, 1) := by decide +kernel
theorem dX5_addPoint_84 : decode cX5_addPoint 84 = .ok (.iadd, 1) := by decide +kernel
theorem dX5_addPoint_85 : decode cX5_addPoint 85 = .ok (.putfield 120, 3) := by decide +kernel
theorem dX5_addPoint_88 : decode cX5_addPoint 88 = .ok (.return_, 1) := by decide +kernel
set_option maxRecDepth 20000 in
theorem ggX5_holdsAtPoints_X5_valueOf : GoodIn wsX5_holdsAtPoints wsX5_valueOf := goodIn_r _ [9, 10] (by decide +kernel) (by decide +kernel)
set_option maxRecDepth 20000 in
theorem gX5_holdsAtPoints_X5_valueOf : GoodIn wsX5_holdsAtPoints (va_wsS RX5 248 yX5_valueOf wsX5_valueOf) := goodIn_app (goodIn_of _ (by decide +kernel)) ggX5_holdsAtPoints_X5_valueOf
theorem dX5_holdsAtPoints_0 : decode cX5_holdsAtPoints 0 = .ok (.iconst 0, 1) := by decide +kernel
theorem dX5_holdsAtPoints_1 : decode cX5_holdsAtPoints 1 = .ok (.istore_n 2, 1) := by decide +kernel
theorem dX5_holdsAtPoints_2 : decode cX5_holdsAtPoints 2 = .ok (.iload_n 2, 1) := by decide +kernel
theorem dX5_holdsAtPoints_3 : decode cX5_holdsAtPoints 3 = .ok (.aload_n 1, 1) := by decide +kernel
theorem dX5_holdsAtPoints_4 : decode cX5_holdsAtPoints 4 = .ok (.getfield 130, 3) := by decide +kernel
theorem dX5_holdsAtPoints_7 : decode cX5_holdsAtPoints 7 = .ok (.if_icmp .ge 35, 3) := by decide +kernel
theorem dX5_holdsAtPoints_10 : decode cX5_holdsAtPoints 10 = .ok (.aload_n 0, 1) := by decide +kernel
theorem dX5_holdsAtPoints_11 : decode cX5_holdsAtPoints 11 = .ok (.getfield 22, 3) := by decide +kernel
theorem dX5_holdsAtPoints_14 : decode cX5_holdsAtPoints 14 = .ok (.aload_n 0, 1) := by decide +kernel
theorem dX5_holdsAtPoints_15 : decode cX5_holdsAtPoints 15 = .ok (.getfield 64, 3) := by decide +kernel
theorem dX5_holdsAtPoints_18 : decode cX5_holdsAtPoints 18 = .ok (.aload_n 1, 1) := by decide +kernel
theorem dX5_holdsAtPoints_19 : decode cX5_holdsAtPoints 19 = .ok (.getfield 138, 3) := by decide +kernel
theorem dX5_holdsAtPoints_22 : decode cX5_holdsAtPoints 22 = .ok (.iload_n 2, 1) := by decide +kernel
theorem dX5_holdsAtPoints_23 : decode cX5_holdsAtPoints 23 = .ok (.iaload, 1) := by decide +kernel
theorem dX5_holdsAtPoints_24 : decode cX5_holdsAtPoints 24 = .ok (.aaload, 1) := by decide +kernel
theorem dX5_holdsAtPoints_25 : decode cX5_holdsAtPoints 25 = .ok (.getfield 144, 3) := by decide +kernel
theorem dX5_holdsAtPoints_28 : decode cX5_holdsAtPoints 28 = .ok (.invokestatic 248, 3) := by decide +kernel
theorem dX5_holdsAtPoints_31 : decode cX5_holdsAtPoints 31 = .ok (.ifCond .eq 5, 3) := by decide +kernel
theorem dX5_holdsAtPoints_34 : decode cX5_holdsAtPoints 34 = .ok (.iconst 0, 1) := by decide +kernel
theorem dX5_holdsAtPoints_35 : decode cX5_holdsAtPoints 35 = .ok (.ireturn, 1) := by decide +kernel
theorem dX5_holdsAtPoints_36 : decode cX5_holdsAtPoints 36 = .ok (.iinc 2 1, 3) := by decide +kernel
theorem dX5_holdsAtPoints_39 : decode cX5_holdsAtPoints 39 = .ok (.goto (-37), 3) := by decide +kernel
theorem dX5_holdsAtPoints_42 : decode cX5_holdsAtPoints 42 = .ok (.iconst 1, 1) := by decide +kernel
theorem dX5_holdsAtPoints_43 : decode cX5_holdsAtPoints 43 = .ok (.ireturn, 1) := by decide +kernel
set_option maxRecDepth 20000 in
theorem ggX5_noteEquations_X1_equationCount : GoodIn wsX5_noteEquations wsX1_equationCount := goodIn_r _ [11, 12, 13, 61, 62, 63] (by decide +kernel) (by decide +kernel)
set_option maxRecDepth 20000 in
theorem gX5_noteEquations_X1_equationCount : GoodIn wsX5_noteEquations (wsV RX5 147 RX1 yX1_equationCount wsX1_equationCount) := goodIn_app (goodIn_of _ (by decide +kernel)) ggX5_noteEquations_X1_equationCount
set_option maxRecDepth 20000 in
theorem ggX5_noteEquations_X4_freePlace : GoodIn wsX5_noteEquations wsX4_freePlace := goodIn_r _ [18, 19, 64, 65, 66] (by decide +kernel) (by decide +kernel)
set_option maxRecDepth 20000 in
theorem gX5_noteEquations_X4_freePlace : GoodIn wsX5_noteEquations (wsV RX5 156 RX4 yX4_freePlace wsX4_freePlace) := goodIn_app (goodIn_of _ (by decide +kernel)) ggX5_noteEquations_X4_freePlace
set_option maxRecDepth 20000 in
theorem ggX5_noteEquations_X4_vanishing : GoodIn wsX5_noteEquations wsX4_vanishing := goodIn_r _ [23, 19, 24, 25, 26, 27, 28, 29, 30, 31, 32, 64, 65, 66] (by decide +kernel) (by decide +kernel)
set_option maxRecDepth 20000 in
theorem gX5_noteEquations_X4_vanishing : GoodIn wsX5_noteEquations (wsV RX5 159 RX4 yX4_vanishing wsX4_vanishing) := goodIn_app (goodIn_of _ (by decide +kernel)) ggX5_noteEquations_X4_vanishing
set_option maxRecDepth 20000 in
theorem ggX5_noteEquations_X2_set : GoodIn wsX5_noteEquations wsX2_set := goodIn_r _ [37, 38, 39, 40, 26, 41, 42, 43, 44, 45, 67, 68] (by decide +kernel) (by decide +kernel)
set_option maxRecDepth 20000 in
theorem gX5_noteEquations_X2_set : GoodIn wsX5_noteEquations (wsV RX5 189 RX2 yX2_set wsX2_set) := goodIn_app (goodIn_of _ (by decide +kernel)) ggX5_noteEquations_X2_set
theorem dX5_noteEquations_0 : decode cX5_noteEquations 0 = .ok (.aload_n 0, 1) := by decide +kernel
theorem dX5_noteEquations_1 : decode cX5_noteEquations 1 = .ok (.getfield 57, 3) := by decide +kernel
theorem dX5_noteEquations_4 : decode cX5_noteEquations 4 = .ok (.iload_n 1, 1) := by decide +kernel
theorem dX5_noteEquations_5 : decode cX5_noteEquations 5 = .ok (.aaload, 1) := by decide +kernel
theorem dX5_noteEquations_6 : decode cX5_noteEquations 6 = .ok (.astore_n 2, 1) := by decide +kernel
theorem dX5_noteEquations_7 : decode cX5_noteEquations 7 = .ok (.aload_n 2, 1) := by decide +kernel
theorem dX5_noteEquations_8 : decode cX5_noteEquations 8 = .ok (.invokevirtual 147, 3) := by decide +kernel
theorem dX5_noteEquations_11 : decode cX5_noteEquations 11 = .ok (.istore_n 3, 1) := by decide +kernel
theorem dX5_noteEquations_12 : decode cX5_noteEquations 12 = .ok (.iconst 0, 1) := by decide +kernel
theorem dX5_noteEquations_13 : decode cX5_noteEquations 13 = .ok (.istore 4, 2) := by decide +kernel
theorem dX5_noteEquations_15 : decode cX5_noteEquations 15 = .ok (.iload 4, 2) := by decide +kernel
theorem dX5_noteEquations_17 : decode cX5_noteEquations 17 = .ok (.iload_n 3, 1) := by decide +kernel
theorem dX5_noteEquations_18 : decode cX5_noteEquations 18 = .ok (.if_icmp .ge 83, 3) := by decide +kernel
theorem dX5_noteEquations_21 : decode cX5_noteEquations 21 = .ok (.aload_n 2, 1) := by decide +kernel
theorem dX5_noteEquations_22 : decode cX5_noteEquations 22 = .ok (.getfield 153, 3) := by decide +kernel
theorem dX5_noteEquations_25 : decode cX5_noteEquations 25 = .ok (.iload 4, 2) := by decide +kernel
theorem dX5_noteEquations_27 : decode cX5_noteEquations 27 = .ok (.invokevirtual 156, 3) := by decide +kernel
theorem dX5_noteEquations_30 : decode cX5_noteEquations 30 = .ok (.istore 5, 2) := by decide +kernel
theorem dX5_noteEquations_32 : decode cX5_noteEquations 32 = .ok (.iconst 0, 1) := by decide +kernel
theorem dX5_noteEquations_33 : decode cX5_noteEquations 33 = .ok (.istore 6, 2) := by decide +kernel
theorem dX5_noteEquations_35 : decode cX5_noteEquations 35 = .ok (.iload 6, 2) := by decide +kernel
theorem dX5_noteEquations_37 : decode cX5_noteEquations 37 = .ok (.aload_n 0, 1) := by decide +kernel
theorem dX5_noteEquations_38 : decode cX5_noteEquations 38 = .ok (.getfield 18, 3) := by decide +kernel
theorem dX5_noteEquations_41 : decode cX5_noteEquations 41 = .ok (.if_icmp .gt 27, 3) := by decide +kernel
theorem dX5_noteEquations_44 : decode cX5_noteEquations 44 = .ok (.aload_n 0, 1) := by decide +kernel
theorem dX5_noteEquations_45 : decode cX5_noteEquations 45 = .ok (.getfield 26, 3) := by decide +kernel
theorem dX5_noteEquations_48 : decode cX5_noteEquations 48 = .ok (.iload 6, 2) := by decide +kernel
theorem dX5_noteEquations_50 : decode cX5_noteEquations 50 = .ok (.aload_n 2, 1) := by decide +kernel
theorem dX5_noteEquations_51 : decode cX5_noteEquations 51 = .ok (.getfield 153, 3) := by decide +kernel
theorem dX5_noteEquations_54 : decode cX5_noteEquations 54 = .ok (.iload 5, 2) := by decide +kernel
theorem dX5_noteEquations_56 : decode cX5_noteEquations 56 = .ok (.iload 6, 2) := by decide +kernel
theorem dX5_noteEquations_58 : decode cX5_noteEquations 58 = .ok (.invokevirtual 159, 3) := by decide +kernel
theorem dX5_noteEquations_61 : decode cX5_noteEquations 61 = .ok (.iastore, 1) := by decide +kernel
theorem dX5_noteEquations_62 : decode cX5_noteEquations 62 = .ok (.iinc 6 1, 3) := by decide +kernel
theorem dX5_noteEquations_65 : decode cX5_noteEquations 65 = .ok (.goto (-30), 3) := by decide +kernel
theorem dX5_noteEquations_68 : decode cX5_noteEquations 68 = .ok (.aload_n 0, 1) := by decide +kernel
theorem dX5_noteEquations_69 : decode cX5_noteEquations 69 = .ok (.getfield 50, 3) := by decide +kernel
theorem dX5_noteEquations_72 : decode cX5_noteEquations 72 = .ok (.aload_n 0, 1) := by decide +kernel
theorem dX5_noteEquations_73 : decode cX5_noteEquations 73 = .ok (.getfield 184, 3) := by decide +kernel
theorem dX5_noteEquations_76 : decode cX5_noteEquations 76 = .ok (.aaload, 1) := by decide +kernel
theorem dX5_noteEquations_77 : decode cX5_noteEquations 77 = .ok (.iload_n 1, 1) := by decide +kernel
theorem dX5_noteEquations_78 : decode cX5_noteEquations 78 = .ok (.aload_n 0, 1) := by decide +kernel
theorem dX5_noteEquations_79 : decode cX5_noteEquations 79 = .ok (.getfield 26, 3) := by decide +kernel
theorem dX5_noteEquations_82 : decode cX5_noteEquations 82 = .ok (.invokevirtual 189, 3) := by decide +kernel
theorem dX5_noteEquations_85 : decode cX5_noteEquations 85 = .ok (.aload_n 0, 1) := by decide +kernel
theorem dX5_noteEquations_86 : decode cX5_noteEquations 86 = .ok (.dup, 1) := by decide +kernel
theorem dX5_noteEquations_87 : decode cX5_noteEquations 87 = .ok (.getfield 184, 3) := by decide +kernel
theorem dX5_noteEquations_90 : decode cX5_noteEquations 90 = .ok (.iconst 1, 1) := by decide +kernel
theorem dX5_noteEquations_91 : decode cX5_noteEquations 91 = .ok (.iadd, 1) := by decide +kernel
theorem dX5_noteEquations_92 : decode cX5_noteEquations 92 = .ok (.putfield 184, 3) := by decide +kernel
theorem dX5_noteEquations_95 : decode cX5_noteEquations 95 = .ok (.iinc 4 1, 3) := by decide +kernel
theorem dX5_noteEquations_98 : decode cX5_noteEquations 98 = .ok (.goto (-83), 3) := by decide +kernel
theorem dX5_noteEquations_101 : decode cX5_noteEquations 101 = .ok (.return_, 1) := by decide +kernel
set_option maxRecDepth 20000 in
theorem ggX5_keepsNotes_X5_spanNotesBefore : GoodIn wsX5_keepsNotes wsX5_spanNotesBefore := goodIn_r _ [10, 11, 1, 2, 3, 12, 13, 5, 14, 15, 16, 17, 18, 19, 20, 21, 22, 23, 24, 25, 26, 27, 28, 29, 30, 31, 32, 9, 33, 34, 35, 36, 37, 38, 39, 40, 41, 42, 43, 44, 45, 46, 47, 48, 49, 50, 51, 77, 78, 79, 80, 81, 82, 83, 84, 85, 86, 87, 88, 89, 90, 91, 92, 93, 94, 95, 96, 97, 98, 99, 100, 101] (by decide +kernel) (by decide +kernel)
set_option maxRecDepth 20000 in
theorem gX5_keepsNotes_X5_spanNotesBefore : GoodIn wsX5_keepsNotes (wsV RX5 252 RX5 yX5_spanNotesBefore wsX5_spanNotesBefore) := goodIn_app (goodIn_of _ (by decide +kernel)) ggX5_keepsNotes_X5_spanNotesBefore
set_option maxRecDepth 20000 in
theorem ggX5_keepsNotes_X5_followsBefore : GoodIn wsX5_keepsNotes wsX5_followsBefore := goodIn_r _ [55, 13, 56, 11, 57, 32, 9, 33, 34, 35, 36, 37, 58, 59, 60, 61, 62, 63, 64, 65, 38, 39, 40, 66, 67, 68, 69, 70, 71, 72, 73, 74, 75, 18, 76, 28, 29, 30, 31, 26, 20, 27, 25, 41, 42, 43, 44, 92, 93, 77, 78, 79, 80, 81, 82, 83, 84, 85, 86, 87, 88, 89, 90, 91, 94, 95, 96, 97, 98, 99, 100, 101] (by decide +kernel) (by decide +kernel)
set_option maxRecDepth 20000 in
theorem gX5_keepsNotes_X5_followsBefore : GoodIn wsX5_keepsNotes (wsV RX5 256 RX5 yX5_followsBefore wsX5_followsBefore) := goodIn_app (goodIn_of _ (by decide +kernel)) ggX5_keepsNotes_X5_followsBefore
theorem dX5_keepsNotes_0 : decode cX5_keepsNotes 0 = .ok (.aload_n 0, 1) := by decide +kernel
theorem dX5_keepsNotes_1 : decode cX5_keepsNotes 1 = .ok (.aload_n 1, 1) := by decide +kernel
theorem dX5_keepsNotes_2 : decode cX5_keepsNotes 2 = .ok (.invokevirtual 252, 3) := by decide +kernel
theorem dX5_keepsNotes_5 : decode cX5_keepsNotes 5 = .ok (.iconst 0, 1) := by decide +kernel
theorem dX5_keepsNotes_6 : decode cX5_keepsNotes 6 = .ok (.istore_n 2, 1) := by decide +kernel
theorem dX5_keepsNotes_7 : decode cX5_keepsNotes 7 = .ok (.iload_n 2, 1) := by decide +kernel
theorem dX5_keepsNotes_8 : decode cX5_keepsNotes 8 = .ok (.aload_n 0, 1) := by decide +kernel
theorem dX5_keepsNotes_9 : decode cX5_keepsNotes 9 = .ok (.getfield 184, 3) := by decide +kernel
theorem dX5_keepsNotes_12 : decode cX5_keepsNotes 12 = .ok (.if_icmp .ge 62, 3) := by decide +kernel
theorem dX5_keepsNotes_15 : decode cX5_keepsNotes 15 = .ok (.aload_n 0, 1) := by decide +kernel
theorem dX5_keepsNotes_16 : decode cX5_keepsNotes 16 = .ok (.getfield 50, 3) := by decide +kernel
theorem dX5_keepsNotes_19 : decode cX5_keepsNotes 19 = .ok (.iload_n 2, 1) := by decide +kernel
theorem dX5_keepsNotes_20 : decode cX5_keepsNotes 20 = .ok (.aaload, 1) := by decide +kernel
theorem dX5_keepsNotes_21 : decode cX5_keepsNotes 21 = .ok (.astore_n 3, 1) := by decide +kernel
theorem dX5_keepsNotes_22 : decode cX5_keepsNotes 22 = .ok (.aload_n 3, 1) := by decide +kernel
theorem dX5_keepsNotes_23 : decode cX5_keepsNotes 23 = .ok (.getfield 200, 3) := by decide +kernel
theorem dX5_keepsNotes_26 : decode cX5_keepsNotes 26 = .ok (.aload_n 1, 1) := by decide +kernel
theorem dX5_keepsNotes_27 : decode cX5_keepsNotes 27 = .ok (.getfield 181, 3) := by decide +kernel
theorem dX5_keepsNotes_30 : decode cX5_keepsNotes 30 = .ok (.if_icmp .eq 6, 3) := by decide +kernel
theorem dX5_keepsNotes_33 : decode cX5_keepsNotes 33 = .ok (.goto 35, 3) := by decide +kernel
theorem dX5_keepsNotes_36 : decode cX5_keepsNotes 36 = .ok (.aload_n 0, 1) := by decide +kernel
theorem dX5_keepsNotes_37 : decode cX5_keepsNotes 37 = .ok (.aload_n 1, 1) := by decide +kernel
theorem dX5_keepsNotes_38 : decode cX5_keepsNotes 38 = .ok (.aload_n 3, 1) := by decide +kernel
theorem dX5_keepsNotes_39 : decode cX5_keepsNotes 39 = .ok (.iconst 0, 1) := by decide +kernel
theorem dX5_keepsNotes_40 : decode cX5_keepsNotes 40 = .ok (.invokevirtual 256, 3) := by decide +kernel
theorem dX5_keepsNotes_43 : decode cX5_keepsNotes 43 = .ok (.ifCond .ne 5, 3) := by decide +kernel
theorem dX5_keepsNotes_46 : decode cX5_keepsNotes 46 = .ok (.iconst 0, 1) := by decide +kernel
theorem dX5_keepsNotes_47 : decode cX5_keepsNotes 47 = .ok (.ireturn, 1) := by decide +kernel
theorem dX5_keepsNotes_48 : decode cX5_keepsNotes 48 = .ok (.aload_n 1, 1) := by decide +kernel
theorem dX5_keepsNotes_49 : decode cX5_keepsNotes 49 = .ok (.getfield 232, 3) := by decide +kernel
theorem dX5_keepsNotes_52 : decode cX5_keepsNotes 52 = .ok (.iconst 2, 1) := by decide +kernel
theorem dX5_keepsNotes_53 : decode cX5_keepsNotes 53 = .ok (.if_icmp .ne 15, 3) := by decide +kernel
theorem dX5_keepsNotes_56 : decode cX5_keepsNotes 56 = .ok (.aload_n 0, 1) := by decide +kernel
theorem dX5_keepsNotes_57 : decode cX5_keepsNotes 57 = .ok (.aload_n 1, 1) := by decide +kernel
theorem dX5_keepsNotes_58 : decode cX5_keepsNotes 58 = .ok (.aload_n 3, 1) := by decide +kernel
theorem dX5_keepsNotes_59 : decode cX5_keepsNotes 59 = .ok (.iconst 1, 1) := by decide +kernel
theorem dX5_keepsNotes_60 : decode cX5_keepsNotes 60 = .ok (.invokevirtual 256, 3) := by decide +kernel
theorem dX5_keepsNotes_63 : decode cX5_keepsNotes 63 = .ok (.ifCond .ne 5, 3) := by decide +kernel
theorem dX5_keepsNotes_66 : decode cX5_keepsNotes 66 = .ok (.iconst 0, 1) := by decide +kernel
theorem dX5_keepsNotes_67 : decode cX5_keepsNotes 67 = .ok (.ireturn, 1) := by decide +kernel
theorem dX5_keepsNotes_68 : decode cX5_keepsNotes 68 = .ok (.iinc 2 1, 3) := by decide +kernel
theorem dX5_keepsNotes_71 : decode cX5_keepsNotes 71 = .ok (.goto (-64), 3) := by decide +kernel
theorem dX5_keepsNotes_74 : decode cX5_keepsNotes 74 = .ok (.iconst 1, 1) := by decide +kernel
theorem dX5_keepsNotes_75 : decode cX5_keepsNotes 75 = .ok (.ireturn, 1) := by decide +kernel
set_option maxRecDepth 20000 in
theorem ggX5_spanNotesBefore_X4_clear : GoodIn wsX5_spanNotesBefore wsX4_clear := goodIn_r _ [13, 14, 69, 70, 71] (by decide +kernel) (by decide +kernel)
set_option maxRecDepth 20000 in
theorem gX5_spanNotesBefore_X4_clear : GoodIn wsX5_spanNotesBefore (wsV RX5 260 RX4 yX4_clear wsX4_clear) := goodIn_app (goodIn_of _ (by decide +kernel)) ggX5_spanNotesBefore_X4_clear
set_option maxRecDepth 20000 in
theorem ggX5_spanNotesBefore_X4_add : GoodIn wsX5_spanNotesBefore wsX4_add := goodIn_r _ [18, 19, 20, 14, 21, 22, 23, 24, 12, 25, 26, 27, 28, 29, 30, 31, 32, 33, 34, 35, 36, 37, 38, 39, 40, 41, 42, 43, 44, 45, 46, 69, 70, 71] (by decide +kernel) (by decide +kernel)
set_option maxRecDepth 20000 in
theorem gX5_spanNotesBefore_X4_add : GoodIn wsX5_spanNotesBefore (wsV RX5 242 RX4 yX4_add wsX4_add) := goodIn_app (goodIn_of _ (by decide +kernel)) ggX5_spanNotesBefore_X4_add
theorem dX5_spanNotesBefore_0 : decode cX5_spanNotesBefore 0 = .ok (.aload_n 0, 1) := by decide +kernel
theorem dX5_spanNotesBefore_1 : decode cX5_spanNotesBefore 1 = .ok (.getfield 37, 3) := by decide +kernel
theorem dX5_spanNotesBefore_4 : decode cX5_spanNotesBefore 4 = .ok (.invokevirtual 260, 3) := by decide +kernel
theorem dX5_spanNotesBefore_7 : decode cX5_spanNotesBefore 7 = .ok (.iconst 0, 1) := by decide +kernel
theorem dX5_spanNotesBefore_8 : decode cX5_spanNotesBefore 8 = .ok (.istore_n 2, 1) := by decide +kernel
theorem dX5_spanNotesBefore_9 : decode cX5_spanNotesBefore 9 = .ok (.iload_n 2, 1) := by decide +kernel
theorem dX5_spanNotesBefore_10 : decode cX5_spanNotesBefore 10 = .ok (.aload_n 0, 1) := by decide +kernel
theorem dX5_spanNotesBefore_11 : decode cX5_spanNotesBefore 11 = .ok (.getfield 184, 3) := by decide +kernel
theorem dX5_spanNotesBefore_14 : decode cX5_spanNotesBefore 14 = .ok (.if_icmp .ge 42, 3) := by decide +kernel
theorem dX5_spanNotesBefore_17 : decode cX5_spanNotesBefore 17 = .ok (.aload_n 0, 1) := by decide +kernel
theorem dX5_spanNotesBefore_18 : decode cX5_spanNotesBefore 18 = .ok (.getfield 50, 3) := by decide +kernel
theorem dX5_spanNotesBefore_21 : decode cX5_spanNotesBefore 21 = .ok (.iload_n 2, 1) := by decide +kernel
theorem dX5_spanNotesBefore_22 : decode cX5_spanNotesBefore 22 = .ok (.aaload, 1) := by decide +kernel
theorem dX5_spanNotesBefore_23 : decode cX5_spanNotesBefore 23 = .ok (.getfield 200, 3) := by decide +kernel
theorem dX5_spanNotesBefore_26 : decode cX5_spanNotesBefore 26 = .ok (.aload_n 1, 1) := by decide +kernel
theorem dX5_spanNotesBefore_27 : decode cX5_spanNotesBefore 27 = .ok (.getfield 168, 3) := by decide +kernel
theorem dX5_spanNotesBefore_30 : decode cX5_spanNotesBefore 30 = .ok (.if_icmp .ne 20, 3) := by decide +kernel
theorem dX5_spanNotesBefore_33 : decode cX5_spanNotesBefore 33 = .ok (.aload_n 0, 1) := by decide +kernel
theorem dX5_spanNotesBefore_34 : decode cX5_spanNotesBefore 34 = .ok (.getfield 37, 3) := by decide +kernel
theorem dX5_spanNotesBefore_37 : decode cX5_spanNotesBefore 37 = .ok (.aload_n 0, 1) := by decide +kernel
theorem dX5_spanNotesBefore_38 : decode cX5_spanNotesBefore 38 = .ok (.getfield 50, 3) := by decide +kernel
theorem dX5_spanNotesBefore_41 : decode cX5_spanNotesBefore 41 = .ok (.iload_n 2, 1) := by decide +kernel
theorem dX5_spanNotesBefore_42 : decode cX5_spanNotesBefore 42 = .ok (.aaload, 1) := by decide +kernel
theorem dX5_spanNotesBefore_43 : decode cX5_spanNotesBefore 43 = .ok (.getfield 261, 3) := by decide +kernel
theorem dX5_spanNotesBefore_46 : decode cX5_spanNotesBefore 46 = .ok (.invokevirtual 242, 3) := by decide +kernel
theorem dX5_spanNotesBefore_49 : decode cX5_spanNotesBefore 49 = .ok (.pop, 1) := by decide +kernel
theorem dX5_spanNotesBefore_50 : decode cX5_spanNotesBefore 50 = .ok (.iinc 2 1, 3) := by decide +kernel
theorem dX5_spanNotesBefore_53 : decode cX5_spanNotesBefore 53 = .ok (.goto (-44), 3) := by decide +kernel
theorem dX5_spanNotesBefore_56 : decode cX5_spanNotesBefore 56 = .ok (.aload_n 1, 1) := by decide +kernel
theorem dX5_spanNotesBefore_57 : decode cX5_spanNotesBefore 57 = .ok (.getfield 232, 3) := by decide +kernel
theorem dX5_spanNotesBefore_60 : decode cX5_spanNotesBefore 60 = .ok (.iconst 3, 1) := by decide +kernel
theorem dX5_spanNotesBefore_61 : decode cX5_spanNotesBefore 61 = .ok (.if_icmp .ne 15, 3) := by decide +kernel
theorem dX5_spanNotesBefore_64 : decode cX5_spanNotesBefore 64 = .ok (.aload_n 0, 1) := by decide +kernel
theorem dX5_spanNotesBefore_65 : decode cX5_spanNotesBefore 65 = .ok (.getfield 37, 3) := by decide +kernel
theorem dX5_spanNotesBefore_68 : decode cX5_spanNotesBefore 68 = .ok (.aload_n 1, 1) := by decide +kernel
theorem dX5_spanNotesBefore_69 : decode cX5_spanNotesBefore 69 = .ok (.getfield 264, 3) := by decide +kernel
theorem dX5_spanNotesBefore_72 : decode cX5_spanNotesBefore 72 = .ok (.invokevirtual 242, 3) := by decide +kernel
theorem dX5_spanNotesBefore_75 : decode cX5_spanNotesBefore 75 = .ok (.pop, 1) := by decide +kernel
theorem dX5_spanNotesBefore_76 : decode cX5_spanNotesBefore 76 = .ok (.return_, 1) := by decide +kernel
set_option maxRecDepth 20000 in
theorem ggX5_followsBefore_X5_copy : GoodIn wsX5_followsBefore wsX5_copy := goodIn_r _ [7, 8, 9, 10, 11] (by decide +kernel) (by decide +kernel)
set_option maxRecDepth 20000 in
theorem gX5_followsBefore_X5_copy : GoodIn wsX5_followsBefore (va_wsS RX5 235 yX5_copy wsX5_copy) := goodIn_app (goodIn_of _ (by decide +kernel)) ggX5_followsBefore_X5_copy
set_option maxRecDepth 20000 in
theorem ggX5_followsBefore_X0_stepBack : GoodIn wsX5_followsBefore wsX0_stepBack := goodIn_r _ [16, 17, 18, 19, 20, 6, 21, 22, 23, 24, 25, 26, 27, 28, 29, 64, 65, 66, 67, 68] (by decide +kernel) (by decide +kernel)
set_option maxRecDepth 20000 in
theorem gX5_followsBefore_X0_stepBack : GoodIn wsX5_followsBefore (wsV RX5 265 RX0 yX0_stepBack wsX0_stepBack) := goodIn_app (goodIn_of _ (by decide +kernel)) ggX5_followsBefore_X0_stepBack
set_option maxRecDepth 20000 in
theorem ggX5_followsBefore_X4_contains : GoodIn wsX5_followsBefore wsX4_contains := goodIn_r _ [34, 35, 36, 37, 33, 38, 39, 40, 41, 42, 5, 6, 7, 8, 9, 10, 11, 20, 21, 22, 43, 44, 45, 46, 69, 70, 71] (by decide +kernel) (by decide +kernel)
set_option maxRecDepth 20000 in
theorem gX5_followsBefore_X4_contains : GoodIn wsX5_followsBefore (wsV RX5 268 RX4 yX4_contains wsX4_contains) := goodIn_app (goodIn_of _ (by decide +kernel)) ggX5_followsBefore_X4_contains
theorem dX5_followsBefore_0 : decode cX5_followsBefore 0 = .ok (.aload_n 2, 1) := by decide +kernel
theorem dX5_followsBefore_1 : decode cX5_followsBefore 1 = .ok (.getfield 261, 3) := by decide +kernel
theorem dX5_followsBefore_4 : decode cX5_followsBefore 4 = .ok (.aload_n 0, 1) := by decide +kernel
theorem dX5_followsBefore_5 : decode cX5_followsBefore 5 = .ok (.getfield 26, 3) := by decide +kernel
theorem dX5_followsBefore_8 : decode cX5_followsBefore 8 = .ok (.invokestatic 235, 3) := by decide +kernel
theorem dX5_followsBefore_11 : decode cX5_followsBefore 11 = .ok (.aload_n 1, 1) := by decide +kernel
theorem dX5_followsBefore_12 : decode cX5_followsBefore 12 = .ok (.aload_n 0, 1) := by decide +kernel
theorem dX5_followsBefore_13 : decode cX5_followsBefore 13 = .ok (.getfield 26, 3) := by decide +kernel
theorem dX5_followsBefore_16 : decode cX5_followsBefore 16 = .ok (.iload_n 3, 1) := by decide +kernel
theorem dX5_followsBefore_17 : decode cX5_followsBefore 17 = .ok (.invokevirtual 265, 3) := by decide +kernel
theorem dX5_followsBefore_20 : decode cX5_followsBefore 20 = .ok (.aload_n 0, 1) := by decide +kernel
theorem dX5_followsBefore_21 : decode cX5_followsBefore 21 = .ok (.getfield 37, 3) := by decide +kernel
theorem dX5_followsBefore_24 : decode cX5_followsBefore 24 = .ok (.aload_n 0, 1) := by decide +kernel
theorem dX5_followsBefore_25 : decode cX5_followsBefore 25 = .ok (.getfield 26, 3) := by decide +kernel
theorem dX5_followsBefore_28 : decode cX5_followsBefore 28 = .ok (.invokevirtual 268, 3) := by decide +kernel
theorem dX5_followsBefore_31 : decode cX5_followsBefore 31 = .ok (.ireturn, 1) := by decide +kernel
set_option maxRecDepth 20000 in
theorem ggX5_number_J9_floorMod_7cf53 : GoodIn wsX5_number wsJ9_floorMod_7cf53 := goodIn_r _ [5] (by decide +kernel) (by decide +kernel)
set_option maxRecDepth 20000 in
theorem gX5_number_J9_floorMod_7cf53 : GoodIn wsX5_number (va_wsS RX5 272 yJ9_floorMod_7cf53 wsJ9_floorMod_7cf53) := goodIn_app (goodIn_of _ (by decide +kernel)) ggX5_number_J9_floorMod_7cf53
theorem dX5_number_0 : decode cX5_number 0 = .ok (.iload_n 0, 1) := by decide +kernel
theorem dX5_number_1 : decode cX5_number 1 = .ok (.ldc_w 271, 3) := by decide +kernel
theorem dX5_number_4 : decode cX5_number 4 = .ok (.invokestatic 272, 3) := by decide +kernel
theorem dX5_number_7 : decode cX5_number 7 = .ok (.ireturn, 1) := by decide +kernel
theorem dX5_valueOf_0 : decode cX5_valueOf 0 = .ok (.lconst 0, 1) := by decide +kernel
theorem dX5_valueOf_1 : decode cX5_valueOf 1 = .ok (.lstore_n 2, 1) := by decide +kernel
theorem dX5_valueOf_2 : decode cX5_valueOf 2 = .ok (.iconst 0, 1) := by decide +kernel
theorem dX5_valueOf_3 : decode cX5_valueOf 3 = .ok (.istore 4, 2) := by decide +kernel
theorem dX5_valueOf_5 : decode cX5_valueOf 5 = .ok (.iload 4, 2) := by decide +kernel
theorem dX5_valueOf_7 : decode cX5_valueOf 7 = .ok (.aload_n 0, 1) := by decide +kernel
theorem dX5_valueOf_8 : decode cX5_valueOf 8 = .ok (.arraylength, 1) := by decide +kernel
theorem dX5_valueOf_9 : decode cX5_valueOf 9 = .ok (.if_icmp .ge 23, 3) := by decide +kernel
theorem dX5_valueOf_12 : decode cX5_valueOf 12 = .ok (.lload_n 2, 1) := by decide +kernel
theorem dX5_valueOf_13 : decode cX5_valueOf 13 = .ok (.aload_n 0, 1) := by decide +kernel
theorem dX5_valueOf_14 : decode cX5_valueOf 14 = .ok (.iload 4, 2) := by decide +kernel
theorem dX5_valueOf_16 : decode cX5_valueOf 16 = .ok (.iaload, 1) := by decide +kernel
theorem dX5_valueOf_17 : decode cX5_valueOf 17 = .ok (.i2l, 1) := by decide +kernel
theorem dX5_valueOf_18 : decode cX5_valueOf 18 = .ok (.aload_n 1, 1) := by decide +kernel
theorem dX5_valueOf_19 : decode cX5_valueOf 19 = .ok (.iload 4, 2) := by decide +kernel
theorem dX5_valueOf_21 : decode cX5_valueOf 21 = .ok (.iaload, 1) := by decide +kernel
theorem dX5_valueOf_22 : decode cX5_valueOf 22 = .ok (.i2l, 1) := by decide +kernel
theorem dX5_valueOf_23 : decode cX5_valueOf 23 = .ok (.lmul, 1) := by decide +kernel
theorem dX5_valueOf_24 : decode cX5_valueOf 24 = .ok (.ladd, 1) := by decide +kernel
theorem dX5_valueOf_25 : decode cX5_valueOf 25 = .ok (.lstore_n 2, 1) := by decide +kernel
theorem dX5_valueOf_26 : decode cX5_valueOf 26 = .ok (.iinc 4 1, 3) := by decide +kernel
theorem dX5_valueOf_29 : decode cX5_valueOf 29 = .ok (.goto (-24), 3) := by decide +kernel
theorem dX5_valueOf_32 : decode cX5_valueOf 32 = .ok (.lload_n 2, 1) := by decide +kernel
theorem dX5_valueOf_33 : decode cX5_valueOf 33 = .ok (.ldc2_w 275, 3) := by decide +kernel
theorem dX5_valueOf_36 : decode cX5_valueOf 36 = .ok (.lrem, 1) := by decide +kernel
theorem dX5_valueOf_37 : decode cX5_valueOf 37 = .ok (.l2i, 1) := by decide +kernel
theorem dX5_valueOf_38 : decode cX5_valueOf 38 = .ok (.ireturn, 1) := by decide +kernel
theorem dX5_addMultiple_0 : decode cX5_addMultiple 0 = .ok (.iconst 0, 1) := by decide +kernel
theorem dX5_addMultiple_1 : decode cX5_addMultiple 1 = .ok (.istore_n 3, 1) := by decide +kernel
theorem dX5_addMultiple_2 : decode cX5_addMultiple 2 = .ok (.iload_n 3, 1) := by decide +kernel
theorem dX5_addMultiple_3 : decode cX5_addMultiple 3 = .ok (.aload_n 0, 1) := by decide +kernel
theorem dX5_addMultiple_4 : decode cX5_addMultiple 4 = .ok (.arraylength, 1) := by decide +kernel
theorem dX5_addMultiple_5 : decode cX5_addMultiple 5 = .ok (.if_icmp .ge 29, 3) := by decide +kernel
theorem dX5_addMultiple_8 : decode cX5_addMultiple 8 = .ok (.aload_n 0, 1) := by decide +kernel
theorem dX5_addMultiple_9 : decode cX5_addMultiple 9 = .ok (.iload_n 3, 1) := by decide +kernel
theorem dX5_addMultiple_10 : decode cX5_addMultiple 10 = .ok (.aload_n 0, 1) := by decide +kernel
theorem dX5_addMultiple_11 : decode cX5_addMultiple 11 = .ok (.iload_n 3, 1) := by decide +kernel
theorem dX5_addMultiple_12 : decode cX5_addMultiple 12 = .ok (.iaload, 1) := by decide +kernel
theorem dX5_addMultiple_13 : decode cX5_addMultiple 13 = .ok (.i2l, 1) := by decide +kernel
theorem dX5_addMultiple_14 : decode cX5_addMultiple 14 = .ok (.iload_n 1, 1) := by decide +kernel
theorem dX5_addMultiple_15 : decode cX5_addMultiple 15 = .ok (.i2l, 1) := by decide +kernel
theorem dX5_addMultiple_16 : decode cX5_addMultiple 16 = .ok (.aload_n 2, 1) := by decide +kernel
theorem dX5_addMultiple_17 : decode cX5_addMultiple 17 = .ok (.iload_n 3, 1) := by decide +kernel
theorem dX5_addMultiple_18 : decode cX5_addMultiple 18 = .ok (.iaload, 1) := by decide +kernel
theorem dX5_addMultiple_19 : decode cX5_addMultiple 19 = .ok (.i2l, 1) := by decide +kernel
theorem dX5_addMultiple_20 : decode cX5_addMultiple 20 = .ok (.lmul, 1) := by decide +kernel
theorem dX5_addMultiple_21 : decode cX5_addMultiple 21 = .ok (.ladd, 1) := by decide +kernel
theorem dX5_addMultiple_22 : decode cX5_addMultiple 22 = .ok (.ldc2_w 275, 3) := by decide +kernel
theorem dX5_addMultiple_25 : decode cX5_addMultiple 25 = .ok (.lrem, 1) := by decide +kernel
theorem dX5_addMultiple_26 : decode cX5_addMultiple 26 = .ok (.l2i, 1) := by decide +kernel
theorem dX5_addMultiple_27 : decode cX5_addMultiple 27 = .ok (.iastore, 1) := by decide +kernel
theorem dX5_addMultiple_28 : decode cX5_addMultiple 28 = .ok (.iinc 3 1, 3) := by decide +kernel
theorem dX5_addMultiple_31 : decode cX5_addMultiple 31 = .ok (.goto (-29), 3) := by decide +kernel
theorem dX5_addMultiple_34 : decode cX5_addMultiple 34 = .ok (.return_, 1) := by decide +kernel
theorem dX5_copy_0 : decode cX5_copy 0 = .ok (.aload_n 0, 1) := by decide +kernel
theorem dX5_copy_1 : decode cX5_copy 1 = .ok (.iconst 0, 1) := by decide +kernel
theorem dX5_copy_2 : decode cX5_copy 2 = .ok (.aload_n 1, 1) := by decide +kernel
theorem dX5_copy_3 : decode cX5_copy 3 = .ok (.iconst 0, 1) := by decide +kernel
theorem dX5_copy_4 : decode cX5_copy 4 = .ok (.aload_n 1, 1) := by decide +kernel
theorem dX5_copy_5 : decode cX5_copy 5 = .ok (.arraylength, 1) := by decide +kernel
theorem dX5_copy_6 : decode cX5_copy 6 = .ok (.invokestatic 277, 3) := by decide +kernel
theorem dX5_copy_9 : decode cX5_copy 9 = .ok (.return_, 1) := by decide +kernel
theorem dX5_inverse_0 : decode cX5_inverse 0 = .ok (.lconst 1, 1) := by decide +kernel
theorem dX5_inverse_1 : decode cX5_inverse 1 = .ok (.lstore_n 1, 1) := by decide +kernel
theorem dX5_inverse_2 : decode cX5_inverse 2 = .ok (.iload_n 0, 1) := by decide +kernel
theorem dX5_inverse_3 : decode cX5_inverse 3 = .ok (.i2l, 1) := by decide +kernel
theorem dX5_inverse_4 : decode cX5_inverse 4 = .ok (.lstore_n 3, 1) := by decide +kernel
theorem dX5_inverse_5 : decode cX5_inverse 5 = .ok (.ldc_w 283, 3) := by decide +kernel
theorem dX5_inverse_8 : decode cX5_inverse 8 = .ok (.istore 5, 2) := by decide +kernel
theorem dX5_inverse_10 : decode cX5_inverse 10 = .ok (.iload 5, 2) := by decide +kernel
theorem dX5_inverse_12 : decode cX5_inverse 12 = .ok (.ifCond .le 36, 3) := by decide +kernel
theorem dX5_inverse_15 : decode cX5_inverse 15 = .ok (.iload 5, 2) := by decide +kernel
theorem dX5_inverse_17 : decode cX5_inverse 17 = .ok (.iconst 1, 1) := by decide +kernel
theorem dX5_inverse_18 : decode cX5_inverse 18 = .ok (.iand, 1) := by decide +kernel
theorem dX5_inverse_19 : decode cX5_inverse 19 = .ok (.iconst 1, 1) := by decide +kernel
theorem dX5_inverse_20 : decode cX5_inverse 20 = .ok (.if_icmp .ne 11, 3) := by decide +kernel
theorem dX5_inverse_23 : decode cX5_inverse 23 = .ok (.lload_n 1, 1) := by decide +kernel
theorem dX5_inverse_24 : decode cX5_inverse 24 = .ok (.lload_n 3, 1) := by decide +kernel
theorem dX5_inverse_25 : decode cX5_inverse 25 = .ok (.lmul, 1) := by decide +kernel
theorem dX5_inverse_26 : decode cX5_inverse 26 = .ok (.ldc2_w 275, 3) := by decide +kernel
theorem dX5_inverse_29 : decode cX5_inverse 29 = .ok (.lrem, 1) := by decide +kernel
theorem dX5_inverse_30 : decode cX5_inverse 30 = .ok (.lstore_n 1, 1) := by decide +kernel
theorem dX5_inverse_31 : decode cX5_inverse 31 = .ok (.lload_n 3, 1) := by decide +kernel
theorem dX5_inverse_32 : decode cX5_inverse 32 = .ok (.lload_n 3, 1) := by decide +kernel
theorem dX5_inverse_33 : decode cX5_inverse 33 = .ok (.lmul, 1) := by decide +kernel
theorem dX5_inverse_34 : decode cX5_inverse 34 = .ok (.ldc2_w 275, 3) := by decide +kernel
theorem dX5_inverse_37 : decode cX5_inverse 37 = .ok (.lrem, 1) := by decide +kernel
theorem dX5_inverse_38 : decode cX5_inverse 38 = .ok (.lstore_n 3, 1) := by decide +kernel
theorem dX5_inverse_39 : decode cX5_inverse 39 = .ok (.iload 5, 2) := by decide +kernel
theorem dX5_inverse_41 : decode cX5_inverse 41 = .ok (.iconst 1, 1) := by decide +kernel
theorem dX5_inverse_42 : decode cX5_inverse 42 = .ok (.ishr, 1) := by decide +kernel
theorem dX5_inverse_43 : decode cX5_inverse 43 = .ok (.istore 5, 2) := by decide +kernel
theorem dX5_inverse_45 : decode cX5_inverse 45 = .ok (.goto (-35), 3) := by decide +kernel
theorem dX5_inverse_48 : decode cX5_inverse 48 = .ok (.lload_n 1, 1) := by decide +kernel
theorem dX5_inverse_49 : decode cX5_inverse 49 = .ok (.l2i, 1) := by decide +kernel
theorem dX5_inverse_50 : decode cX5_inverse 50 = .ok (.ireturn, 1) := by decide +kernel
theorem dX6_init_0 : decode cX6_init 0 = .ok (.aload_n 0, 1) := by decide +kernel
theorem dX6_init_1 : decode cX6_init 1 = .ok (.invokespecial 1, 3) := by decide +kernel
theorem dX6_init_4 : decode cX6_init 4 = .ok (.aload_n 0, 1) := by decide +kernel
theorem dX6_init_5 : decode cX6_init 5 = .ok (.iconst 5, 1) := by decide +kernel
theorem dX6_init_6 : decode cX6_init 6 = .ok (.newarray .int, 2) := by decide +kernel
theorem dX6_init_8 : decode cX6_init 8 = .ok (.putfield 7, 3) := by decide +kernel
theorem dX6_init_11 : decode cX6_init 11 = .ok (.aload_n 0, 1) := by decide +kernel
theorem dX6_init_12 : decode cX6_init 12 = .ok (.bipush 20, 2) := by decide +kernel
theorem dX6_init_14 : decode cX6_init 14 = .ok (.newarray .int, 2) := by decide +kernel
theorem dX6_init_16 : decode cX6_init 16 = .ok (.putfield 13, 3) := by decide +kernel
theorem dX6_init_19 : decode cX6_init 19 = .ok (.aload_n 0, 1) := by decide +kernel
theorem dX6_init_20 : decode cX6_init 20 = .ok (.bipush 20, 2) := by decide +kernel
theorem dX6_init_22 : decode cX6_init 22 = .ok (.newarray .int, 2) := by decide +kernel
theorem dX6_init_24 : decode cX6_init 24 = .ok (.putfield 16, 3) := by decide +kernel
theorem dX6_init_27 : decode cX6_init 27 = .ok (.aload_n 0, 1) := by decide +kernel
theorem dX6_init_28 : decode cX6_init 28 = .ok (.bipush 20, 2) := by decide +kernel
theorem dX6_init_30 : decode cX6_init 30 = .ok (.newarray .int, 2) := by decide +kernel
theorem dX6_init_32 : decode cX6_init 32 = .ok (.putfield 19, 3) := by decide +kernel
theorem dX6_init_35 : decode cX6_init 35 = .ok (.aload_n 0, 1) := by decide +kernel
theorem dX6_init_36 : decode cX6_init 36 = .ok (.bipush 20, 2) := by decide +kernel
theorem dX6_init_38 : decode cX6_init 38 = .ok (.newarray .int, 2) := by decide +kernel
theorem dX6_init_40 : decode cX6_init 40 = .ok (.putfield 22, 3) := by decide +kernel
theorem dX6_init_43 : decode cX6_init 43 = .ok (.aload_n 0, 1) := by decide +kernel
theorem dX6_init_44 : decode cX6_init 44 = .ok (.bipush 100, 2) := by decide +kernel
theorem dX6_init_46 : decode cX6_init 46 = .ok (.newarray .int, 2) := by decide +kernel
theorem dX6_init_48 : decode cX6_init 48 = .ok (.putfield 25, 3) := by decide +kernel
theorem dX6_init_51 : decode cX6_init 51 = .ok (.aload_n 0, 1) := by decide +kernel
theorem dX6_init_52 : decode cX6_init 52 = .ok (.bipush 8, 2) := by decide +kernel
theorem dX6_init_54 : decode cX6_init 54 = .ok (.newarray .int, 2) := by decide +kernel
theorem dX6_init_56 : decode cX6_init 56 = .ok (.putfield 28, 3) := by decide +kernel
theorem dX6_init_59 : decode cX6_init 59 = .ok (.aload_n 0, 1) := by decide +kernel
theorem dX6_init_60 : decode cX6_init 60 = .ok (.sipush 200, 3) := by decide +kernel
theorem dX6_init_63 : decode cX6_init 63 = .ok (.newarray .int, 2) := by decide +kernel
theorem dX6_init_65 : decode cX6_init 65 = .ok (.putfield 31, 3) := by decide +kernel
theorem dX6_init_68 : decode cX6_init 68 = .ok (.aload_n 0, 1) := by decide +kernel
theorem dX6_init_69 : decode cX6_init 69 = .ok (.bipush 40, 2) := by decide +kernel
theorem dX6_init_71 : decode cX6_init 71 = .ok (.newarray .int, 2) := by decide +kernel
theorem dX6_init_73 : decode cX6_init 73 = .ok (.putfield 34, 3) := by decide +kernel
theorem dX6_init_76 : decode cX6_init 76 = .ok (.aload_n 0, 1) := by decide +kernel
theorem dX6_init_77 : decode cX6_init 77 = .ok (.bipush 41, 2) := by decide +kernel
theorem dX6_init_79 : decode cX6_init 79 = .ok (.newarray .int, 2) := by decide +kernel
theorem dX6_init_81 : decode cX6_init 81 = .ok (.putfield 37, 3) := by decide +kernel
theorem dX6_init_84 : decode cX6_init 84 = .ok (.aload_n 0, 1) := by decide +kernel
theorem dX6_init_85 : decode cX6_init 85 = .ok (.bipush 41, 2) := by decide +kernel
theorem dX6_init_87 : decode cX6_init 87 = .ok (.newarray .int, 2) := by decide +kernel
theorem dX6_init_89 : decode cX6_init 89 = .ok (.putfield 40, 3) := by decide +kernel
theorem dX6_init_92 : decode cX6_init 92 = .ok (.aload_n 0, 1) := by decide +kernel
theorem dX6_init_93 : decode cX6_init 93 = .ok (.bipush 8, 2) := by decide +kernel
theorem dX6_init_95 : decode cX6_init 95 = .ok (.newarray .int, 2) := by decide +kernel
theorem dX6_init_97 : decode cX6_init 97 = .ok (.putfield 43, 3) := by decide +kernel
theorem dX6_init_100 : decode cX6_init 100 = .ok (.aload_n 0, 1) := by decide +kernel
theorem dX6_init_101 : decode cX6_init 101 = .ok (.sipush 200, 3) := by decide +kernel
theorem dX6_init_104 : decode cX6_init 104 = .ok (.newarray .int, 2) := by decide +kernel
theorem dX6_init_106 : decode cX6_init 106 = .ok (.putfield 46, 3) := by decide +kernel
theorem dX6_init_109 : decode cX6_init 109 = .ok (.aload_n 0, 1) := by decide +kernel
theorem dX6_init_110 : decode cX6_init 110 = .ok (.iconst 5, 1) := by decide +kernel
theorem dX6_init_111 : decode cX6_init 111 = .ok (.newarray .int, 2) := by decide +kernel
theorem dX6_init_113 : decode cX6_init 113 = .ok (.dup, 1) := by decide +kernel
theorem dX6_init_114 : decode cX6_init 114 = .ok (.iconst 0, 1) := by decide +kernel
theorem dX6_init_115 : decode cX6_init 115 = .ok (.iconst 1, 1) := by decide +kernel
theorem dX6_init_116 : decode cX6_init 116 = .ok (.iastore, 1) := by decide +kernel
theorem dX6_init_117 : decode cX6_init 117 = .ok (.dup, 1) := by decide +kernel
theorem dX6_init_118 : decode cX6_init 118 = .ok (.iconst 1, 1) := by decide +kernel
theorem dX6_init_119 : decode cX6_init 119 = .ok (.iconst 0, 1) := by decide +kernel
theorem dX6_init_120 : decode cX6_init 120 = .ok (.iastore, 1) := by decide +kernel
theorem dX6_init_121 : decode cX6_init 121 = .ok (.dup, 1) := by decide +kernel
theorem dX6_init_122 : decode cX6_init 122 = .ok (.iconst 2, 1) := by decide +kernel
theorem dX6_init_123 : decode cX6_init 123 = .ok (.iconst 0, 1) := by decide +kernel
theorem dX6_init_124 : decode cX6_init 124 = .ok (.iastore, 1) := by decide +kernel
theorem dX6_init_125 : decode cX6_init 125 = .ok (.dup, 1) := by decide +kernel
theorem dX6_init_126 : decode cX6_init 126 = .ok (.iconst 3, 1) := by decide +kernel
theorem dX6_init_127 : decode cX6_init 127 = .ok (.iconst 0, 1) := by decide +kernel
theorem dX6_init_128 : decode cX6_init 128 = .ok (.iastore, 1) := by decide +kernel
theorem dX6_init_129 : decode cX6_init 129 = .ok (.dup, 1) := by decide +kernel
theorem dX6_init_130 : decode cX6_init 130 = .ok (.iconst 4, 1) := by decide +kernel
theorem dX6_init_131 : decode cX6_init 131 = .ok (.iconst 0, 1) := by decide +kernel
theorem dX6_init_132 : decode cX6_init 132 = .ok (.iastore, 1) := by decide +kernel
theorem dX6_init_133 : decode cX6_init 133 = .ok (.putfield 49, 3) := by decide +kernel
theorem dX6_init_136 : decode cX6_init 136 = .ok (.aload_n 0, 1) := by decide +kernel
theorem dX6_init_137 : decode cX6_init 137 = .ok (.bipush 24, 2) := by decide +kernel
theorem dX6_init_139 : decode cX6_init 139 = .ok (.newarray .int, 2) := by decide +kernel
theorem dX6_init_141 : decode cX6_init 141 = .ok (.putfield 52, 3) := by decide +kernel
theorem dX6_init_144 : decode cX6_init 144 = .ok (.aload_n 0, 1) := by decide +kernel
theorem dX6_init_145 : decode cX6_init 145 = .ok (.bipush 120, 2) := by decide +kernel
theorem dX6_init_147 : decode cX6_init 147 = .ok (.newarray .int, 2) := by decide +kernel
theorem dX6_init_149 : decode cX6_init 149 = .ok (.putfield 55, 3) := by decide +kernel
theorem dX6_init_152 : decode cX6_init 152 = .ok (.aload_n 0, 1) := by decide +kernel
theorem dX6_init_153 : decode cX6_init 153 = .ok (.sipush 150, 3) := by decide +kernel
theorem dX6_init_156 : decode cX6_init 156 = .ok (.newarray .int, 2) := by decide +kernel
theorem dX6_init_158 : decode cX6_init 158 = .ok (.putfield 58, 3) := by decide +kernel
theorem dX6_init_161 : decode cX6_init 161 = .ok (.aload_n 0, 1) := by decide +kernel
theorem dX6_init_162 : decode cX6_init 162 = .ok (.iconst 5, 1) := by decide +kernel
theorem dX6_init_163 : decode cX6_init 163 = .ok (.newarray .int, 2) := by decide +kernel
theorem dX6_init_165 : decode cX6_init 165 = .ok (.putfield 61, 3) := by decide +kernel
theorem dX6_init_168 : decode cX6_init 168 = .ok (.aload_n 0, 1) := by decide +kernel
theorem dX6_init_169 : decode cX6_init 169 = .ok (.iconst 5, 1) := by decide +kernel
theorem dX6_init_170 : decode cX6_init 170 = .ok (.newarray .int, 2) := by decide +kernel
theorem dX6_init_172 : decode cX6_init 172 = .ok (.putfield 64, 3) := by decide +kernel
theorem dX6_init_175 : decode cX6_init 175 = .ok (.aload_n 0, 1) := by decide +kernel
theorem dX6_init_176 : decode cX6_init 176 = .ok (.iload_n 1, 1) := by decide +kernel
theorem dX6_init_177 : decode cX6_init 177 = .ok (.iconst 1, 1) := by decide +kernel
theorem dX6_init_178 : decode cX6_init 178 = .ok (.if_icmp .ge 7, 3) := by decide +kernel
theorem dX6_init_181 : decode cX6_init 181 = .ok (.iconst 1, 1) := by decide +kernel
theorem dX6_init_182 : decode cX6_init 182 = .ok (.goto 15, 3) := by decide +kernel
theorem dX6_init_185 : decode cX6_init 185 = .ok (.iload_n 1, 1) := by decide +kernel
theorem dX6_init_186 : decode cX6_init 186 = .ok (.bipush 8, 2) := by decide +kernel
theorem dX6_init_188 : decode cX6_init 188 = .ok (.if_icmp .le 8, 3) := by decide +kernel
theorem dX6_init_191 : decode cX6_init 191 = .ok (.bipush 8, 2) := by decide +kernel
theorem dX6_init_193 : decode cX6_init 193 = .ok (.goto 4, 3) := by decide +kernel
theorem dX6_init_196 : decode cX6_init 196 = .ok (.iload_n 1, 1) := by decide +kernel
theorem dX6_init_197 : decode cX6_init 197 = .ok (.putfield 67, 3) := by decide +kernel
theorem dX6_init_200 : decode cX6_init 200 = .ok (.aload_n 0, 1) := by decide +kernel
theorem dX6_init_201 : decode cX6_init 201 = .ok (.iload_n 2, 1) := by decide +kernel
theorem dX6_init_202 : decode cX6_init 202 = .ok (.iconst 1, 1) := by decide +kernel
theorem dX6_init_203 : decode cX6_init 203 = .ok (.if_icmp .ge 7, 3) := by decide +kernel
theorem dX6_init_206 : decode cX6_init 206 = .ok (.iconst 1, 1) := by decide +kernel
theorem dX6_init_207 : decode cX6_init 207 = .ok (.goto 13, 3) := by decide +kernel
theorem dX6_init_210 : decode cX6_init 210 = .ok (.iload_n 2, 1) := by decide +kernel
theorem dX6_init_211 : decode cX6_init 211 = .ok (.iconst 4, 1) := by decide +kernel
theorem dX6_init_212 : decode cX6_init 212 = .ok (.if_icmp .le 7, 3) := by decide +kernel
theorem dX6_init_215 : decode cX6_init 215 = .ok (.iconst 4, 1) := by decide +kernel
theorem dX6_init_216 : decode cX6_init 216 = .ok (.goto 4, 3) := by decide +kernel
theorem dX6_init_219 : decode cX6_init 219 = .ok (.iload_n 2, 1) := by decide +kernel
theorem dX6_init_220 : decode cX6_init 220 = .ok (.putfield 71, 3) := by decide +kernel
theorem dX6_init_223 : decode cX6_init 223 = .ok (.return_, 1) := by decide +kernel
theorem dX6_thrown_0 : decode cX6_thrown 0 = .ok (.aload_n 0, 1) := by decide +kernel
theorem dX6_thrown_1 : decode cX6_thrown 1 = .ok (.getfield 74, 3) := by decide +kernel
theorem dX6_thrown_4 : decode cX6_thrown 4 = .ok (.ireturn, 1) := by decide +kernel
theorem dX6_mod_0 : decode cX6_mod 0 = .ok (.lload_n 0, 1) := by decide +kernel
theorem dX6_mod_1 : decode cX6_mod 1 = .ok (.ldc2_w 77, 3) := by decide +kernel
theorem dX6_mod_4 : decode cX6_mod 4 = .ok (.lrem, 1) := by decide +kernel
theorem dX6_mod_5 : decode cX6_mod 5 = .ok (.lstore_n 2, 1) := by decide +kernel
theorem dX6_mod_6 : decode cX6_mod 6 = .ok (.lload_n 2, 1) := by decide +kernel
theorem dX6_mod_7 : decode cX6_mod 7 = .ok (.lconst 0, 1) := by decide +kernel
theorem dX6_mod_8 : decode cX6_mod 8 = .ok (.lcmp, 1) := by decide +kernel
theorem dX6_mod_9 : decode cX6_mod 9 = .ok (.ifCond .ge 11, 3) := by decide +kernel
theorem dX6_mod_12 : decode cX6_mod 12 = .ok (.lload_n 2, 1) := by decide +kernel
theorem dX6_mod_13 : decode cX6_mod 13 = .ok (.ldc2_w 77, 3) := by decide +kernel
theorem dX6_mod_16 : decode cX6_mod 16 = .ok (.ladd, 1) := by decide +kernel
theorem dX6_mod_17 : decode cX6_mod 17 = .ok (.goto 4, 3) := by decide +kernel
theorem dX6_mod_20 : decode cX6_mod 20 = .ok (.lload_n 2, 1) := by decide +kernel
theorem dX6_mod_21 : decode cX6_mod 21 = .ok (.l2i, 1) := by decide +kernel
theorem dX6_mod_22 : decode cX6_mod 22 = .ok (.ireturn, 1) := by decide +kernel
set_option maxRecDepth 20000 in
theorem ggX6_inverse_X6_mod : GoodIn wsX6_inverse wsX6_mod := goodIn_r _ [5, 6] (by decide +kernel) (by decide +kernel)
set_option maxRecDepth 20000 in
theorem gX6_inverse_X6_mod : GoodIn wsX6_inverse (va_wsS RX6 80 yX6_mod wsX6_mod) := goodIn_app (goodIn_of _ (by decide +kernel)) ggX6_inverse_X6_mod
theorem dX6_inverse_0 : decode cX6_inverse 0 = .ok (.lconst 1, 1) := by decide +kernel
theorem dX6_inverse_1 : decode cX6_inverse 1 = .ok (.lstore_n 1, 1) := by decide +kernel
theorem dX6_inverse_2 : decode cX6_inverse 2 = .ok (.lconst 0, 1) := by decide +kernel
theorem dX6_inverse_3 : decode cX6_inverse 3 = .ok (.lstore_n 3, 1) := by decide +kernel
theorem dX6_inverse_4 : decode cX6_inverse 4 = .ok (.iload_n 0, 1) := by decide +kernel
theorem dX6_inverse_5 : decode cX6_inverse 5 = .ok (.istore 5, 2) := by decide +kernel
theorem dX6_inverse_7 : decode cX6_inverse 7 = .ok (.ldc 79, 2) := by decide +kernel
theorem dX6_inverse_9 : decode cX6_inverse 9 = .ok (.istore 6, 2) := by decide +kernel
theorem dX6_inverse_11 : decode cX6_inverse 11 = .ok (.iload 5, 2) := by decide +kernel
theorem dX6_inverse_13 : decode cX6_inverse 13 = .ok (.iconst 1, 1) := by decide +kernel
theorem dX6_inverse_14 : decode cX6_inverse 14 = .ok (.if_icmp .eq 42, 3) := by decide +kernel
theorem dX6_inverse_17 : decode cX6_inverse 17 = .ok (.iload 6, 2) := by decide +kernel
theorem dX6_inverse_19 : decode cX6_inverse 19 = .ok (.iload 5, 2) := by decide +kernel
theorem dX6_inverse_21 : decode cX6_inverse 21 = .ok (.idiv, 1) := by decide +kernel
theorem dX6_inverse_22 : decode cX6_inverse 22 = .ok (.istore 7, 2) := by decide +kernel
theorem dX6_inverse_24 : decode cX6_inverse 24 = .ok (.iload 6, 2) := by decide +kernel
theorem dX6_inverse_26 : decode cX6_inverse 26 = .ok (.iload 5, 2) := by decide +kernel
theorem dX6_inverse_28 : decode cX6_inverse 28 = .ok (.irem, 1) := by decide +kernel
theorem dX6_inverse_29 : decode cX6_inverse 29 = .ok (.istore 8, 2) := by decide +kernel
theorem dX6_inverse_31 : decode cX6_inverse 31 = .ok (.lload_n 3, 1) := by decide +kernel
theorem dX6_inverse_32 : decode cX6_inverse 32 = .ok (.iload 7, 2) := by decide +kernel
theorem dX6_inverse_34 : decode cX6_inverse 34 = .ok (.i2l, 1) := by decide +kernel
theorem dX6_inverse_35 : decode cX6_inverse 35 = .ok (.lload_n 1, 1) := by decide +kernel
theorem dX6_inverse_36 : decode cX6_inverse 36 = .ok (.lmul, 1) := by decide +kernel
theorem dX6_inverse_37 : decode cX6_inverse 37 = .ok (.lsub, 1) := by decide +kernel
theorem dX6_inverse_38 : decode cX6_inverse 38 = .ok (.lstore 9, 2) := by decide +kernel
theorem dX6_inverse_40 : decode cX6_inverse 40 = .ok (.iload 5, 2) := by decide +kernel
theorem dX6_inverse_42 : decode cX6_inverse 42 = .ok (.istore 6, 2) := by decide +kernel
theorem dX6_inverse_44 : decode cX6_inverse 44 = .ok (.iload 8, 2) := by decide +kernel
theorem dX6_inverse_46 : decode cX6_inverse 46 = .ok (.istore 5, 2) := by decide +kernel
theorem dX6_inverse_48 : decode cX6_inverse 48 = .ok (.lload_n 1, 1) := by decide +kernel
theorem dX6_inverse_49 : decode cX6_inverse 49 = .ok (.lstore_n 3, 1) := by decide +kernel
theorem dX6_inverse_50 : decode cX6_inverse 50 = .ok (.lload 9, 2) := by decide +kernel
theorem dX6_inverse_52 : decode cX6_inverse 52 = .ok (.lstore_n 1, 1) := by decide +kernel
theorem dX6_inverse_53 : decode cX6_inverse 53 = .ok (.goto (-42), 3) := by decide +kernel
theorem dX6_inverse_56 : decode cX6_inverse 56 = .ok (.lload_n 1, 1) := by decide +kernel
theorem dX6_inverse_57 : decode cX6_inverse 57 = .ok (.invokestatic 80, 3) := by decide +kernel
theorem dX6_inverse_60 : decode cX6_inverse 60 = .ok (.ireturn, 1) := by decide +kernel
theorem dX6_put_0 : decode cX6_put 0 = .ok (.aload_n 0, 1) := by decide +kernel
theorem dX6_put_1 : decode cX6_put 1 = .ok (.getfield 58, 3) := by decide +kernel
theorem dX6_put_4 : decode cX6_put 4 = .ok (.iconst 5, 1) := by decide +kernel
theorem dX6_put_5 : decode cX6_put 5 = .ok (.aload_n 0, 1) := by decide +kernel
theorem dX6_put_6 : decode cX6_put 6 = .ok (.getfield 84, 3) := by decide +kernel
theorem dX6_put_9 : decode cX6_put 9 = .ok (.imul, 1) := by decide +kernel
theorem dX6_put_10 : decode cX6_put 10 = .ok (.iload_n 1, 1) := by decide +kernel
theorem dX6_put_11 : decode cX6_put 11 = .ok (.iadd, 1) := by decide +kernel
theorem dX6_put_12 : decode cX6_put 12 = .ok (.iload_n 2, 1) := by decide +kernel
theorem dX6_put_13 : decode cX6_put 13 = .ok (.iastore, 1) := by decide +kernel
theorem dX6_put_14 : decode cX6_put 14 = .ok (.return_, 1) := by decide +kernel
set_option maxRecDepth 20000 in
theorem ggX6_minus_X6_mod : GoodIn wsX6_minus wsX6_mod := goodIn_r _ [5, 6] (by decide +kernel) (by decide +kernel)
set_option maxRecDepth 20000 in
theorem gX6_minus_X6_mod : GoodIn wsX6_minus (va_wsS RX6 80 yX6_mod wsX6_mod) := goodIn_app (goodIn_of _ (by decide +kernel)) ggX6_minus_X6_mod
theorem dX6_minus_0 : decode cX6_minus 0 = .ok (.iconst 0, 1) := by decide +kernel
theorem dX6_minus_1 : decode cX6_minus 1 = .ok (.istore 4, 2) := by decide +kernel
theorem dX6_minus_3 : decode cX6_minus 3 = .ok (.iload 4, 2) := by decide +kernel
theorem dX6_minus_5 : decode cX6_minus 5 = .ok (.iconst 5, 1) := by decide +kernel
theorem dX6_minus_6 : decode cX6_minus 6 = .ok (.if_icmp .ge 51, 3) := by decide +kernel
theorem dX6_minus_9 : decode cX6_minus 9 = .ok (.aload_n 0, 1) := by decide +kernel
theorem dX6_minus_10 : decode cX6_minus 10 = .ok (.getfield 58, 3) := by decide +kernel
theorem dX6_minus_13 : decode cX6_minus 13 = .ok (.iconst 5, 1) := by decide +kernel
theorem dX6_minus_14 : decode cX6_minus 14 = .ok (.iload_n 1, 1) := by decide +kernel
theorem dX6_minus_15 : decode cX6_minus 15 = .ok (.imul, 1) := by decide +kernel
theorem dX6_minus_16 : decode cX6_minus 16 = .ok (.iload 4, 2) := by decide +kernel
theorem dX6_minus_18 : decode cX6_minus 18 = .ok (.iadd, 1) := by decide +kernel
theorem dX6_minus_19 : decode cX6_minus 19 = .ok (.aload_n 0, 1) := by decide +kernel
theorem dX6_minus_20 : decode cX6_minus 20 = .ok (.getfield 58, 3) := by decide +kernel
theorem dX6_minus_23 : decode cX6_minus 23 = .ok (.iconst 5, 1) := by decide +kernel
theorem dX6_minus_24 : decode cX6_minus 24 = .ok (.iload_n 1, 1) := by decide +kernel
theorem dX6_minus_25 : decode cX6_minus 25 = .ok (.imul, 1) := by decide +kernel
theorem dX6_minus_26 : decode cX6_minus 26 = .ok (.iload 4, 2) := by decide +kernel
theorem dX6_minus_28 : decode cX6_minus 28 = .ok (.iadd, 1) := by decide +kernel
theorem dX6_minus_29 : decode cX6_minus 29 = .ok (.iaload, 1) := by decide +kernel
theorem dX6_minus_30 : decode cX6_minus 30 = .ok (.i2l, 1) := by decide +kernel
theorem dX6_minus_31 : decode cX6_minus 31 = .ok (.iload_n 3, 1) := by decide +kernel
theorem dX6_minus_32 : decode cX6_minus 32 = .ok (.i2l, 1) := by decide +kernel
theorem dX6_minus_33 : decode cX6_minus 33 = .ok (.aload_n 0, 1) := by decide +kernel
theorem dX6_minus_34 : decode cX6_minus 34 = .ok (.getfield 58, 3) := by decide +kernel
theorem dX6_minus_37 : decode cX6_minus 37 = .ok (.iconst 5, 1) := by decide +kernel
theorem dX6_minus_38 : decode cX6_minus 38 = .ok (.iload_n 2, 1) := by decide +kernel
theorem dX6_minus_39 : decode cX6_minus 39 = .ok (.imul, 1) := by decide +kernel
theorem dX6_minus_40 : decode cX6_minus 40 = .ok (.iload 4, 2) := by decide +kernel
theorem dX6_minus_42 : decode cX6_minus 42 = .ok (.iadd, 1) := by decide +kernel
theorem dX6_minus_43 : decode cX6_minus 43 = .ok (.iaload, 1) := by decide +kernel
theorem dX6_minus_44 : decode cX6_minus 44 = .ok (.i2l, 1) := by decide +kernel
theorem dX6_minus_45 : decode cX6_minus 45 = .ok (.lmul, 1) := by decide +kernel
theorem dX6_minus_46 : decode cX6_minus 46 = .ok (.lsub, 1) := by decide +kernel
theorem dX6_minus_47 : decode cX6_minus 47 = .ok (.invokestatic 80, 3) := by decide +kernel
theorem dX6_minus_50 : decode cX6_minus 50 = .ok (.iastore, 1) := by decide +kernel
theorem dX6_minus_51 : decode cX6_minus 51 = .ok (.iinc 4 1, 3) := by decide +kernel
theorem dX6_minus_54 : decode cX6_minus 54 = .ok (.goto (-51), 3) := by decide +kernel
theorem dX6_minus_57 : decode cX6_minus 57 = .ok (.return_, 1) := by decide +kernel
theorem dX6_exchange_0 : decode cX6_exchange 0 = .ok (.iconst 0, 1) := by decide +kernel
theorem dX6_exchange_1 : decode cX6_exchange 1 = .ok (.istore_n 3, 1) := by decide +kernel
theorem dX6_exchange_2 : decode cX6_exchange 2 = .ok (.iload_n 3, 1) := by decide +kernel
theorem dX6_exchange_3 : decode cX6_exchange 3 = .ok (.iconst 5, 1) := by decide +kernel
theorem dX6_exchange_4 : decode cX6_exchange 4 = .ok (.if_icmp .ge 53, 3) := by decide +kernel
theorem dX6_exchange_7 : decode cX6_exchange 7 = .ok (.aload_n 0, 1) := by decide +kernel
theorem dX6_exchange_8 : decode cX6_exchange 8 = .ok (.getfield 58, 3) := by decide +kernel
theorem dX6_exchange_11 : decode cX6_exchange 11 = .ok (.iconst 5, 1) := by decide +kernel
theorem dX6_exchange_12 : decode cX6_exchange 12 = .ok (.iload_n 1, 1) := by decide +kernel
theorem dX6_exchange_13 : decode cX6_exchange 13 = .ok (.imul, 1) := by decide +kernel
theorem dX6_exchange_14 : decode cX6_exchange 14 = .ok (.iload_n 3, 1) := by decide +kernel
theorem dX6_exchange_15 : decode cX6_exchange 15 = .ok (.iadd, 1) := by decide +kernel
theorem dX6_exchange_16 : decode cX6_exchange 16 = .ok (.iaload, 1) := by decide +kernel
theorem dX6_exchange_17 : decode cX6_exchange 17 = .ok (.istore 4, 2) := by decide +kernel
theorem dX6_exchange_19 : decode cX6_exchange 19 = .ok (.aload_n 0, 1) := by decide +kernel
theorem dX6_exchange_20 : decode cX6_exchange 20 = .ok (.getfield 58, 3) := by decide +kernel
theorem dX6_exchange_23 : decode cX6_exchange 23 = .ok (.iconst 5, 1) := by decide +kernel
theorem dX6_exchange_24 : decode cX6_exchange 24 = .ok (.iload_n 1, 1) := by decide +kernel
theorem dX6_exchange_25 : decode cX6_exchange 25 = .ok (.imul, 1) := by decide +kernel
theorem dX6_exchange_26 : decode cX6_exchange 26 = .ok (.iload_n 3, 1) := by decide +kernel
theorem dX6_exchange_27 : decode cX6_exchange 27 = .ok (.iadd, 1) := by decide +kernel
theorem dX6_exchange_28 : decode cX6_exchange 28 = .ok (.aload_n 0, 1) := by decide +kernel
theorem dX6_exchange_29 : decode cX6_exchange 29 = .ok (.getfield 58, 3) := by decide +kernel
theorem dX6_exchange_32 : decode cX6_exchange 32 = .ok (.iconst 5, 1) := by decide +kernel
theorem dX6_exchange_33 : decode cX6_exchange 33 = .ok (.iload_n 2, 1) := by decide +kernel
theorem dX6_exchange_34 : decode cX6_exchange 34 = .ok (.imul, 1) := by decide +kernel
theorem dX6_exchange_35 : decode cX6_exchange 35 = .ok (.iload_n 3, 1) := by decide +kernel
theorem dX6_exchange_36 : decode cX6_exchange 36 = .ok (.iadd, 1) := by decide +kernel
theorem dX6_exchange_37 : decode cX6_exchange 37 = .ok (.iaload, 1) := by decide +kernel
theorem dX6_exchange_38 : decode cX6_exchange 38 = .ok (.iastore, 1) := by decide +kernel
theorem dX6_exchange_39 : decode cX6_exchange 39 = .ok (.aload_n 0, 1) := by decide +kernel
theorem dX6_exchange_40 : decode cX6_exchange 40 = .ok (.getfield 58, 3) := by decide +kernel
theorem dX6_exchange_43 : decode cX6_exchange 43 = .ok (.iconst 5, 1) := by decide +kernel
theorem dX6_exchange_44 : decode cX6_exchange 44 = .ok (.iload_n 2, 1) := by decide +kernel
theorem dX6_exchange_45 : decode cX6_exchange 45 = .ok (.imul, 1) := by decide +kernel
theorem dX6_exchange_46 : decode cX6_exchange 46 = .ok (.iload_n 3, 1) := by decide +kernel
theorem dX6_exchange_47 : decode cX6_exchange 47 = .ok (.iadd, 1) := by decide +kernel
theorem dX6_exchange_48 : decode cX6_exchange 48 = .ok (.iload 4, 2) := by decide +kernel
theorem dX6_exchange_50 : decode cX6_exchange 50 = .ok (.iastore, 1) := by decide +kernel
theorem dX6_exchange_51 : decode cX6_exchange 51 = .ok (.iinc 3 1, 3) := by decide +kernel
theorem dX6_exchange_54 : decode cX6_exchange 54 = .ok (.goto (-52), 3) := by decide +kernel
theorem dX6_exchange_57 : decode cX6_exchange 57 = .ok (.return_, 1) := by decide +kernel
set_option maxRecDepth 20000 in
theorem ggX6_rank_X6_exchange : GoodIn wsX6_rank wsX6_exchange := goodIn_r _ [9, 4, 22, 23, 24, 25, 26, 27, 28, 29, 30, 31, 32, 33, 34, 35, 36, 37, 38, 39, 40, 41, 42, 43, 44, 45, 46, 47, 48, 49, 50] (by decide +kernel) (by decide +kernel)
set_option maxRecDepth 20000 in
theorem gX6_rank_X6_exchange : GoodIn wsX6_rank (wsV RX6 87 RX6 yX6_exchange wsX6_exchange) := goodIn_app (goodIn_of _ (by decide +kernel)) ggX6_rank_X6_exchange
set_option maxRecDepth 20000 in
theorem ggX6_rank_X6_inverse : GoodIn wsX6_rank wsX6_inverse := goodIn_r _ [12, 13, 14, 15, 8, 16, 17] (by decide +kernel) (by decide +kernel)
set_option maxRecDepth 20000 in
theorem gX6_rank_X6_inverse : GoodIn wsX6_rank (va_wsS RX6 91 yX6_inverse wsX6_inverse) := goodIn_app (goodIn_of _ (by decide +kernel)) ggX6_rank_X6_inverse
set_option maxRecDepth 20000 in
theorem ggX6_rank_X6_mod : GoodIn wsX6_rank wsX6_mod := goodIn_r _ [16, 17] (by decide +kernel) (by decide +kernel)
set_option maxRecDepth 20000 in
theorem gX6_rank_X6_mod : GoodIn wsX6_rank (va_wsS RX6 80 yX6_mod wsX6_mod) := goodIn_app (goodIn_of _ (by decide +kernel)) ggX6_rank_X6_mod
set_option maxRecDepth 20000 in
theorem ggX6_rank_X6_minus : GoodIn wsX6_rank wsX6_minus := goodIn_r _ [21, 4, 14, 15, 8, 16, 17, 22, 23, 24, 25, 26, 27, 28, 29, 30, 31, 32, 33, 34, 35, 36, 37, 38, 39, 40, 41, 42, 43, 44, 45, 46, 47, 48, 49, 50] (by decide +kernel) (by decide +kernel)
set_option maxRecDepth 20000 in
theorem gX6_rank_X6_minus : GoodIn wsX6_rank (wsV RX6 95 RX6 yX6_minus wsX6_minus) := goodIn_app (goodIn_of _ (by decide +kernel)) ggX6_rank_X6_minus
theorem dX6_rank_0 : decode cX6_rank 0 = .ok (.iconst 0, 1) := by decide +kernel
theorem dX6_rank_1 : decode cX6_rank 1 = .ok (.istore_n 1, 1) := by decide +kernel
theorem dX6_rank_2 : decode cX6_rank 2 = .ok (.iconst 0, 1) := by decide +kernel
theorem dX6_rank_3 : decode cX6_rank 3 = .ok (.istore_n 2, 1) := by decide +kernel
theorem dX6_rank_4 : decode cX6_rank 4 = .ok (.iload_n 2, 1) := by decide +kernel
theorem dX6_rank_5 : decode cX6_rank 5 = .ok (.aload_n 0, 1) := by decide +kernel
theorem dX6_rank_6 : decode cX6_rank 6 = .ok (.getfield 71, 3) := by decide +kernel
theorem dX6_rank_9 : decode cX6_rank 9 = .ok (.if_icmp .gt 193, 3) := by decide +kernel
theorem dX6_rank_12 : decode cX6_rank 12 = .ok (.iload_n 2, 1) := by decide +kernel
theorem dX6_rank_13 : decode cX6_rank 13 = .ok (.ifCond .ne 7, 3) := by decide +kernel
theorem dX6_rank_16 : decode cX6_rank 16 = .ok (.iconst 0, 1) := by decide +kernel
theorem dX6_rank_17 : decode cX6_rank 17 = .ok (.goto 11, 3) := by decide +kernel
theorem dX6_rank_20 : decode cX6_rank 20 = .ok (.aload_n 0, 1) := by decide +kernel
theorem dX6_rank_21 : decode cX6_rank 21 = .ok (.getfield 71, 3) := by decide +kernel
theorem dX6_rank_24 : decode cX6_rank 24 = .ok (.iconst 1, 1) := by decide +kernel
theorem dX6_rank_25 : decode cX6_rank 25 = .ok (.iadd, 1) := by decide +kernel
theorem dX6_rank_26 : decode cX6_rank 26 = .ok (.iload_n 2, 1) := by decide +kernel
theorem dX6_rank_27 : decode cX6_rank 27 = .ok (.isub, 1) := by decide +kernel
theorem dX6_rank_28 : decode cX6_rank 28 = .ok (.istore_n 3, 1) := by decide +kernel
theorem dX6_rank_29 : decode cX6_rank 29 = .ok (.aload_n 0, 1) := by decide +kernel
theorem dX6_rank_30 : decode cX6_rank 30 = .ok (.getfield 61, 3) := by decide +kernel
theorem dX6_rank_33 : decode cX6_rank 33 = .ok (.iload_n 3, 1) := by decide +kernel
theorem dX6_rank_34 : decode cX6_rank 34 = .ok (.iconst (-1), 1) := by decide +kernel
theorem dX6_rank_35 : decode cX6_rank 35 = .ok (.iastore, 1) := by decide +kernel
theorem dX6_rank_36 : decode cX6_rank 36 = .ok (.iload_n 1, 1) := by decide +kernel
theorem dX6_rank_37 : decode cX6_rank 37 = .ok (.istore 4, 2) := by decide +kernel
theorem dX6_rank_39 : decode cX6_rank 39 = .ok (.iload 4, 2) := by decide +kernel
theorem dX6_rank_41 : decode cX6_rank 41 = .ok (.aload_n 0, 1) := by decide +kernel
theorem dX6_rank_42 : decode cX6_rank 42 = .ok (.getfield 84, 3) := by decide +kernel
theorem dX6_rank_45 : decode cX6_rank 45 = .ok (.if_icmp .ge 23, 3) := by decide +kernel
theorem dX6_rank_48 : decode cX6_rank 48 = .ok (.aload_n 0, 1) := by decide +kernel
theorem dX6_rank_49 : decode cX6_rank 49 = .ok (.getfield 58, 3) := by decide +kernel
theorem dX6_rank_52 : decode cX6_rank 52 = .ok (.iconst 5, 1) := by decide +kernel
end
section
theorem dX6_rank_53 : decode cX6_rank 53 = .ok (.iload 4, 2) := by decide +kernel
theorem dX6_rank_55 : decode cX6_rank 55 = .ok (.imul, 1) := by decide +kernel
theorem dX6_rank_56 : decode cX6_rank 56 = .ok (.iload_n 3, 1) := by decide +kernel
theorem dX6_rank_57 : decode cX6_rank 57 = .ok (.iadd, 1) := by decide +kernel
theorem dX6_rank_58 : decode cX6_rank 58 = .ok (.iaload, 1) := by decide +kernel
theorem dX6_rank_59 : decode cX6_rank 59 = .ok (.ifCond .ne 9, 3) := by decide +kernel
theorem dX6_rank_62 : decode cX6_rank 62 = .ok (.iinc 4 1, 3) := by decide +kernel
theorem dX6_rank_65 : decode cX6_rank 65 = .ok (.goto (-26), 3) := by decide +kernel
theorem dX6_rank_68 : decode cX6_rank 68 = .ok (.iload 4, 2) := by decide +kernel
theorem dX6_rank_70 : decode cX6_rank 70 = .ok (.aload_n 0, 1) := by decide +kernel
theorem dX6_rank_71 : decode cX6_rank 71 = .ok (.getfield 84, 3) := by decide +kernel
theorem dX6_rank_74 : decode cX6_rank 74 = .ok (.if_icmp .ge 122, 3) := by decide +kernel
theorem dX6_rank_77 : decode cX6_rank 77 = .ok (.aload_n 0, 1) := by decide +kernel
theorem dX6_rank_78 : decode cX6_rank 78 = .ok (.iload 4, 2) := by decide +kernel
theorem dX6_rank_80 : decode cX6_rank 80 = .ok (.iload_n 1, 1) := by decide +kernel
theorem dX6_rank_81 : decode cX6_rank 81 = .ok (.invokevirtual 87, 3) := by decide +kernel
theorem dX6_rank_84 : decode cX6_rank 84 = .ok (.aload_n 0, 1) := by decide +kernel
theorem dX6_rank_85 : decode cX6_rank 85 = .ok (.getfield 58, 3) := by decide +kernel
theorem dX6_rank_88 : decode cX6_rank 88 = .ok (.iconst 5, 1) := by decide +kernel
theorem dX6_rank_89 : decode cX6_rank 89 = .ok (.iload_n 1, 1) := by decide +kernel
theorem dX6_rank_90 : decode cX6_rank 90 = .ok (.imul, 1) := by decide +kernel
theorem dX6_rank_91 : decode cX6_rank 91 = .ok (.iload_n 3, 1) := by decide +kernel
theorem dX6_rank_92 : decode cX6_rank 92 = .ok (.iadd, 1) := by decide +kernel
theorem dX6_rank_93 : decode cX6_rank 93 = .ok (.iaload, 1) := by decide +kernel
theorem dX6_rank_94 : decode cX6_rank 94 = .ok (.invokestatic 91, 3) := by decide +kernel
theorem dX6_rank_97 : decode cX6_rank 97 = .ok (.istore 5, 2) := by decide +kernel
theorem dX6_rank_99 : decode cX6_rank 99 = .ok (.iconst 0, 1) := by decide +kernel
theorem dX6_rank_100 : decode cX6_rank 100 = .ok (.istore 6, 2) := by decide +kernel
theorem dX6_rank_102 : decode cX6_rank 102 = .ok (.iload 6, 2) := by decide +kernel
theorem dX6_rank_104 : decode cX6_rank 104 = .ok (.iconst 5, 1) := by decide +kernel
theorem dX6_rank_105 : decode cX6_rank 105 = .ok (.if_icmp .ge 39, 3) := by decide +kernel
theorem dX6_rank_108 : decode cX6_rank 108 = .ok (.aload_n 0, 1) := by decide +kernel
theorem dX6_rank_109 : decode cX6_rank 109 = .ok (.getfield 58, 3) := by decide +kernel
theorem dX6_rank_112 : decode cX6_rank 112 = .ok (.iconst 5, 1) := by decide +kernel
theorem dX6_rank_113 : decode cX6_rank 113 = .ok (.iload_n 1, 1) := by decide +kernel
theorem dX6_rank_114 : decode cX6_rank 114 = .ok (.imul, 1) := by decide +kernel
theorem dX6_rank_115 : decode cX6_rank 115 = .ok (.iload 6, 2) := by decide +kernel
theorem dX6_rank_117 : decode cX6_rank 117 = .ok (.iadd, 1) := by decide +kernel
theorem dX6_rank_118 : decode cX6_rank 118 = .ok (.iload 5, 2) := by decide +kernel
theorem dX6_rank_120 : decode cX6_rank 120 = .ok (.i2l, 1) := by decide +kernel
theorem dX6_rank_121 : decode cX6_rank 121 = .ok (.aload_n 0, 1) := by decide +kernel
theorem dX6_rank_122 : decode cX6_rank 122 = .ok (.getfield 58, 3) := by decide +kernel
theorem dX6_rank_125 : decode cX6_rank 125 = .ok (.iconst 5, 1) := by decide +kernel
theorem dX6_rank_126 : decode cX6_rank 126 = .ok (.iload_n 1, 1) := by decide +kernel
theorem dX6_rank_127 : decode cX6_rank 127 = .ok (.imul, 1) := by decide +kernel
theorem dX6_rank_128 : decode cX6_rank 128 = .ok (.iload 6, 2) := by decide +kernel
theorem dX6_rank_130 : decode cX6_rank 130 = .ok (.iadd, 1) := by decide +kernel
theorem dX6_rank_131 : decode cX6_rank 131 = .ok (.iaload, 1) := by decide +kernel
theorem dX6_rank_132 : decode cX6_rank 132 = .ok (.i2l, 1) := by decide +kernel
theorem dX6_rank_133 : decode cX6_rank 133 = .ok (.lmul, 1) := by decide +kernel
theorem dX6_rank_134 : decode cX6_rank 134 = .ok (.invokestatic 80, 3) := by decide +kernel
theorem dX6_rank_137 : decode cX6_rank 137 = .ok (.iastore, 1) := by decide +kernel
theorem dX6_rank_138 : decode cX6_rank 138 = .ok (.iinc 6 1, 3) := by decide +kernel
theorem dX6_rank_141 : decode cX6_rank 141 = .ok (.goto (-39), 3) := by decide +kernel
theorem dX6_rank_144 : decode cX6_rank 144 = .ok (.iconst 0, 1) := by decide +kernel
theorem dX6_rank_145 : decode cX6_rank 145 = .ok (.istore 6, 2) := by decide +kernel
theorem dX6_rank_147 : decode cX6_rank 147 = .ok (.iload 6, 2) := by decide +kernel
theorem dX6_rank_149 : decode cX6_rank 149 = .ok (.aload_n 0, 1) := by decide +kernel
theorem dX6_rank_150 : decode cX6_rank 150 = .ok (.getfield 84, 3) := by decide +kernel
theorem dX6_rank_153 : decode cX6_rank 153 = .ok (.if_icmp .ge 33, 3) := by decide +kernel
theorem dX6_rank_156 : decode cX6_rank 156 = .ok (.iload 6, 2) := by decide +kernel
theorem dX6_rank_158 : decode cX6_rank 158 = .ok (.iload_n 1, 1) := by decide +kernel
theorem dX6_rank_159 : decode cX6_rank 159 = .ok (.if_icmp .eq 21, 3) := by decide +kernel
theorem dX6_rank_162 : decode cX6_rank 162 = .ok (.aload_n 0, 1) := by decide +kernel
theorem dX6_rank_163 : decode cX6_rank 163 = .ok (.iload 6, 2) := by decide +kernel
theorem dX6_rank_165 : decode cX6_rank 165 = .ok (.iload_n 1, 1) := by decide +kernel
theorem dX6_rank_166 : decode cX6_rank 166 = .ok (.aload_n 0, 1) := by decide +kernel
theorem dX6_rank_167 : decode cX6_rank 167 = .ok (.getfield 58, 3) := by decide +kernel
theorem dX6_rank_170 : decode cX6_rank 170 = .ok (.iconst 5, 1) := by decide +kernel
theorem dX6_rank_171 : decode cX6_rank 171 = .ok (.iload 6, 2) := by decide +kernel
theorem dX6_rank_173 : decode cX6_rank 173 = .ok (.imul, 1) := by decide +kernel
theorem dX6_rank_174 : decode cX6_rank 174 = .ok (.iload_n 3, 1) := by decide +kernel
theorem dX6_rank_175 : decode cX6_rank 175 = .ok (.iadd, 1) := by decide +kernel
theorem dX6_rank_176 : decode cX6_rank 176 = .ok (.iaload, 1) := by decide +kernel
theorem dX6_rank_177 : decode cX6_rank 177 = .ok (.invokevirtual 95, 3) := by decide +kernel
theorem dX6_rank_180 : decode cX6_rank 180 = .ok (.iinc 6 1, 3) := by decide +kernel
theorem dX6_rank_183 : decode cX6_rank 183 = .ok (.goto (-36), 3) := by decide +kernel
theorem dX6_rank_186 : decode cX6_rank 186 = .ok (.aload_n 0, 1) := by decide +kernel
theorem dX6_rank_187 : decode cX6_rank 187 = .ok (.getfield 61, 3) := by decide +kernel
theorem dX6_rank_190 : decode cX6_rank 190 = .ok (.iload_n 3, 1) := by decide +kernel
theorem dX6_rank_191 : decode cX6_rank 191 = .ok (.iload_n 1, 1) := by decide +kernel
theorem dX6_rank_192 : decode cX6_rank 192 = .ok (.iastore, 1) := by decide +kernel
theorem dX6_rank_193 : decode cX6_rank 193 = .ok (.iinc 1 1, 3) := by decide +kernel
theorem dX6_rank_196 : decode cX6_rank 196 = .ok (.iinc 2 1, 3) := by decide +kernel
theorem dX6_rank_199 : decode cX6_rank 199 = .ok (.goto (-195), 3) := by decide +kernel
theorem dX6_rank_202 : decode cX6_rank 202 = .ok (.iload_n 1, 1) := by decide +kernel
theorem dX6_rank_203 : decode cX6_rank 203 = .ok (.ireturn, 1) := by decide +kernel
theorem dX6_isNode_0 : decode cX6_isNode 0 = .ok (.iload_n 1, 1) := by decide +kernel
theorem dX6_isNode_1 : decode cX6_isNode 1 = .ok (.ifCond .lt 15, 3) := by decide +kernel
theorem dX6_isNode_4 : decode cX6_isNode 4 = .ok (.iload_n 1, 1) := by decide +kernel
theorem dX6_isNode_5 : decode cX6_isNode 5 = .ok (.aload_n 0, 1) := by decide +kernel
theorem dX6_isNode_6 : decode cX6_isNode 6 = .ok (.getfield 67, 3) := by decide +kernel
theorem dX6_isNode_9 : decode cX6_isNode 9 = .ok (.if_icmp .ge 7, 3) := by decide +kernel
theorem dX6_isNode_12 : decode cX6_isNode 12 = .ok (.iconst 1, 1) := by decide +kernel
theorem dX6_isNode_13 : decode cX6_isNode 13 = .ok (.goto 4, 3) := by decide +kernel
theorem dX6_isNode_16 : decode cX6_isNode 16 = .ok (.iconst 0, 1) := by decide +kernel
theorem dX6_isNode_17 : decode cX6_isNode 17 = .ok (.ireturn, 1) := by decide +kernel
theorem dX6_clearDraft_0 : decode cX6_clearDraft 0 = .ok (.iconst 0, 1) := by decide +kernel
theorem dX6_clearDraft_1 : decode cX6_clearDraft 1 = .ok (.istore_n 1, 1) := by decide +kernel
theorem dX6_clearDraft_2 : decode cX6_clearDraft 2 = .ok (.iload_n 1, 1) := by decide +kernel
theorem dX6_clearDraft_3 : decode cX6_clearDraft 3 = .ok (.iconst 5, 1) := by decide +kernel
theorem dX6_clearDraft_4 : decode cX6_clearDraft 4 = .ok (.if_icmp .ge 16, 3) := by decide +kernel
theorem dX6_clearDraft_7 : decode cX6_clearDraft 7 = .ok (.aload_n 0, 1) := by decide +kernel
theorem dX6_clearDraft_8 : decode cX6_clearDraft 8 = .ok (.getfield 7, 3) := by decide +kernel
theorem dX6_clearDraft_11 : decode cX6_clearDraft 11 = .ok (.iload_n 1, 1) := by decide +kernel
theorem dX6_clearDraft_12 : decode cX6_clearDraft 12 = .ok (.iconst 0, 1) := by decide +kernel
theorem dX6_clearDraft_13 : decode cX6_clearDraft 13 = .ok (.iastore, 1) := by decide +kernel
theorem dX6_clearDraft_14 : decode cX6_clearDraft 14 = .ok (.iinc 1 1, 3) := by decide +kernel
theorem dX6_clearDraft_17 : decode cX6_clearDraft 17 = .ok (.goto (-15), 3) := by decide +kernel
theorem dX6_clearDraft_20 : decode cX6_clearDraft 20 = .ok (.return_, 1) := by decide +kernel
set_option maxRecDepth 20000 in
theorem ggX6_term_X6_mod : GoodIn wsX6_term wsX6_mod := goodIn_r _ [7, 8] (by decide +kernel) (by decide +kernel)
set_option maxRecDepth 20000 in
theorem gX6_term_X6_mod : GoodIn wsX6_term (va_wsS RX6 80 yX6_mod wsX6_mod) := goodIn_app (goodIn_of _ (by decide +kernel)) ggX6_term_X6_mod
theorem dX6_term_0 : decode cX6_term 0 = .ok (.aload_n 0, 1) := by decide +kernel
theorem dX6_term_1 : decode cX6_term 1 = .ok (.iload_n 1, 1) := by decide +kernel
theorem dX6_term_2 : decode cX6_term 2 = .ok (.ifCond .lt 11, 3) := by decide +kernel
theorem dX6_term_5 : decode cX6_term 5 = .ok (.iload_n 1, 1) := by decide +kernel
theorem dX6_term_6 : decode cX6_term 6 = .ok (.aload_n 0, 1) := by decide +kernel
theorem dX6_term_7 : decode cX6_term 7 = .ok (.getfield 71, 3) := by decide +kernel
theorem dX6_term_10 : decode cX6_term 10 = .ok (.if_icmp .le 7, 3) := by decide +kernel
theorem dX6_term_13 : decode cX6_term 13 = .ok (.iconst 1, 1) := by decide +kernel
theorem dX6_term_14 : decode cX6_term 14 = .ok (.goto 4, 3) := by decide +kernel
theorem dX6_term_17 : decode cX6_term 17 = .ok (.iconst 0, 1) := by decide +kernel
theorem dX6_term_18 : decode cX6_term 18 = .ok (.putfield 74, 3) := by decide +kernel
theorem dX6_term_21 : decode cX6_term 21 = .ok (.aload_n 0, 1) := by decide +kernel
theorem dX6_term_22 : decode cX6_term 22 = .ok (.getfield 74, 3) := by decide +kernel
theorem dX6_term_25 : decode cX6_term 25 = .ok (.ifCond .ne 14, 3) := by decide +kernel
theorem dX6_term_28 : decode cX6_term 28 = .ok (.aload_n 0, 1) := by decide +kernel
theorem dX6_term_29 : decode cX6_term 29 = .ok (.getfield 7, 3) := by decide +kernel
theorem dX6_term_32 : decode cX6_term 32 = .ok (.iload_n 1, 1) := by decide +kernel
theorem dX6_term_33 : decode cX6_term 33 = .ok (.iload_n 2, 1) := by decide +kernel
theorem dX6_term_34 : decode cX6_term 34 = .ok (.i2l, 1) := by decide +kernel
theorem dX6_term_35 : decode cX6_term 35 = .ok (.invokestatic 80, 3) := by decide +kernel
theorem dX6_term_38 : decode cX6_term 38 = .ok (.iastore, 1) := by decide +kernel
theorem dX6_term_39 : decode cX6_term 39 = .ok (.return_, 1) := by decide +kernel
set_option maxRecDepth 20000 in
theorem ggX6_edge_X6_isNode : GoodIn wsX6_edge wsX6_isNode := goodIn_r _ [15, 16, 21, 22, 23, 24, 25, 26, 27, 28, 29, 30, 31, 32, 33, 34, 35, 36, 37, 38, 39, 40, 41, 42, 43, 44, 45, 46, 47, 48, 49] (by decide +kernel) (by decide +kernel)
set_option maxRecDepth 20000 in
theorem gX6_edge_X6_isNode : GoodIn wsX6_edge (wsV RX6 99 RX6 yX6_isNode wsX6_isNode) := goodIn_app (goodIn_of _ (by decide +kernel)) ggX6_edge_X6_isNode
set_option maxRecDepth 20000 in
theorem ggX6_edge_X6_clearDraft : GoodIn wsX6_edge wsX6_clearDraft := goodIn_r _ [20, 9, 21, 22, 23, 24, 25, 26, 27, 28, 29, 30, 31, 32, 33, 34, 35, 36, 37, 38, 39, 40, 41, 42, 43, 44, 45, 46, 47, 48, 49] (by decide +kernel) (by decide +kernel)
set_option maxRecDepth 20000 in
theorem gX6_edge_X6_clearDraft : GoodIn wsX6_edge (wsV RX6 106 RX6 yX6_clearDraft wsX6_clearDraft) := goodIn_app (goodIn_of _ (by decide +kernel)) ggX6_edge_X6_clearDraft
theorem dX6_edge_0 : decode cX6_edge 0 = .ok (.iload_n 3, 1) := by decide +kernel
theorem dX6_edge_1 : decode cX6_edge 1 = .ok (.iconst 1, 1) := by decide +kernel
theorem dX6_edge_2 : decode cX6_edge 2 = .ok (.if_icmp .eq 8, 3) := by decide +kernel
theorem dX6_edge_5 : decode cX6_edge 5 = .ok (.iload_n 3, 1) := by decide +kernel
theorem dX6_edge_6 : decode cX6_edge 6 = .ok (.iconst 2, 1) := by decide +kernel
theorem dX6_edge_7 : decode cX6_edge 7 = .ok (.if_icmp .ne 7, 3) := by decide +kernel
theorem dX6_edge_10 : decode cX6_edge 10 = .ok (.iconst 1, 1) := by decide +kernel
theorem dX6_edge_11 : decode cX6_edge 11 = .ok (.goto 4, 3) := by decide +kernel
theorem dX6_edge_14 : decode cX6_edge 14 = .ok (.iconst 0, 1) := by decide +kernel
theorem dX6_edge_15 : decode cX6_edge 15 = .ok (.istore 5, 2) := by decide +kernel
theorem dX6_edge_17 : decode cX6_edge 17 = .ok (.aload_n 0, 1) := by decide +kernel
theorem dX6_edge_18 : decode cX6_edge 18 = .ok (.iload_n 1, 1) := by decide +kernel
theorem dX6_edge_19 : decode cX6_edge 19 = .ok (.invokevirtual 99, 3) := by decide +kernel
theorem dX6_edge_22 : decode cX6_edge 22 = .ok (.ifCond .eq 44, 3) := by decide +kernel
theorem dX6_edge_25 : decode cX6_edge 25 = .ok (.aload_n 0, 1) := by decide +kernel
theorem dX6_edge_26 : decode cX6_edge 26 = .ok (.iload_n 2, 1) := by decide +kernel
theorem dX6_edge_27 : decode cX6_edge 27 = .ok (.invokevirtual 99, 3) := by decide +kernel
theorem dX6_edge_30 : decode cX6_edge 30 = .ok (.ifCond .eq 36, 3) := by decide +kernel
theorem dX6_edge_33 : decode cX6_edge 33 = .ok (.iload_n 3, 1) := by decide +kernel
theorem dX6_edge_34 : decode cX6_edge 34 = .ok (.ifCond .lt 32, 3) := by decide +kernel
theorem dX6_edge_37 : decode cX6_edge 37 = .ok (.iload_n 3, 1) := by decide +kernel
theorem dX6_edge_38 : decode cX6_edge 38 = .ok (.iconst 4, 1) := by decide +kernel
theorem dX6_edge_39 : decode cX6_edge 39 = .ok (.if_icmp .gt 27, 3) := by decide +kernel
theorem dX6_edge_42 : decode cX6_edge 42 = .ok (.iload 5, 2) := by decide +kernel
theorem dX6_edge_44 : decode cX6_edge 44 = .ok (.ifCond .eq 18, 3) := by decide +kernel
theorem dX6_edge_47 : decode cX6_edge 47 = .ok (.iload 4, 2) := by decide +kernel
theorem dX6_edge_49 : decode cX6_edge 49 = .ok (.iconst 1, 1) := by decide +kernel
theorem dX6_edge_50 : decode cX6_edge 50 = .ok (.if_icmp .lt 16, 3) := by decide +kernel
theorem dX6_edge_53 : decode cX6_edge 53 = .ok (.iload 4, 2) := by decide +kernel
theorem dX6_edge_55 : decode cX6_edge 55 = .ok (.aload_n 0, 1) := by decide +kernel
theorem dX6_edge_56 : decode cX6_edge 56 = .ok (.getfield 71, 3) := by decide +kernel
theorem dX6_edge_59 : decode cX6_edge 59 = .ok (.if_icmp .gt 7, 3) := by decide +kernel
theorem dX6_edge_62 : decode cX6_edge 62 = .ok (.iconst 1, 1) := by decide +kernel
theorem dX6_edge_63 : decode cX6_edge 63 = .ok (.goto 4, 3) := by decide +kernel
theorem dX6_edge_66 : decode cX6_edge 66 = .ok (.iconst 0, 1) := by decide +kernel
theorem dX6_edge_67 : decode cX6_edge 67 = .ok (.istore 6, 2) := by decide +kernel
theorem dX6_edge_69 : decode cX6_edge 69 = .ok (.aload_n 0, 1) := by decide +kernel
theorem dX6_edge_70 : decode cX6_edge 70 = .ok (.iload 6, 2) := by decide +kernel
theorem dX6_edge_72 : decode cX6_edge 72 = .ok (.ifCond .ne 7, 3) := by decide +kernel
theorem dX6_edge_75 : decode cX6_edge 75 = .ok (.iconst 1, 1) := by decide +kernel
theorem dX6_edge_76 : decode cX6_edge 76 = .ok (.goto 17, 3) := by decide +kernel
theorem dX6_edge_79 : decode cX6_edge 79 = .ok (.aload_n 0, 1) := by decide +kernel
theorem dX6_edge_80 : decode cX6_edge 80 = .ok (.getfield 103, 3) := by decide +kernel
theorem dX6_edge_83 : decode cX6_edge 83 = .ok (.bipush 20, 2) := by decide +kernel
theorem dX6_edge_85 : decode cX6_edge 85 = .ok (.if_icmp .ne 7, 3) := by decide +kernel
theorem dX6_edge_88 : decode cX6_edge 88 = .ok (.iconst 2, 1) := by decide +kernel
theorem dX6_edge_89 : decode cX6_edge 89 = .ok (.goto 4, 3) := by decide +kernel
theorem dX6_edge_92 : decode cX6_edge 92 = .ok (.iconst 0, 1) := by decide +kernel
theorem dX6_edge_93 : decode cX6_edge 93 = .ok (.putfield 74, 3) := by decide +kernel
theorem dX6_edge_96 : decode cX6_edge 96 = .ok (.aload_n 0, 1) := by decide +kernel
theorem dX6_edge_97 : decode cX6_edge 97 = .ok (.getfield 74, 3) := by decide +kernel
theorem dX6_edge_100 : decode cX6_edge 100 = .ok (.ifCond .eq 5, 3) := by decide +kernel
theorem dX6_edge_103 : decode cX6_edge 103 = .ok (.iconst 0, 1) := by decide +kernel
theorem dX6_edge_104 : decode cX6_edge 104 = .ok (.ireturn, 1) := by decide +kernel
theorem dX6_edge_105 : decode cX6_edge 105 = .ok (.aload_n 0, 1) := by decide +kernel
theorem dX6_edge_106 : decode cX6_edge 106 = .ok (.getfield 13, 3) := by decide +kernel
theorem dX6_edge_109 : decode cX6_edge 109 = .ok (.aload_n 0, 1) := by decide +kernel
theorem dX6_edge_110 : decode cX6_edge 110 = .ok (.getfield 103, 3) := by decide +kernel
theorem dX6_edge_113 : decode cX6_edge 113 = .ok (.iload_n 1, 1) := by decide +kernel
theorem dX6_edge_114 : decode cX6_edge 114 = .ok (.iastore, 1) := by decide +kernel
theorem dX6_edge_115 : decode cX6_edge 115 = .ok (.aload_n 0, 1) := by decide +kernel
theorem dX6_edge_116 : decode cX6_edge 116 = .ok (.getfield 16, 3) := by decide +kernel
theorem dX6_edge_119 : decode cX6_edge 119 = .ok (.aload_n 0, 1) := by decide +kernel
theorem dX6_edge_120 : decode cX6_edge 120 = .ok (.getfield 103, 3) := by decide +kernel
theorem dX6_edge_123 : decode cX6_edge 123 = .ok (.iload_n 2, 1) := by decide +kernel
theorem dX6_edge_124 : decode cX6_edge 124 = .ok (.iastore, 1) := by decide +kernel
theorem dX6_edge_125 : decode cX6_edge 125 = .ok (.aload_n 0, 1) := by decide +kernel
theorem dX6_edge_126 : decode cX6_edge 126 = .ok (.getfield 19, 3) := by decide +kernel
theorem dX6_edge_129 : decode cX6_edge 129 = .ok (.aload_n 0, 1) := by decide +kernel
theorem dX6_edge_130 : decode cX6_edge 130 = .ok (.getfield 103, 3) := by decide +kernel
theorem dX6_edge_133 : decode cX6_edge 133 = .ok (.iload_n 3, 1) := by decide +kernel
theorem dX6_edge_134 : decode cX6_edge 134 = .ok (.iastore, 1) := by decide +kernel
theorem dX6_edge_135 : decode cX6_edge 135 = .ok (.aload_n 0, 1) := by decide +kernel
theorem dX6_edge_136 : decode cX6_edge 136 = .ok (.getfield 22, 3) := by decide +kernel
theorem dX6_edge_139 : decode cX6_edge 139 = .ok (.aload_n 0, 1) := by decide +kernel
theorem dX6_edge_140 : decode cX6_edge 140 = .ok (.getfield 103, 3) := by decide +kernel
theorem dX6_edge_143 : decode cX6_edge 143 = .ok (.iload 4, 2) := by decide +kernel
theorem dX6_edge_145 : decode cX6_edge 145 = .ok (.iastore, 1) := by decide +kernel
theorem dX6_edge_146 : decode cX6_edge 146 = .ok (.iconst 0, 1) := by decide +kernel
theorem dX6_edge_147 : decode cX6_edge 147 = .ok (.istore 7, 2) := by decide +kernel
theorem dX6_edge_149 : decode cX6_edge 149 = .ok (.iload 7, 2) := by decide +kernel
theorem dX6_edge_151 : decode cX6_edge 151 = .ok (.iconst 5, 1) := by decide +kernel
theorem dX6_edge_152 : decode cX6_edge 152 = .ok (.if_icmp .ge 30, 3) := by decide +kernel
theorem dX6_edge_155 : decode cX6_edge 155 = .ok (.aload_n 0, 1) := by decide +kernel
theorem dX6_edge_156 : decode cX6_edge 156 = .ok (.getfield 25, 3) := by decide +kernel
theorem dX6_edge_159 : decode cX6_edge 159 = .ok (.iconst 5, 1) := by decide +kernel
theorem dX6_edge_160 : decode cX6_edge 160 = .ok (.aload_n 0, 1) := by decide +kernel
theorem dX6_edge_161 : decode cX6_edge 161 = .ok (.getfield 103, 3) := by decide +kernel
theorem dX6_edge_164 : decode cX6_edge 164 = .ok (.imul, 1) := by decide +kernel
theorem dX6_edge_165 : decode cX6_edge 165 = .ok (.iload 7, 2) := by decide +kernel
theorem dX6_edge_167 : decode cX6_edge 167 = .ok (.iadd, 1) := by decide +kernel
theorem dX6_edge_168 : decode cX6_edge 168 = .ok (.aload_n 0, 1) := by decide +kernel
theorem dX6_edge_169 : decode cX6_edge 169 = .ok (.getfield 7, 3) := by decide +kernel
theorem dX6_edge_172 : decode cX6_edge 172 = .ok (.iload 7, 2) := by decide +kernel
theorem dX6_edge_174 : decode cX6_edge 174 = .ok (.iaload, 1) := by decide +kernel
theorem dX6_edge_175 : decode cX6_edge 175 = .ok (.iastore, 1) := by decide +kernel
theorem dX6_edge_176 : decode cX6_edge 176 = .ok (.iinc 7 1, 3) := by decide +kernel
theorem dX6_edge_179 : decode cX6_edge 179 = .ok (.goto (-30), 3) := by decide +kernel
theorem dX6_edge_182 : decode cX6_edge 182 = .ok (.aload_n 0, 1) := by decide +kernel
theorem dX6_edge_183 : decode cX6_edge 183 = .ok (.invokevirtual 106, 3) := by decide +kernel
theorem dX6_edge_186 : decode cX6_edge 186 = .ok (.aload_n 0, 1) := by decide +kernel
theorem dX6_edge_187 : decode cX6_edge 187 = .ok (.iconst 0, 1) := by decide +kernel
theorem dX6_edge_188 : decode cX6_edge 188 = .ok (.putfield 109, 3) := by decide +kernel
theorem dX6_edge_191 : decode cX6_edge 191 = .ok (.aload_n 0, 1) := by decide +kernel
theorem dX6_edge_192 : decode cX6_edge 192 = .ok (.dup, 1) := by decide +kernel
theorem dX6_edge_193 : decode cX6_edge 193 = .ok (.getfield 103, 3) := by decide +kernel
theorem dX6_edge_196 : decode cX6_edge 196 = .ok (.iconst 1, 1) := by decide +kernel
theorem dX6_edge_197 : decode cX6_edge 197 = .ok (.iadd, 1) := by decide +kernel
theorem dX6_edge_198 : decode cX6_edge 198 = .ok (.putfield 103, 3) := by decide +kernel
theorem dX6_edge_201 : decode cX6_edge 201 = .ok (.aload_n 0, 1) := by decide +kernel
theorem dX6_edge_202 : decode cX6_edge 202 = .ok (.getfield 103, 3) := by decide +kernel
theorem dX6_edge_205 : decode cX6_edge 205 = .ok (.iconst 1, 1) := by decide +kernel
theorem dX6_edge_206 : decode cX6_edge 206 = .ok (.isub, 1) := by decide +kernel
theorem dX6_edge_207 : decode cX6_edge 207 = .ok (.ireturn, 1) := by decide +kernel
set_option maxRecDepth 20000 in
theorem ggX6_entry_X6_isNode : GoodIn wsX6_entry wsX6_isNode := goodIn_r _ [9, 10, 11, 12, 13, 14, 15, 16, 17, 18, 19, 20, 21, 22, 23, 24, 25, 26, 27, 28, 29, 30, 31, 32, 33, 34, 35, 36, 37, 38, 39] (by decide +kernel) (by decide +kernel)
set_option maxRecDepth 20000 in
theorem gX6_entry_X6_isNode : GoodIn wsX6_entry (wsV RX6 99 RX6 yX6_isNode wsX6_isNode) := goodIn_app (goodIn_of _ (by decide +kernel)) ggX6_entry_X6_isNode
theorem dX6_entry_0 : decode cX6_entry 0 = .ok (.aload_n 0, 1) := by decide +kernel
theorem dX6_entry_1 : decode cX6_entry 1 = .ok (.aload_n 0, 1) := by decide +kernel
theorem dX6_entry_2 : decode cX6_entry 2 = .ok (.iload_n 1, 1) := by decide +kernel
theorem dX6_entry_3 : decode cX6_entry 3 = .ok (.invokevirtual 99, 3) := by decide +kernel
theorem dX6_entry_6 : decode cX6_entry 6 = .ok (.ifCond .eq 7, 3) := by decide +kernel
theorem dX6_entry_9 : decode cX6_entry 9 = .ok (.iconst 0, 1) := by decide +kernel
theorem dX6_entry_10 : decode cX6_entry 10 = .ok (.goto 4, 3) := by decide +kernel
theorem dX6_entry_13 : decode cX6_entry 13 = .ok (.iconst 1, 1) := by decide +kernel
theorem dX6_entry_14 : decode cX6_entry 14 = .ok (.putfield 74, 3) := by decide +kernel
theorem dX6_entry_17 : decode cX6_entry 17 = .ok (.aload_n 0, 1) := by decide +kernel
theorem dX6_entry_18 : decode cX6_entry 18 = .ok (.getfield 74, 3) := by decide +kernel
theorem dX6_entry_21 : decode cX6_entry 21 = .ok (.ifCond .eq 4, 3) := by decide +kernel
theorem dX6_entry_24 : decode cX6_entry 24 = .ok (.return_, 1) := by decide +kernel
theorem dX6_entry_25 : decode cX6_entry 25 = .ok (.aload_n 0, 1) := by decide +kernel
theorem dX6_entry_26 : decode cX6_entry 26 = .ok (.iload_n 1, 1) := by decide +kernel
theorem dX6_entry_27 : decode cX6_entry 27 = .ok (.putfield 113, 3) := by decide +kernel
theorem dX6_entry_30 : decode cX6_entry 30 = .ok (.aload_n 0, 1) := by decide +kernel
theorem dX6_entry_31 : decode cX6_entry 31 = .ok (.iload_n 1, 1) := by decide +kernel
theorem dX6_entry_32 : decode cX6_entry 32 = .ok (.putfield 116, 3) := by decide +kernel
theorem dX6_entry_35 : decode cX6_entry 35 = .ok (.aload_n 0, 1) := by decide +kernel
theorem dX6_entry_36 : decode cX6_entry 36 = .ok (.iconst 0, 1) := by decide +kernel
theorem dX6_entry_37 : decode cX6_entry 37 = .ok (.putfield 109, 3) := by decide +kernel
theorem dX6_entry_40 : decode cX6_entry 40 = .ok (.return_, 1) := by decide +kernel
set_option maxRecDepth 20000 in
theorem ggX6_formValue_X6_mod : GoodIn wsX6_formValue wsX6_mod := goodIn_r _ [6, 7] (by decide +kernel) (by decide +kernel)
set_option maxRecDepth 20000 in
theorem gX6_formValue_X6_mod : GoodIn wsX6_formValue (va_wsS RX6 80 yX6_mod wsX6_mod) := goodIn_app (goodIn_of _ (by decide +kernel)) ggX6_formValue_X6_mod
theorem dX6_formValue_0 : decode cX6_formValue 0 = .ok (.lconst 0, 1) := by decide +kernel
theorem dX6_formValue_1 : decode cX6_formValue 1 = .ok (.lstore_n 2, 1) := by decide +kernel
theorem dX6_formValue_2 : decode cX6_formValue 2 = .ok (.iconst 0, 1) := by decide +kernel
theorem dX6_formValue_3 : decode cX6_formValue 3 = .ok (.istore 4, 2) := by decide +kernel
theorem dX6_formValue_5 : decode cX6_formValue 5 = .ok (.iload 4, 2) := by decide +kernel
theorem dX6_formValue_7 : decode cX6_formValue 7 = .ok (.iconst 5, 1) := by decide +kernel
theorem dX6_formValue_8 : decode cX6_formValue 8 = .ok (.if_icmp .ge 33, 3) := by decide +kernel
theorem dX6_formValue_11 : decode cX6_formValue 11 = .ok (.lload_n 2, 1) := by decide +kernel
theorem dX6_formValue_12 : decode cX6_formValue 12 = .ok (.aload_n 0, 1) := by decide +kernel
theorem dX6_formValue_13 : decode cX6_formValue 13 = .ok (.getfield 25, 3) := by decide +kernel
theorem dX6_formValue_16 : decode cX6_formValue 16 = .ok (.iconst 5, 1) := by decide +kernel
theorem dX6_formValue_17 : decode cX6_formValue 17 = .ok (.iload_n 1, 1) := by decide +kernel
theorem dX6_formValue_18 : decode cX6_formValue 18 = .ok (.imul, 1) := by decide +kernel
theorem dX6_formValue_19 : decode cX6_formValue 19 = .ok (.iload 4, 2) := by decide +kernel
theorem dX6_formValue_21 : decode cX6_formValue 21 = .ok (.iadd, 1) := by decide +kernel
theorem dX6_formValue_22 : decode cX6_formValue 22 = .ok (.iaload, 1) := by decide +kernel
theorem dX6_formValue_23 : decode cX6_formValue 23 = .ok (.i2l, 1) := by decide +kernel
theorem dX6_formValue_24 : decode cX6_formValue 24 = .ok (.aload_n 0, 1) := by decide +kernel
theorem dX6_formValue_25 : decode cX6_formValue 25 = .ok (.getfield 64, 3) := by decide +kernel
theorem dX6_formValue_28 : decode cX6_formValue 28 = .ok (.iload 4, 2) := by decide +kernel
theorem dX6_formValue_30 : decode cX6_formValue 30 = .ok (.iaload, 1) := by decide +kernel
theorem dX6_formValue_31 : decode cX6_formValue 31 = .ok (.i2l, 1) := by decide +kernel
theorem dX6_formValue_32 : decode cX6_formValue 32 = .ok (.lmul, 1) := by decide +kernel
theorem dX6_formValue_33 : decode cX6_formValue 33 = .ok (.ladd, 1) := by decide +kernel
theorem dX6_formValue_34 : decode cX6_formValue 34 = .ok (.lstore_n 2, 1) := by decide +kernel
theorem dX6_formValue_35 : decode cX6_formValue 35 = .ok (.iinc 4 1, 3) := by decide +kernel
theorem dX6_formValue_38 : decode cX6_formValue 38 = .ok (.goto (-33), 3) := by decide +kernel
theorem dX6_formValue_41 : decode cX6_formValue 41 = .ok (.lload_n 2, 1) := by decide +kernel
theorem dX6_formValue_42 : decode cX6_formValue 42 = .ok (.invokestatic 80, 3) := by decide +kernel
theorem dX6_formValue_45 : decode cX6_formValue 45 = .ok (.ireturn, 1) := by decide +kernel
set_option maxRecDepth 20000 in
theorem ggX6_change_X6_formValue : GoodIn wsX6_change wsX6_formValue := goodIn_r _ [8, 9, 2, 10, 11, 7, 12, 13, 14, 15, 16, 17, 18, 19, 20, 21, 22, 23, 24, 25, 26, 27, 28, 29, 30, 31, 32, 33, 34, 35, 36, 37, 38, 39, 40, 41, 42] (by decide +kernel) (by decide +kernel)
set_option maxRecDepth 20000 in
theorem gX6_change_X6_formValue : GoodIn wsX6_change (wsV RX6 119 RX6 yX6_formValue wsX6_formValue) := goodIn_app (goodIn_of _ (by decide +kernel)) ggX6_change_X6_formValue
theorem dX6_change_0 : decode cX6_change 0 = .ok (.aload_n 0, 1) := by decide +kernel
theorem dX6_change_1 : decode cX6_change 1 = .ok (.getfield 19, 3) := by decide +kernel
theorem dX6_change_4 : decode cX6_change 4 = .ok (.iload_n 1, 1) := by decide +kernel
theorem dX6_change_5 : decode cX6_change 5 = .ok (.iaload, 1) := by decide +kernel
theorem dX6_change_6 : decode cX6_change 6 = .ok (.iconst 1, 1) := by decide +kernel
theorem dX6_change_7 : decode cX6_change 7 = .ok (.if_icmp .ne 19, 3) := by decide +kernel
theorem dX6_change_10 : decode cX6_change 10 = .ok (.aload_n 0, 1) := by decide +kernel
theorem dX6_change_11 : decode cX6_change 11 = .ok (.getfield 64, 3) := by decide +kernel
theorem dX6_change_14 : decode cX6_change 14 = .ok (.aload_n 0, 1) := by decide +kernel
theorem dX6_change_15 : decode cX6_change 15 = .ok (.getfield 22, 3) := by decide +kernel
theorem dX6_change_18 : decode cX6_change 18 = .ok (.iload_n 1, 1) := by decide +kernel
theorem dX6_change_19 : decode cX6_change 19 = .ok (.iaload, 1) := by decide +kernel
theorem dX6_change_20 : decode cX6_change 20 = .ok (.aload_n 0, 1) := by decide +kernel
theorem dX6_change_21 : decode cX6_change 21 = .ok (.iload_n 1, 1) := by decide +kernel
theorem dX6_change_22 : decode cX6_change 22 = .ok (.invokevirtual 119, 3) := by decide +kernel
theorem dX6_change_25 : decode cX6_change 25 = .ok (.iastore, 1) := by decide +kernel
theorem dX6_change_26 : decode cX6_change 26 = .ok (.aload_n 0, 1) := by decide +kernel
theorem dX6_change_27 : decode cX6_change 27 = .ok (.getfield 19, 3) := by decide +kernel
theorem dX6_change_30 : decode cX6_change 30 = .ok (.iload_n 1, 1) := by decide +kernel
theorem dX6_change_31 : decode cX6_change 31 = .ok (.iaload, 1) := by decide +kernel
theorem dX6_change_32 : decode cX6_change 32 = .ok (.iconst 2, 1) := by decide +kernel
theorem dX6_change_33 : decode cX6_change 33 = .ok (.if_icmp .ne 15, 3) := by decide +kernel
theorem dX6_change_36 : decode cX6_change 36 = .ok (.aload_n 0, 1) := by decide +kernel
theorem dX6_change_37 : decode cX6_change 37 = .ok (.getfield 64, 3) := by decide +kernel
theorem dX6_change_40 : decode cX6_change 40 = .ok (.aload_n 0, 1) := by decide +kernel
theorem dX6_change_41 : decode cX6_change 41 = .ok (.getfield 22, 3) := by decide +kernel
theorem dX6_change_44 : decode cX6_change 44 = .ok (.iload_n 1, 1) := by decide +kernel
theorem dX6_change_45 : decode cX6_change 45 = .ok (.iaload, 1) := by decide +kernel
theorem dX6_change_46 : decode cX6_change 46 = .ok (.iload_n 2, 1) := by decide +kernel
theorem dX6_change_47 : decode cX6_change 47 = .ok (.iastore, 1) := by decide +kernel
theorem dX6_change_48 : decode cX6_change 48 = .ok (.return_, 1) := by decide +kernel
set_option maxRecDepth 20000 in
theorem ggX6_layPoints_X6_put : GoodIn wsX6_layPoints wsX6_put := goodIn_r _ [8, 9, 1, 10, 11, 12, 13, 14, 15, 16, 17, 18, 19, 20, 21, 22, 23, 24, 25, 26, 27, 28, 29, 30, 31, 32, 33, 34, 35, 36, 37, 38] (by decide +kernel) (by decide +kernel)
set_option maxRecDepth 20000 in
theorem gX6_layPoints_X6_put : GoodIn wsX6_layPoints (wsV RX6 122 RX6 yX6_put wsX6_put) := goodIn_app (goodIn_of _ (by decide +kernel)) ggX6_layPoints_X6_put
theorem dX6_layPoints_0 : decode cX6_layPoints 0 = .ok (.aload_n 0, 1) := by decide +kernel
theorem dX6_layPoints_1 : decode cX6_layPoints 1 = .ok (.iconst 0, 1) := by decide +kernel
theorem dX6_layPoints_2 : decode cX6_layPoints 2 = .ok (.putfield 84, 3) := by decide +kernel
theorem dX6_layPoints_5 : decode cX6_layPoints 5 = .ok (.iconst 0, 1) := by decide +kernel
theorem dX6_layPoints_6 : decode cX6_layPoints 6 = .ok (.istore_n 2, 1) := by decide +kernel
theorem dX6_layPoints_7 : decode cX6_layPoints 7 = .ok (.iload_n 2, 1) := by decide +kernel
theorem dX6_layPoints_8 : decode cX6_layPoints 8 = .ok (.aload_n 0, 1) := by decide +kernel
theorem dX6_layPoints_9 : decode cX6_layPoints 9 = .ok (.getfield 28, 3) := by decide +kernel
theorem dX6_layPoints_12 : decode cX6_layPoints 12 = .ok (.iload_n 1, 1) := by decide +kernel
theorem dX6_layPoints_13 : decode cX6_layPoints 13 = .ok (.iaload, 1) := by decide +kernel
theorem dX6_layPoints_14 : decode cX6_layPoints 14 = .ok (.if_icmp .ge 52, 3) := by decide +kernel
theorem dX6_layPoints_17 : decode cX6_layPoints 17 = .ok (.iconst 0, 1) := by decide +kernel
theorem dX6_layPoints_18 : decode cX6_layPoints 18 = .ok (.istore_n 3, 1) := by decide +kernel
theorem dX6_layPoints_19 : decode cX6_layPoints 19 = .ok (.iload_n 3, 1) := by decide +kernel
theorem dX6_layPoints_20 : decode cX6_layPoints 20 = .ok (.iconst 5, 1) := by decide +kernel
theorem dX6_layPoints_21 : decode cX6_layPoints 21 = .ok (.if_icmp .ge 29, 3) := by decide +kernel
theorem dX6_layPoints_24 : decode cX6_layPoints 24 = .ok (.aload_n 0, 1) := by decide +kernel
theorem dX6_layPoints_25 : decode cX6_layPoints 25 = .ok (.iload_n 3, 1) := by decide +kernel
theorem dX6_layPoints_26 : decode cX6_layPoints 26 = .ok (.aload_n 0, 1) := by decide +kernel
theorem dX6_layPoints_27 : decode cX6_layPoints 27 = .ok (.getfield 31, 3) := by decide +kernel
theorem dX6_layPoints_30 : decode cX6_layPoints 30 = .ok (.bipush 25, 2) := by decide +kernel
theorem dX6_layPoints_32 : decode cX6_layPoints 32 = .ok (.iload_n 1, 1) := by decide +kernel
theorem dX6_layPoints_33 : decode cX6_layPoints 33 = .ok (.imul, 1) := by decide +kernel
theorem dX6_layPoints_34 : decode cX6_layPoints 34 = .ok (.iconst 5, 1) := by decide +kernel
theorem dX6_layPoints_35 : decode cX6_layPoints 35 = .ok (.iload_n 2, 1) := by decide +kernel
theorem dX6_layPoints_36 : decode cX6_layPoints 36 = .ok (.imul, 1) := by decide +kernel
theorem dX6_layPoints_37 : decode cX6_layPoints 37 = .ok (.iadd, 1) := by decide +kernel
theorem dX6_layPoints_38 : decode cX6_layPoints 38 = .ok (.iload_n 3, 1) := by decide +kernel
theorem dX6_layPoints_39 : decode cX6_layPoints 39 = .ok (.iadd, 1) := by decide +kernel
theorem dX6_layPoints_40 : decode cX6_layPoints 40 = .ok (.iaload, 1) := by decide +kernel
theorem dX6_layPoints_41 : decode cX6_layPoints 41 = .ok (.invokevirtual 122, 3) := by decide +kernel
theorem dX6_layPoints_44 : decode cX6_layPoints 44 = .ok (.iinc 3 1, 3) := by decide +kernel
theorem dX6_layPoints_47 : decode cX6_layPoints 47 = .ok (.goto (-28), 3) := by decide +kernel
theorem dX6_layPoints_50 : decode cX6_layPoints 50 = .ok (.aload_n 0, 1) := by decide +kernel
theorem dX6_layPoints_51 : decode cX6_layPoints 51 = .ok (.dup, 1) := by decide +kernel
theorem dX6_layPoints_52 : decode cX6_layPoints 52 = .ok (.getfield 84, 3) := by decide +kernel
theorem dX6_layPoints_55 : decode cX6_layPoints 55 = .ok (.iconst 1, 1) := by decide +kernel
theorem dX6_layPoints_56 : decode cX6_layPoints 56 = .ok (.iadd, 1) := by decide +kernel
theorem dX6_layPoints_57 : decode cX6_layPoints 57 = .ok (.putfield 84, 3) := by decide +kernel
theorem dX6_layPoints_60 : decode cX6_layPoints 60 = .ok (.iinc 2 1, 3) := by decide +kernel
theorem dX6_layPoints_63 : decode cX6_layPoints 63 = .ok (.goto (-56), 3) := by decide +kernel
theorem dX6_layPoints_66 : decode cX6_layPoints 66 = .ok (.return_, 1) := by decide +kernel
set_option maxRecDepth 20000 in
theorem ggX6_meet_X6_layPoints : GoodIn wsX6_meet wsX6_layPoints := goodIn_r _ [13, 2, 3, 4, 14, 15, 16, 12, 17, 18, 41, 42, 43, 44, 45, 46, 47, 48, 49, 50, 51, 52, 53, 54, 55, 56, 57, 58, 59, 60, 61, 62, 63, 64, 65, 66, 67, 68, 69] (by decide +kernel) (by decide +kernel)
set_option maxRecDepth 20000 in
theorem gX6_meet_X6_layPoints : GoodIn wsX6_meet (wsV RX6 125 RX6 yX6_layPoints wsX6_layPoints) := goodIn_app (goodIn_of _ (by decide +kernel)) ggX6_meet_X6_layPoints
set_option maxRecDepth 20000 in
theorem ggX6_meet_X6_put : GoodIn wsX6_meet wsX6_put := goodIn_r _ [17, 18, 2, 41, 42, 43, 44, 45, 46, 47, 48, 49, 50, 51, 52, 53, 54, 55, 56, 57, 58, 59, 60, 61, 62, 63, 64, 65, 66, 67, 68, 69] (by decide +kernel) (by decide +kernel)
set_option maxRecDepth 20000 in
theorem gX6_meet_X6_put : GoodIn wsX6_meet (wsV RX6 122 RX6 yX6_put wsX6_put) := goodIn_app (goodIn_of _ (by decide +kernel)) ggX6_meet_X6_put
set_option maxRecDepth 20000 in
theorem ggX6_meet_X6_rank : GoodIn wsX6_meet wsX6_rank := goodIn_r _ [22, 23, 24, 2, 18, 25, 26, 27, 12, 28, 29, 30, 31, 32, 33, 34, 35, 36, 37, 38, 39, 40, 41, 42, 43, 44, 45, 46, 47, 48, 49, 50, 51, 52, 53, 54, 55, 56, 57, 58, 59, 60, 61, 62, 63, 64, 65, 66, 67, 68, 69] (by decide +kernel) (by decide +kernel)
set_option maxRecDepth 20000 in
theorem gX6_meet_X6_rank : GoodIn wsX6_meet (wsV RX6 129 RX6 yX6_rank wsX6_rank) := goodIn_app (goodIn_of _ (by decide +kernel)) ggX6_meet_X6_rank
theorem dX6_meet_0 : decode cX6_meet 0 = .ok (.aload_n 0, 1) := by decide +kernel
theorem dX6_meet_1 : decode cX6_meet 1 = .ok (.iload_n 1, 1) := by decide +kernel
theorem dX6_meet_2 : decode cX6_meet 2 = .ok (.invokevirtual 125, 3) := by decide +kernel
theorem dX6_meet_5 : decode cX6_meet 5 = .ok (.iconst 0, 1) := by decide +kernel
theorem dX6_meet_6 : decode cX6_meet 6 = .ok (.istore_n 3, 1) := by decide +kernel
theorem dX6_meet_7 : decode cX6_meet 7 = .ok (.iload_n 3, 1) := by decide +kernel
theorem dX6_meet_8 : decode cX6_meet 8 = .ok (.iconst 5, 1) := by decide +kernel
theorem dX6_meet_9 : decode cX6_meet 9 = .ok (.if_icmp .ge 20, 3) := by decide +kernel
theorem dX6_meet_12 : decode cX6_meet 12 = .ok (.aload_n 0, 1) := by decide +kernel
theorem dX6_meet_13 : decode cX6_meet 13 = .ok (.iload_n 3, 1) := by decide +kernel
theorem dX6_meet_14 : decode cX6_meet 14 = .ok (.aload_n 0, 1) := by decide +kernel
theorem dX6_meet_15 : decode cX6_meet 15 = .ok (.getfield 64, 3) := by decide +kernel
theorem dX6_meet_18 : decode cX6_meet 18 = .ok (.iload_n 3, 1) := by decide +kernel
theorem dX6_meet_19 : decode cX6_meet 19 = .ok (.iaload, 1) := by decide +kernel
theorem dX6_meet_20 : decode cX6_meet 20 = .ok (.invokevirtual 122, 3) := by decide +kernel
theorem dX6_meet_23 : decode cX6_meet 23 = .ok (.iinc 3 1, 3) := by decide +kernel
theorem dX6_meet_26 : decode cX6_meet 26 = .ok (.goto (-19), 3) := by decide +kernel
theorem dX6_meet_29 : decode cX6_meet 29 = .ok (.aload_n 0, 1) := by decide +kernel
theorem dX6_meet_30 : decode cX6_meet 30 = .ok (.dup, 1) := by decide +kernel
theorem dX6_meet_31 : decode cX6_meet 31 = .ok (.getfield 84, 3) := by decide +kernel
theorem dX6_meet_34 : decode cX6_meet 34 = .ok (.iconst 1, 1) := by decide +kernel
theorem dX6_meet_35 : decode cX6_meet 35 = .ok (.iadd, 1) := by decide +kernel
theorem dX6_meet_36 : decode cX6_meet 36 = .ok (.putfield 84, 3) := by decide +kernel
theorem dX6_meet_39 : decode cX6_meet 39 = .ok (.aload_n 0, 1) := by decide +kernel
theorem dX6_meet_40 : decode cX6_meet 40 = .ok (.invokevirtual 129, 3) := by decide +kernel
theorem dX6_meet_43 : decode cX6_meet 43 = .ok (.aload_n 0, 1) := by decide +kernel
theorem dX6_meet_44 : decode cX6_meet 44 = .ok (.getfield 84, 3) := by decide +kernel
theorem dX6_meet_47 : decode cX6_meet 47 = .ok (.if_icmp .ge 4, 3) := by decide +kernel
theorem dX6_meet_50 : decode cX6_meet 50 = .ok (.return_, 1) := by decide +kernel
theorem dX6_meet_51 : decode cX6_meet 51 = .ok (.aload_n 0, 1) := by decide +kernel
theorem dX6_meet_52 : decode cX6_meet 52 = .ok (.getfield 28, 3) := by decide +kernel
theorem dX6_meet_55 : decode cX6_meet 55 = .ok (.iload_n 1, 1) := by decide +kernel
theorem dX6_meet_56 : decode cX6_meet 56 = .ok (.iaload, 1) := by decide +kernel
theorem dX6_meet_57 : decode cX6_meet 57 = .ok (.istore_n 3, 1) := by decide +kernel
theorem dX6_meet_58 : decode cX6_meet 58 = .ok (.iconst 0, 1) := by decide +kernel
theorem dX6_meet_59 : decode cX6_meet 59 = .ok (.istore 4, 2) := by decide +kernel
theorem dX6_meet_61 : decode cX6_meet 61 = .ok (.iload 4, 2) := by decide +kernel
theorem dX6_meet_63 : decode cX6_meet 63 = .ok (.iconst 5, 1) := by decide +kernel
theorem dX6_meet_64 : decode cX6_meet 64 = .ok (.if_icmp .ge 32, 3) := by decide +kernel
theorem dX6_meet_67 : decode cX6_meet 67 = .ok (.aload_n 0, 1) := by decide +kernel
theorem dX6_meet_68 : decode cX6_meet 68 = .ok (.getfield 31, 3) := by decide +kernel
theorem dX6_meet_71 : decode cX6_meet 71 = .ok (.bipush 25, 2) := by decide +kernel
theorem dX6_meet_73 : decode cX6_meet 73 = .ok (.iload_n 1, 1) := by decide +kernel
theorem dX6_meet_74 : decode cX6_meet 74 = .ok (.imul, 1) := by decide +kernel
theorem dX6_meet_75 : decode cX6_meet 75 = .ok (.iconst 5, 1) := by decide +kernel
theorem dX6_meet_76 : decode cX6_meet 76 = .ok (.iload_n 3, 1) := by decide +kernel
theorem dX6_meet_77 : decode cX6_meet 77 = .ok (.imul, 1) := by decide +kernel
theorem dX6_meet_78 : decode cX6_meet 78 = .ok (.iadd, 1) := by decide +kernel
theorem dX6_meet_79 : decode cX6_meet 79 = .ok (.iload 4, 2) := by decide +kernel
theorem dX6_meet_81 : decode cX6_meet 81 = .ok (.iadd, 1) := by decide +kernel
theorem dX6_meet_82 : decode cX6_meet 82 = .ok (.aload_n 0, 1) := by decide +kernel
theorem dX6_meet_83 : decode cX6_meet 83 = .ok (.getfield 64, 3) := by decide +kernel
theorem dX6_meet_86 : decode cX6_meet 86 = .ok (.iload 4, 2) := by decide +kernel
theorem dX6_meet_88 : decode cX6_meet 88 = .ok (.iaload, 1) := by decide +kernel
theorem dX6_meet_89 : decode cX6_meet 89 = .ok (.iastore, 1) := by decide +kernel
theorem dX6_meet_90 : decode cX6_meet 90 = .ok (.iinc 4 1, 3) := by decide +kernel
theorem dX6_meet_93 : decode cX6_meet 93 = .ok (.goto (-32), 3) := by decide +kernel
theorem dX6_meet_96 : decode cX6_meet 96 = .ok (.aload_n 0, 1) := by decide +kernel
theorem dX6_meet_97 : decode cX6_meet 97 = .ok (.getfield 34, 3) := by decide +kernel
theorem dX6_meet_100 : decode cX6_meet 100 = .ok (.iconst 5, 1) := by decide +kernel
theorem dX6_meet_101 : decode cX6_meet 101 = .ok (.iload_n 1, 1) := by decide +kernel
theorem dX6_meet_102 : decode cX6_meet 102 = .ok (.imul, 1) := by decide +kernel
theorem dX6_meet_103 : decode cX6_meet 103 = .ok (.iload_n 3, 1) := by decide +kernel
theorem dX6_meet_104 : decode cX6_meet 104 = .ok (.iadd, 1) := by decide +kernel
theorem dX6_meet_105 : decode cX6_meet 105 = .ok (.iload_n 2, 1) := by decide +kernel
theorem dX6_meet_106 : decode cX6_meet 106 = .ok (.iastore, 1) := by decide +kernel
theorem dX6_meet_107 : decode cX6_meet 107 = .ok (.aload_n 0, 1) := by decide +kernel
theorem dX6_meet_108 : decode cX6_meet 108 = .ok (.getfield 37, 3) := by decide +kernel
theorem dX6_meet_111 : decode cX6_meet 111 = .ok (.aload_n 0, 1) := by decide +kernel
theorem dX6_meet_112 : decode cX6_meet 112 = .ok (.getfield 133, 3) := by decide +kernel
theorem dX6_meet_115 : decode cX6_meet 115 = .ok (.iload_n 1, 1) := by decide +kernel
theorem dX6_meet_116 : decode cX6_meet 116 = .ok (.iastore, 1) := by decide +kernel
theorem dX6_meet_117 : decode cX6_meet 117 = .ok (.aload_n 0, 1) := by decide +kernel
theorem dX6_meet_118 : decode cX6_meet 118 = .ok (.getfield 40, 3) := by decide +kernel
theorem dX6_meet_121 : decode cX6_meet 121 = .ok (.aload_n 0, 1) := by decide +kernel
theorem dX6_meet_122 : decode cX6_meet 122 = .ok (.getfield 133, 3) := by decide +kernel
theorem dX6_meet_125 : decode cX6_meet 125 = .ok (.iload_n 3, 1) := by decide +kernel
theorem dX6_meet_126 : decode cX6_meet 126 = .ok (.iastore, 1) := by decide +kernel
theorem dX6_meet_127 : decode cX6_meet 127 = .ok (.aload_n 0, 1) := by decide +kernel
theorem dX6_meet_128 : decode cX6_meet 128 = .ok (.dup, 1) := by decide +kernel
theorem dX6_meet_129 : decode cX6_meet 129 = .ok (.getfield 133, 3) := by decide +kernel
theorem dX6_meet_132 : decode cX6_meet 132 = .ok (.iconst 1, 1) := by decide +kernel
theorem dX6_meet_133 : decode cX6_meet 133 = .ok (.iadd, 1) := by decide +kernel
theorem dX6_meet_134 : decode cX6_meet 134 = .ok (.putfield 133, 3) := by decide +kernel
theorem dX6_meet_137 : decode cX6_meet 137 = .ok (.aload_n 0, 1) := by decide +kernel
theorem dX6_meet_138 : decode cX6_meet 138 = .ok (.getfield 28, 3) := by decide +kernel
theorem dX6_meet_141 : decode cX6_meet 141 = .ok (.iload_n 1, 1) := by decide +kernel
theorem dX6_meet_142 : decode cX6_meet 142 = .ok (.dup2, 1) := by decide +kernel
theorem dX6_meet_143 : decode cX6_meet 143 = .ok (.iaload, 1) := by decide +kernel
theorem dX6_meet_144 : decode cX6_meet 144 = .ok (.iconst 1, 1) := by decide +kernel
theorem dX6_meet_145 : decode cX6_meet 145 = .ok (.iadd, 1) := by decide +kernel
theorem dX6_meet_146 : decode cX6_meet 146 = .ok (.iastore, 1) := by decide +kernel
theorem dX6_meet_147 : decode cX6_meet 147 = .ok (.return_, 1) := by decide +kernel
set_option maxRecDepth 20000 in
theorem ggX6_pass_X6_change : GoodIn wsX6_pass wsX6_change := goodIn_r _ [9, 1, 2, 10, 11, 12, 13, 8, 14, 15, 16, 17, 18, 19, 57, 58, 59, 60, 61, 62, 63, 64, 65, 66, 67, 68, 69, 70, 71, 72, 73, 74, 75, 76, 77, 78, 79, 80, 81, 82, 83, 84, 85] (by decide +kernel) (by decide +kernel)
set_option maxRecDepth 20000 in
theorem gX6_pass_X6_change : GoodIn wsX6_pass (wsV RX6 136 RX6 yX6_change wsX6_change) := goodIn_app (goodIn_of _ (by decide +kernel)) ggX6_pass_X6_change
set_option maxRecDepth 20000 in
theorem ggX6_pass_X6_meet : GoodIn wsX6_pass wsX6_meet := goodIn_r _ [23, 2, 24, 25, 3, 26, 27, 28, 29, 30, 31, 32, 8, 33, 34, 35, 36, 37, 38, 39, 40, 41, 42, 43, 44, 45, 46, 47, 48, 49, 50, 51, 52, 16, 17, 18, 19, 53, 54, 55, 56, 57, 58, 59, 60, 61, 62, 63, 64, 65, 66, 67, 68, 69, 70, 71, 72, 73, 74, 75, 76, 77, 78, 79, 80, 81, 82, 83, 84, 85] (by decide +kernel) (by decide +kernel)
set_option maxRecDepth 20000 in
theorem gX6_pass_X6_meet : GoodIn wsX6_pass (wsV RX6 139 RX6 yX6_meet wsX6_meet) := goodIn_app (goodIn_of _ (by decide +kernel)) ggX6_pass_X6_meet
theorem dX6_pass_0 : decode cX6_pass 0 = .ok (.aload_n 0, 1) := by decide +kernel
theorem dX6_pass_1 : decode cX6_pass 1 = .ok (.getfield 19, 3) := by decide +kernel
theorem dX6_pass_4 : decode cX6_pass 4 = .ok (.iload_n 1, 1) := by decide +kernel
theorem dX6_pass_5 : decode cX6_pass 5 = .ok (.iaload, 1) := by decide +kernel
theorem dX6_pass_6 : decode cX6_pass 6 = .ok (.iconst 2, 1) := by decide +kernel
theorem dX6_pass_7 : decode cX6_pass 7 = .ok (.if_icmp .ne 7, 3) := by decide +kernel
theorem dX6_pass_10 : decode cX6_pass 10 = .ok (.iconst 2, 1) := by decide +kernel
theorem dX6_pass_11 : decode cX6_pass 11 = .ok (.goto 4, 3) := by decide +kernel
theorem dX6_pass_14 : decode cX6_pass 14 = .ok (.iconst 1, 1) := by decide +kernel
theorem dX6_pass_15 : decode cX6_pass 15 = .ok (.istore 4, 2) := by decide +kernel
theorem dX6_pass_17 : decode cX6_pass 17 = .ok (.iconst 0, 1) := by decide +kernel
theorem dX6_pass_18 : decode cX6_pass 18 = .ok (.istore 5, 2) := by decide +kernel
theorem dX6_pass_20 : decode cX6_pass 20 = .ok (.iload 5, 2) := by decide +kernel
theorem dX6_pass_22 : decode cX6_pass 22 = .ok (.iload 4, 2) := by decide +kernel
theorem dX6_pass_24 : decode cX6_pass 24 = .ok (.if_icmp .ge 83, 3) := by decide +kernel
theorem dX6_pass_27 : decode cX6_pass 27 = .ok (.iconst 0, 1) := by decide +kernel
theorem dX6_pass_28 : decode cX6_pass 28 = .ok (.istore 6, 2) := by decide +kernel
theorem dX6_pass_30 : decode cX6_pass 30 = .ok (.iload 6, 2) := by decide +kernel
theorem dX6_pass_32 : decode cX6_pass 32 = .ok (.iconst 5, 1) := by decide +kernel
theorem dX6_pass_33 : decode cX6_pass 33 = .ok (.if_icmp .ge 32, 3) := by decide +kernel
theorem dX6_pass_36 : decode cX6_pass 36 = .ok (.aload_n 0, 1) := by decide +kernel
theorem dX6_pass_37 : decode cX6_pass 37 = .ok (.getfield 64, 3) := by decide +kernel
theorem dX6_pass_40 : decode cX6_pass 40 = .ok (.iload 6, 2) := by decide +kernel
theorem dX6_pass_42 : decode cX6_pass 42 = .ok (.aload_n 0, 1) := by decide +kernel
theorem dX6_pass_43 : decode cX6_pass 43 = .ok (.getfield 31, 3) := by decide +kernel
theorem dX6_pass_46 : decode cX6_pass 46 = .ok (.bipush 25, 2) := by decide +kernel
theorem dX6_pass_48 : decode cX6_pass 48 = .ok (.iload_n 2, 1) := by decide +kernel
theorem dX6_pass_49 : decode cX6_pass 49 = .ok (.imul, 1) := by decide +kernel
theorem dX6_pass_50 : decode cX6_pass 50 = .ok (.iconst 5, 1) := by decide +kernel
theorem dX6_pass_51 : decode cX6_pass 51 = .ok (.iload_n 3, 1) := by decide +kernel
theorem dX6_pass_52 : decode cX6_pass 52 = .ok (.imul, 1) := by decide +kernel
theorem dX6_pass_53 : decode cX6_pass 53 = .ok (.iadd, 1) := by decide +kernel
theorem dX6_pass_54 : decode cX6_pass 54 = .ok (.iload 6, 2) := by decide +kernel
theorem dX6_pass_56 : decode cX6_pass 56 = .ok (.iadd, 1) := by decide +kernel
theorem dX6_pass_57 : decode cX6_pass 57 = .ok (.iaload, 1) := by decide +kernel
theorem dX6_pass_58 : decode cX6_pass 58 = .ok (.iastore, 1) := by decide +kernel
theorem dX6_pass_59 : decode cX6_pass 59 = .ok (.iinc 6 1, 3) := by decide +kernel
theorem dX6_pass_62 : decode cX6_pass 62 = .ok (.goto (-32), 3) := by decide +kernel
theorem dX6_pass_65 : decode cX6_pass 65 = .ok (.aload_n 0, 1) := by decide +kernel
theorem dX6_pass_66 : decode cX6_pass 66 = .ok (.iload_n 1, 1) := by decide +kernel
theorem dX6_pass_67 : decode cX6_pass 67 = .ok (.iload 5, 2) := by decide +kernel
theorem dX6_pass_69 : decode cX6_pass 69 = .ok (.invokevirtual 136, 3) := by decide +kernel
theorem dX6_pass_72 : decode cX6_pass 72 = .ok (.aload_n 0, 1) := by decide +kernel
theorem dX6_pass_73 : decode cX6_pass 73 = .ok (.aload_n 0, 1) := by decide +kernel
theorem dX6_pass_74 : decode cX6_pass 74 = .ok (.getfield 16, 3) := by decide +kernel
theorem dX6_pass_77 : decode cX6_pass 77 = .ok (.iload_n 1, 1) := by decide +kernel
theorem dX6_pass_78 : decode cX6_pass 78 = .ok (.iaload, 1) := by decide +kernel
theorem dX6_pass_79 : decode cX6_pass 79 = .ok (.sipush 10000, 3) := by decide +kernel
theorem dX6_pass_82 : decode cX6_pass 82 = .ok (.iload_n 1, 1) := by decide +kernel
theorem dX6_pass_83 : decode cX6_pass 83 = .ok (.imul, 1) := by decide +kernel
theorem dX6_pass_84 : decode cX6_pass 84 = .ok (.sipush 1000, 3) := by decide +kernel
theorem dX6_pass_87 : decode cX6_pass 87 = .ok (.iload_n 2, 1) := by decide +kernel
theorem dX6_pass_88 : decode cX6_pass 88 = .ok (.imul, 1) := by decide +kernel
theorem dX6_pass_89 : decode cX6_pass 89 = .ok (.iadd, 1) := by decide +kernel
theorem dX6_pass_90 : decode cX6_pass 90 = .ok (.bipush 10, 2) := by decide +kernel
theorem dX6_pass_92 : decode cX6_pass 92 = .ok (.iload_n 3, 1) := by decide +kernel
theorem dX6_pass_93 : decode cX6_pass 93 = .ok (.imul, 1) := by decide +kernel
theorem dX6_pass_94 : decode cX6_pass 94 = .ok (.iadd, 1) := by decide +kernel
theorem dX6_pass_95 : decode cX6_pass 95 = .ok (.iload 5, 2) := by decide +kernel
theorem dX6_pass_97 : decode cX6_pass 97 = .ok (.iadd, 1) := by decide +kernel
theorem dX6_pass_98 : decode cX6_pass 98 = .ok (.invokevirtual 139, 3) := by decide +kernel
theorem dX6_pass_101 : decode cX6_pass 101 = .ok (.iinc 5 1, 3) := by decide +kernel
theorem dX6_pass_104 : decode cX6_pass 104 = .ok (.goto (-84), 3) := by decide +kernel
theorem dX6_pass_107 : decode cX6_pass 107 = .ok (.return_, 1) := by decide +kernel
set_option maxRecDepth 20000 in
theorem ggX6_readEquations_X6_layPoints : GoodIn wsX6_readEquations wsX6_layPoints := goodIn_r _ [10, 11, 12, 13, 14, 15, 16, 9, 17, 5, 38, 39, 40, 41, 42, 43, 44, 45, 46, 47, 48, 49, 50, 51, 52, 53, 54, 55, 56, 57, 58, 59, 60, 61, 62, 63, 64, 65, 66] (by decide +kernel) (by decide +kernel)
set_option maxRecDepth 20000 in
theorem gX6_readEquations_X6_layPoints : GoodIn wsX6_readEquations (wsV RX6 125 RX6 yX6_layPoints wsX6_layPoints) := goodIn_app (goodIn_of _ (by decide +kernel)) ggX6_readEquations_X6_layPoints
set_option maxRecDepth 20000 in
theorem ggX6_readEquations_X6_rank : GoodIn wsX6_readEquations wsX6_rank := goodIn_r _ [21, 2, 3, 11, 5, 22, 23, 24, 9, 25, 26, 27, 28, 29, 30, 31, 32, 33, 34, 35, 36, 37, 38, 39, 40, 41, 42, 43, 44, 45, 46, 47, 48, 49, 50, 51, 52, 53, 54, 55, 56, 57, 58, 59, 60, 61, 62, 63, 64, 65, 66] (by decide +kernel) (by decide +kernel)
set_option maxRecDepth 20000 in
theorem gX6_readEquations_X6_rank : GoodIn wsX6_readEquations (wsV RX6 129 RX6 yX6_rank wsX6_rank) := goodIn_app (goodIn_of _ (by decide +kernel)) ggX6_readEquations_X6_rank
set_option maxRecDepth 20000 in
theorem ggX6_readEquations_X6_mod : GoodIn wsX6_readEquations wsX6_mod := goodIn_r _ [32, 33] (by decide +kernel) (by decide +kernel)
set_option maxRecDepth 20000 in
theorem gX6_readEquations_X6_mod : GoodIn wsX6_readEquations (va_wsS RX6 80 yX6_mod wsX6_mod) := goodIn_app (goodIn_of _ (by decide +kernel)) ggX6_readEquations_X6_mod
theorem dX6_readEquations_0 : decode cX6_readEquations 0 = .ok (.aload_n 0, 1) := by decide +kernel
theorem dX6_readEquations_1 : decode cX6_readEquations 1 = .ok (.iload_n 1, 1) := by decide +kernel
theorem dX6_readEquations_2 : decode cX6_readEquations 2 = .ok (.invokevirtual 125, 3) := by decide +kernel
theorem dX6_readEquations_5 : decode cX6_readEquations 5 = .ok (.aload_n 0, 1) := by decide +kernel
theorem dX6_readEquations_6 : decode cX6_readEquations 6 = .ok (.invokevirtual 129, 3) := by decide +kernel
theorem dX6_readEquations_9 : decode cX6_readEquations 9 = .ok (.pop, 1) := by decide +kernel
theorem dX6_readEquations_10 : decode cX6_readEquations 10 = .ok (.aload_n 0, 1) := by decide +kernel
theorem dX6_readEquations_11 : decode cX6_readEquations 11 = .ok (.getfield 43, 3) := by decide +kernel
theorem dX6_readEquations_14 : decode cX6_readEquations 14 = .ok (.iload_n 1, 1) := by decide +kernel
theorem dX6_readEquations_15 : decode cX6_readEquations 15 = .ok (.iconst 0, 1) := by decide +kernel
theorem dX6_readEquations_16 : decode cX6_readEquations 16 = .ok (.iastore, 1) := by decide +kernel
theorem dX6_readEquations_17 : decode cX6_readEquations 17 = .ok (.iconst 1, 1) := by decide +kernel
theorem dX6_readEquations_18 : decode cX6_readEquations 18 = .ok (.istore_n 2, 1) := by decide +kernel
theorem dX6_readEquations_19 : decode cX6_readEquations 19 = .ok (.iload_n 2, 1) := by decide +kernel
theorem dX6_readEquations_20 : decode cX6_readEquations 20 = .ok (.aload_n 0, 1) := by decide +kernel
theorem dX6_readEquations_21 : decode cX6_readEquations 21 = .ok (.getfield 71, 3) := by decide +kernel
theorem dX6_readEquations_24 : decode cX6_readEquations 24 = .ok (.iconst 1, 1) := by decide +kernel
theorem dX6_readEquations_25 : decode cX6_readEquations 25 = .ok (.iadd, 1) := by decide +kernel
theorem dX6_readEquations_26 : decode cX6_readEquations 26 = .ok (.if_icmp .gt 136, 3) := by decide +kernel
theorem dX6_readEquations_29 : decode cX6_readEquations 29 = .ok (.iload_n 2, 1) := by decide +kernel
theorem dX6_readEquations_30 : decode cX6_readEquations 30 = .ok (.aload_n 0, 1) := by decide +kernel
theorem dX6_readEquations_31 : decode cX6_readEquations 31 = .ok (.getfield 71, 3) := by decide +kernel
theorem dX6_readEquations_34 : decode cX6_readEquations 34 = .ok (.if_icmp .le 7, 3) := by decide +kernel
theorem dX6_readEquations_37 : decode cX6_readEquations 37 = .ok (.iconst 0, 1) := by decide +kernel
theorem dX6_readEquations_38 : decode cX6_readEquations 38 = .ok (.goto 4, 3) := by decide +kernel
theorem dX6_readEquations_41 : decode cX6_readEquations 41 = .ok (.iload_n 2, 1) := by decide +kernel
theorem dX6_readEquations_42 : decode cX6_readEquations 42 = .ok (.istore_n 3, 1) := by decide +kernel
theorem dX6_readEquations_43 : decode cX6_readEquations 43 = .ok (.aload_n 0, 1) := by decide +kernel
theorem dX6_readEquations_44 : decode cX6_readEquations 44 = .ok (.getfield 61, 3) := by decide +kernel
theorem dX6_readEquations_47 : decode cX6_readEquations 47 = .ok (.iload_n 3, 1) := by decide +kernel
theorem dX6_readEquations_48 : decode cX6_readEquations 48 = .ok (.iaload, 1) := by decide +kernel
theorem dX6_readEquations_49 : decode cX6_readEquations 49 = .ok (.ifCond .ge 107, 3) := by decide +kernel
theorem dX6_readEquations_52 : decode cX6_readEquations 52 = .ok (.bipush 25, 2) := by decide +kernel
theorem dX6_readEquations_54 : decode cX6_readEquations 54 = .ok (.iload_n 1, 1) := by decide +kernel
theorem dX6_readEquations_55 : decode cX6_readEquations 55 = .ok (.imul, 1) := by decide +kernel
theorem dX6_readEquations_56 : decode cX6_readEquations 56 = .ok (.iconst 5, 1) := by decide +kernel
theorem dX6_readEquations_57 : decode cX6_readEquations 57 = .ok (.aload_n 0, 1) := by decide +kernel
theorem dX6_readEquations_58 : decode cX6_readEquations 58 = .ok (.getfield 43, 3) := by decide +kernel
theorem dX6_readEquations_61 : decode cX6_readEquations 61 = .ok (.iload_n 1, 1) := by decide +kernel
theorem dX6_readEquations_62 : decode cX6_readEquations 62 = .ok (.iaload, 1) := by decide +kernel
theorem dX6_readEquations_63 : decode cX6_readEquations 63 = .ok (.imul, 1) := by decide +kernel
theorem dX6_readEquations_64 : decode cX6_readEquations 64 = .ok (.iadd, 1) := by decide +kernel
theorem dX6_readEquations_65 : decode cX6_readEquations 65 = .ok (.istore 4, 2) := by decide +kernel
theorem dX6_readEquations_67 : decode cX6_readEquations 67 = .ok (.iconst 0, 1) := by decide +kernel
theorem dX6_readEquations_68 : decode cX6_readEquations 68 = .ok (.istore 5, 2) := by decide +kernel
theorem dX6_readEquations_70 : decode cX6_readEquations 70 = .ok (.iload 5, 2) := by decide +kernel
theorem dX6_readEquations_72 : decode cX6_readEquations 72 = .ok (.iconst 5, 1) := by decide +kernel
theorem dX6_readEquations_73 : decode cX6_readEquations 73 = .ok (.if_icmp .ge 73, 3) := by decide +kernel
theorem dX6_readEquations_76 : decode cX6_readEquations 76 = .ok (.aload_n 0, 1) := by decide +kernel
theorem dX6_readEquations_77 : decode cX6_readEquations 77 = .ok (.getfield 46, 3) := by decide +kernel
theorem dX6_readEquations_80 : decode cX6_readEquations 80 = .ok (.iload 4, 2) := by decide +kernel
theorem dX6_readEquations_82 : decode cX6_readEquations 82 = .ok (.iload 5, 2) := by decide +kernel
theorem dX6_readEquations_84 : decode cX6_readEquations 84 = .ok (.iadd, 1) := by decide +kernel
theorem dX6_readEquations_85 : decode cX6_readEquations 85 = .ok (.iload 5, 2) := by decide +kernel
theorem dX6_readEquations_87 : decode cX6_readEquations 87 = .ok (.iload_n 3, 1) := by decide +kernel
theorem dX6_readEquations_88 : decode cX6_readEquations 88 = .ok (.if_icmp .ne 7, 3) := by decide +kernel
theorem dX6_readEquations_91 : decode cX6_readEquations 91 = .ok (.iconst 1, 1) := by decide +kernel
theorem dX6_readEquations_92 : decode cX6_readEquations 92 = .ok (.goto 47, 3) := by decide +kernel
theorem dX6_readEquations_95 : decode cX6_readEquations 95 = .ok (.iload 5, 2) := by decide +kernel
theorem dX6_readEquations_97 : decode cX6_readEquations 97 = .ok (.aload_n 0, 1) := by decide +kernel
theorem dX6_readEquations_98 : decode cX6_readEquations 98 = .ok (.getfield 71, 3) := by decide +kernel
theorem dX6_readEquations_101 : decode cX6_readEquations 101 = .ok (.if_icmp .gt 37, 3) := by decide +kernel
theorem dX6_readEquations_104 : decode cX6_readEquations 104 = .ok (.aload_n 0, 1) := by decide +kernel
theorem dX6_readEquations_105 : decode cX6_readEquations 105 = .ok (.getfield 61, 3) := by decide +kernel
theorem dX6_readEquations_108 : decode cX6_readEquations 108 = .ok (.iload 5, 2) := by decide +kernel
theorem dX6_readEquations_110 : decode cX6_readEquations 110 = .ok (.iaload, 1) := by decide +kernel
theorem dX6_readEquations_111 : decode cX6_readEquations 111 = .ok (.ifCond .lt 27, 3) := by decide +kernel
theorem dX6_readEquations_114 : decode cX6_readEquations 114 = .ok (.aload_n 0, 1) := by decide +kernel
theorem dX6_readEquations_115 : decode cX6_readEquations 115 = .ok (.getfield 58, 3) := by decide +kernel
theorem dX6_readEquations_118 : decode cX6_readEquations 118 = .ok (.iconst 5, 1) := by decide +kernel
theorem dX6_readEquations_119 : decode cX6_readEquations 119 = .ok (.aload_n 0, 1) := by decide +kernel
theorem dX6_readEquations_120 : decode cX6_readEquations 120 = .ok (.getfield 61, 3) := by decide +kernel
theorem dX6_readEquations_123 : decode cX6_readEquations 123 = .ok (.iload 5, 2) := by decide +kernel
theorem dX6_readEquations_125 : decode cX6_readEquations 125 = .ok (.iaload, 1) := by decide +kernel
theorem dX6_readEquations_126 : decode cX6_readEquations 126 = .ok (.imul, 1) := by decide +kernel
theorem dX6_readEquations_127 : decode cX6_readEquations 127 = .ok (.iload_n 3, 1) := by decide +kernel
theorem dX6_readEquations_128 : decode cX6_readEquations 128 = .ok (.iadd, 1) := by decide +kernel
theorem dX6_readEquations_129 : decode cX6_readEquations 129 = .ok (.iaload, 1) := by decide +kernel
theorem dX6_readEquations_130 : decode cX6_readEquations 130 = .ok (.ineg, 1) := by decide +kernel
theorem dX6_readEquations_131 : decode cX6_readEquations 131 = .ok (.i2l, 1) := by decide +kernel
theorem dX6_readEquations_132 : decode cX6_readEquations 132 = .ok (.invokestatic 80, 3) := by decide +kernel
end
section
theorem dX6_readEquations_135 : decode cX6_readEquations 135 = .ok (.goto 4, 3) := by decide +kernel
theorem dX6_readEquations_138 : decode cX6_readEquations 138 = .ok (.iconst 0, 1) := by decide +kernel
theorem dX6_readEquations_139 : decode cX6_readEquations 139 = .ok (.iastore, 1) := by decide +kernel
theorem dX6_readEquations_140 : decode cX6_readEquations 140 = .ok (.iinc 5 1, 3) := by decide +kernel
theorem dX6_readEquations_143 : decode cX6_readEquations 143 = .ok (.goto (-73), 3) := by decide +kernel
theorem dX6_readEquations_146 : decode cX6_readEquations 146 = .ok (.aload_n 0, 1) := by decide +kernel
theorem dX6_readEquations_147 : decode cX6_readEquations 147 = .ok (.getfield 43, 3) := by decide +kernel
theorem dX6_readEquations_150 : decode cX6_readEquations 150 = .ok (.iload_n 1, 1) := by decide +kernel
theorem dX6_readEquations_151 : decode cX6_readEquations 151 = .ok (.dup2, 1) := by decide +kernel
theorem dX6_readEquations_152 : decode cX6_readEquations 152 = .ok (.iaload, 1) := by decide +kernel
theorem dX6_readEquations_153 : decode cX6_readEquations 153 = .ok (.iconst 1, 1) := by decide +kernel
theorem dX6_readEquations_154 : decode cX6_readEquations 154 = .ok (.iadd, 1) := by decide +kernel
theorem dX6_readEquations_155 : decode cX6_readEquations 155 = .ok (.iastore, 1) := by decide +kernel
theorem dX6_readEquations_156 : decode cX6_readEquations 156 = .ok (.iinc 2 1, 3) := by decide +kernel
theorem dX6_readEquations_159 : decode cX6_readEquations 159 = .ok (.goto (-140), 3) := by decide +kernel
theorem dX6_readEquations_162 : decode cX6_readEquations 162 = .ok (.return_, 1) := by decide +kernel
set_option maxRecDepth 20000 in
theorem ggX6_analyse_X6_meet : GoodIn wsX6_analyse wsX6_meet := goodIn_r _ [17, 5, 18, 3, 19, 20, 9, 2, 10, 21, 22, 23, 16, 24, 25, 26, 27, 28, 29, 30, 31, 32, 33, 4, 34, 35, 36, 37, 38, 39, 40, 41, 42, 43, 44, 45, 46, 47, 48, 49, 50, 73, 74, 75, 76, 77, 78, 79, 80, 81, 82, 83, 84, 85, 86, 87, 88, 89, 90, 91, 92, 93, 94, 95, 96, 97, 98, 99, 100, 101] (by decide +kernel) (by decide +kernel)
set_option maxRecDepth 20000 in
theorem gX6_analyse_X6_meet : GoodIn wsX6_analyse (wsV RX6 139 RX6 yX6_meet wsX6_meet) := goodIn_app (goodIn_of _ (by decide +kernel)) ggX6_analyse_X6_meet
set_option maxRecDepth 20000 in
theorem ggX6_analyse_X6_pass : GoodIn wsX6_analyse wsX6_pass := goodIn_r _ [54, 55, 5, 19, 56, 57, 58, 59, 16, 60, 61, 62, 63, 64, 65, 66, 43, 44, 45, 46, 13, 14, 15, 17, 18, 3, 20, 9, 2, 10, 21, 22, 23, 24, 25, 26, 27, 28, 29, 30, 31, 32, 33, 4, 34, 35, 36, 37, 38, 39, 40, 41, 42, 47, 48, 49, 50, 73, 74, 75, 76, 77, 78, 79, 80, 81, 82, 83, 84, 85, 86, 87, 88, 89, 90, 91, 92, 93, 94, 95, 96, 97, 98, 99, 100, 101] (by decide +kernel) (by decide +kernel)
set_option maxRecDepth 20000 in
theorem gX6_analyse_X6_pass : GoodIn wsX6_analyse (wsV RX6 142 RX6 yX6_pass wsX6_pass) := goodIn_app (goodIn_of _ (by decide +kernel)) ggX6_analyse_X6_pass
set_option maxRecDepth 20000 in
theorem ggX6_analyse_X6_readEquations : GoodIn wsX6_analyse wsX6_readEquations := goodIn_r _ [70, 71, 4, 34, 72, 29, 21, 22, 23, 16, 24, 18, 3, 19, 25, 26, 27, 28, 30, 31, 32, 33, 35, 36, 37, 38, 39, 40, 41, 42, 43, 44, 45, 46, 47, 48, 49, 50, 73, 74, 75, 76, 77, 78, 79, 80, 81, 82, 83, 84, 85, 86, 87, 88, 89, 90, 91, 92, 93, 94, 95, 96, 97, 98, 99, 100, 101] (by decide +kernel) (by decide +kernel)
set_option maxRecDepth 20000 in
theorem gX6_analyse_X6_readEquations : GoodIn wsX6_analyse (wsV RX6 145 RX6 yX6_readEquations wsX6_readEquations) := goodIn_app (goodIn_of _ (by decide +kernel)) ggX6_analyse_X6_readEquations
theorem dX6_analyse_0 : decode cX6_analyse 0 = .ok (.aload_n 0, 1) := by decide +kernel
theorem dX6_analyse_1 : decode cX6_analyse 1 = .ok (.iconst 0, 1) := by decide +kernel
theorem dX6_analyse_2 : decode cX6_analyse 2 = .ok (.putfield 74, 3) := by decide +kernel
theorem dX6_analyse_5 : decode cX6_analyse 5 = .ok (.aload_n 0, 1) := by decide +kernel
theorem dX6_analyse_6 : decode cX6_analyse 6 = .ok (.iconst 0, 1) := by decide +kernel
theorem dX6_analyse_7 : decode cX6_analyse 7 = .ok (.putfield 133, 3) := by decide +kernel
theorem dX6_analyse_10 : decode cX6_analyse 10 = .ok (.iconst 0, 1) := by decide +kernel
theorem dX6_analyse_11 : decode cX6_analyse 11 = .ok (.istore_n 1, 1) := by decide +kernel
theorem dX6_analyse_12 : decode cX6_analyse 12 = .ok (.iload_n 1, 1) := by decide +kernel
theorem dX6_analyse_13 : decode cX6_analyse 13 = .ok (.bipush 8, 2) := by decide +kernel
theorem dX6_analyse_15 : decode cX6_analyse 15 = .ok (.if_icmp .ge 16, 3) := by decide +kernel
theorem dX6_analyse_18 : decode cX6_analyse 18 = .ok (.aload_n 0, 1) := by decide +kernel
theorem dX6_analyse_19 : decode cX6_analyse 19 = .ok (.getfield 28, 3) := by decide +kernel
theorem dX6_analyse_22 : decode cX6_analyse 22 = .ok (.iload_n 1, 1) := by decide +kernel
theorem dX6_analyse_23 : decode cX6_analyse 23 = .ok (.iconst 0, 1) := by decide +kernel
theorem dX6_analyse_24 : decode cX6_analyse 24 = .ok (.iastore, 1) := by decide +kernel
theorem dX6_analyse_25 : decode cX6_analyse 25 = .ok (.iinc 1 1, 3) := by decide +kernel
theorem dX6_analyse_28 : decode cX6_analyse 28 = .ok (.goto (-16), 3) := by decide +kernel
theorem dX6_analyse_31 : decode cX6_analyse 31 = .ok (.iconst 0, 1) := by decide +kernel
theorem dX6_analyse_32 : decode cX6_analyse 32 = .ok (.istore_n 1, 1) := by decide +kernel
theorem dX6_analyse_33 : decode cX6_analyse 33 = .ok (.iload_n 1, 1) := by decide +kernel
theorem dX6_analyse_34 : decode cX6_analyse 34 = .ok (.aload_n 0, 1) := by decide +kernel
theorem dX6_analyse_35 : decode cX6_analyse 35 = .ok (.getfield 71, 3) := by decide +kernel
theorem dX6_analyse_38 : decode cX6_analyse 38 = .ok (.if_icmp .gt 51, 3) := by decide +kernel
theorem dX6_analyse_41 : decode cX6_analyse 41 = .ok (.iconst 0, 1) := by decide +kernel
theorem dX6_analyse_42 : decode cX6_analyse 42 = .ok (.istore_n 2, 1) := by decide +kernel
theorem dX6_analyse_43 : decode cX6_analyse 43 = .ok (.iload_n 2, 1) := by decide +kernel
theorem dX6_analyse_44 : decode cX6_analyse 44 = .ok (.iconst 5, 1) := by decide +kernel
theorem dX6_analyse_45 : decode cX6_analyse 45 = .ok (.if_icmp .ge 29, 3) := by decide +kernel
theorem dX6_analyse_48 : decode cX6_analyse 48 = .ok (.aload_n 0, 1) := by decide +kernel
theorem dX6_analyse_49 : decode cX6_analyse 49 = .ok (.getfield 64, 3) := by decide +kernel
theorem dX6_analyse_52 : decode cX6_analyse 52 = .ok (.iload_n 2, 1) := by decide +kernel
theorem dX6_analyse_53 : decode cX6_analyse 53 = .ok (.iload_n 2, 1) := by decide +kernel
theorem dX6_analyse_54 : decode cX6_analyse 54 = .ok (.ifCond .eq 8, 3) := by decide +kernel
theorem dX6_analyse_57 : decode cX6_analyse 57 = .ok (.iload_n 2, 1) := by decide +kernel
theorem dX6_analyse_58 : decode cX6_analyse 58 = .ok (.iload_n 1, 1) := by decide +kernel
theorem dX6_analyse_59 : decode cX6_analyse 59 = .ok (.if_icmp .ne 7, 3) := by decide +kernel
theorem dX6_analyse_62 : decode cX6_analyse 62 = .ok (.iconst 1, 1) := by decide +kernel
theorem dX6_analyse_63 : decode cX6_analyse 63 = .ok (.goto 4, 3) := by decide +kernel
theorem dX6_analyse_66 : decode cX6_analyse 66 = .ok (.iconst 0, 1) := by decide +kernel
theorem dX6_analyse_67 : decode cX6_analyse 67 = .ok (.iastore, 1) := by decide +kernel
theorem dX6_analyse_68 : decode cX6_analyse 68 = .ok (.iinc 2 1, 3) := by decide +kernel
theorem dX6_analyse_71 : decode cX6_analyse 71 = .ok (.goto (-28), 3) := by decide +kernel
theorem dX6_analyse_74 : decode cX6_analyse 74 = .ok (.aload_n 0, 1) := by decide +kernel
theorem dX6_analyse_75 : decode cX6_analyse 75 = .ok (.aload_n 0, 1) := by decide +kernel
theorem dX6_analyse_76 : decode cX6_analyse 76 = .ok (.getfield 113, 3) := by decide +kernel
theorem dX6_analyse_79 : decode cX6_analyse 79 = .ok (.iconst (-1), 1) := by decide +kernel
theorem dX6_analyse_80 : decode cX6_analyse 80 = .ok (.invokevirtual 139, 3) := by decide +kernel
theorem dX6_analyse_83 : decode cX6_analyse 83 = .ok (.iinc 1 1, 3) := by decide +kernel
theorem dX6_analyse_86 : decode cX6_analyse 86 = .ok (.goto (-53), 3) := by decide +kernel
theorem dX6_analyse_89 : decode cX6_analyse 89 = .ok (.iconst 0, 1) := by decide +kernel
theorem dX6_analyse_90 : decode cX6_analyse 90 = .ok (.istore_n 1, 1) := by decide +kernel
theorem dX6_analyse_91 : decode cX6_analyse 91 = .ok (.iload_n 1, 1) := by decide +kernel
theorem dX6_analyse_92 : decode cX6_analyse 92 = .ok (.aload_n 0, 1) := by decide +kernel
theorem dX6_analyse_93 : decode cX6_analyse 93 = .ok (.getfield 133, 3) := by decide +kernel
theorem dX6_analyse_96 : decode cX6_analyse 96 = .ok (.if_icmp .ge 57, 3) := by decide +kernel
theorem dX6_analyse_99 : decode cX6_analyse 99 = .ok (.iconst 0, 1) := by decide +kernel
theorem dX6_analyse_100 : decode cX6_analyse 100 = .ok (.istore_n 2, 1) := by decide +kernel
theorem dX6_analyse_101 : decode cX6_analyse 101 = .ok (.iload_n 2, 1) := by decide +kernel
theorem dX6_analyse_102 : decode cX6_analyse 102 = .ok (.aload_n 0, 1) := by decide +kernel
theorem dX6_analyse_103 : decode cX6_analyse 103 = .ok (.getfield 103, 3) := by decide +kernel
theorem dX6_analyse_106 : decode cX6_analyse 106 = .ok (.if_icmp .ge 41, 3) := by decide +kernel
theorem dX6_analyse_109 : decode cX6_analyse 109 = .ok (.aload_n 0, 1) := by decide +kernel
theorem dX6_analyse_110 : decode cX6_analyse 110 = .ok (.getfield 13, 3) := by decide +kernel
theorem dX6_analyse_113 : decode cX6_analyse 113 = .ok (.iload_n 2, 1) := by decide +kernel
theorem dX6_analyse_114 : decode cX6_analyse 114 = .ok (.iaload, 1) := by decide +kernel
theorem dX6_analyse_115 : decode cX6_analyse 115 = .ok (.aload_n 0, 1) := by decide +kernel
theorem dX6_analyse_116 : decode cX6_analyse 116 = .ok (.getfield 37, 3) := by decide +kernel
theorem dX6_analyse_119 : decode cX6_analyse 119 = .ok (.iload_n 1, 1) := by decide +kernel
theorem dX6_analyse_120 : decode cX6_analyse 120 = .ok (.iaload, 1) := by decide +kernel
theorem dX6_analyse_121 : decode cX6_analyse 121 = .ok (.if_icmp .ne 20, 3) := by decide +kernel
theorem dX6_analyse_124 : decode cX6_analyse 124 = .ok (.aload_n 0, 1) := by decide +kernel
theorem dX6_analyse_125 : decode cX6_analyse 125 = .ok (.iload_n 2, 1) := by decide +kernel
theorem dX6_analyse_126 : decode cX6_analyse 126 = .ok (.aload_n 0, 1) := by decide +kernel
theorem dX6_analyse_127 : decode cX6_analyse 127 = .ok (.getfield 37, 3) := by decide +kernel
theorem dX6_analyse_130 : decode cX6_analyse 130 = .ok (.iload_n 1, 1) := by decide +kernel
theorem dX6_analyse_131 : decode cX6_analyse 131 = .ok (.iaload, 1) := by decide +kernel
theorem dX6_analyse_132 : decode cX6_analyse 132 = .ok (.aload_n 0, 1) := by decide +kernel
theorem dX6_analyse_133 : decode cX6_analyse 133 = .ok (.getfield 40, 3) := by decide +kernel
theorem dX6_analyse_136 : decode cX6_analyse 136 = .ok (.iload_n 1, 1) := by decide +kernel
theorem dX6_analyse_137 : decode cX6_analyse 137 = .ok (.iaload, 1) := by decide +kernel
theorem dX6_analyse_138 : decode cX6_analyse 138 = .ok (.invokevirtual 142, 3) := by decide +kernel
theorem dX6_analyse_141 : decode cX6_analyse 141 = .ok (.iinc 2 1, 3) := by decide +kernel
theorem dX6_analyse_144 : decode cX6_analyse 144 = .ok (.goto (-43), 3) := by decide +kernel
theorem dX6_analyse_147 : decode cX6_analyse 147 = .ok (.iinc 1 1, 3) := by decide +kernel
theorem dX6_analyse_150 : decode cX6_analyse 150 = .ok (.goto (-59), 3) := by decide +kernel
theorem dX6_analyse_153 : decode cX6_analyse 153 = .ok (.iconst 0, 1) := by decide +kernel
theorem dX6_analyse_154 : decode cX6_analyse 154 = .ok (.istore_n 1, 1) := by decide +kernel
theorem dX6_analyse_155 : decode cX6_analyse 155 = .ok (.iload_n 1, 1) := by decide +kernel
theorem dX6_analyse_156 : decode cX6_analyse 156 = .ok (.aload_n 0, 1) := by decide +kernel
theorem dX6_analyse_157 : decode cX6_analyse 157 = .ok (.getfield 67, 3) := by decide +kernel
theorem dX6_analyse_160 : decode cX6_analyse 160 = .ok (.if_icmp .ge 14, 3) := by decide +kernel
theorem dX6_analyse_163 : decode cX6_analyse 163 = .ok (.aload_n 0, 1) := by decide +kernel
theorem dX6_analyse_164 : decode cX6_analyse 164 = .ok (.iload_n 1, 1) := by decide +kernel
theorem dX6_analyse_165 : decode cX6_analyse 165 = .ok (.invokevirtual 145, 3) := by decide +kernel
theorem dX6_analyse_168 : decode cX6_analyse 168 = .ok (.iinc 1 1, 3) := by decide +kernel
theorem dX6_analyse_171 : decode cX6_analyse 171 = .ok (.goto (-16), 3) := by decide +kernel
theorem dX6_analyse_174 : decode cX6_analyse 174 = .ok (.aload_n 0, 1) := by decide +kernel
theorem dX6_analyse_175 : decode cX6_analyse 175 = .ok (.iconst 1, 1) := by decide +kernel
theorem dX6_analyse_176 : decode cX6_analyse 176 = .ok (.putfield 109, 3) := by decide +kernel
theorem dX6_analyse_179 : decode cX6_analyse 179 = .ok (.aload_n 0, 1) := by decide +kernel
theorem dX6_analyse_180 : decode cX6_analyse 180 = .ok (.getfield 133, 3) := by decide +kernel
theorem dX6_analyse_183 : decode cX6_analyse 183 = .ok (.ireturn, 1) := by decide +kernel
set_option maxRecDepth 20000 in
theorem ggX6_asked_X6_isNode : GoodIn wsX6_asked wsX6_isNode := goodIn_r _ [6, 7, 8, 9, 10, 11, 12, 13, 14, 15, 16, 17, 18, 19, 20, 21, 22, 23, 24, 25, 26, 27, 28, 29, 30, 31, 32, 33, 34, 35, 36] (by decide +kernel) (by decide +kernel)
set_option maxRecDepth 20000 in
theorem gX6_asked_X6_isNode : GoodIn wsX6_asked (wsV RX6 99 RX6 yX6_isNode wsX6_isNode) := goodIn_app (goodIn_of _ (by decide +kernel)) ggX6_asked_X6_isNode
theorem dX6_asked_0 : decode cX6_asked 0 = .ok (.aload_n 0, 1) := by decide +kernel
theorem dX6_asked_1 : decode cX6_asked 1 = .ok (.iload_n 1, 1) := by decide +kernel
theorem dX6_asked_2 : decode cX6_asked 2 = .ok (.invokevirtual 99, 3) := by decide +kernel
theorem dX6_asked_5 : decode cX6_asked 5 = .ok (.ifCond .ne 7, 3) := by decide +kernel
theorem dX6_asked_8 : decode cX6_asked 8 = .ok (.iconst 1, 1) := by decide +kernel
theorem dX6_asked_9 : decode cX6_asked 9 = .ok (.goto 15, 3) := by decide +kernel
theorem dX6_asked_12 : decode cX6_asked 12 = .ok (.aload_n 0, 1) := by decide +kernel
theorem dX6_asked_13 : decode cX6_asked 13 = .ok (.getfield 109, 3) := by decide +kernel
theorem dX6_asked_16 : decode cX6_asked 16 = .ok (.ifCond .ne 7, 3) := by decide +kernel
theorem dX6_asked_19 : decode cX6_asked 19 = .ok (.iconst 2, 1) := by decide +kernel
theorem dX6_asked_20 : decode cX6_asked 20 = .ok (.goto 4, 3) := by decide +kernel
theorem dX6_asked_23 : decode cX6_asked 23 = .ok (.iconst 0, 1) := by decide +kernel
theorem dX6_asked_24 : decode cX6_asked 24 = .ok (.ireturn, 1) := by decide +kernel
set_option maxRecDepth 20000 in
theorem ggX6_points_X6_asked : GoodIn wsX6_points wsX6_asked := goodIn_r _ [7, 8, 9, 10, 11, 6, 12, 13, 14, 15, 16, 17, 18, 19, 20, 21, 22, 23, 24, 25, 26, 27, 28, 29, 30, 31, 32, 33, 34, 35, 36, 37, 38, 39, 40, 41, 42] (by decide +kernel) (by decide +kernel)
set_option maxRecDepth 20000 in
theorem gX6_points_X6_asked : GoodIn wsX6_points (wsV RX6 148 RX6 yX6_asked wsX6_asked) := goodIn_app (goodIn_of _ (by decide +kernel)) ggX6_points_X6_asked
theorem dX6_points_0 : decode cX6_points 0 = .ok (.aload_n 0, 1) := by decide +kernel
theorem dX6_points_1 : decode cX6_points 1 = .ok (.aload_n 0, 1) := by decide +kernel
theorem dX6_points_2 : decode cX6_points 2 = .ok (.iload_n 1, 1) := by decide +kernel
theorem dX6_points_3 : decode cX6_points 3 = .ok (.invokevirtual 148, 3) := by decide +kernel
theorem dX6_points_6 : decode cX6_points 6 = .ok (.putfield 74, 3) := by decide +kernel
theorem dX6_points_9 : decode cX6_points 9 = .ok (.aload_n 0, 1) := by decide +kernel
theorem dX6_points_10 : decode cX6_points 10 = .ok (.getfield 74, 3) := by decide +kernel
theorem dX6_points_13 : decode cX6_points 13 = .ok (.ifCond .ne 12, 3) := by decide +kernel
theorem dX6_points_16 : decode cX6_points 16 = .ok (.aload_n 0, 1) := by decide +kernel
theorem dX6_points_17 : decode cX6_points 17 = .ok (.getfield 28, 3) := by decide +kernel
theorem dX6_points_20 : decode cX6_points 20 = .ok (.iload_n 1, 1) := by decide +kernel
theorem dX6_points_21 : decode cX6_points 21 = .ok (.iaload, 1) := by decide +kernel
theorem dX6_points_22 : decode cX6_points 22 = .ok (.goto 4, 3) := by decide +kernel
theorem dX6_points_25 : decode cX6_points 25 = .ok (.iconst 0, 1) := by decide +kernel
theorem dX6_points_26 : decode cX6_points 26 = .ok (.ireturn, 1) := by decide +kernel
set_option maxRecDepth 20000 in
theorem ggX6_point_X6_asked : GoodIn wsX6_point wsX6_asked := goodIn_r _ [10, 11, 12, 13, 14, 9, 15, 16, 17, 18, 19, 20, 21, 22, 23, 24, 25, 26, 27, 28, 29, 30, 31, 32, 33, 34, 35, 36, 37, 38, 39, 40, 41, 42, 43, 44, 45] (by decide +kernel) (by decide +kernel)
set_option maxRecDepth 20000 in
theorem gX6_point_X6_asked : GoodIn wsX6_point (wsV RX6 148 RX6 yX6_asked wsX6_asked) := goodIn_app (goodIn_of _ (by decide +kernel)) ggX6_point_X6_asked
theorem dX6_point_0 : decode cX6_point 0 = .ok (.aload_n 0, 1) := by decide +kernel
theorem dX6_point_1 : decode cX6_point 1 = .ok (.iload_n 3, 1) := by decide +kernel
theorem dX6_point_2 : decode cX6_point 2 = .ok (.ifCond .lt 11, 3) := by decide +kernel
theorem dX6_point_5 : decode cX6_point 5 = .ok (.iload_n 3, 1) := by decide +kernel
theorem dX6_point_6 : decode cX6_point 6 = .ok (.aload_n 0, 1) := by decide +kernel
theorem dX6_point_7 : decode cX6_point 7 = .ok (.getfield 71, 3) := by decide +kernel
theorem dX6_point_10 : decode cX6_point 10 = .ok (.if_icmp .le 7, 3) := by decide +kernel
theorem dX6_point_13 : decode cX6_point 13 = .ok (.iconst 1, 1) := by decide +kernel
theorem dX6_point_14 : decode cX6_point 14 = .ok (.goto 8, 3) := by decide +kernel
theorem dX6_point_17 : decode cX6_point 17 = .ok (.aload_n 0, 1) := by decide +kernel
theorem dX6_point_18 : decode cX6_point 18 = .ok (.iload_n 1, 1) := by decide +kernel
theorem dX6_point_19 : decode cX6_point 19 = .ok (.invokevirtual 148, 3) := by decide +kernel
theorem dX6_point_22 : decode cX6_point 22 = .ok (.putfield 74, 3) := by decide +kernel
theorem dX6_point_25 : decode cX6_point 25 = .ok (.aload_n 0, 1) := by decide +kernel
theorem dX6_point_26 : decode cX6_point 26 = .ok (.aload_n 0, 1) := by decide +kernel
theorem dX6_point_27 : decode cX6_point 27 = .ok (.getfield 74, 3) := by decide +kernel
theorem dX6_point_30 : decode cX6_point 30 = .ok (.ifCond .ne 21, 3) := by decide +kernel
theorem dX6_point_33 : decode cX6_point 33 = .ok (.iload_n 2, 1) := by decide +kernel
theorem dX6_point_34 : decode cX6_point 34 = .ok (.ifCond .lt 13, 3) := by decide +kernel
theorem dX6_point_37 : decode cX6_point 37 = .ok (.iload_n 2, 1) := by decide +kernel
theorem dX6_point_38 : decode cX6_point 38 = .ok (.aload_n 0, 1) := by decide +kernel
theorem dX6_point_39 : decode cX6_point 39 = .ok (.getfield 28, 3) := by decide +kernel
theorem dX6_point_42 : decode cX6_point 42 = .ok (.iload_n 1, 1) := by decide +kernel
theorem dX6_point_43 : decode cX6_point 43 = .ok (.iaload, 1) := by decide +kernel
theorem dX6_point_44 : decode cX6_point 44 = .ok (.if_icmp .lt 7, 3) := by decide +kernel
theorem dX6_point_47 : decode cX6_point 47 = .ok (.iconst 3, 1) := by decide +kernel
theorem dX6_point_48 : decode cX6_point 48 = .ok (.goto 7, 3) := by decide +kernel
theorem dX6_point_51 : decode cX6_point 51 = .ok (.aload_n 0, 1) := by decide +kernel
theorem dX6_point_52 : decode cX6_point 52 = .ok (.getfield 74, 3) := by decide +kernel
theorem dX6_point_55 : decode cX6_point 55 = .ok (.putfield 74, 3) := by decide +kernel
theorem dX6_point_58 : decode cX6_point 58 = .ok (.aload_n 0, 1) := by decide +kernel
theorem dX6_point_59 : decode cX6_point 59 = .ok (.getfield 74, 3) := by decide +kernel
theorem dX6_point_62 : decode cX6_point 62 = .ok (.ifCond .eq 7, 3) := by decide +kernel
theorem dX6_point_65 : decode cX6_point 65 = .ok (.iconst 0, 1) := by decide +kernel
theorem dX6_point_66 : decode cX6_point 66 = .ok (.goto 35, 3) := by decide +kernel
theorem dX6_point_69 : decode cX6_point 69 = .ok (.iload_n 3, 1) := by decide +kernel
theorem dX6_point_70 : decode cX6_point 70 = .ok (.ifCond .ne 16, 3) := by decide +kernel
theorem dX6_point_73 : decode cX6_point 73 = .ok (.aload_n 0, 1) := by decide +kernel
theorem dX6_point_74 : decode cX6_point 74 = .ok (.getfield 34, 3) := by decide +kernel
theorem dX6_point_77 : decode cX6_point 77 = .ok (.iconst 5, 1) := by decide +kernel
theorem dX6_point_78 : decode cX6_point 78 = .ok (.iload_n 1, 1) := by decide +kernel
theorem dX6_point_79 : decode cX6_point 79 = .ok (.imul, 1) := by decide +kernel
theorem dX6_point_80 : decode cX6_point 80 = .ok (.iload_n 2, 1) := by decide +kernel
theorem dX6_point_81 : decode cX6_point 81 = .ok (.iadd, 1) := by decide +kernel
theorem dX6_point_82 : decode cX6_point 82 = .ok (.iaload, 1) := by decide +kernel
theorem dX6_point_83 : decode cX6_point 83 = .ok (.goto 18, 3) := by decide +kernel
theorem dX6_point_86 : decode cX6_point 86 = .ok (.aload_n 0, 1) := by decide +kernel
theorem dX6_point_87 : decode cX6_point 87 = .ok (.getfield 31, 3) := by decide +kernel
theorem dX6_point_90 : decode cX6_point 90 = .ok (.bipush 25, 2) := by decide +kernel
theorem dX6_point_92 : decode cX6_point 92 = .ok (.iload_n 1, 1) := by decide +kernel
theorem dX6_point_93 : decode cX6_point 93 = .ok (.imul, 1) := by decide +kernel
theorem dX6_point_94 : decode cX6_point 94 = .ok (.iconst 5, 1) := by decide +kernel
theorem dX6_point_95 : decode cX6_point 95 = .ok (.iload_n 2, 1) := by decide +kernel
theorem dX6_point_96 : decode cX6_point 96 = .ok (.imul, 1) := by decide +kernel
theorem dX6_point_97 : decode cX6_point 97 = .ok (.iadd, 1) := by decide +kernel
theorem dX6_point_98 : decode cX6_point 98 = .ok (.iload_n 3, 1) := by decide +kernel
theorem dX6_point_99 : decode cX6_point 99 = .ok (.iadd, 1) := by decide +kernel
theorem dX6_point_100 : decode cX6_point 100 = .ok (.iaload, 1) := by decide +kernel
theorem dX6_point_101 : decode cX6_point 101 = .ok (.ireturn, 1) := by decide +kernel
set_option maxRecDepth 20000 in
theorem ggX6_equations_X6_asked : GoodIn wsX6_equations wsX6_asked := goodIn_r _ [7, 8, 9, 10, 11, 6, 12, 13, 14, 15, 16, 17, 18, 19, 20, 21, 22, 23, 24, 25, 26, 27, 28, 29, 30, 31, 32, 33, 34, 35, 36, 37, 38, 39, 40, 41, 42] (by decide +kernel) (by decide +kernel)
set_option maxRecDepth 20000 in
theorem gX6_equations_X6_asked : GoodIn wsX6_equations (wsV RX6 148 RX6 yX6_asked wsX6_asked) := goodIn_app (goodIn_of _ (by decide +kernel)) ggX6_equations_X6_asked
theorem dX6_equations_0 : decode cX6_equations 0 = .ok (.aload_n 0, 1) := by decide +kernel
theorem dX6_equations_1 : decode cX6_equations 1 = .ok (.aload_n 0, 1) := by decide +kernel
theorem dX6_equations_2 : decode cX6_equations 2 = .ok (.iload_n 1, 1) := by decide +kernel
theorem dX6_equations_3 : decode cX6_equations 3 = .ok (.invokevirtual 148, 3) := by decide +kernel
theorem dX6_equations_6 : decode cX6_equations 6 = .ok (.putfield 74, 3) := by decide +kernel
theorem dX6_equations_9 : decode cX6_equations 9 = .ok (.aload_n 0, 1) := by decide +kernel
theorem dX6_equations_10 : decode cX6_equations 10 = .ok (.getfield 74, 3) := by decide +kernel
theorem dX6_equations_13 : decode cX6_equations 13 = .ok (.ifCond .ne 12, 3) := by decide +kernel
theorem dX6_equations_16 : decode cX6_equations 16 = .ok (.aload_n 0, 1) := by decide +kernel
theorem dX6_equations_17 : decode cX6_equations 17 = .ok (.getfield 43, 3) := by decide +kernel
theorem dX6_equations_20 : decode cX6_equations 20 = .ok (.iload_n 1, 1) := by decide +kernel
theorem dX6_equations_21 : decode cX6_equations 21 = .ok (.iaload, 1) := by decide +kernel
theorem dX6_equations_22 : decode cX6_equations 22 = .ok (.goto 4, 3) := by decide +kernel
theorem dX6_equations_25 : decode cX6_equations 25 = .ok (.iconst 0, 1) := by decide +kernel
theorem dX6_equations_26 : decode cX6_equations 26 = .ok (.ireturn, 1) := by decide +kernel
set_option maxRecDepth 20000 in
theorem ggX6_coefficient_X6_asked : GoodIn wsX6_coefficient wsX6_asked := goodIn_r _ [9, 10, 11, 12, 13, 8, 14, 15, 16, 17, 18, 19, 20, 21, 22, 23, 24, 25, 26, 27, 28, 29, 30, 31, 32, 33, 34, 35, 36, 37, 38, 39, 40, 41, 42, 43, 44] (by decide +kernel) (by decide +kernel)
set_option maxRecDepth 20000 in
theorem gX6_coefficient_X6_asked : GoodIn wsX6_coefficient (wsV RX6 148 RX6 yX6_asked wsX6_asked) := goodIn_app (goodIn_of _ (by decide +kernel)) ggX6_coefficient_X6_asked
theorem dX6_coefficient_0 : decode cX6_coefficient 0 = .ok (.aload_n 0, 1) := by decide +kernel
theorem dX6_coefficient_1 : decode cX6_coefficient 1 = .ok (.iload_n 3, 1) := by decide +kernel
theorem dX6_coefficient_2 : decode cX6_coefficient 2 = .ok (.ifCond .lt 11, 3) := by decide +kernel
theorem dX6_coefficient_5 : decode cX6_coefficient 5 = .ok (.iload_n 3, 1) := by decide +kernel
theorem dX6_coefficient_6 : decode cX6_coefficient 6 = .ok (.aload_n 0, 1) := by decide +kernel
theorem dX6_coefficient_7 : decode cX6_coefficient 7 = .ok (.getfield 71, 3) := by decide +kernel
theorem dX6_coefficient_10 : decode cX6_coefficient 10 = .ok (.if_icmp .le 7, 3) := by decide +kernel
theorem dX6_coefficient_13 : decode cX6_coefficient 13 = .ok (.iconst 1, 1) := by decide +kernel
theorem dX6_coefficient_14 : decode cX6_coefficient 14 = .ok (.goto 8, 3) := by decide +kernel
theorem dX6_coefficient_17 : decode cX6_coefficient 17 = .ok (.aload_n 0, 1) := by decide +kernel
theorem dX6_coefficient_18 : decode cX6_coefficient 18 = .ok (.iload_n 1, 1) := by decide +kernel
theorem dX6_coefficient_19 : decode cX6_coefficient 19 = .ok (.invokevirtual 148, 3) := by decide +kernel
theorem dX6_coefficient_22 : decode cX6_coefficient 22 = .ok (.putfield 74, 3) := by decide +kernel
theorem dX6_coefficient_25 : decode cX6_coefficient 25 = .ok (.aload_n 0, 1) := by decide +kernel
theorem dX6_coefficient_26 : decode cX6_coefficient 26 = .ok (.aload_n 0, 1) := by decide +kernel
theorem dX6_coefficient_27 : decode cX6_coefficient 27 = .ok (.getfield 74, 3) := by decide +kernel
theorem dX6_coefficient_30 : decode cX6_coefficient 30 = .ok (.ifCond .ne 21, 3) := by decide +kernel
theorem dX6_coefficient_33 : decode cX6_coefficient 33 = .ok (.iload_n 2, 1) := by decide +kernel
theorem dX6_coefficient_34 : decode cX6_coefficient 34 = .ok (.ifCond .lt 13, 3) := by decide +kernel
theorem dX6_coefficient_37 : decode cX6_coefficient 37 = .ok (.iload_n 2, 1) := by decide +kernel
theorem dX6_coefficient_38 : decode cX6_coefficient 38 = .ok (.aload_n 0, 1) := by decide +kernel
theorem dX6_coefficient_39 : decode cX6_coefficient 39 = .ok (.getfield 43, 3) := by decide +kernel
theorem dX6_coefficient_42 : decode cX6_coefficient 42 = .ok (.iload_n 1, 1) := by decide +kernel
theorem dX6_coefficient_43 : decode cX6_coefficient 43 = .ok (.iaload, 1) := by decide +kernel
theorem dX6_coefficient_44 : decode cX6_coefficient 44 = .ok (.if_icmp .lt 7, 3) := by decide +kernel
theorem dX6_coefficient_47 : decode cX6_coefficient 47 = .ok (.iconst 3, 1) := by decide +kernel
theorem dX6_coefficient_48 : decode cX6_coefficient 48 = .ok (.goto 7, 3) := by decide +kernel
theorem dX6_coefficient_51 : decode cX6_coefficient 51 = .ok (.aload_n 0, 1) := by decide +kernel
theorem dX6_coefficient_52 : decode cX6_coefficient 52 = .ok (.getfield 74, 3) := by decide +kernel
theorem dX6_coefficient_55 : decode cX6_coefficient 55 = .ok (.putfield 74, 3) := by decide +kernel
theorem dX6_coefficient_58 : decode cX6_coefficient 58 = .ok (.aload_n 0, 1) := by decide +kernel
theorem dX6_coefficient_59 : decode cX6_coefficient 59 = .ok (.getfield 74, 3) := by decide +kernel
theorem dX6_coefficient_62 : decode cX6_coefficient 62 = .ok (.ifCond .eq 7, 3) := by decide +kernel
theorem dX6_coefficient_65 : decode cX6_coefficient 65 = .ok (.iconst 0, 1) := by decide +kernel
theorem dX6_coefficient_66 : decode cX6_coefficient 66 = .ok (.goto 18, 3) := by decide +kernel
theorem dX6_coefficient_69 : decode cX6_coefficient 69 = .ok (.aload_n 0, 1) := by decide +kernel
theorem dX6_coefficient_70 : decode cX6_coefficient 70 = .ok (.getfield 46, 3) := by decide +kernel
theorem dX6_coefficient_73 : decode cX6_coefficient 73 = .ok (.bipush 25, 2) := by decide +kernel
theorem dX6_coefficient_75 : decode cX6_coefficient 75 = .ok (.iload_n 1, 1) := by decide +kernel
theorem dX6_coefficient_76 : decode cX6_coefficient 76 = .ok (.imul, 1) := by decide +kernel
theorem dX6_coefficient_77 : decode cX6_coefficient 77 = .ok (.iconst 5, 1) := by decide +kernel
theorem dX6_coefficient_78 : decode cX6_coefficient 78 = .ok (.iload_n 2, 1) := by decide +kernel
theorem dX6_coefficient_79 : decode cX6_coefficient 79 = .ok (.imul, 1) := by decide +kernel
theorem dX6_coefficient_80 : decode cX6_coefficient 80 = .ok (.iadd, 1) := by decide +kernel
theorem dX6_coefficient_81 : decode cX6_coefficient 81 = .ok (.iload_n 3, 1) := by decide +kernel
theorem dX6_coefficient_82 : decode cX6_coefficient 82 = .ok (.iadd, 1) := by decide +kernel
theorem dX6_coefficient_83 : decode cX6_coefficient 83 = .ok (.iaload, 1) := by decide +kernel
theorem dX6_coefficient_84 : decode cX6_coefficient 84 = .ok (.ireturn, 1) := by decide +kernel
set_option maxRecDepth 20000 in
theorem ggX6_holds_X6_asked : GoodIn wsX6_holds wsX6_asked := goodIn_r _ [9, 10, 11, 12, 13, 8, 14, 15, 24, 25, 26, 27, 28, 29, 30, 31, 32, 33, 34, 35, 36, 37, 38, 39, 40, 41, 42, 43, 44, 45, 46, 47, 48, 49, 50, 51, 52] (by decide +kernel) (by decide +kernel)
set_option maxRecDepth 20000 in
theorem gX6_holds_X6_asked : GoodIn wsX6_holds (wsV RX6 148 RX6 yX6_asked wsX6_asked) := goodIn_app (goodIn_of _ (by decide +kernel)) ggX6_holds_X6_asked
set_option maxRecDepth 20000 in
theorem ggX6_holds_X6_mod : GoodIn wsX6_holds wsX6_mod := goodIn_r _ [18, 19] (by decide +kernel) (by decide +kernel)
set_option maxRecDepth 20000 in
theorem gX6_holds_X6_mod : GoodIn wsX6_holds (va_wsS RX6 80 yX6_mod wsX6_mod) := goodIn_app (goodIn_of _ (by decide +kernel)) ggX6_holds_X6_mod
set_option maxRecDepth 20000 in
theorem ggX6_holds_X6_clearDraft : GoodIn wsX6_holds wsX6_clearDraft := goodIn_r _ [23, 3, 24, 25, 26, 27, 28, 29, 30, 31, 32, 33, 34, 35, 36, 37, 38, 39, 40, 41, 42, 43, 44, 45, 46, 47, 48, 49, 50, 51, 52] (by decide +kernel) (by decide +kernel)
set_option maxRecDepth 20000 in
theorem gX6_holds_X6_clearDraft : GoodIn wsX6_holds (wsV RX6 106 RX6 yX6_clearDraft wsX6_clearDraft) := goodIn_app (goodIn_of _ (by decide +kernel)) ggX6_holds_X6_clearDraft
theorem dX6_holds_0 : decode cX6_holds 0 = .ok (.aload_n 0, 1) := by decide +kernel
theorem dX6_holds_1 : decode cX6_holds 1 = .ok (.aload_n 0, 1) := by decide +kernel
theorem dX6_holds_2 : decode cX6_holds 2 = .ok (.iload_n 1, 1) := by decide +kernel
theorem dX6_holds_3 : decode cX6_holds 3 = .ok (.invokevirtual 148, 3) := by decide +kernel
theorem dX6_holds_6 : decode cX6_holds 6 = .ok (.putfield 74, 3) := by decide +kernel
theorem dX6_holds_9 : decode cX6_holds 9 = .ok (.aload_n 0, 1) := by decide +kernel
theorem dX6_holds_10 : decode cX6_holds 10 = .ok (.getfield 74, 3) := by decide +kernel
theorem dX6_holds_13 : decode cX6_holds 13 = .ok (.ifCond .eq 5, 3) := by decide +kernel
theorem dX6_holds_16 : decode cX6_holds 16 = .ok (.iconst 0, 1) := by decide +kernel
theorem dX6_holds_17 : decode cX6_holds 17 = .ok (.ireturn, 1) := by decide +kernel
theorem dX6_holds_18 : decode cX6_holds 18 = .ok (.iconst 1, 1) := by decide +kernel
theorem dX6_holds_19 : decode cX6_holds 19 = .ok (.istore_n 2, 1) := by decide +kernel
theorem dX6_holds_20 : decode cX6_holds 20 = .ok (.iconst 0, 1) := by decide +kernel
theorem dX6_holds_21 : decode cX6_holds 21 = .ok (.istore_n 3, 1) := by decide +kernel
theorem dX6_holds_22 : decode cX6_holds 22 = .ok (.iload_n 3, 1) := by decide +kernel
theorem dX6_holds_23 : decode cX6_holds 23 = .ok (.aload_n 0, 1) := by decide +kernel
theorem dX6_holds_24 : decode cX6_holds 24 = .ok (.getfield 28, 3) := by decide +kernel
theorem dX6_holds_27 : decode cX6_holds 27 = .ok (.iload_n 1, 1) := by decide +kernel
theorem dX6_holds_28 : decode cX6_holds 28 = .ok (.iaload, 1) := by decide +kernel
theorem dX6_holds_29 : decode cX6_holds 29 = .ok (.if_icmp .ge 76, 3) := by decide +kernel
theorem dX6_holds_32 : decode cX6_holds 32 = .ok (.lconst 0, 1) := by decide +kernel
theorem dX6_holds_33 : decode cX6_holds 33 = .ok (.lstore 4, 2) := by decide +kernel
theorem dX6_holds_35 : decode cX6_holds 35 = .ok (.iconst 0, 1) := by decide +kernel
theorem dX6_holds_36 : decode cX6_holds 36 = .ok (.istore 6, 2) := by decide +kernel
theorem dX6_holds_38 : decode cX6_holds 38 = .ok (.iload 6, 2) := by decide +kernel
theorem dX6_holds_40 : decode cX6_holds 40 = .ok (.iconst 5, 1) := by decide +kernel
theorem dX6_holds_41 : decode cX6_holds 41 = .ok (.if_icmp .ge 40, 3) := by decide +kernel
theorem dX6_holds_44 : decode cX6_holds 44 = .ok (.lload 4, 2) := by decide +kernel
theorem dX6_holds_46 : decode cX6_holds 46 = .ok (.aload_n 0, 1) := by decide +kernel
theorem dX6_holds_47 : decode cX6_holds 47 = .ok (.getfield 7, 3) := by decide +kernel
theorem dX6_holds_50 : decode cX6_holds 50 = .ok (.iload 6, 2) := by decide +kernel
theorem dX6_holds_52 : decode cX6_holds 52 = .ok (.iaload, 1) := by decide +kernel
theorem dX6_holds_53 : decode cX6_holds 53 = .ok (.i2l, 1) := by decide +kernel
theorem dX6_holds_54 : decode cX6_holds 54 = .ok (.aload_n 0, 1) := by decide +kernel
theorem dX6_holds_55 : decode cX6_holds 55 = .ok (.getfield 31, 3) := by decide +kernel
theorem dX6_holds_58 : decode cX6_holds 58 = .ok (.bipush 25, 2) := by decide +kernel
theorem dX6_holds_60 : decode cX6_holds 60 = .ok (.iload_n 1, 1) := by decide +kernel
theorem dX6_holds_61 : decode cX6_holds 61 = .ok (.imul, 1) := by decide +kernel
theorem dX6_holds_62 : decode cX6_holds 62 = .ok (.iconst 5, 1) := by decide +kernel
theorem dX6_holds_63 : decode cX6_holds 63 = .ok (.iload_n 3, 1) := by decide +kernel
theorem dX6_holds_64 : decode cX6_holds 64 = .ok (.imul, 1) := by decide +kernel
theorem dX6_holds_65 : decode cX6_holds 65 = .ok (.iadd, 1) := by decide +kernel
theorem dX6_holds_66 : decode cX6_holds 66 = .ok (.iload 6, 2) := by decide +kernel
theorem dX6_holds_68 : decode cX6_holds 68 = .ok (.iadd, 1) := by decide +kernel
theorem dX6_holds_69 : decode cX6_holds 69 = .ok (.iaload, 1) := by decide +kernel
theorem dX6_holds_70 : decode cX6_holds 70 = .ok (.i2l, 1) := by decide +kernel
theorem dX6_holds_71 : decode cX6_holds 71 = .ok (.lmul, 1) := by decide +kernel
theorem dX6_holds_72 : decode cX6_holds 72 = .ok (.ladd, 1) := by decide +kernel
theorem dX6_holds_73 : decode cX6_holds 73 = .ok (.lstore 4, 2) := by decide +kernel
theorem dX6_holds_75 : decode cX6_holds 75 = .ok (.iinc 6 1, 3) := by decide +kernel
theorem dX6_holds_78 : decode cX6_holds 78 = .ok (.goto (-40), 3) := by decide +kernel
theorem dX6_holds_81 : decode cX6_holds 81 = .ok (.iload_n 2, 1) := by decide +kernel
theorem dX6_holds_82 : decode cX6_holds 82 = .ok (.ifCond .eq 15, 3) := by decide +kernel
theorem dX6_holds_85 : decode cX6_holds 85 = .ok (.lload 4, 2) := by decide +kernel
theorem dX6_holds_87 : decode cX6_holds 87 = .ok (.invokestatic 80, 3) := by decide +kernel
theorem dX6_holds_90 : decode cX6_holds 90 = .ok (.ifCond .ne 7, 3) := by decide +kernel
theorem dX6_holds_93 : decode cX6_holds 93 = .ok (.iconst 1, 1) := by decide +kernel
theorem dX6_holds_94 : decode cX6_holds 94 = .ok (.goto 4, 3) := by decide +kernel
theorem dX6_holds_97 : decode cX6_holds 97 = .ok (.iconst 0, 1) := by decide +kernel
theorem dX6_holds_98 : decode cX6_holds 98 = .ok (.istore_n 2, 1) := by decide +kernel
theorem dX6_holds_99 : decode cX6_holds 99 = .ok (.iinc 3 1, 3) := by decide +kernel
theorem dX6_holds_102 : decode cX6_holds 102 = .ok (.goto (-80), 3) := by decide +kernel
theorem dX6_holds_105 : decode cX6_holds 105 = .ok (.aload_n 0, 1) := by decide +kernel
theorem dX6_holds_106 : decode cX6_holds 106 = .ok (.invokevirtual 106, 3) := by decide +kernel
theorem dX6_holds_109 : decode cX6_holds 109 = .ok (.iload_n 2, 1) := by decide +kernel
theorem dX6_holds_110 : decode cX6_holds 110 = .ok (.ireturn, 1) := by decide +kernel
set_option maxRecDepth 20000 in
theorem ggX6_begin_X6_mod : GoodIn wsX6_begin wsX6_mod := goodIn_r _ [9, 10] (by decide +kernel) (by decide +kernel)
set_option maxRecDepth 20000 in
theorem gX6_begin_X6_mod : GoodIn wsX6_begin (va_wsS RX6 80 yX6_mod wsX6_mod) := goodIn_app (goodIn_of _ (by decide +kernel)) ggX6_begin_X6_mod
theorem dX6_begin_0 : decode cX6_begin 0 = .ok (.aload_n 0, 1) := by decide +kernel
theorem dX6_begin_1 : decode cX6_begin 1 = .ok (.iload_n 1, 1) := by decide +kernel
theorem dX6_begin_2 : decode cX6_begin 2 = .ok (.iconst 1, 1) := by decide +kernel
theorem dX6_begin_3 : decode cX6_begin 3 = .ok (.if_icmp .lt 11, 3) := by decide +kernel
theorem dX6_begin_6 : decode cX6_begin 6 = .ok (.iload_n 1, 1) := by decide +kernel
theorem dX6_begin_7 : decode cX6_begin 7 = .ok (.aload_n 0, 1) := by decide +kernel
theorem dX6_begin_8 : decode cX6_begin 8 = .ok (.getfield 71, 3) := by decide +kernel
theorem dX6_begin_11 : decode cX6_begin 11 = .ok (.if_icmp .le 7, 3) := by decide +kernel
theorem dX6_begin_14 : decode cX6_begin 14 = .ok (.iconst 1, 1) := by decide +kernel
theorem dX6_begin_15 : decode cX6_begin 15 = .ok (.goto 4, 3) := by decide +kernel
theorem dX6_begin_18 : decode cX6_begin 18 = .ok (.iconst 0, 1) := by decide +kernel
theorem dX6_begin_19 : decode cX6_begin 19 = .ok (.putfield 74, 3) := by decide +kernel
theorem dX6_begin_22 : decode cX6_begin 22 = .ok (.aload_n 0, 1) := by decide +kernel
theorem dX6_begin_23 : decode cX6_begin 23 = .ok (.getfield 74, 3) := by decide +kernel
theorem dX6_begin_26 : decode cX6_begin 26 = .ok (.ifCond .eq 4, 3) := by decide +kernel
theorem dX6_begin_29 : decode cX6_begin 29 = .ok (.return_, 1) := by decide +kernel
theorem dX6_begin_30 : decode cX6_begin 30 = .ok (.aload_n 0, 1) := by decide +kernel
theorem dX6_begin_31 : decode cX6_begin 31 = .ok (.getfield 49, 3) := by decide +kernel
theorem dX6_begin_34 : decode cX6_begin 34 = .ok (.iload_n 1, 1) := by decide +kernel
theorem dX6_begin_35 : decode cX6_begin 35 = .ok (.iload_n 2, 1) := by decide +kernel
theorem dX6_begin_36 : decode cX6_begin 36 = .ok (.i2l, 1) := by decide +kernel
theorem dX6_begin_37 : decode cX6_begin 37 = .ok (.invokestatic 80, 3) := by decide +kernel
theorem dX6_begin_40 : decode cX6_begin 40 = .ok (.iastore, 1) := by decide +kernel
theorem dX6_begin_41 : decode cX6_begin 41 = .ok (.aload_n 0, 1) := by decide +kernel
theorem dX6_begin_42 : decode cX6_begin 42 = .ok (.aload_n 0, 1) := by decide +kernel
theorem dX6_begin_43 : decode cX6_begin 43 = .ok (.getfield 113, 3) := by decide +kernel
theorem dX6_begin_46 : decode cX6_begin 46 = .ok (.putfield 116, 3) := by decide +kernel
theorem dX6_begin_49 : decode cX6_begin 49 = .ok (.return_, 1) := by decide +kernel
set_option maxRecDepth 20000 in
theorem ggX6_go_X6_formValue : GoodIn wsX6_go wsX6_formValue := goodIn_r _ [13, 14, 5, 15, 16, 12, 17, 18, 24, 25, 26, 27, 28, 29, 30, 31, 32, 33, 34, 35, 36, 37, 38, 39, 40, 41, 42, 43, 44, 45, 46, 47, 48, 49, 50, 51, 52] (by decide +kernel) (by decide +kernel)
set_option maxRecDepth 20000 in
theorem gX6_go_X6_formValue : GoodIn wsX6_go (wsV RX6 119 RX6 yX6_formValue wsX6_formValue) := goodIn_app (goodIn_of _ (by decide +kernel)) ggX6_go_X6_formValue
set_option maxRecDepth 20000 in
theorem ggX6_go_X6_mod : GoodIn wsX6_go wsX6_mod := goodIn_r _ [17, 18] (by decide +kernel) (by decide +kernel)
set_option maxRecDepth 20000 in
theorem gX6_go_X6_mod : GoodIn wsX6_go (va_wsS RX6 80 yX6_mod wsX6_mod) := goodIn_app (goodIn_of _ (by decide +kernel)) ggX6_go_X6_mod
set_option maxRecDepth 20000 in
theorem ggX6_go_X6_change : GoodIn wsX6_go wsX6_change := goodIn_r _ [22, 7, 5, 23, 9, 10, 11, 12, 13, 14, 15, 16, 17, 18, 24, 25, 26, 27, 28, 29, 30, 31, 32, 33, 34, 35, 36, 37, 38, 39, 40, 41, 42, 43, 44, 45, 46, 47, 48, 49, 50, 51, 52] (by decide +kernel) (by decide +kernel)
set_option maxRecDepth 20000 in
theorem gX6_go_X6_change : GoodIn wsX6_go (wsV RX6 136 RX6 yX6_change wsX6_change) := goodIn_app (goodIn_of _ (by decide +kernel)) ggX6_go_X6_change
theorem dX6_go_0 : decode cX6_go 0 = .ok (.aload_n 0, 1) := by decide +kernel
theorem dX6_go_1 : decode cX6_go 1 = .ok (.iload_n 1, 1) := by decide +kernel
theorem dX6_go_2 : decode cX6_go 2 = .ok (.ifCond .lt 24, 3) := by decide +kernel
theorem dX6_go_5 : decode cX6_go 5 = .ok (.iload_n 1, 1) := by decide +kernel
theorem dX6_go_6 : decode cX6_go 6 = .ok (.aload_n 0, 1) := by decide +kernel
theorem dX6_go_7 : decode cX6_go 7 = .ok (.getfield 103, 3) := by decide +kernel
theorem dX6_go_10 : decode cX6_go 10 = .ok (.if_icmp .ge 16, 3) := by decide +kernel
theorem dX6_go_13 : decode cX6_go 13 = .ok (.aload_n 0, 1) := by decide +kernel
theorem dX6_go_14 : decode cX6_go 14 = .ok (.getfield 13, 3) := by decide +kernel
theorem dX6_go_17 : decode cX6_go 17 = .ok (.iload_n 1, 1) := by decide +kernel
theorem dX6_go_18 : decode cX6_go 18 = .ok (.iaload, 1) := by decide +kernel
theorem dX6_go_19 : decode cX6_go 19 = .ok (.aload_n 0, 1) := by decide +kernel
theorem dX6_go_20 : decode cX6_go 20 = .ok (.getfield 116, 3) := by decide +kernel
theorem dX6_go_23 : decode cX6_go 23 = .ok (.if_icmp .eq 7, 3) := by decide +kernel
theorem dX6_go_26 : decode cX6_go 26 = .ok (.iconst 1, 1) := by decide +kernel
theorem dX6_go_27 : decode cX6_go 27 = .ok (.goto 4, 3) := by decide +kernel
theorem dX6_go_30 : decode cX6_go 30 = .ok (.iconst 0, 1) := by decide +kernel
theorem dX6_go_31 : decode cX6_go 31 = .ok (.putfield 74, 3) := by decide +kernel
theorem dX6_go_34 : decode cX6_go 34 = .ok (.aload_n 0, 1) := by decide +kernel
theorem dX6_go_35 : decode cX6_go 35 = .ok (.getfield 74, 3) := by decide +kernel
theorem dX6_go_38 : decode cX6_go 38 = .ok (.ifCond .eq 5, 3) := by decide +kernel
theorem dX6_go_41 : decode cX6_go 41 = .ok (.iconst 0, 1) := by decide +kernel
theorem dX6_go_42 : decode cX6_go 42 = .ok (.ireturn, 1) := by decide +kernel
theorem dX6_go_43 : decode cX6_go 43 = .ok (.iconst 0, 1) := by decide +kernel
theorem dX6_go_44 : decode cX6_go 44 = .ok (.istore_n 3, 1) := by decide +kernel
theorem dX6_go_45 : decode cX6_go 45 = .ok (.iload_n 3, 1) := by decide +kernel
theorem dX6_go_46 : decode cX6_go 46 = .ok (.iconst 5, 1) := by decide +kernel
theorem dX6_go_47 : decode cX6_go 47 = .ok (.if_icmp .ge 21, 3) := by decide +kernel
theorem dX6_go_50 : decode cX6_go 50 = .ok (.aload_n 0, 1) := by decide +kernel
theorem dX6_go_51 : decode cX6_go 51 = .ok (.getfield 64, 3) := by decide +kernel
theorem dX6_go_54 : decode cX6_go 54 = .ok (.iload_n 3, 1) := by decide +kernel
theorem dX6_go_55 : decode cX6_go 55 = .ok (.aload_n 0, 1) := by decide +kernel
theorem dX6_go_56 : decode cX6_go 56 = .ok (.getfield 49, 3) := by decide +kernel
theorem dX6_go_59 : decode cX6_go 59 = .ok (.iload_n 3, 1) := by decide +kernel
theorem dX6_go_60 : decode cX6_go 60 = .ok (.iaload, 1) := by decide +kernel
theorem dX6_go_61 : decode cX6_go 61 = .ok (.iastore, 1) := by decide +kernel
theorem dX6_go_62 : decode cX6_go 62 = .ok (.iinc 3 1, 3) := by decide +kernel
theorem dX6_go_65 : decode cX6_go 65 = .ok (.goto (-20), 3) := by decide +kernel
theorem dX6_go_68 : decode cX6_go 68 = .ok (.aload_n 0, 1) := by decide +kernel
theorem dX6_go_69 : decode cX6_go 69 = .ok (.getfield 19, 3) := by decide +kernel
theorem dX6_go_72 : decode cX6_go 72 = .ok (.iload_n 1, 1) := by decide +kernel
theorem dX6_go_73 : decode cX6_go 73 = .ok (.iaload, 1) := by decide +kernel
theorem dX6_go_74 : decode cX6_go 74 = .ok (.iconst 3, 1) := by decide +kernel
theorem dX6_go_75 : decode cX6_go 75 = .ok (.if_icmp .ne 11, 3) := by decide +kernel
theorem dX6_go_78 : decode cX6_go 78 = .ok (.aload_n 0, 1) := by decide +kernel
theorem dX6_go_79 : decode cX6_go 79 = .ok (.iload_n 1, 1) := by decide +kernel
theorem dX6_go_80 : decode cX6_go 80 = .ok (.invokevirtual 119, 3) := by decide +kernel
theorem dX6_go_83 : decode cX6_go 83 = .ok (.ifCond .ne 21, 3) := by decide +kernel
theorem dX6_go_86 : decode cX6_go 86 = .ok (.aload_n 0, 1) := by decide +kernel
theorem dX6_go_87 : decode cX6_go 87 = .ok (.getfield 19, 3) := by decide +kernel
theorem dX6_go_90 : decode cX6_go 90 = .ok (.iload_n 1, 1) := by decide +kernel
theorem dX6_go_91 : decode cX6_go 91 = .ok (.iaload, 1) := by decide +kernel
theorem dX6_go_92 : decode cX6_go 92 = .ok (.iconst 4, 1) := by decide +kernel
theorem dX6_go_93 : decode cX6_go 93 = .ok (.if_icmp .ne 13, 3) := by decide +kernel
theorem dX6_go_96 : decode cX6_go 96 = .ok (.aload_n 0, 1) := by decide +kernel
theorem dX6_go_97 : decode cX6_go 97 = .ok (.iload_n 1, 1) := by decide +kernel
theorem dX6_go_98 : decode cX6_go 98 = .ok (.invokevirtual 119, 3) := by decide +kernel
theorem dX6_go_101 : decode cX6_go 101 = .ok (.ifCond .ne 5, 3) := by decide +kernel
theorem dX6_go_104 : decode cX6_go 104 = .ok (.iconst 0, 1) := by decide +kernel
theorem dX6_go_105 : decode cX6_go 105 = .ok (.ireturn, 1) := by decide +kernel
theorem dX6_go_106 : decode cX6_go 106 = .ok (.aload_n 0, 1) := by decide +kernel
theorem dX6_go_107 : decode cX6_go 107 = .ok (.iload_n 1, 1) := by decide +kernel
theorem dX6_go_108 : decode cX6_go 108 = .ok (.iload_n 2, 1) := by decide +kernel
theorem dX6_go_109 : decode cX6_go 109 = .ok (.i2l, 1) := by decide +kernel
theorem dX6_go_110 : decode cX6_go 110 = .ok (.invokestatic 80, 3) := by decide +kernel
theorem dX6_go_113 : decode cX6_go 113 = .ok (.invokevirtual 136, 3) := by decide +kernel
theorem dX6_go_116 : decode cX6_go 116 = .ok (.iconst 0, 1) := by decide +kernel
theorem dX6_go_117 : decode cX6_go 117 = .ok (.istore_n 3, 1) := by decide +kernel
theorem dX6_go_118 : decode cX6_go 118 = .ok (.iload_n 3, 1) := by decide +kernel
theorem dX6_go_119 : decode cX6_go 119 = .ok (.iconst 5, 1) := by decide +kernel
theorem dX6_go_120 : decode cX6_go 120 = .ok (.if_icmp .ge 21, 3) := by decide +kernel
theorem dX6_go_123 : decode cX6_go 123 = .ok (.aload_n 0, 1) := by decide +kernel
theorem dX6_go_124 : decode cX6_go 124 = .ok (.getfield 49, 3) := by decide +kernel
theorem dX6_go_127 : decode cX6_go 127 = .ok (.iload_n 3, 1) := by decide +kernel
theorem dX6_go_128 : decode cX6_go 128 = .ok (.aload_n 0, 1) := by decide +kernel
theorem dX6_go_129 : decode cX6_go 129 = .ok (.getfield 64, 3) := by decide +kernel
theorem dX6_go_132 : decode cX6_go 132 = .ok (.iload_n 3, 1) := by decide +kernel
theorem dX6_go_133 : decode cX6_go 133 = .ok (.iaload, 1) := by decide +kernel
theorem dX6_go_134 : decode cX6_go 134 = .ok (.iastore, 1) := by decide +kernel
theorem dX6_go_135 : decode cX6_go 135 = .ok (.iinc 3 1, 3) := by decide +kernel
theorem dX6_go_138 : decode cX6_go 138 = .ok (.goto (-20), 3) := by decide +kernel
theorem dX6_go_141 : decode cX6_go 141 = .ok (.aload_n 0, 1) := by decide +kernel
theorem dX6_go_142 : decode cX6_go 142 = .ok (.aload_n 0, 1) := by decide +kernel
theorem dX6_go_143 : decode cX6_go 143 = .ok (.getfield 16, 3) := by decide +kernel
theorem dX6_go_146 : decode cX6_go 146 = .ok (.iload_n 1, 1) := by decide +kernel
theorem dX6_go_147 : decode cX6_go 147 = .ok (.iaload, 1) := by decide +kernel
theorem dX6_go_148 : decode cX6_go 148 = .ok (.putfield 116, 3) := by decide +kernel
theorem dX6_go_151 : decode cX6_go 151 = .ok (.iconst 1, 1) := by decide +kernel
theorem dX6_go_152 : decode cX6_go 152 = .ok (.ireturn, 1) := by decide +kernel
theorem dX6_at_0 : decode cX6_at 0 = .ok (.aload_n 0, 1) := by decide +kernel
theorem dX6_at_1 : decode cX6_at 1 = .ok (.iload_n 1, 1) := by decide +kernel
theorem dX6_at_2 : decode cX6_at 2 = .ok (.ifCond .lt 11, 3) := by decide +kernel
theorem dX6_at_5 : decode cX6_at 5 = .ok (.iload_n 1, 1) := by decide +kernel
theorem dX6_at_6 : decode cX6_at 6 = .ok (.aload_n 0, 1) := by decide +kernel
theorem dX6_at_7 : decode cX6_at 7 = .ok (.getfield 71, 3) := by decide +kernel
theorem dX6_at_10 : decode cX6_at 10 = .ok (.if_icmp .le 7, 3) := by decide +kernel
theorem dX6_at_13 : decode cX6_at 13 = .ok (.iconst 1, 1) := by decide +kernel
theorem dX6_at_14 : decode cX6_at 14 = .ok (.goto 4, 3) := by decide +kernel
theorem dX6_at_17 : decode cX6_at 17 = .ok (.iconst 0, 1) := by decide +kernel
theorem dX6_at_18 : decode cX6_at 18 = .ok (.putfield 74, 3) := by decide +kernel
theorem dX6_at_21 : decode cX6_at 21 = .ok (.aload_n 0, 1) := by decide +kernel
theorem dX6_at_22 : decode cX6_at 22 = .ok (.getfield 74, 3) := by decide +kernel
theorem dX6_at_25 : decode cX6_at 25 = .ok (.ifCond .eq 7, 3) := by decide +kernel
theorem dX6_at_28 : decode cX6_at 28 = .ok (.iconst 0, 1) := by decide +kernel
theorem dX6_at_29 : decode cX6_at 29 = .ok (.goto 20, 3) := by decide +kernel
theorem dX6_at_32 : decode cX6_at 32 = .ok (.iload_n 1, 1) := by decide +kernel
theorem dX6_at_33 : decode cX6_at 33 = .ok (.ifCond .ne 10, 3) := by decide +kernel
theorem dX6_at_36 : decode cX6_at 36 = .ok (.aload_n 0, 1) := by decide +kernel
theorem dX6_at_37 : decode cX6_at 37 = .ok (.getfield 116, 3) := by decide +kernel
theorem dX6_at_40 : decode cX6_at 40 = .ok (.goto 9, 3) := by decide +kernel
theorem dX6_at_43 : decode cX6_at 43 = .ok (.aload_n 0, 1) := by decide +kernel
theorem dX6_at_44 : decode cX6_at 44 = .ok (.getfield 49, 3) := by decide +kernel
theorem dX6_at_47 : decode cX6_at 47 = .ok (.iload_n 1, 1) := by decide +kernel
theorem dX6_at_48 : decode cX6_at 48 = .ok (.iaload, 1) := by decide +kernel
theorem dX6_at_49 : decode cX6_at 49 = .ok (.ireturn, 1) := by decide +kernel
set_option maxRecDepth 20000 in
theorem ggX6_note_X6_isNode : GoodIn wsX6_note wsX6_isNode := goodIn_r _ [10, 11, 16, 17, 18, 19, 20, 21, 22, 23, 24, 25, 26, 27, 28, 29, 30, 31, 32, 33, 34, 35, 36, 37, 38, 39, 40, 41, 42, 43, 44] (by decide +kernel) (by decide +kernel)
set_option maxRecDepth 20000 in
theorem gX6_note_X6_isNode : GoodIn wsX6_note (wsV RX6 99 RX6 yX6_isNode wsX6_isNode) := goodIn_app (goodIn_of _ (by decide +kernel)) ggX6_note_X6_isNode
set_option maxRecDepth 20000 in
theorem ggX6_note_X6_clearDraft : GoodIn wsX6_note wsX6_clearDraft := goodIn_r _ [15, 5, 16, 17, 18, 19, 20, 21, 22, 23, 24, 25, 26, 27, 28, 29, 30, 31, 32, 33, 34, 35, 36, 37, 38, 39, 40, 41, 42, 43, 44] (by decide +kernel) (by decide +kernel)
set_option maxRecDepth 20000 in
theorem gX6_note_X6_clearDraft : GoodIn wsX6_note (wsV RX6 106 RX6 yX6_clearDraft wsX6_clearDraft) := goodIn_app (goodIn_of _ (by decide +kernel)) ggX6_note_X6_clearDraft
theorem dX6_note_0 : decode cX6_note 0 = .ok (.aload_n 0, 1) := by decide +kernel
theorem dX6_note_1 : decode cX6_note 1 = .ok (.aload_n 0, 1) := by decide +kernel
theorem dX6_note_2 : decode cX6_note 2 = .ok (.iload_n 1, 1) := by decide +kernel
theorem dX6_note_3 : decode cX6_note 3 = .ok (.invokevirtual 99, 3) := by decide +kernel
theorem dX6_note_6 : decode cX6_note 6 = .ok (.ifCond .ne 7, 3) := by decide +kernel
theorem dX6_note_9 : decode cX6_note 9 = .ok (.iconst 1, 1) := by decide +kernel
theorem dX6_note_10 : decode cX6_note 10 = .ok (.goto 17, 3) := by decide +kernel
theorem dX6_note_13 : decode cX6_note 13 = .ok (.aload_n 0, 1) := by decide +kernel
theorem dX6_note_14 : decode cX6_note 14 = .ok (.getfield 151, 3) := by decide +kernel
theorem dX6_note_17 : decode cX6_note 17 = .ok (.bipush 24, 2) := by decide +kernel
theorem dX6_note_19 : decode cX6_note 19 = .ok (.if_icmp .ne 7, 3) := by decide +kernel
theorem dX6_note_22 : decode cX6_note 22 = .ok (.iconst 2, 1) := by decide +kernel
theorem dX6_note_23 : decode cX6_note 23 = .ok (.goto 4, 3) := by decide +kernel
theorem dX6_note_26 : decode cX6_note 26 = .ok (.iconst 0, 1) := by decide +kernel
theorem dX6_note_27 : decode cX6_note 27 = .ok (.putfield 74, 3) := by decide +kernel
theorem dX6_note_30 : decode cX6_note 30 = .ok (.aload_n 0, 1) := by decide +kernel
theorem dX6_note_31 : decode cX6_note 31 = .ok (.getfield 74, 3) := by decide +kernel
theorem dX6_note_34 : decode cX6_note 34 = .ok (.ifCond .eq 5, 3) := by decide +kernel
theorem dX6_note_37 : decode cX6_note 37 = .ok (.iconst 0, 1) := by decide +kernel
theorem dX6_note_38 : decode cX6_note 38 = .ok (.ireturn, 1) := by decide +kernel
theorem dX6_note_39 : decode cX6_note 39 = .ok (.aload_n 0, 1) := by decide +kernel
theorem dX6_note_40 : decode cX6_note 40 = .ok (.getfield 52, 3) := by decide +kernel
theorem dX6_note_43 : decode cX6_note 43 = .ok (.aload_n 0, 1) := by decide +kernel
theorem dX6_note_44 : decode cX6_note 44 = .ok (.getfield 151, 3) := by decide +kernel
theorem dX6_note_47 : decode cX6_note 47 = .ok (.iload_n 1, 1) := by decide +kernel
theorem dX6_note_48 : decode cX6_note 48 = .ok (.iastore, 1) := by decide +kernel
theorem dX6_note_49 : decode cX6_note 49 = .ok (.iconst 0, 1) := by decide +kernel
theorem dX6_note_50 : decode cX6_note 50 = .ok (.istore_n 2, 1) := by decide +kernel
theorem dX6_note_51 : decode cX6_note 51 = .ok (.iload_n 2, 1) := by decide +kernel
theorem dX6_note_52 : decode cX6_note 52 = .ok (.iconst 5, 1) := by decide +kernel
theorem dX6_note_53 : decode cX6_note 53 = .ok (.if_icmp .ge 28, 3) := by decide +kernel
theorem dX6_note_56 : decode cX6_note 56 = .ok (.aload_n 0, 1) := by decide +kernel
theorem dX6_note_57 : decode cX6_note 57 = .ok (.getfield 55, 3) := by decide +kernel
theorem dX6_note_60 : decode cX6_note 60 = .ok (.iconst 5, 1) := by decide +kernel
theorem dX6_note_61 : decode cX6_note 61 = .ok (.aload_n 0, 1) := by decide +kernel
theorem dX6_note_62 : decode cX6_note 62 = .ok (.getfield 151, 3) := by decide +kernel
theorem dX6_note_65 : decode cX6_note 65 = .ok (.imul, 1) := by decide +kernel
theorem dX6_note_66 : decode cX6_note 66 = .ok (.iload_n 2, 1) := by decide +kernel
theorem dX6_note_67 : decode cX6_note 67 = .ok (.iadd, 1) := by decide +kernel
theorem dX6_note_68 : decode cX6_note 68 = .ok (.aload_n 0, 1) := by decide +kernel
theorem dX6_note_69 : decode cX6_note 69 = .ok (.getfield 7, 3) := by decide +kernel
theorem dX6_note_72 : decode cX6_note 72 = .ok (.iload_n 2, 1) := by decide +kernel
theorem dX6_note_73 : decode cX6_note 73 = .ok (.iaload, 1) := by decide +kernel
theorem dX6_note_74 : decode cX6_note 74 = .ok (.iastore, 1) := by decide +kernel
theorem dX6_note_75 : decode cX6_note 75 = .ok (.iinc 2 1, 3) := by decide +kernel
theorem dX6_note_78 : decode cX6_note 78 = .ok (.goto (-27), 3) := by decide +kernel
theorem dX6_note_81 : decode cX6_note 81 = .ok (.aload_n 0, 1) := by decide +kernel
theorem dX6_note_82 : decode cX6_note 82 = .ok (.invokevirtual 106, 3) := by decide +kernel
theorem dX6_note_85 : decode cX6_note 85 = .ok (.aload_n 0, 1) := by decide +kernel
theorem dX6_note_86 : decode cX6_note 86 = .ok (.dup, 1) := by decide +kernel
theorem dX6_note_87 : decode cX6_note 87 = .ok (.getfield 151, 3) := by decide +kernel
theorem dX6_note_90 : decode cX6_note 90 = .ok (.iconst 1, 1) := by decide +kernel
theorem dX6_note_91 : decode cX6_note 91 = .ok (.iadd, 1) := by decide +kernel
theorem dX6_note_92 : decode cX6_note 92 = .ok (.putfield 151, 3) := by decide +kernel
theorem dX6_note_95 : decode cX6_note 95 = .ok (.aload_n 0, 1) := by decide +kernel
theorem dX6_note_96 : decode cX6_note 96 = .ok (.getfield 151, 3) := by decide +kernel
theorem dX6_note_99 : decode cX6_note 99 = .ok (.ireturn, 1) := by decide +kernel
theorem dX6_noteAll_0 : decode cX6_noteAll 0 = .ok (.iconst 0, 1) := by decide +kernel
theorem dX6_noteAll_1 : decode cX6_noteAll 1 = .ok (.istore_n 1, 1) := by decide +kernel
theorem dX6_noteAll_2 : decode cX6_noteAll 2 = .ok (.iconst 0, 1) := by decide +kernel
theorem dX6_noteAll_3 : decode cX6_noteAll 3 = .ok (.istore_n 2, 1) := by decide +kernel
theorem dX6_noteAll_4 : decode cX6_noteAll 4 = .ok (.iload_n 2, 1) := by decide +kernel
theorem dX6_noteAll_5 : decode cX6_noteAll 5 = .ok (.aload_n 0, 1) := by decide +kernel
theorem dX6_noteAll_6 : decode cX6_noteAll 6 = .ok (.getfield 67, 3) := by decide +kernel
theorem dX6_noteAll_9 : decode cX6_noteAll 9 = .ok (.if_icmp .ge 25, 3) := by decide +kernel
theorem dX6_noteAll_12 : decode cX6_noteAll 12 = .ok (.aload_n 0, 1) := by decide +kernel
theorem dX6_noteAll_13 : decode cX6_noteAll 13 = .ok (.getfield 109, 3) := by decide +kernel
theorem dX6_noteAll_16 : decode cX6_noteAll 16 = .ok (.ifCond .eq 18, 3) := by decide +kernel
theorem dX6_noteAll_19 : decode cX6_noteAll 19 = .ok (.iload_n 1, 1) := by decide +kernel
theorem dX6_noteAll_20 : decode cX6_noteAll 20 = .ok (.aload_n 0, 1) := by decide +kernel
theorem dX6_noteAll_21 : decode cX6_noteAll 21 = .ok (.getfield 43, 3) := by decide +kernel
theorem dX6_noteAll_24 : decode cX6_noteAll 24 = .ok (.iload_n 2, 1) := by decide +kernel
theorem dX6_noteAll_25 : decode cX6_noteAll 25 = .ok (.iaload, 1) := by decide +kernel
theorem dX6_noteAll_26 : decode cX6_noteAll 26 = .ok (.iadd, 1) := by decide +kernel
theorem dX6_noteAll_27 : decode cX6_noteAll 27 = .ok (.istore_n 1, 1) := by decide +kernel
theorem dX6_noteAll_28 : decode cX6_noteAll 28 = .ok (.iinc 2 1, 3) := by decide +kernel
theorem dX6_noteAll_31 : decode cX6_noteAll 31 = .ok (.goto (-27), 3) := by decide +kernel
theorem dX6_noteAll_34 : decode cX6_noteAll 34 = .ok (.aload_n 0, 1) := by decide +kernel
theorem dX6_noteAll_35 : decode cX6_noteAll 35 = .ok (.aload_n 0, 1) := by decide +kernel
theorem dX6_noteAll_36 : decode cX6_noteAll 36 = .ok (.getfield 109, 3) := by decide +kernel
theorem dX6_noteAll_39 : decode cX6_noteAll 39 = .ok (.ifCond .ne 7, 3) := by decide +kernel
theorem dX6_noteAll_42 : decode cX6_noteAll 42 = .ok (.iconst 1, 1) := by decide +kernel
theorem dX6_noteAll_43 : decode cX6_noteAll 43 = .ok (.goto 14, 3) := by decide +kernel
theorem dX6_noteAll_46 : decode cX6_noteAll 46 = .ok (.iload_n 1, 1) := by decide +kernel
theorem dX6_noteAll_47 : decode cX6_noteAll 47 = .ok (.bipush 24, 2) := by decide +kernel
theorem dX6_noteAll_49 : decode cX6_noteAll 49 = .ok (.if_icmp .le 7, 3) := by decide +kernel
theorem dX6_noteAll_52 : decode cX6_noteAll 52 = .ok (.iconst 2, 1) := by decide +kernel
theorem dX6_noteAll_53 : decode cX6_noteAll 53 = .ok (.goto 4, 3) := by decide +kernel
theorem dX6_noteAll_56 : decode cX6_noteAll 56 = .ok (.iconst 0, 1) := by decide +kernel
theorem dX6_noteAll_57 : decode cX6_noteAll 57 = .ok (.putfield 74, 3) := by decide +kernel
theorem dX6_noteAll_60 : decode cX6_noteAll 60 = .ok (.aload_n 0, 1) := by decide +kernel
theorem dX6_noteAll_61 : decode cX6_noteAll 61 = .ok (.getfield 74, 3) := by decide +kernel
theorem dX6_noteAll_64 : decode cX6_noteAll 64 = .ok (.ifCond .eq 5, 3) := by decide +kernel
theorem dX6_noteAll_67 : decode cX6_noteAll 67 = .ok (.iconst 0, 1) := by decide +kernel
theorem dX6_noteAll_68 : decode cX6_noteAll 68 = .ok (.ireturn, 1) := by decide +kernel
theorem dX6_noteAll_69 : decode cX6_noteAll 69 = .ok (.aload_n 0, 1) := by decide +kernel
theorem dX6_noteAll_70 : decode cX6_noteAll 70 = .ok (.iconst 0, 1) := by decide +kernel
theorem dX6_noteAll_71 : decode cX6_noteAll 71 = .ok (.putfield 151, 3) := by decide +kernel
theorem dX6_noteAll_74 : decode cX6_noteAll 74 = .ok (.iconst 0, 1) := by decide +kernel
theorem dX6_noteAll_75 : decode cX6_noteAll 75 = .ok (.istore_n 2, 1) := by decide +kernel
theorem dX6_noteAll_76 : decode cX6_noteAll 76 = .ok (.iload_n 2, 1) := by decide +kernel
theorem dX6_noteAll_77 : decode cX6_noteAll 77 = .ok (.aload_n 0, 1) := by decide +kernel
theorem dX6_noteAll_78 : decode cX6_noteAll 78 = .ok (.getfield 67, 3) := by decide +kernel
theorem dX6_noteAll_81 : decode cX6_noteAll 81 = .ok (.if_icmp .ge 92, 3) := by decide +kernel
theorem dX6_noteAll_84 : decode cX6_noteAll 84 = .ok (.iconst 0, 1) := by decide +kernel
theorem dX6_noteAll_85 : decode cX6_noteAll 85 = .ok (.istore_n 3, 1) := by decide +kernel
theorem dX6_noteAll_86 : decode cX6_noteAll 86 = .ok (.iload_n 3, 1) := by decide +kernel
theorem dX6_noteAll_87 : decode cX6_noteAll 87 = .ok (.aload_n 0, 1) := by decide +kernel
theorem dX6_noteAll_88 : decode cX6_noteAll 88 = .ok (.getfield 43, 3) := by decide +kernel
theorem dX6_noteAll_91 : decode cX6_noteAll 91 = .ok (.iload_n 2, 1) := by decide +kernel
theorem dX6_noteAll_92 : decode cX6_noteAll 92 = .ok (.iaload, 1) := by decide +kernel
theorem dX6_noteAll_93 : decode cX6_noteAll 93 = .ok (.if_icmp .ge 74, 3) := by decide +kernel
theorem dX6_noteAll_96 : decode cX6_noteAll 96 = .ok (.aload_n 0, 1) := by decide +kernel
theorem dX6_noteAll_97 : decode cX6_noteAll 97 = .ok (.getfield 52, 3) := by decide +kernel
theorem dX6_noteAll_100 : decode cX6_noteAll 100 = .ok (.aload_n 0, 1) := by decide +kernel
theorem dX6_noteAll_101 : decode cX6_noteAll 101 = .ok (.getfield 151, 3) := by decide +kernel
theorem dX6_noteAll_104 : decode cX6_noteAll 104 = .ok (.iload_n 2, 1) := by decide +kernel
theorem dX6_noteAll_105 : decode cX6_noteAll 105 = .ok (.iastore, 1) := by decide +kernel
theorem dX6_noteAll_106 : decode cX6_noteAll 106 = .ok (.iconst 0, 1) := by decide +kernel
theorem dX6_noteAll_107 : decode cX6_noteAll 107 = .ok (.istore 4, 2) := by decide +kernel
theorem dX6_noteAll_109 : decode cX6_noteAll 109 = .ok (.iload 4, 2) := by decide +kernel
theorem dX6_noteAll_111 : decode cX6_noteAll 111 = .ok (.iconst 5, 1) := by decide +kernel
theorem dX6_noteAll_112 : decode cX6_noteAll 112 = .ok (.if_icmp .ge 39, 3) := by decide +kernel
theorem dX6_noteAll_115 : decode cX6_noteAll 115 = .ok (.aload_n 0, 1) := by decide +kernel
theorem dX6_noteAll_116 : decode cX6_noteAll 116 = .ok (.getfield 55, 3) := by decide +kernel
theorem dX6_noteAll_119 : decode cX6_noteAll 119 = .ok (.iconst 5, 1) := by decide +kernel
theorem dX6_noteAll_120 : decode cX6_noteAll 120 = .ok (.aload_n 0, 1) := by decide +kernel
theorem dX6_noteAll_121 : decode cX6_noteAll 121 = .ok (.getfield 151, 3) := by decide +kernel
end
section
theorem dX6_noteAll_124 : decode cX6_noteAll 124 = .ok (.imul, 1) := by decide +kernel
theorem dX6_noteAll_125 : decode cX6_noteAll 125 = .ok (.iload 4, 2) := by decide +kernel
theorem dX6_noteAll_127 : decode cX6_noteAll 127 = .ok (.iadd, 1) := by decide +kernel
theorem dX6_noteAll_128 : decode cX6_noteAll 128 = .ok (.aload_n 0, 1) := by decide +kernel
theorem dX6_noteAll_129 : decode cX6_noteAll 129 = .ok (.getfield 46, 3) := by decide +kernel
theorem dX6_noteAll_132 : decode cX6_noteAll 132 = .ok (.bipush 25, 2) := by decide +kernel
theorem dX6_noteAll_134 : decode cX6_noteAll 134 = .ok (.iload_n 2, 1) := by decide +kernel
theorem dX6_noteAll_135 : decode cX6_noteAll 135 = .ok (.imul, 1) := by decide +kernel
theorem dX6_noteAll_136 : decode cX6_noteAll 136 = .ok (.iconst 5, 1) := by decide +kernel
theorem dX6_noteAll_137 : decode cX6_noteAll 137 = .ok (.iload_n 3, 1) := by decide +kernel
theorem dX6_noteAll_138 : decode cX6_noteAll 138 = .ok (.imul, 1) := by decide +kernel
theorem dX6_noteAll_139 : decode cX6_noteAll 139 = .ok (.iadd, 1) := by decide +kernel
theorem dX6_noteAll_140 : decode cX6_noteAll 140 = .ok (.iload 4, 2) := by decide +kernel
theorem dX6_noteAll_142 : decode cX6_noteAll 142 = .ok (.iadd, 1) := by decide +kernel
theorem dX6_noteAll_143 : decode cX6_noteAll 143 = .ok (.iaload, 1) := by decide +kernel
theorem dX6_noteAll_144 : decode cX6_noteAll 144 = .ok (.iastore, 1) := by decide +kernel
theorem dX6_noteAll_145 : decode cX6_noteAll 145 = .ok (.iinc 4 1, 3) := by decide +kernel
theorem dX6_noteAll_148 : decode cX6_noteAll 148 = .ok (.goto (-39), 3) := by decide +kernel
theorem dX6_noteAll_151 : decode cX6_noteAll 151 = .ok (.aload_n 0, 1) := by decide +kernel
theorem dX6_noteAll_152 : decode cX6_noteAll 152 = .ok (.dup, 1) := by decide +kernel
theorem dX6_noteAll_153 : decode cX6_noteAll 153 = .ok (.getfield 151, 3) := by decide +kernel
theorem dX6_noteAll_156 : decode cX6_noteAll 156 = .ok (.iconst 1, 1) := by decide +kernel
theorem dX6_noteAll_157 : decode cX6_noteAll 157 = .ok (.iadd, 1) := by decide +kernel
theorem dX6_noteAll_158 : decode cX6_noteAll 158 = .ok (.putfield 151, 3) := by decide +kernel
theorem dX6_noteAll_161 : decode cX6_noteAll 161 = .ok (.iinc 3 1, 3) := by decide +kernel
theorem dX6_noteAll_164 : decode cX6_noteAll 164 = .ok (.goto (-78), 3) := by decide +kernel
theorem dX6_noteAll_167 : decode cX6_noteAll 167 = .ok (.iinc 2 1, 3) := by decide +kernel
theorem dX6_noteAll_170 : decode cX6_noteAll 170 = .ok (.goto (-94), 3) := by decide +kernel
theorem dX6_noteAll_173 : decode cX6_noteAll 173 = .ok (.aload_n 0, 1) := by decide +kernel
theorem dX6_noteAll_174 : decode cX6_noteAll 174 = .ok (.getfield 151, 3) := by decide +kernel
theorem dX6_noteAll_177 : decode cX6_noteAll 177 = .ok (.ireturn, 1) := by decide +kernel
theorem dX6_forget_0 : decode cX6_forget 0 = .ok (.aload_n 0, 1) := by decide +kernel
theorem dX6_forget_1 : decode cX6_forget 1 = .ok (.iconst 0, 1) := by decide +kernel
theorem dX6_forget_2 : decode cX6_forget 2 = .ok (.putfield 74, 3) := by decide +kernel
theorem dX6_forget_5 : decode cX6_forget 5 = .ok (.aload_n 0, 1) := by decide +kernel
theorem dX6_forget_6 : decode cX6_forget 6 = .ok (.getfield 151, 3) := by decide +kernel
theorem dX6_forget_9 : decode cX6_forget 9 = .ok (.istore_n 1, 1) := by decide +kernel
theorem dX6_forget_10 : decode cX6_forget 10 = .ok (.aload_n 0, 1) := by decide +kernel
theorem dX6_forget_11 : decode cX6_forget 11 = .ok (.iconst 0, 1) := by decide +kernel
theorem dX6_forget_12 : decode cX6_forget 12 = .ok (.putfield 151, 3) := by decide +kernel
theorem dX6_forget_15 : decode cX6_forget 15 = .ok (.iload_n 1, 1) := by decide +kernel
theorem dX6_forget_16 : decode cX6_forget 16 = .ok (.ireturn, 1) := by decide +kernel
set_option maxRecDepth 20000 in
theorem ggX6_layNotes_X6_put : GoodIn wsX6_layNotes wsX6_put := goodIn_r _ [12, 13, 1, 14, 15, 16, 17, 18, 19, 20, 21, 22, 23, 24, 25, 26, 27, 28, 29, 30, 31, 32, 33, 34, 35, 36, 37, 38, 39, 40, 41, 42] (by decide +kernel) (by decide +kernel)
set_option maxRecDepth 20000 in
theorem gX6_layNotes_X6_put : GoodIn wsX6_layNotes (wsV RX6 122 RX6 yX6_put wsX6_put) := goodIn_app (goodIn_of _ (by decide +kernel)) ggX6_layNotes_X6_put
theorem dX6_layNotes_0 : decode cX6_layNotes 0 = .ok (.aload_n 0, 1) := by decide +kernel
theorem dX6_layNotes_1 : decode cX6_layNotes 1 = .ok (.iconst 0, 1) := by decide +kernel
theorem dX6_layNotes_2 : decode cX6_layNotes 2 = .ok (.putfield 84, 3) := by decide +kernel
theorem dX6_layNotes_5 : decode cX6_layNotes 5 = .ok (.iconst 0, 1) := by decide +kernel
theorem dX6_layNotes_6 : decode cX6_layNotes 6 = .ok (.istore_n 2, 1) := by decide +kernel
theorem dX6_layNotes_7 : decode cX6_layNotes 7 = .ok (.iload_n 2, 1) := by decide +kernel
theorem dX6_layNotes_8 : decode cX6_layNotes 8 = .ok (.aload_n 0, 1) := by decide +kernel
theorem dX6_layNotes_9 : decode cX6_layNotes 9 = .ok (.getfield 151, 3) := by decide +kernel
theorem dX6_layNotes_12 : decode cX6_layNotes 12 = .ok (.if_icmp .ge 62, 3) := by decide +kernel
theorem dX6_layNotes_15 : decode cX6_layNotes 15 = .ok (.aload_n 0, 1) := by decide +kernel
theorem dX6_layNotes_16 : decode cX6_layNotes 16 = .ok (.getfield 52, 3) := by decide +kernel
theorem dX6_layNotes_19 : decode cX6_layNotes 19 = .ok (.iload_n 2, 1) := by decide +kernel
theorem dX6_layNotes_20 : decode cX6_layNotes 20 = .ok (.iaload, 1) := by decide +kernel
theorem dX6_layNotes_21 : decode cX6_layNotes 21 = .ok (.aload_n 0, 1) := by decide +kernel
theorem dX6_layNotes_22 : decode cX6_layNotes 22 = .ok (.getfield 13, 3) := by decide +kernel
theorem dX6_layNotes_25 : decode cX6_layNotes 25 = .ok (.iload_n 1, 1) := by decide +kernel
theorem dX6_layNotes_26 : decode cX6_layNotes 26 = .ok (.iaload, 1) := by decide +kernel
theorem dX6_layNotes_27 : decode cX6_layNotes 27 = .ok (.if_icmp .ne 41, 3) := by decide +kernel
theorem dX6_layNotes_30 : decode cX6_layNotes 30 = .ok (.iconst 0, 1) := by decide +kernel
theorem dX6_layNotes_31 : decode cX6_layNotes 31 = .ok (.istore_n 3, 1) := by decide +kernel
theorem dX6_layNotes_32 : decode cX6_layNotes 32 = .ok (.iload_n 3, 1) := by decide +kernel
theorem dX6_layNotes_33 : decode cX6_layNotes 33 = .ok (.iconst 5, 1) := by decide +kernel
theorem dX6_layNotes_34 : decode cX6_layNotes 34 = .ok (.if_icmp .ge 24, 3) := by decide +kernel
theorem dX6_layNotes_37 : decode cX6_layNotes 37 = .ok (.aload_n 0, 1) := by decide +kernel
theorem dX6_layNotes_38 : decode cX6_layNotes 38 = .ok (.iload_n 3, 1) := by decide +kernel
theorem dX6_layNotes_39 : decode cX6_layNotes 39 = .ok (.aload_n 0, 1) := by decide +kernel
theorem dX6_layNotes_40 : decode cX6_layNotes 40 = .ok (.getfield 55, 3) := by decide +kernel
theorem dX6_layNotes_43 : decode cX6_layNotes 43 = .ok (.iconst 5, 1) := by decide +kernel
theorem dX6_layNotes_44 : decode cX6_layNotes 44 = .ok (.iload_n 2, 1) := by decide +kernel
theorem dX6_layNotes_45 : decode cX6_layNotes 45 = .ok (.imul, 1) := by decide +kernel
theorem dX6_layNotes_46 : decode cX6_layNotes 46 = .ok (.iload_n 3, 1) := by decide +kernel
theorem dX6_layNotes_47 : decode cX6_layNotes 47 = .ok (.iadd, 1) := by decide +kernel
theorem dX6_layNotes_48 : decode cX6_layNotes 48 = .ok (.iaload, 1) := by decide +kernel
theorem dX6_layNotes_49 : decode cX6_layNotes 49 = .ok (.invokevirtual 122, 3) := by decide +kernel
theorem dX6_layNotes_52 : decode cX6_layNotes 52 = .ok (.iinc 3 1, 3) := by decide +kernel
theorem dX6_layNotes_55 : decode cX6_layNotes 55 = .ok (.goto (-23), 3) := by decide +kernel
theorem dX6_layNotes_58 : decode cX6_layNotes 58 = .ok (.aload_n 0, 1) := by decide +kernel
theorem dX6_layNotes_59 : decode cX6_layNotes 59 = .ok (.dup, 1) := by decide +kernel
theorem dX6_layNotes_60 : decode cX6_layNotes 60 = .ok (.getfield 84, 3) := by decide +kernel
theorem dX6_layNotes_63 : decode cX6_layNotes 63 = .ok (.iconst 1, 1) := by decide +kernel
theorem dX6_layNotes_64 : decode cX6_layNotes 64 = .ok (.iadd, 1) := by decide +kernel
theorem dX6_layNotes_65 : decode cX6_layNotes 65 = .ok (.putfield 84, 3) := by decide +kernel
theorem dX6_layNotes_68 : decode cX6_layNotes 68 = .ok (.iinc 2 1, 3) := by decide +kernel
theorem dX6_layNotes_71 : decode cX6_layNotes 71 = .ok (.goto (-64), 3) := by decide +kernel
theorem dX6_layNotes_74 : decode cX6_layNotes 74 = .ok (.aload_n 0, 1) := by decide +kernel
theorem dX6_layNotes_75 : decode cX6_layNotes 75 = .ok (.getfield 19, 3) := by decide +kernel
theorem dX6_layNotes_78 : decode cX6_layNotes 78 = .ok (.iload_n 1, 1) := by decide +kernel
theorem dX6_layNotes_79 : decode cX6_layNotes 79 = .ok (.iaload, 1) := by decide +kernel
theorem dX6_layNotes_80 : decode cX6_layNotes 80 = .ok (.iconst 3, 1) := by decide +kernel
theorem dX6_layNotes_81 : decode cX6_layNotes 81 = .ok (.if_icmp .ne 41, 3) := by decide +kernel
theorem dX6_layNotes_84 : decode cX6_layNotes 84 = .ok (.iconst 0, 1) := by decide +kernel
theorem dX6_layNotes_85 : decode cX6_layNotes 85 = .ok (.istore_n 2, 1) := by decide +kernel
theorem dX6_layNotes_86 : decode cX6_layNotes 86 = .ok (.iload_n 2, 1) := by decide +kernel
theorem dX6_layNotes_87 : decode cX6_layNotes 87 = .ok (.iconst 5, 1) := by decide +kernel
theorem dX6_layNotes_88 : decode cX6_layNotes 88 = .ok (.if_icmp .ge 24, 3) := by decide +kernel
theorem dX6_layNotes_91 : decode cX6_layNotes 91 = .ok (.aload_n 0, 1) := by decide +kernel
theorem dX6_layNotes_92 : decode cX6_layNotes 92 = .ok (.iload_n 2, 1) := by decide +kernel
theorem dX6_layNotes_93 : decode cX6_layNotes 93 = .ok (.aload_n 0, 1) := by decide +kernel
theorem dX6_layNotes_94 : decode cX6_layNotes 94 = .ok (.getfield 25, 3) := by decide +kernel
theorem dX6_layNotes_97 : decode cX6_layNotes 97 = .ok (.iconst 5, 1) := by decide +kernel
theorem dX6_layNotes_98 : decode cX6_layNotes 98 = .ok (.iload_n 1, 1) := by decide +kernel
theorem dX6_layNotes_99 : decode cX6_layNotes 99 = .ok (.imul, 1) := by decide +kernel
theorem dX6_layNotes_100 : decode cX6_layNotes 100 = .ok (.iload_n 2, 1) := by decide +kernel
theorem dX6_layNotes_101 : decode cX6_layNotes 101 = .ok (.iadd, 1) := by decide +kernel
theorem dX6_layNotes_102 : decode cX6_layNotes 102 = .ok (.iaload, 1) := by decide +kernel
theorem dX6_layNotes_103 : decode cX6_layNotes 103 = .ok (.invokevirtual 122, 3) := by decide +kernel
theorem dX6_layNotes_106 : decode cX6_layNotes 106 = .ok (.iinc 2 1, 3) := by decide +kernel
theorem dX6_layNotes_109 : decode cX6_layNotes 109 = .ok (.goto (-23), 3) := by decide +kernel
theorem dX6_layNotes_112 : decode cX6_layNotes 112 = .ok (.aload_n 0, 1) := by decide +kernel
theorem dX6_layNotes_113 : decode cX6_layNotes 113 = .ok (.dup, 1) := by decide +kernel
theorem dX6_layNotes_114 : decode cX6_layNotes 114 = .ok (.getfield 84, 3) := by decide +kernel
theorem dX6_layNotes_117 : decode cX6_layNotes 117 = .ok (.iconst 1, 1) := by decide +kernel
theorem dX6_layNotes_118 : decode cX6_layNotes 118 = .ok (.iadd, 1) := by decide +kernel
theorem dX6_layNotes_119 : decode cX6_layNotes 119 = .ok (.putfield 84, 3) := by decide +kernel
theorem dX6_layNotes_122 : decode cX6_layNotes 122 = .ok (.return_, 1) := by decide +kernel
set_option maxRecDepth 20000 in
theorem ggX6_layBefore_X6_put : GoodIn wsX6_layBefore wsX6_put := goodIn_r _ [11, 5, 6, 16, 17, 18, 19, 20, 21, 22, 23, 24, 25, 26, 27, 28, 29, 30, 31, 32, 33, 34, 35, 36, 37, 38, 39, 40, 41, 42, 43, 44] (by decide +kernel) (by decide +kernel)
set_option maxRecDepth 20000 in
theorem gX6_layBefore_X6_put : GoodIn wsX6_layBefore (wsV RX6 122 RX6 yX6_put wsX6_put) := goodIn_app (goodIn_of _ (by decide +kernel)) ggX6_layBefore_X6_put
set_option maxRecDepth 20000 in
theorem ggX6_layBefore_X6_mod : GoodIn wsX6_layBefore wsX6_mod := goodIn_r _ [14, 15] (by decide +kernel) (by decide +kernel)
set_option maxRecDepth 20000 in
theorem gX6_layBefore_X6_mod : GoodIn wsX6_layBefore (va_wsS RX6 80 yX6_mod wsX6_mod) := goodIn_app (goodIn_of _ (by decide +kernel)) ggX6_layBefore_X6_mod
theorem dX6_layBefore_0 : decode cX6_layBefore 0 = .ok (.aload_n 0, 1) := by decide +kernel
theorem dX6_layBefore_1 : decode cX6_layBefore 1 = .ok (.getfield 22, 3) := by decide +kernel
theorem dX6_layBefore_4 : decode cX6_layBefore 4 = .ok (.iload_n 1, 1) := by decide +kernel
theorem dX6_layBefore_5 : decode cX6_layBefore 5 = .ok (.iaload, 1) := by decide +kernel
theorem dX6_layBefore_6 : decode cX6_layBefore 6 = .ok (.istore 4, 2) := by decide +kernel
theorem dX6_layBefore_8 : decode cX6_layBefore 8 = .ok (.iconst 0, 1) := by decide +kernel
theorem dX6_layBefore_9 : decode cX6_layBefore 9 = .ok (.istore 5, 2) := by decide +kernel
theorem dX6_layBefore_11 : decode cX6_layBefore 11 = .ok (.iload 5, 2) := by decide +kernel
theorem dX6_layBefore_13 : decode cX6_layBefore 13 = .ok (.iconst 5, 1) := by decide +kernel
theorem dX6_layBefore_14 : decode cX6_layBefore 14 = .ok (.if_icmp .ge 26, 3) := by decide +kernel
theorem dX6_layBefore_17 : decode cX6_layBefore 17 = .ok (.aload_n 0, 1) := by decide +kernel
theorem dX6_layBefore_18 : decode cX6_layBefore 18 = .ok (.iload 5, 2) := by decide +kernel
theorem dX6_layBefore_20 : decode cX6_layBefore 20 = .ok (.aload_n 0, 1) := by decide +kernel
theorem dX6_layBefore_21 : decode cX6_layBefore 21 = .ok (.getfield 55, 3) := by decide +kernel
theorem dX6_layBefore_24 : decode cX6_layBefore 24 = .ok (.iconst 5, 1) := by decide +kernel
theorem dX6_layBefore_25 : decode cX6_layBefore 25 = .ok (.iload_n 2, 1) := by decide +kernel
theorem dX6_layBefore_26 : decode cX6_layBefore 26 = .ok (.imul, 1) := by decide +kernel
theorem dX6_layBefore_27 : decode cX6_layBefore 27 = .ok (.iload 5, 2) := by decide +kernel
theorem dX6_layBefore_29 : decode cX6_layBefore 29 = .ok (.iadd, 1) := by decide +kernel
theorem dX6_layBefore_30 : decode cX6_layBefore 30 = .ok (.iaload, 1) := by decide +kernel
theorem dX6_layBefore_31 : decode cX6_layBefore 31 = .ok (.invokevirtual 122, 3) := by decide +kernel
theorem dX6_layBefore_34 : decode cX6_layBefore 34 = .ok (.iinc 5 1, 3) := by decide +kernel
theorem dX6_layBefore_37 : decode cX6_layBefore 37 = .ok (.goto (-26), 3) := by decide +kernel
theorem dX6_layBefore_40 : decode cX6_layBefore 40 = .ok (.aload_n 0, 1) := by decide +kernel
theorem dX6_layBefore_41 : decode cX6_layBefore 41 = .ok (.getfield 19, 3) := by decide +kernel
theorem dX6_layBefore_44 : decode cX6_layBefore 44 = .ok (.iload_n 1, 1) := by decide +kernel
theorem dX6_layBefore_45 : decode cX6_layBefore 45 = .ok (.iaload, 1) := by decide +kernel
theorem dX6_layBefore_46 : decode cX6_layBefore 46 = .ok (.iconst 1, 1) := by decide +kernel
theorem dX6_layBefore_47 : decode cX6_layBefore 47 = .ok (.if_icmp .eq 13, 3) := by decide +kernel
theorem dX6_layBefore_50 : decode cX6_layBefore 50 = .ok (.aload_n 0, 1) := by decide +kernel
theorem dX6_layBefore_51 : decode cX6_layBefore 51 = .ok (.getfield 19, 3) := by decide +kernel
theorem dX6_layBefore_54 : decode cX6_layBefore 54 = .ok (.iload_n 1, 1) := by decide +kernel
theorem dX6_layBefore_55 : decode cX6_layBefore 55 = .ok (.iaload, 1) := by decide +kernel
theorem dX6_layBefore_56 : decode cX6_layBefore 56 = .ok (.iconst 2, 1) := by decide +kernel
theorem dX6_layBefore_57 : decode cX6_layBefore 57 = .ok (.if_icmp .ne 106, 3) := by decide +kernel
theorem dX6_layBefore_60 : decode cX6_layBefore 60 = .ok (.aload_n 0, 1) := by decide +kernel
theorem dX6_layBefore_61 : decode cX6_layBefore 61 = .ok (.getfield 55, 3) := by decide +kernel
theorem dX6_layBefore_64 : decode cX6_layBefore 64 = .ok (.iconst 5, 1) := by decide +kernel
theorem dX6_layBefore_65 : decode cX6_layBefore 65 = .ok (.iload_n 2, 1) := by decide +kernel
theorem dX6_layBefore_66 : decode cX6_layBefore 66 = .ok (.imul, 1) := by decide +kernel
theorem dX6_layBefore_67 : decode cX6_layBefore 67 = .ok (.iload 4, 2) := by decide +kernel
theorem dX6_layBefore_69 : decode cX6_layBefore 69 = .ok (.iadd, 1) := by decide +kernel
theorem dX6_layBefore_70 : decode cX6_layBefore 70 = .ok (.iaload, 1) := by decide +kernel
theorem dX6_layBefore_71 : decode cX6_layBefore 71 = .ok (.istore 5, 2) := by decide +kernel
theorem dX6_layBefore_73 : decode cX6_layBefore 73 = .ok (.aload_n 0, 1) := by decide +kernel
theorem dX6_layBefore_74 : decode cX6_layBefore 74 = .ok (.iload 4, 2) := by decide +kernel
theorem dX6_layBefore_76 : decode cX6_layBefore 76 = .ok (.iconst 0, 1) := by decide +kernel
theorem dX6_layBefore_77 : decode cX6_layBefore 77 = .ok (.invokevirtual 122, 3) := by decide +kernel
theorem dX6_layBefore_80 : decode cX6_layBefore 80 = .ok (.iconst 0, 1) := by decide +kernel
theorem dX6_layBefore_81 : decode cX6_layBefore 81 = .ok (.istore 6, 2) := by decide +kernel
theorem dX6_layBefore_83 : decode cX6_layBefore 83 = .ok (.iload 6, 2) := by decide +kernel
theorem dX6_layBefore_85 : decode cX6_layBefore 85 = .ok (.iconst 5, 1) := by decide +kernel
theorem dX6_layBefore_86 : decode cX6_layBefore 86 = .ok (.if_icmp .ge 77, 3) := by decide +kernel
theorem dX6_layBefore_89 : decode cX6_layBefore 89 = .ok (.aload_n 0, 1) := by decide +kernel
theorem dX6_layBefore_90 : decode cX6_layBefore 90 = .ok (.getfield 19, 3) := by decide +kernel
theorem dX6_layBefore_93 : decode cX6_layBefore 93 = .ok (.iload_n 1, 1) := by decide +kernel
theorem dX6_layBefore_94 : decode cX6_layBefore 94 = .ok (.iaload, 1) := by decide +kernel
theorem dX6_layBefore_95 : decode cX6_layBefore 95 = .ok (.iconst 1, 1) := by decide +kernel
theorem dX6_layBefore_96 : decode cX6_layBefore 96 = .ok (.if_icmp .ne 17, 3) := by decide +kernel
theorem dX6_layBefore_99 : decode cX6_layBefore 99 = .ok (.aload_n 0, 1) := by decide +kernel
theorem dX6_layBefore_100 : decode cX6_layBefore 100 = .ok (.getfield 25, 3) := by decide +kernel
theorem dX6_layBefore_103 : decode cX6_layBefore 103 = .ok (.iconst 5, 1) := by decide +kernel
theorem dX6_layBefore_104 : decode cX6_layBefore 104 = .ok (.iload_n 1, 1) := by decide +kernel
theorem dX6_layBefore_105 : decode cX6_layBefore 105 = .ok (.imul, 1) := by decide +kernel
theorem dX6_layBefore_106 : decode cX6_layBefore 106 = .ok (.iload 6, 2) := by decide +kernel
theorem dX6_layBefore_108 : decode cX6_layBefore 108 = .ok (.iadd, 1) := by decide +kernel
theorem dX6_layBefore_109 : decode cX6_layBefore 109 = .ok (.iaload, 1) := by decide +kernel
theorem dX6_layBefore_110 : decode cX6_layBefore 110 = .ok (.goto 13, 3) := by decide +kernel
theorem dX6_layBefore_113 : decode cX6_layBefore 113 = .ok (.iload 6, 2) := by decide +kernel
theorem dX6_layBefore_115 : decode cX6_layBefore 115 = .ok (.ifCond .ne 7, 3) := by decide +kernel
theorem dX6_layBefore_118 : decode cX6_layBefore 118 = .ok (.iload_n 3, 1) := by decide +kernel
theorem dX6_layBefore_119 : decode cX6_layBefore 119 = .ok (.goto 4, 3) := by decide +kernel
theorem dX6_layBefore_122 : decode cX6_layBefore 122 = .ok (.iconst 0, 1) := by decide +kernel
theorem dX6_layBefore_123 : decode cX6_layBefore 123 = .ok (.istore 7, 2) := by decide +kernel
theorem dX6_layBefore_125 : decode cX6_layBefore 125 = .ok (.aload_n 0, 1) := by decide +kernel
theorem dX6_layBefore_126 : decode cX6_layBefore 126 = .ok (.iload 6, 2) := by decide +kernel
theorem dX6_layBefore_128 : decode cX6_layBefore 128 = .ok (.aload_n 0, 1) := by decide +kernel
theorem dX6_layBefore_129 : decode cX6_layBefore 129 = .ok (.getfield 58, 3) := by decide +kernel
theorem dX6_layBefore_132 : decode cX6_layBefore 132 = .ok (.iconst 5, 1) := by decide +kernel
theorem dX6_layBefore_133 : decode cX6_layBefore 133 = .ok (.aload_n 0, 1) := by decide +kernel
theorem dX6_layBefore_134 : decode cX6_layBefore 134 = .ok (.getfield 84, 3) := by decide +kernel
theorem dX6_layBefore_137 : decode cX6_layBefore 137 = .ok (.imul, 1) := by decide +kernel
theorem dX6_layBefore_138 : decode cX6_layBefore 138 = .ok (.iload 6, 2) := by decide +kernel
theorem dX6_layBefore_140 : decode cX6_layBefore 140 = .ok (.iadd, 1) := by decide +kernel
theorem dX6_layBefore_141 : decode cX6_layBefore 141 = .ok (.iaload, 1) := by decide +kernel
theorem dX6_layBefore_142 : decode cX6_layBefore 142 = .ok (.i2l, 1) := by decide +kernel
theorem dX6_layBefore_143 : decode cX6_layBefore 143 = .ok (.iload 5, 2) := by decide +kernel
theorem dX6_layBefore_145 : decode cX6_layBefore 145 = .ok (.i2l, 1) := by decide +kernel
theorem dX6_layBefore_146 : decode cX6_layBefore 146 = .ok (.iload 7, 2) := by decide +kernel
theorem dX6_layBefore_148 : decode cX6_layBefore 148 = .ok (.i2l, 1) := by decide +kernel
theorem dX6_layBefore_149 : decode cX6_layBefore 149 = .ok (.lmul, 1) := by decide +kernel
theorem dX6_layBefore_150 : decode cX6_layBefore 150 = .ok (.ladd, 1) := by decide +kernel
theorem dX6_layBefore_151 : decode cX6_layBefore 151 = .ok (.invokestatic 80, 3) := by decide +kernel
theorem dX6_layBefore_154 : decode cX6_layBefore 154 = .ok (.invokevirtual 122, 3) := by decide +kernel
theorem dX6_layBefore_157 : decode cX6_layBefore 157 = .ok (.iinc 6 1, 3) := by decide +kernel
theorem dX6_layBefore_160 : decode cX6_layBefore 160 = .ok (.goto (-77), 3) := by decide +kernel
theorem dX6_layBefore_163 : decode cX6_layBefore 163 = .ok (.aload_n 0, 1) := by decide +kernel
theorem dX6_layBefore_164 : decode cX6_layBefore 164 = .ok (.dup, 1) := by decide +kernel
theorem dX6_layBefore_165 : decode cX6_layBefore 165 = .ok (.getfield 84, 3) := by decide +kernel
theorem dX6_layBefore_168 : decode cX6_layBefore 168 = .ok (.iconst 1, 1) := by decide +kernel
theorem dX6_layBefore_169 : decode cX6_layBefore 169 = .ok (.iadd, 1) := by decide +kernel
theorem dX6_layBefore_170 : decode cX6_layBefore 170 = .ok (.putfield 84, 3) := by decide +kernel
theorem dX6_layBefore_173 : decode cX6_layBefore 173 = .ok (.return_, 1) := by decide +kernel
set_option maxRecDepth 20000 in
theorem ggX6_follows_X6_layNotes : GoodIn wsX6_follows wsX6_layNotes := goodIn_r _ [5, 6, 7, 8, 9, 10, 11, 12, 13, 14, 15, 4, 16, 17, 45, 46, 47, 48, 49, 50, 51, 52, 53, 54, 55, 56, 57, 58, 59, 60, 61, 62, 63, 64, 65, 66, 67, 68, 69, 70, 71, 72, 73] (by decide +kernel) (by decide +kernel)
set_option maxRecDepth 20000 in
theorem gX6_follows_X6_layNotes : GoodIn wsX6_follows (wsV RX6 154 RX6 yX6_layNotes wsX6_layNotes) := goodIn_app (goodIn_of _ (by decide +kernel)) ggX6_follows_X6_layNotes
set_option maxRecDepth 20000 in
theorem ggX6_follows_X6_rank : GoodIn wsX6_follows wsX6_rank := goodIn_r _ [21, 22, 23, 6, 17, 24, 25, 26, 4, 27, 28, 29, 30, 31, 32, 33, 34, 35, 36, 37, 38, 39, 45, 46, 47, 48, 49, 50, 51, 52, 53, 54, 55, 56, 57, 58, 59, 60, 61, 62, 63, 64, 65, 66, 67, 68, 69, 70, 71, 72, 73] (by decide +kernel) (by decide +kernel)
set_option maxRecDepth 20000 in
theorem gX6_follows_X6_rank : GoodIn wsX6_follows (wsV RX6 129 RX6 yX6_rank wsX6_rank) := goodIn_app (goodIn_of _ (by decide +kernel)) ggX6_follows_X6_rank
set_option maxRecDepth 20000 in
theorem ggX6_follows_X6_layBefore : GoodIn wsX6_follows wsX6_layBefore := goodIn_r _ [43, 44, 10, 11, 12, 17, 6, 13, 14, 15, 4, 16, 32, 33, 34, 35, 45, 46, 47, 48, 49, 50, 51, 52, 53, 54, 55, 56, 57, 58, 59, 60, 61, 62, 63, 64, 65, 66, 67, 68, 69, 70, 71, 72, 73] (by decide +kernel) (by decide +kernel)
set_option maxRecDepth 20000 in
theorem gX6_follows_X6_layBefore : GoodIn wsX6_follows (wsV RX6 157 RX6 yX6_layBefore wsX6_layBefore) := goodIn_app (goodIn_of _ (by decide +kernel)) ggX6_follows_X6_layBefore
theorem dX6_follows_0 : decode cX6_follows 0 = .ok (.iconst 1, 1) := by decide +kernel
theorem dX6_follows_1 : decode cX6_follows 1 = .ok (.istore_n 3, 1) := by decide +kernel
theorem dX6_follows_2 : decode cX6_follows 2 = .ok (.iconst 0, 1) := by decide +kernel
theorem dX6_follows_3 : decode cX6_follows 3 = .ok (.istore 4, 2) := by decide +kernel
theorem dX6_follows_5 : decode cX6_follows 5 = .ok (.iload 4, 2) := by decide +kernel
theorem dX6_follows_7 : decode cX6_follows 7 = .ok (.iconst 2, 1) := by decide +kernel
theorem dX6_follows_8 : decode cX6_follows 8 = .ok (.if_icmp .ge 52, 3) := by decide +kernel
theorem dX6_follows_11 : decode cX6_follows 11 = .ok (.aload_n 0, 1) := by decide +kernel
theorem dX6_follows_12 : decode cX6_follows 12 = .ok (.iload_n 1, 1) := by decide +kernel
theorem dX6_follows_13 : decode cX6_follows 13 = .ok (.invokevirtual 154, 3) := by decide +kernel
theorem dX6_follows_16 : decode cX6_follows 16 = .ok (.aload_n 0, 1) := by decide +kernel
theorem dX6_follows_17 : decode cX6_follows 17 = .ok (.invokevirtual 129, 3) := by decide +kernel
theorem dX6_follows_20 : decode cX6_follows 20 = .ok (.istore 5, 2) := by decide +kernel
theorem dX6_follows_22 : decode cX6_follows 22 = .ok (.aload_n 0, 1) := by decide +kernel
theorem dX6_follows_23 : decode cX6_follows 23 = .ok (.iload_n 1, 1) := by decide +kernel
theorem dX6_follows_24 : decode cX6_follows 24 = .ok (.invokevirtual 154, 3) := by decide +kernel
theorem dX6_follows_27 : decode cX6_follows 27 = .ok (.aload_n 0, 1) := by decide +kernel
theorem dX6_follows_28 : decode cX6_follows 28 = .ok (.iload_n 1, 1) := by decide +kernel
theorem dX6_follows_29 : decode cX6_follows 29 = .ok (.iload_n 2, 1) := by decide +kernel
theorem dX6_follows_30 : decode cX6_follows 30 = .ok (.iload 4, 2) := by decide +kernel
theorem dX6_follows_32 : decode cX6_follows 32 = .ok (.invokevirtual 157, 3) := by decide +kernel
theorem dX6_follows_35 : decode cX6_follows 35 = .ok (.iload_n 3, 1) := by decide +kernel
theorem dX6_follows_36 : decode cX6_follows 36 = .ok (.ifCond .eq 16, 3) := by decide +kernel
theorem dX6_follows_39 : decode cX6_follows 39 = .ok (.aload_n 0, 1) := by decide +kernel
theorem dX6_follows_40 : decode cX6_follows 40 = .ok (.invokevirtual 129, 3) := by decide +kernel
theorem dX6_follows_43 : decode cX6_follows 43 = .ok (.iload 5, 2) := by decide +kernel
theorem dX6_follows_45 : decode cX6_follows 45 = .ok (.if_icmp .ne 7, 3) := by decide +kernel
theorem dX6_follows_48 : decode cX6_follows 48 = .ok (.iconst 1, 1) := by decide +kernel
theorem dX6_follows_49 : decode cX6_follows 49 = .ok (.goto 4, 3) := by decide +kernel
theorem dX6_follows_52 : decode cX6_follows 52 = .ok (.iconst 0, 1) := by decide +kernel
theorem dX6_follows_53 : decode cX6_follows 53 = .ok (.istore_n 3, 1) := by decide +kernel
theorem dX6_follows_54 : decode cX6_follows 54 = .ok (.iinc 4 1, 3) := by decide +kernel
theorem dX6_follows_57 : decode cX6_follows 57 = .ok (.goto (-52), 3) := by decide +kernel
theorem dX6_follows_60 : decode cX6_follows 60 = .ok (.iload_n 3, 1) := by decide +kernel
theorem dX6_follows_61 : decode cX6_follows 61 = .ok (.ireturn, 1) := by decide +kernel
set_option maxRecDepth 20000 in
theorem ggX6_sound_X6_follows : GoodIn wsX6_sound wsX6_follows := goodIn_r _ [11, 12, 13, 14, 10, 15, 16, 2, 3, 17, 18, 19, 20, 21, 22, 23, 24, 25, 26, 27, 28, 29, 30, 31, 32, 33, 34, 35, 36, 37, 38, 39, 40, 41, 42, 43, 44, 45, 46, 47, 48, 49, 50, 51, 52, 53, 54, 55, 56, 57, 58, 59, 60, 61, 62, 63, 64, 65, 66, 67, 68, 69, 70, 71, 72, 73, 74, 75, 76, 77, 78, 79, 80, 81] (by decide +kernel) (by decide +kernel)
set_option maxRecDepth 20000 in
theorem gX6_sound_X6_follows : GoodIn wsX6_sound (wsV RX6 160 RX6 yX6_follows wsX6_follows) := goodIn_app (goodIn_of _ (by decide +kernel)) ggX6_sound_X6_follows
theorem dX6_sound_0 : decode cX6_sound 0 = .ok (.aload_n 0, 1) := by decide +kernel
theorem dX6_sound_1 : decode cX6_sound 1 = .ok (.iconst 0, 1) := by decide +kernel
theorem dX6_sound_2 : decode cX6_sound 2 = .ok (.putfield 74, 3) := by decide +kernel
theorem dX6_sound_5 : decode cX6_sound 5 = .ok (.iconst 1, 1) := by decide +kernel
theorem dX6_sound_6 : decode cX6_sound 6 = .ok (.istore_n 1, 1) := by decide +kernel
theorem dX6_sound_7 : decode cX6_sound 7 = .ok (.iconst 0, 1) := by decide +kernel
theorem dX6_sound_8 : decode cX6_sound 8 = .ok (.istore_n 2, 1) := by decide +kernel
theorem dX6_sound_9 : decode cX6_sound 9 = .ok (.iload_n 2, 1) := by decide +kernel
theorem dX6_sound_10 : decode cX6_sound 10 = .ok (.aload_n 0, 1) := by decide +kernel
theorem dX6_sound_11 : decode cX6_sound 11 = .ok (.getfield 151, 3) := by decide +kernel
theorem dX6_sound_14 : decode cX6_sound 14 = .ok (.if_icmp .ge 82, 3) := by decide +kernel
theorem dX6_sound_17 : decode cX6_sound 17 = .ok (.iload_n 1, 1) := by decide +kernel
theorem dX6_sound_18 : decode cX6_sound 18 = .ok (.ifCond .eq 78, 3) := by decide +kernel
theorem dX6_sound_21 : decode cX6_sound 21 = .ok (.aload_n 0, 1) := by decide +kernel
theorem dX6_sound_22 : decode cX6_sound 22 = .ok (.getfield 52, 3) := by decide +kernel
theorem dX6_sound_25 : decode cX6_sound 25 = .ok (.iload_n 2, 1) := by decide +kernel
theorem dX6_sound_26 : decode cX6_sound 26 = .ok (.iaload, 1) := by decide +kernel
theorem dX6_sound_27 : decode cX6_sound 27 = .ok (.aload_n 0, 1) := by decide +kernel
theorem dX6_sound_28 : decode cX6_sound 28 = .ok (.getfield 113, 3) := by decide +kernel
theorem dX6_sound_31 : decode cX6_sound 31 = .ok (.if_icmp .eq 7, 3) := by decide +kernel
theorem dX6_sound_34 : decode cX6_sound 34 = .ok (.iconst 1, 1) := by decide +kernel
theorem dX6_sound_35 : decode cX6_sound 35 = .ok (.goto 4, 3) := by decide +kernel
theorem dX6_sound_38 : decode cX6_sound 38 = .ok (.iconst 0, 1) := by decide +kernel
theorem dX6_sound_39 : decode cX6_sound 39 = .ok (.istore_n 1, 1) := by decide +kernel
theorem dX6_sound_40 : decode cX6_sound 40 = .ok (.iconst 0, 1) := by decide +kernel
theorem dX6_sound_41 : decode cX6_sound 41 = .ok (.istore_n 3, 1) := by decide +kernel
theorem dX6_sound_42 : decode cX6_sound 42 = .ok (.iload_n 3, 1) := by decide +kernel
theorem dX6_sound_43 : decode cX6_sound 43 = .ok (.aload_n 0, 1) := by decide +kernel
theorem dX6_sound_44 : decode cX6_sound 44 = .ok (.getfield 103, 3) := by decide +kernel
theorem dX6_sound_47 : decode cX6_sound 47 = .ok (.if_icmp .ge 43, 3) := by decide +kernel
theorem dX6_sound_50 : decode cX6_sound 50 = .ok (.iload_n 1, 1) := by decide +kernel
theorem dX6_sound_51 : decode cX6_sound 51 = .ok (.ifCond .eq 39, 3) := by decide +kernel
theorem dX6_sound_54 : decode cX6_sound 54 = .ok (.aload_n 0, 1) := by decide +kernel
theorem dX6_sound_55 : decode cX6_sound 55 = .ok (.getfield 16, 3) := by decide +kernel
theorem dX6_sound_58 : decode cX6_sound 58 = .ok (.iload_n 3, 1) := by decide +kernel
theorem dX6_sound_59 : decode cX6_sound 59 = .ok (.iaload, 1) := by decide +kernel
theorem dX6_sound_60 : decode cX6_sound 60 = .ok (.aload_n 0, 1) := by decide +kernel
theorem dX6_sound_61 : decode cX6_sound 61 = .ok (.getfield 52, 3) := by decide +kernel
theorem dX6_sound_64 : decode cX6_sound 64 = .ok (.iload_n 2, 1) := by decide +kernel
theorem dX6_sound_65 : decode cX6_sound 65 = .ok (.iaload, 1) := by decide +kernel
theorem dX6_sound_66 : decode cX6_sound 66 = .ok (.if_icmp .ne 12, 3) := by decide +kernel
theorem dX6_sound_69 : decode cX6_sound 69 = .ok (.aload_n 0, 1) := by decide +kernel
theorem dX6_sound_70 : decode cX6_sound 70 = .ok (.iload_n 3, 1) := by decide +kernel
theorem dX6_sound_71 : decode cX6_sound 71 = .ok (.iload_n 2, 1) := by decide +kernel
theorem dX6_sound_72 : decode cX6_sound 72 = .ok (.invokevirtual 160, 3) := by decide +kernel
theorem dX6_sound_75 : decode cX6_sound 75 = .ok (.ifCond .eq 7, 3) := by decide +kernel
theorem dX6_sound_78 : decode cX6_sound 78 = .ok (.iconst 1, 1) := by decide +kernel
theorem dX6_sound_79 : decode cX6_sound 79 = .ok (.goto 4, 3) := by decide +kernel
theorem dX6_sound_82 : decode cX6_sound 82 = .ok (.iconst 0, 1) := by decide +kernel
theorem dX6_sound_83 : decode cX6_sound 83 = .ok (.istore_n 1, 1) := by decide +kernel
theorem dX6_sound_84 : decode cX6_sound 84 = .ok (.iinc 3 1, 3) := by decide +kernel
theorem dX6_sound_87 : decode cX6_sound 87 = .ok (.goto (-45), 3) := by decide +kernel
theorem dX6_sound_90 : decode cX6_sound 90 = .ok (.iinc 2 1, 3) := by decide +kernel
theorem dX6_sound_93 : decode cX6_sound 93 = .ok (.goto (-84), 3) := by decide +kernel
theorem dX6_sound_96 : decode cX6_sound 96 = .ok (.iload_n 1, 1) := by decide +kernel
theorem dX6_sound_97 : decode cX6_sound 97 = .ok (.ireturn, 1) := by decide +kernel
theorem dJ9_floorMod_7cf53_0 : decode cJ9_floorMod_7cf53 0 = .ok (.iload_n 0, 1) := by decide +kernel
theorem dJ9_floorMod_7cf53_1 : decode cJ9_floorMod_7cf53 1 = .ok (.iload_n 1, 1) := by decide +kernel
theorem dJ9_floorMod_7cf53_2 : decode cJ9_floorMod_7cf53 2 = .ok (.irem, 1) := by decide +kernel
theorem dJ9_floorMod_7cf53_3 : decode cJ9_floorMod_7cf53 3 = .ok (.istore_n 2, 1) := by decide +kernel
theorem dJ9_floorMod_7cf53_4 : decode cJ9_floorMod_7cf53 4 = .ok (.iload_n 0, 1) := by decide +kernel
theorem dJ9_floorMod_7cf53_5 : decode cJ9_floorMod_7cf53 5 = .ok (.iload_n 1, 1) := by decide +kernel
theorem dJ9_floorMod_7cf53_6 : decode cJ9_floorMod_7cf53 6 = .ok (.ixor, 1) := by decide +kernel
theorem dJ9_floorMod_7cf53_7 : decode cJ9_floorMod_7cf53 7 = .ok (.ifCond .ge 11, 3) := by decide +kernel
theorem dJ9_floorMod_7cf53_10 : decode cJ9_floorMod_7cf53 10 = .ok (.iload_n 2, 1) := by decide +kernel
theorem dJ9_floorMod_7cf53_11 : decode cJ9_floorMod_7cf53 11 = .ok (.ifCond .eq 7, 3) := by decide +kernel
theorem dJ9_floorMod_7cf53_14 : decode cJ9_floorMod_7cf53 14 = .ok (.iload_n 2, 1) := by decide +kernel
theorem dJ9_floorMod_7cf53_15 : decode cJ9_floorMod_7cf53 15 = .ok (.iload_n 1, 1) := by decide +kernel
theorem dJ9_floorMod_7cf53_16 : decode cJ9_floorMod_7cf53 16 = .ok (.iadd, 1) := by decide +kernel
theorem dJ9_floorMod_7cf53_17 : decode cJ9_floorMod_7cf53 17 = .ok (.ireturn, 1) := by decide +kernel
theorem dJ9_floorMod_7cf53_18 : decode cJ9_floorMod_7cf53 18 = .ok (.iload_n 2, 1) := by decide +kernel
theorem dJ9_floorMod_7cf53_19 : decode cJ9_floorMod_7cf53 19 = .ok (.ireturn, 1) := by decide +kernel
theorem dJ9_max_7cf53_0 : decode cJ9_max_7cf53 0 = .ok (.iload_n 0, 1) := by decide +kernel
theorem dJ9_max_7cf53_1 : decode cJ9_max_7cf53 1 = .ok (.iload_n 1, 1) := by decide +kernel
theorem dJ9_max_7cf53_2 : decode cJ9_max_7cf53 2 = .ok (.if_icmp .lt 7, 3) := by decide +kernel
theorem dJ9_max_7cf53_5 : decode cJ9_max_7cf53 5 = .ok (.iload_n 0, 1) := by decide +kernel
theorem dJ9_max_7cf53_6 : decode cJ9_max_7cf53 6 = .ok (.goto 4, 3) := by decide +kernel
theorem dJ9_max_7cf53_9 : decode cJ9_max_7cf53 9 = .ok (.iload_n 1, 1) := by decide +kernel
theorem dJ9_max_7cf53_10 : decode cJ9_max_7cf53 10 = .ok (.ireturn, 1) := by decide +kernel
theorem dJ9_min_7cf53_0 : decode cJ9_min_7cf53 0 = .ok (.iload_n 0, 1) := by decide +kernel
theorem dJ9_min_7cf53_1 : decode cJ9_min_7cf53 1 = .ok (.iload_n 1, 1) := by decide +kernel
theorem dJ9_min_7cf53_2 : decode cJ9_min_7cf53 2 = .ok (.if_icmp .gt 7, 3) := by decide +kernel
theorem dJ9_min_7cf53_5 : decode cJ9_min_7cf53 5 = .ok (.iload_n 0, 1) := by decide +kernel
theorem dJ9_min_7cf53_6 : decode cJ9_min_7cf53 6 = .ok (.goto 4, 3) := by decide +kernel
theorem dJ9_min_7cf53_9 : decode cJ9_min_7cf53 9 = .ok (.iload_n 1, 1) := by decide +kernel
theorem dJ9_min_7cf53_10 : decode cJ9_min_7cf53 10 = .ok (.ireturn, 1) := by decide +kernel
theorem dJ7_fill_53178_0 : decode cJ7_fill_53178 0 = .ok (.iconst 0, 1) := by decide +kernel
theorem dJ7_fill_53178_1 : decode cJ7_fill_53178 1 = .ok (.istore_n 2, 1) := by decide +kernel
theorem dJ7_fill_53178_2 : decode cJ7_fill_53178 2 = .ok (.aload_n 0, 1) := by decide +kernel
theorem dJ7_fill_53178_3 : decode cJ7_fill_53178 3 = .ok (.arraylength, 1) := by decide +kernel
theorem dJ7_fill_53178_4 : decode cJ7_fill_53178 4 = .ok (.istore_n 3, 1) := by decide +kernel
theorem dJ7_fill_53178_5 : decode cJ7_fill_53178 5 = .ok (.iload_n 2, 1) := by decide +kernel
theorem dJ7_fill_53178_6 : decode cJ7_fill_53178 6 = .ok (.iload_n 3, 1) := by decide +kernel
theorem dJ7_fill_53178_7 : decode cJ7_fill_53178 7 = .ok (.if_icmp .ge 13, 3) := by decide +kernel
theorem dJ7_fill_53178_10 : decode cJ7_fill_53178 10 = .ok (.aload_n 0, 1) := by decide +kernel
theorem dJ7_fill_53178_11 : decode cJ7_fill_53178 11 = .ok (.iload_n 2, 1) := by decide +kernel
theorem dJ7_fill_53178_12 : decode cJ7_fill_53178 12 = .ok (.iload_n 1, 1) := by decide +kernel
theorem dJ7_fill_53178_13 : decode cJ7_fill_53178 13 = .ok (.iastore, 1) := by decide +kernel
theorem dJ7_fill_53178_14 : decode cJ7_fill_53178 14 = .ok (.iinc 2 1, 3) := by decide +kernel
theorem dJ7_fill_53178_17 : decode cJ7_fill_53178 17 = .ok (.goto (-12), 3) := by decide +kernel
theorem dJ7_fill_53178_20 : decode cJ7_fill_53178 20 = .ok (.return_, 1) := by decide +kernel
end
section
/-! THE FRAME: a world is a list of labels L, an address for each label (ad), a cell for each label (g). Every contract speaks of the whole world, and of which labels it changes. -/
abbrev cx_G : Type := va_G × (Nat → ClassId)
abbrev cx_t (G : cx_G) : List (ClassId × FieldType) := [(G.2 0, .int), (G.2 1, .boolean), (G.2 2, .object RX0), (G.2 3, .object RX1), (G.2 4, .object RX2), (G.2 5, .object RX3), (G.2 6, .array .int), (G.2 7, .long)]
def cx_nest : List Cond := [.methodLinkNest RX0 28 yX5_copy RX5, .methodLinkNest RX0 32 yX5_valueOf RX5, .methodLinkNest RX0 36 yX5_addMultiple RX5, .methodLinkNest RX0 40 yX5_number RX5, .methodLinkNest RX2 17 yX5_copy RX5, .methodLinkNest RX3 23 yX5_copy RX5, .methodLinkNest RX4 38 yX5_inverse RX5, .methodLinkNest RX4 42 yX5_addMultiple RX5, .methodLinkNest RX4 47 yX5_copy RX5, .methodLinkNest RX4 51 yX5_number RX5]
def cx_K (G : cx_G) (U : State) : Prop := va_K G.1 vwCl (cx_t G) U ∧ ∀ w ∈ cx_nest, va_Nw w U
theorem cx_K.warm {G : cx_G} {s U : State} (hW : s.WarmedH U.vm) (h : cx_K G s) : cx_K G U := by
  refine ⟨va_K.moved hW.alike h.1, fun w hw => ?_⟩
  have h1 := h.2 w hw
  simp only [cx_nest, List.mem_cons, List.not_mem_nil, or_false] at hw
  rcases hw with rfl | rfl | rfl | rfl | rfl | rfl | rfl | rfl | rfl | rfl <;> exact va_Nw.warmM hW h1
theorem cx_K.same {G : cx_G} {u U : State} (hv : u.vm = U.vm) (h : cx_K G u) : cx_K G U := by
  refine ⟨va_K.moved (by rw [hv]; exact Vm.Alike.refl _) h.1, fun w hw => ?_⟩
  have h1 := h.2 w hw
  simp only [cx_nest, List.mem_cons, List.not_mem_nil, or_false] at hw
  rcases hw with rfl | rfl | rfl | rfl | rfl | rfl | rfl | rfl | rfl | rfl <;> exact va_Nw.same rfl hv h1
def wl (L : List Nat) (ad : Nat → Nat) (g : Nat → va_E) : va_W := L.map (fun k => (ad k, g k))
/-- labels and addresses: each label once, the addresses apart -/
def cx_D (L : List Nat) (ad : Nat → Nat) : Prop := (∀ i j k : Nat, L[i]? = some k → L[j]? = some k → i = j) ∧ ∀ i j : Nat, i ∈ L → j ∈ L → ad i = ad j → i = j
/-- what a method may change: the world's cells and new ones -/
def cx_A (L : List Nat) (ad : Nat → Nat) (sz : Nat) : Nat → Prop := fun q => (∃ k : Nat, k ∈ L ∧ q = ad k) ∨ sz ≤ q
theorem wl_get {L : List Nat} {ad : Nat → Nat} {g : Nat → va_E} {k : Nat} (h : k ∈ L) : ∃ q : Nat, (wl L ad g)[q]? = some (ad k, g k) := by
  obtain ⟨q, hq⟩ := List.getElem?_of_mem h
  exact ⟨q, by simp [wl, hq]⟩
theorem wl_at {L : List Nat} {ad : Nat → Nat} {g : Nat → va_E} {q : Nat} {x : Nat × va_E} (h : (wl L ad g)[q]? = some x) : ∃ k : Nat, L[q]? = some k ∧ x = (ad k, g k) := by
  simp only [wl, List.getElem?_map, Option.map_eq_some_iff] at h
  obtain ⟨k, h1, h2⟩ := h
  exact ⟨k, h1, h2.symm⟩
theorem wl_set {L : List Nat} {ad : Nat → Nat} {g : Nat → va_E} {k q : Nat} {e : va_E} (hD : cx_D L ad) (hk : k ∈ L) (hq : (wl L ad g)[q]? = some (ad k, g k)) : (wl L ad g).set q (ad k, e) = wl L ad (va_up g k e) := by
  obtain ⟨k2, h1, h2⟩ := wl_at hq
  have hkk : k2 = k := hD.2 k2 k (List.mem_of_getElem? h1) hk (congrArg Prod.fst h2).symm
  subst hkk
  have hl := (List.getElem?_eq_some_iff.mp hq).1
  apply List.ext_getElem?
  intro j
  by_cases hj : j = q
  · subst hj
    rw [List.getElem?_set_self hl]
    simp [wl, h1, va_up]
  · rw [List.getElem?_set_ne (Ne.symm hj)]
    simp only [wl, List.getElem?_map]
    cases hb : L[j]? with
    | none => rfl
    | some b =>
      have hbk : b ≠ k2 := fun z => hj (hD.1 _ _ _ hb (z ▸ h1))
      simp [va_up, hbk]
theorem cx_D.world {L : List Nat} {ad : Nat → Nat} (hD : cx_D L ad) (g : Nat → va_E) (sz : Nat) : va_D (cx_A L ad sz) (wl L ad g) := by
  refine ⟨fun i j x y hi hj hxy => ?_, fun k x hx => ?_⟩
  · obtain ⟨a, h1, h2⟩ := wl_at hi
    obtain ⟨b, h3, h4⟩ := wl_at hj
    rw [h2, h4] at hxy
    have hab : a = b := hD.2 a b (List.mem_of_getElem? h1) (List.mem_of_getElem? h3) hxy
    subst hab
    exact hD.1 _ _ _ h1 h3
  · obtain ⟨a, h1, h2⟩ := wl_at hx
    exact Or.inl ⟨a, List.mem_of_getElem? h1, by rw [h2]⟩
theorem cx_A.mono {L : List Nat} {ad : Nat → Nat} {a b : Nat} (h : a ≤ b) {q : Nat} (hq : cx_A L ad b q) : cx_A L ad a q := hq.elim Or.inl (fun z => Or.inr (Nat.le_trans h z))
/-- a contract's start and end -/
def cx_P (G : cx_G) (L : List Nat) (ad : Nat → Nat) (g : Nat → va_E) (sz : Nat) (U : State) : Prop := U.heap.size = sz ∧ va_P G.1 vwCl (wl L ad g) U.heap ∧ cx_K G U
def cx_B (G : cx_G) (L : List Nat) (ad : Nat → Nat) (g : Nat → va_E) (t : State) : Prop := va_P G.1 vwCl (wl L ad g) t.heap ∧ cx_K G t
theorem cx_blind {G : cx_G} {L : List Nat} {ad : Nat → Nat} {g : Nat → va_E} {sz : Nat} {av : List Value} : FrameBlind (va_Pc av (cx_P G L ad g sz)) := fun a U gg mk q => by
  obtain ⟨q0, q1, qP, qK⟩ := q
  exact ⟨q0, q1, qP, cx_K.same (u := U) (U := U.calling gg mk a) rfl qK⟩
-- contents
abbrev iA (G : cx_G) (n : Nat) (f : Nat → Int32) : va_E := .inl (G.2 0, n, .inl f)
abbrev nA (G : cx_G) (n : Nat) (f : Nat → Nat) : va_E := .inl (G.2 0, n, .inl (fun j => nI (f j)))
abbrev zA (G : cx_G) (n : Nat) (f : Nat → Bool) : va_E := .inl (G.2 1, n, .inl (fun j => if f j = true then 1 else 0))
abbrev rA (c : ClassId) (n : Nat) (f : Nat → Option Nat) : va_E := .inl (c, n, .inr (.inr (.inr (.inr f))))
abbrev jA (G : cx_G) (n : Nat) (f : Nat → Int64) : va_E := .inl (G.2 7, n, .inr (.inl f))
def nu {α : Type} (f : Nat → α) (k : Nat) (x : α) : Nat → α := fun j => if j = k then x else f j
theorem nu_s {α : Type} (f : Nat → α) (k : Nat) (x : α) : nu f k x k = x := if_pos rfl
theorem nu_n {α : Type} {f : Nat → α} {k j : Nat} {x : α} (h : j ≠ k) : nu f k x j = f j := if_neg h
theorem up_n (f : Nat → Nat) (k x : Nat) : upd (fun j => nI (f j)) k (nI x) = fun j => nI (nu f k x j) := by
  funext j
  by_cases h : j = k <;> simp [upd, nu, h]
theorem up_i (f : Nat → Int32) (k : Nat) (x : Int32) : upd f k x = nu f k x := by
  funext j
  simp [upd, nu]
theorem cx_eq {g g1 : Nat → va_E} {k : Nat} {e : va_E} (h : g1 = va_up g k e) : g1 k = e := by rw [h]; exact va_up_self _ _ _
theorem cx_ne {g g1 : Nat → va_E} {k : Nat} {e : va_E} (h : g1 = va_up g k e) (j : Nat) (hj : j ≠ k) : g1 j = g j := by rw [h]; exact va_up_ne _ _ hj
section AX
variable {p : Program} {l : Launch} {e : Env} {R : Room} {s : State} {m : MethodId} {args : Array Value} {below : List Frame} {meth : Method} {c : Code} {H : Heap} {locs : List Loc} {cells slots : Nat} {Q : State → Prop}
variable {cc : ByteArray} {pc : Nat} {ls : Array Slot} {rest : List Value} {G : cx_G} {L : List Nat} {ad : Nat → Nat} {g : Nat → va_E} {sz : Nat} {H0 : Heap}
theorem ax_get (hx : p.tables.exec = Jvm.exec) (hb : c.code = cc) {own ref C : String} {T : u_T} {N ci index : Nat} {Ts : List Cond} (hts : ∀ w ∈ Ts, w.before args s = true) (hin : ∀ w ∈ u_ws C T N, w ∈ Ts) (hown : s.vm.findClass own = some m.cls) (hK : cx_K G s) (hP : va_P G.1 vwCl (wl L ad g) H) {k : Nat} (hk : k ∈ L) {fs : List Value} (hg : g k = .inr (ci, fs)) (hc : vwCl[ci]? = some (C, T, N)) (j : Nat) (hj : j < N) (hlink : (Cond.fieldLink own index ref (T j).2.1 (T j).2.2.1).before args s = true) (hsame : ∀ x, s.fieldFound? (T j).1 (T j).2.1 (T j).2.2.1 = some x → s.fieldFound? ref (T j).2.1 (T j).2.2.1 = some x) {v : Value} (hv : fs[j]? = some v) (hdg : decode cc pc = .ok (.getfield index, 3))
    (kk : W p l e R s m args below meth c H locs cells slots Q (F0 m (pc + 3) ls (v :: rest))) : W p l e R s m args below meth c H locs cells slots Q (F0 m pc ls (.ref (ad k) :: rest)) := by
  obtain ⟨q, hq⟩ := wl_get (ad := ad) (g := g) hk
  rw [hg] at hq
  exact va_get hx hb hts hin hown hK.1 hP q hq hc j hj hlink hsame hv hdg kk
theorem ax_put (hx : p.tables.exec = Jvm.exec) (hb : c.code = cc) {own ref C : String} {T : u_T} {N ci index : Nat} {Ts : List Cond} (hts : ∀ w ∈ Ts, w.before args s = true) (hin : ∀ w ∈ u_ws C T N, w ∈ Ts) (ty0 : Nat → FieldType) (hty : ∀ k, k < N → parseFieldDescriptor (T k).2.2.1 = some (ty0 k)) (hnm : ∀ a, a < N → ∀ b, b < N → a ≠ b → (T a).2.1 ≠ (T b).2.1) (hown : s.vm.findClass own = some m.cls) (hK : cx_K G s) (hP : va_P G.1 vwCl (wl L ad g) H) (hD : cx_D L ad) (hS : va_S (cx_A L ad sz) H0 H locs) {k : Nat} (hk : k ∈ L) {fs fs' : List Value} (hg : g k = .inr (ci, fs)) (hc : vwCl[ci]? = some (C, T, N)) (j : Nat) (hj : j < N) (hlink : (Cond.fieldLink own index ref (T j).2.1 (T j).2.2.1).before args s = true) (hsame : ∀ x, s.fieldFound? (T j).1 (T j).2.1 (T j).2.2.1 = some x → s.fieldFound? ref (T j).2.1 (T j).2.2.1 = some x) (hfin : (T j).2.2.2 = false) {ty : FieldType} {v : Value} (hd : parseFieldDescriptor (T j).2.2.1 = some ty) (hn : narrow ty v = v) (hfit : fits ty v = true) (hl : j < fs.length) (hfs : fs.set j v = fs')
    (hdg : decode cc pc = .ok (.putfield index, 3)) (kk : ∀ (H1 : Heap) (locs1 : List Loc) (g1 : Nat → va_E), g1 = va_up g k (.inr (ci, fs')) → va_P G.1 vwCl (wl L ad g1) H1 → va_S (cx_A L ad sz) H0 H1 locs1 → W p l e R s m args below meth c H1 locs1 cells slots Q (F0 m (pc + 3) ls rest)) : W p l e R s m args below meth c H locs cells slots Q (F0 m pc ls (v :: .ref (ad k) :: rest)) := by
  obtain ⟨q, hq⟩ := wl_get (ad := ad) (g := g) hk
  have hq2 := hq
  rw [hg] at hq
  refine va_put hx hb hts hin ty0 hty hnm hown hK.1 hP (hD.world g sz) hS q hq hc j hj hlink hsame hfin hd hn hfit hl hdg (fun H1 locs1 h1 _ h3 => ?_)
  rw [wl_set hD hk hq2, hfs] at h1
  exact kk H1 locs1 _ rfl h1 h3
theorem ax_putF (hx : p.tables.exec = Jvm.exec) (hb : c.code = cc) {own ref C : String} {T : u_T} {N ci index : Nat} {Ts : List Cond} (hts : ∀ w ∈ Ts, w.before args s = true) (hin : ∀ w ∈ u_ws C T N, w ∈ Ts) (ty0 : Nat → FieldType) (hty : ∀ k, k < N → parseFieldDescriptor (T k).2.2.1 = some (ty0 k)) (hnm : ∀ a, a < N → ∀ b, b < N → a ≠ b → (T a).2.1 ≠ (T b).2.1) (hown : s.vm.findClass own = some m.cls) (hK : cx_K G s) (hP : va_P G.1 vwCl (wl L ad g) H) (hD : cx_D L ad) (hS : va_S (cx_A L ad sz) H0 H locs) {k : Nat} (hk : k ∈ L) {fs fs' : List Value} (hg : g k = .inr (ci, fs)) (hc : vwCl[ci]? = some (C, T, N)) (j : Nat) (hj : j < N) (hlink : (Cond.fieldLink own index ref (T j).2.1 (T j).2.2.1).before args s = true) (hsame : ∀ x, s.fieldFound? (T j).1 (T j).2.1 (T j).2.2.1 = some x → s.fieldFound? ref (T j).2.1 (T j).2.2.1 = some x) (hfin : (T j).2.2.2 = true) (hin2 : meth.name = "<init>") (hdecl : (T j).1 = own) {ty : FieldType} {v : Value} (hd : parseFieldDescriptor (T j).2.2.1 = some ty) (hn : narrow ty v = v) (hfit : fits ty v = true) (hl : j < fs.length) (hfs : fs.set j v = fs')
    (hdg : decode cc pc = .ok (.putfield index, 3)) (kk : ∀ (H1 : Heap) (locs1 : List Loc) (g1 : Nat → va_E), g1 = va_up g k (.inr (ci, fs')) → va_P G.1 vwCl (wl L ad g1) H1 → va_S (cx_A L ad sz) H0 H1 locs1 → W p l e R s m args below meth c H1 locs1 cells slots Q (F0 m (pc + 3) ls rest)) : W p l e R s m args below meth c H locs cells slots Q (F0 m pc ls (v :: .ref (ad k) :: rest)) := by
  obtain ⟨q, hq⟩ := wl_get (ad := ad) (g := g) hk
  have hq2 := hq
  rw [hg] at hq
  refine va_putF hx hb hts hin ty0 hty hnm hown hK.1 hP (hD.world g sz) hS q hq hc j hj hlink hsame hfin hin2 hdecl hd hn hfit hl hdg (fun H1 locs1 h1 _ h3 => ?_)
  rw [wl_set hD hk hq2, hfs] at h1
  exact kk H1 locs1 _ rfl h1 h3
theorem ax_iald (hx : p.tables.exec = Jvm.exec) (hb : c.code = cc) (hK : cx_K G s) (hP : va_P G.1 vwCl (wl L ad g) H) {k : Nat} (hk : k ∈ L) {n : Nat} {f : Nat → Int32} (hg : g k = iA G n f) {i : Nat} (hi : i < n) (hn : n < 2147483648) {v : Int32} (hv : f i = v) (hdg : decode cc pc = .ok (.iaload, 1))
    (kk : W p l e R s m args below meth c H locs cells slots Q (F0 m (pc + 1) ls (.int v :: rest))) : W p l e R s m args below meth c H locs cells slots Q (F0 m pc ls (.int (nI i) :: .ref (ad k) :: rest)) := by
  obtain ⟨q, hq⟩ := wl_get (ad := ad) (g := g) hk
  rw [hg] at hq
  refine va_iald hx hb hK.1 hP q 0 hq rfl (vp_in_nI hi hn) hdg ?_
  rw [nI_clamp (Nat.lt_trans hi hn), hv]
  exact kk
theorem ax_zald (hx : p.tables.exec = Jvm.exec) (hb : c.code = cc) (hK : cx_K G s) (hP : va_P G.1 vwCl (wl L ad g) H) {k : Nat} (hk : k ∈ L) {n : Nat} {f : Nat → Bool} (hg : g k = zA G n f) {i : Nat} (hi : i < n) (hn : n < 2147483648) (hdg : decode cc pc = .ok (.baload, 1))
    (kk : W p l e R s m args below meth c H locs cells slots Q (F0 m (pc + 1) ls (.int (if f i = true then 1 else 0) :: rest))) : W p l e R s m args below meth c H locs cells slots Q (F0 m pc ls (.int (nI i) :: .ref (ad k) :: rest)) := by
  obtain ⟨q, hq⟩ := wl_get (ad := ad) (g := g) hk
  rw [hg] at hq
  refine va_zald hx hb hK.1 hP q 1 hq rfl (vp_in_nI hi hn) hdg ?_
  rw [nI_clamp (Nat.lt_trans hi hn)]
  exact kk
theorem ax_jald (hx : p.tables.exec = Jvm.exec) (hb : c.code = cc) (hK : cx_K G s) (hP : va_P G.1 vwCl (wl L ad g) H) {k : Nat} (hk : k ∈ L) {n : Nat} {f : Nat → Int64} (hg : g k = jA G n f) {i : Nat} (hi : i < n) (hn : n < 2147483648) (hdg : decode cc pc = .ok (.laload, 1))
    (kk : W p l e R s m args below meth c H locs cells slots Q (F0 m (pc + 1) ls (.long (f i) :: rest))) : W p l e R s m args below meth c H locs cells slots Q (F0 m pc ls (.int (nI i) :: .ref (ad k) :: rest)) := by
  obtain ⟨q, hq⟩ := wl_get (ad := ad) (g := g) hk
  rw [hg] at hq
  refine va_lald hx hb hK.1 hP q 7 hq rfl (vp_in_nI hi hn) hdg ?_
  rw [nI_clamp (Nat.lt_trans hi hn)]
  exact kk
/-- a reference out of an array of objects (kinds 2 to 5) or of arrays (kind 6) -/
theorem ax_aald (hx : p.tables.exec = Jvm.exec) (hb : c.code = cc) (hK : cx_K G s) (hP : va_P G.1 vwCl (wl L ad g) H) {k : Nat} (hk : k ∈ L) (t : Nat) {cA : ClassId} {ty : FieldType} (ht : (cx_t G)[t]? = some (cA, ty)) (hty : ty.isReference = true) {n : Nat} {f : Nat → Option Nat} (hg : g k = rA cA n f) {i : Nat} (hi : i < n) (hn : n < 2147483648) {b : Nat} (hv : f i = some b) (hdg : decode cc pc = .ok (.aaload, 1))
    (kk : W p l e R s m args below meth c H locs cells slots Q (F0 m (pc + 1) ls (.ref b :: rest))) : W p l e R s m args below meth c H locs cells slots Q (F0 m pc ls (.int (nI i) :: .ref (ad k) :: rest)) := by
  obtain ⟨q, hq⟩ := wl_get (ad := ad) (g := g) hk
  rw [hg] at hq
  have hlt : (nI i).toNatClampNeg < n := by rw [nI_clamp (Nat.lt_trans hi hn)]; exact hi
  refine W.aald (v := .ref b) (ty := ty) hx hb (hP q _ hq) ((hK.1.2 t _ ht).1 n (fun j => va_rf (f j))) hty (fun q => by cases q) (by show ¬ ((nI i) < 0 ∨ (arrV _ _ _).slots.size ≤ _); rw [arrV_size]; exact vp_in_nI hi hn) (by show (arrV _ _ _).slots[_]? = _; rw [arrV_read _ _ hlt, nI_clamp (Nat.lt_trans hi hn), hv]; rfl) rfl rfl hdg kk
theorem ax_iast (hx : p.tables.exec = Jvm.exec) (hb : c.code = cc) (hK : cx_K G s) (hP : va_P G.1 vwCl (wl L ad g) H) (hD : cx_D L ad) (hS : va_S (cx_A L ad sz) H0 H locs) {k : Nat} (hk : k ∈ L) {n : Nat} {f f' : Nat → Int32} (hg : g k = iA G n f) {i : Nat} {v : Int32} (hi : i < n) (hn : n < 2147483648) (hf : upd f i v = f') (hdg : decode cc pc = .ok (.iastore, 1))
    (kk : ∀ (H1 : Heap) (locs1 : List Loc) (g1 : Nat → va_E), g1 = va_up g k (iA G n f') → va_P G.1 vwCl (wl L ad g1) H1 → va_S (cx_A L ad sz) H0 H1 locs1 → W p l e R s m args below meth c H1 locs1 cells slots Q (F0 m (pc + 1) ls rest)) : W p l e R s m args below meth c H locs cells slots Q (F0 m pc ls (.int v :: .int (nI i) :: .ref (ad k) :: rest)) := by
  obtain ⟨q, hq⟩ := wl_get (ad := ad) (g := g) hk
  have hq2 := hq
  rw [hg] at hq
  refine va_iast hx hb hK.1 hP (hD.world g sz) hS q 0 hq rfl (vp_in_nI hi hn) hdg (fun H1 locs1 h1 _ h3 => ?_)
  rw [nI_clamp (Nat.lt_trans hi hn), wl_set hD hk hq2, hf] at h1
  exact kk H1 locs1 _ rfl h1 h3
theorem ax_zast (hx : p.tables.exec = Jvm.exec) (hb : c.code = cc) (hK : cx_K G s) (hP : va_P G.1 vwCl (wl L ad g) H) (hD : cx_D L ad) (hS : va_S (cx_A L ad sz) H0 H locs) {k : Nat} (hk : k ∈ L) {n : Nat} {f : Nat → Bool} (hg : g k = zA G n f) {i : Nat} {b : Bool} (hi : i < n) (hn : n < 2147483648) {v : Int32} (hv : v = if b = true then 1 else 0) (hdg : decode cc pc = .ok (.bastore, 1))
    (kk : ∀ (H1 : Heap) (locs1 : List Loc) (g1 : Nat → va_E), g1 = va_up g k (zA G n (nu f i b)) → va_P G.1 vwCl (wl L ad g1) H1 → va_S (cx_A L ad sz) H0 H1 locs1 → W p l e R s m args below meth c H1 locs1 cells slots Q (F0 m (pc + 1) ls rest)) : W p l e R s m args below meth c H locs cells slots Q (F0 m pc ls (.int v :: .int (nI i) :: .ref (ad k) :: rest)) := by
  obtain ⟨q, hq⟩ := wl_get (ad := ad) (g := g) hk
  have hq2 := hq
  rw [hg] at hq
  refine va_zast hx hb hK.1 hP (hD.world g sz) hS q 1 hq rfl (vp_in_nI hi hn) hdg (fun H1 locs1 h1 _ h3 => ?_)
  have hnar : vp_nar .boolean v = if b = true then 1 else 0 := by
    subst hv
    cases b <;> decide
  have hf : upd (fun j => if f j = true then (1 : Int32) else 0) i (vp_nar .boolean v) = fun j => if nu f i b j = true then 1 else 0 := by
    rw [hnar]
    funext j
    by_cases h : j = i <;> simp [upd, nu, h]
  rw [nI_clamp (Nat.lt_trans hi hn), wl_set hD hk hq2, hf] at h1
  exact kk H1 locs1 _ rfl h1 h3
theorem ax_jast (hx : p.tables.exec = Jvm.exec) (hb : c.code = cc) (hK : cx_K G s) (hP : va_P G.1 vwCl (wl L ad g) H) (hD : cx_D L ad) (hS : va_S (cx_A L ad sz) H0 H locs) {k : Nat} (hk : k ∈ L) {n : Nat} {f : Nat → Int64} (hg : g k = jA G n f) {i : Nat} {v : Int64} (hi : i < n) (hn : n < 2147483648) (hdg : decode cc pc = .ok (.lastore, 1))
    (kk : ∀ (H1 : Heap) (locs1 : List Loc) (g1 : Nat → va_E), g1 = va_up g k (jA G n (vp_updL f i v)) → va_P G.1 vwCl (wl L ad g1) H1 → va_S (cx_A L ad sz) H0 H1 locs1 → W p l e R s m args below meth c H1 locs1 cells slots Q (F0 m (pc + 1) ls rest)) : W p l e R s m args below meth c H locs cells slots Q (F0 m pc ls (.long v :: .int (nI i) :: .ref (ad k) :: rest)) := by
  obtain ⟨q, hq⟩ := wl_get (ad := ad) (g := g) hk
  have hq2 := hq
  rw [hg] at hq
  refine va_last hx hb hK.1 hP (hD.world g sz) hS q 7 hq rfl (vp_in_nI hi hn) hdg (fun H1 locs1 h1 _ h3 => ?_)
  rw [nI_clamp (Nat.lt_trans hi hn), wl_set hD hk hq2] at h1
  exact kk H1 locs1 _ rfl h1 h3
theorem ax_alen (hx : p.tables.exec = Jvm.exec) (hb : c.code = cc) (hK : cx_K G s) (hP : va_P G.1 vwCl (wl L ad g) H) {k : Nat} (hk : k ∈ L) (t : Nat) {cA : ClassId} {ty : FieldType} (ht : (cx_t G)[t]? = some (cA, ty)) {x : vp_A} (hg : g k = .inl (cA, x)) {n : Nat} (hn : x.1 = n) (hdg : decode cc pc = .ok (.arraylength, 1))
    (kk : W p l e R s m args below meth c H locs cells slots Q (F0 m (pc + 1) ls (.int (nI n) :: rest))) : W p l e R s m args below meth c H locs cells slots Q (F0 m pc ls (.ref (ad k) :: rest)) := by
  obtain ⟨q, hq⟩ := wl_get (ad := ad) (g := g) hk
  rw [hg] at hq
  exact va_alen hx hb hK.1 hP q t hq ht (v := nI n) (by rw [hn]; rfl) hdg kk
theorem ax_copy (hx : p.tables.exec = Jvm.exec) (hb : c.code = cc) (hml : c.maxLocals = ls.size) {own : String} {index : Nat} (hown : s.vm.findClass own = some m.cls) (hlink : (Cond.methodLink own index arraycopyName).before args s = true) (hnat : (Cond.native arraycopyName).before args s = true) (hstat : (Cond.static arraycopyName).before args s = true) (hini : (Cond.initialized "java/lang/System").before args s = true)
    (hK : cx_K G s) (hP : va_P G.1 vwCl (wl L ad g) H) (hD : cx_D L ad) (hS : va_S (cx_A L ad sz) H0 H locs) {k0 k1 : Nat} (hk0 : k0 ∈ L) (hk1 : k1 ∈ L) {n : Nat} {f f1 : Nat → Int32} (hg0 : g k0 = iA G n f) (hg1 : g k1 = iA G n f1) (hn : n < 2147483648)
    (hframes : 1 ≤ R.frames) (hlocals : (rest.map fun v => v.category).sum + (nativeFrameWords "java/lang/System" "arraycopy" 5 + 11) ≤ R.locals) (hdg : decode cc pc = .ok (.invokestatic index, 3))
    (kk : ∀ (H1 : Heap) (locs1 : List Loc) (g1 : Nat → va_E), g1 = va_up g k1 (iA G n (fun j => if j < n then f j else f1 j)) → va_P G.1 vwCl (wl L ad g1) H1 → va_S (cx_A L ad sz) H0 H1 locs1 → W p l e R s m args below meth c H1 locs1 cells slots Q (F0 m (pc + 3) ls rest)) : W p l e R s m args below meth c H locs cells slots Q (F0 m pc ls (.int (nI n) :: .int (nI 0) :: .ref (ad k1) :: .int (nI 0) :: .ref (ad k0) :: rest)) := by
  obtain ⟨q0, hq0⟩ := wl_get (ad := ad) (g := g) hk0
  obtain ⟨q1, hq1⟩ := wl_get (ad := ad) (g := g) hk1
  have hq2 := hq1
  rw [hg0] at hq0
  rw [hg1] at hq1
  have e0 : (nI 0).toNatClampNeg = 0 := by decide
  have en : (nI n).toNatClampNeg = n := nI_clamp hn
  refine va_copyi hx hb hml hown hlink hnat hstat hini hK.1 hP (hD.world g sz) hS q0 q1 0 0 hq0 hq1 rfl rfl rfl (by decide) (by decide) (nI_pos hn) (by rw [e0, en]; omega) (by rw [e0, en]; omega) (fun i _ => rfl) hframes hlocals hdg (fun H1 locs1 h1 _ h3 => ?_)
  have ef : va_cpy f f1 (nI 0).toNatClampNeg (nI 0).toNatClampNeg (nI n).toNatClampNeg = fun j => if j < n then f j else f1 j := by
    rw [e0, en]
    funext j
    unfold va_cpy
    simp
  rw [ef, wl_set hD hk1 hq2] at h1
  exact kk H1 locs1 _ rfl h1 h3
-- numbers
theorem ax_const (hx : p.tables.exec = Jvm.exec) (hb : c.code = cc) {n : Int} {v : Nat} (hdg : decode cc pc = .ok (.iconst n, 1)) (hv : Int32.ofInt n = nI v)
    (k : W p l e R s m args below meth c H locs cells slots Q (F0 m (pc + 1) ls (.int (nI v) :: rest))) : W p l e R s m args below meth c H locs cells slots Q (F0 m pc ls (rest)) := lv_iconst hx hb hdg hv k
theorem ax_add (hx : p.tables.exec = Jvm.exec) (hb : c.code = cc) {a b : Nat} (hdg : decode cc pc = .ok (.iadd, 1))
    (k : W p l e R s m args below meth c H locs cells slots Q (F0 m (pc + 1) ls (.int (nI (a + b)) :: rest))) : W p l e R s m args below meth c H locs cells slots Q (F0 m pc ls (.int (nI b) :: .int (nI a) :: rest)) := lv_iadd hx hb hdg (by rw [nI_add]; exact k)
theorem ax_sub (hx : p.tables.exec = Jvm.exec) (hb : c.code = cc) {a b : Nat} (hdg : decode cc pc = .ok (.isub, 1)) (h : b ≤ a)
    (k : W p l e R s m args below meth c H locs cells slots Q (F0 m (pc + 1) ls (.int (nI (a - b)) :: rest))) : W p l e R s m args below meth c H locs cells slots Q (F0 m pc ls (.int (nI b) :: .int (nI a) :: rest)) := lv_isub hx hb hdg (by rw [pk_sub h]; exact k)
theorem ax_mul (hx : p.tables.exec = Jvm.exec) (hb : c.code = cc) {a b : Nat} (hdg : decode cc pc = .ok (.imul, 1))
    (k : W p l e R s m args below meth c H locs cells slots Q (F0 m (pc + 1) ls (.int (nI (a * b)) :: rest))) : W p l e R s m args below meth c H locs cells slots Q (F0 m pc ls (.int (nI b) :: .int (nI a) :: rest)) := lv_imul hx hb hdg (by rw [pk_mul]; exact k)
theorem ax_i2l (hx : p.tables.exec = Jvm.exec) (hb : c.code = cc) {a : Nat} (hdg : decode cc pc = .ok (.i2l, 1)) (h : a < 2147483648)
    (k : W p l e R s m args below meth c H locs cells slots Q (F0 m (pc + 1) ls (.long (lN a) :: rest))) : W p l e R s m args below meth c H locs cells slots Q (F0 m pc ls (.int (nI a) :: rest)) := lv_i2l hx hb hdg (nI_l h) k
theorem ax_l2i (hx : p.tables.exec = Jvm.exec) (hb : c.code = cc) {a : Nat} (hdg : decode cc pc = .ok (.l2i, 1))
    (k : W p l e R s m args below meth c H locs cells slots Q (F0 m (pc + 1) ls (.int (nI a) :: rest))) : W p l e R s m args below meth c H locs cells slots Q (F0 m pc ls (.long (lN a) :: rest)) := lv_l2i hx hb hdg (lN_i a) k
theorem ax_ladd (hx : p.tables.exec = Jvm.exec) (hb : c.code = cc) {a b : Nat} (hdg : decode cc pc = .ok (.ladd, 1))
    (k : W p l e R s m args below meth c H locs cells slots Q (F0 m (pc + 1) ls (.long (lN (a + b)) :: rest))) : W p l e R s m args below meth c H locs cells slots Q (F0 m pc ls (.long (lN b) :: .long (lN a) :: rest)) := lv_ladd hx hb hdg (by rw [lN_add]; exact k)
theorem ax_lmul (hx : p.tables.exec = Jvm.exec) (hb : c.code = cc) {a b : Nat} (hdg : decode cc pc = .ok (.lmul, 1))
    (k : W p l e R s m args below meth c H locs cells slots Q (F0 m (pc + 1) ls (.long (lN (a * b)) :: rest))) : W p l e R s m args below meth c H locs cells slots Q (F0 m pc ls (.long (lN b) :: .long (lN a) :: rest)) := lv_lmul hx hb hdg (by rw [lN_mul]; exact k)
theorem ax_lremM (hx : p.tables.exec = Jvm.exec) (hb : c.code = cc) {a : Nat} (hdg : decode cc pc = .ok (.lrem, 1)) (h : a < 9223372036854775808)
    (k : W p l e R s m args below meth c H locs cells slots Q (F0 m (pc + 1) ls (.long (lN (a % 65521)) :: rest))) : W p l e R s m args below meth c H locs cells slots Q (F0 m pc ls (.long 65521 :: .long (lN a) :: rest)) := by
  refine lv_lrem hx hb hdg (by decide) ?_
  have h1 : lN a - lN a / lN 65521 * lN 65521 = lN (a % 65521) := pk_lRem h (by decide) (by decide)
  have h2 : (65521 : Int64) = lN 65521 := by decide
  rw [h2, h1]
  exact k
/-- branches over natural numbers -/
theorem ax_icge (hx : p.tables.exec = Jvm.exec) (hb : c.code = cc) {a b : Nat} {off : Int} {tgt : Nat} (hdg : decode cc pc = .ok (.if_icmp .ge off, 3)) (ht : (pc : Int) + off = (tgt : Int)) (ha : a < 2147483648) (hb' : b < 2147483648)
    (kt : b ≤ a → W p l e R s m args below meth c H locs cells slots Q (F0 m tgt ls rest)) (kf : a < b → W p l e R s m args below meth c H locs cells slots Q (F0 m (pc + 3) ls rest)) : W p l e R s m args below meth c H locs cells slots Q (F0 m pc ls (.int (nI b) :: .int (nI a) :: rest)) :=
  lv_icmp_ge hx hb hdg ht (fun h => kt ((nI_leI hb' ha).mp h)) (fun h => kf (Nat.not_le.mp fun z => h ((nI_leI hb' ha).mpr z)))
theorem ax_icgt (hx : p.tables.exec = Jvm.exec) (hb : c.code = cc) {a b : Nat} {off : Int} {tgt : Nat} (hdg : decode cc pc = .ok (.if_icmp .gt off, 3)) (ht : (pc : Int) + off = (tgt : Int)) (ha : a < 2147483648) (hb' : b < 2147483648)
    (kt : b < a → W p l e R s m args below meth c H locs cells slots Q (F0 m tgt ls rest)) (kf : a ≤ b → W p l e R s m args below meth c H locs cells slots Q (F0 m (pc + 3) ls rest)) : W p l e R s m args below meth c H locs cells slots Q (F0 m pc ls (.int (nI b) :: .int (nI a) :: rest)) :=
  lv_icmp_gt hx hb hdg ht (fun h => kt ((nI_ltI hb' ha).mp h)) (fun h => kf (Nat.not_lt.mp fun z => h ((nI_ltI hb' ha).mpr z)))
theorem ax_iclt (hx : p.tables.exec = Jvm.exec) (hb : c.code = cc) {a b : Nat} {off : Int} {tgt : Nat} (hdg : decode cc pc = .ok (.if_icmp .lt off, 3)) (ht : (pc : Int) + off = (tgt : Int)) (ha : a < 2147483648) (hb' : b < 2147483648)
    (kt : a < b → W p l e R s m args below meth c H locs cells slots Q (F0 m tgt ls rest)) (kf : b ≤ a → W p l e R s m args below meth c H locs cells slots Q (F0 m (pc + 3) ls rest)) : W p l e R s m args below meth c H locs cells slots Q (F0 m pc ls (.int (nI b) :: .int (nI a) :: rest)) :=
  lv_icmp_lt hx hb hdg ht (fun h => kt ((nI_ltI ha hb').mp h)) (fun h => kf (Nat.not_lt.mp fun z => h ((nI_ltI ha hb').mpr z)))
theorem ax_icle (hx : p.tables.exec = Jvm.exec) (hb : c.code = cc) {a b : Nat} {off : Int} {tgt : Nat} (hdg : decode cc pc = .ok (.if_icmp .le off, 3)) (ht : (pc : Int) + off = (tgt : Int)) (ha : a < 2147483648) (hb' : b < 2147483648)
    (kt : a ≤ b → W p l e R s m args below meth c H locs cells slots Q (F0 m tgt ls rest)) (kf : b < a → W p l e R s m args below meth c H locs cells slots Q (F0 m (pc + 3) ls rest)) : W p l e R s m args below meth c H locs cells slots Q (F0 m pc ls (.int (nI b) :: .int (nI a) :: rest)) :=
  lv_icmp_le hx hb hdg ht (fun h => kt ((nI_leI ha hb').mp h)) (fun h => kf (Nat.not_le.mp fun z => h ((nI_leI ha hb').mpr z)))
theorem ax_iceq (hx : p.tables.exec = Jvm.exec) (hb : c.code = cc) {a b : Nat} {off : Int} {tgt : Nat} (hdg : decode cc pc = .ok (.if_icmp .eq off, 3)) (ht : (pc : Int) + off = (tgt : Int)) (ha : a < 2147483648) (hb' : b < 2147483648)
    (kt : a = b → W p l e R s m args below meth c H locs cells slots Q (F0 m tgt ls rest)) (kf : a ≠ b → W p l e R s m args below meth c H locs cells slots Q (F0 m (pc + 3) ls rest)) : W p l e R s m args below meth c H locs cells slots Q (F0 m pc ls (.int (nI b) :: .int (nI a) :: rest)) :=
  lv_icmp_eq hx hb hdg ht (fun h => kt ((nI_eq ha hb').mp h)) (fun h => kf (fun z => h ((nI_eq ha hb').mpr z)))
theorem ax_icne (hx : p.tables.exec = Jvm.exec) (hb : c.code = cc) {a b : Nat} {off : Int} {tgt : Nat} (hdg : decode cc pc = .ok (.if_icmp .ne off, 3)) (ht : (pc : Int) + off = (tgt : Int)) (ha : a < 2147483648) (hb' : b < 2147483648)
    (kt : a ≠ b → W p l e R s m args below meth c H locs cells slots Q (F0 m tgt ls rest)) (kf : a = b → W p l e R s m args below meth c H locs cells slots Q (F0 m (pc + 3) ls rest)) : W p l e R s m args below meth c H locs cells slots Q (F0 m pc ls (.int (nI b) :: .int (nI a) :: rest)) :=
  lv_icmp_ne hx hb hdg ht (fun h => kt (fun z => h ((nI_eq ha hb').mpr z))) (fun h => kf ((nI_eq ha hb').mp h))
theorem ax_ifeq (hx : p.tables.exec = Jvm.exec) (hb : c.code = cc) {a : Nat} {off : Int} {tgt : Nat} (hdg : decode cc pc = .ok (.ifCond .eq off, 3)) (ht : (pc : Int) + off = (tgt : Int)) (ha : a < 2147483648)
    (kt : a = 0 → W p l e R s m args below meth c H locs cells slots Q (F0 m tgt ls rest)) (kf : a ≠ 0 → W p l e R s m args below meth c H locs cells slots Q (F0 m (pc + 3) ls rest)) : W p l e R s m args below meth c H locs cells slots Q (F0 m pc ls (.int (nI a) :: rest)) :=
  lv_if_eq hx hb hdg ht (fun h => kt ((nI_eq (b := 0) ha (by decide)).mp h)) (fun h => kf (fun z => h ((nI_eq (b := 0) ha (by decide)).mpr z)))
theorem ax_ifne (hx : p.tables.exec = Jvm.exec) (hb : c.code = cc) {a : Nat} {off : Int} {tgt : Nat} (hdg : decode cc pc = .ok (.ifCond .ne off, 3)) (ht : (pc : Int) + off = (tgt : Int)) (ha : a < 2147483648)
    (kt : a ≠ 0 → W p l e R s m args below meth c H locs cells slots Q (F0 m tgt ls rest)) (kf : a = 0 → W p l e R s m args below meth c H locs cells slots Q (F0 m (pc + 3) ls rest)) : W p l e R s m args below meth c H locs cells slots Q (F0 m pc ls (.int (nI a) :: rest)) :=
  lv_if_ne hx hb hdg ht (fun h => kt (fun z => h ((nI_eq (b := 0) ha (by decide)).mpr z))) (fun h => kf ((nI_eq (b := 0) ha (by decide)).mp h))
/-- branches over a truth value -/
theorem ax_zeq (hx : p.tables.exec = Jvm.exec) (hb : c.code = cc) {b : Bool} {off : Int} {tgt : Nat} (hdg : decode cc pc = .ok (.ifCond .eq off, 3)) (ht : (pc : Int) + off = (tgt : Int))
    (kt : b = false → W p l e R s m args below meth c H locs cells slots Q (F0 m tgt ls rest)) (kf : b = true → W p l e R s m args below meth c H locs cells slots Q (F0 m (pc + 3) ls rest)) : W p l e R s m args below meth c H locs cells slots Q (F0 m pc ls (.int (if b = true then 1 else 0) :: rest)) :=
  lv_if_eq hx hb hdg ht (fun h => kt (by cases b; rfl; exact absurd h (by decide))) (fun h => kf (by cases b; exact absurd rfl h; rfl))
theorem ax_zne (hx : p.tables.exec = Jvm.exec) (hb : c.code = cc) {b : Bool} {off : Int} {tgt : Nat} (hdg : decode cc pc = .ok (.ifCond .ne off, 3)) (ht : (pc : Int) + off = (tgt : Int))
    (kt : b = true → W p l e R s m args below meth c H locs cells slots Q (F0 m tgt ls rest)) (kf : b = false → W p l e R s m args below meth c H locs cells slots Q (F0 m (pc + 3) ls rest)) : W p l e R s m args below meth c H locs cells slots Q (F0 m pc ls (.int (if b = true then 1 else 0) :: rest)) :=
  lv_if_ne hx hb hdg ht (fun h => kt (by cases b; exact absurd rfl h; rfl)) (fun h => kf (by cases b; rfl; exact absurd h (by decide)))
end AX

section AC
variable {p : Program} {l : Launch} {e : Env} {R : Room} {s : State} {m : MethodId} {args : Array Value} {below : List Frame} {meth : Method} {c : Code} {H : Heap} {locs : List Loc} {cells slots : Nat} {Q : State → Prop}
variable {cc bytes : ByteArray} {maxL nL n index pc : Nat} {ls : Array Slot} {rest As st0 : List Value} {G : cx_G} {L : List Nat} {ad : Nat → Nat} {g : Nat → va_E} {sz mc ms : Nat} {H0 : Heap} {ret : Option FieldType} {own host : String} {y : MethodName} {ws Ts : List Cond} {rm : Room}
/-- the contracts of methods that make no cell that stays -/
abbrev MI (l : Launch) (y : MethodName) (ws : List Cond) (rm : Room) (G : cx_G) (L : List Nat) (ad : Nat → Nat) (g : Nat → va_E) (av : List Value) (post : Int32 → (Nat → va_E) → Prop) : Prop := ∀ sz : Nat, Met l y ws rm (va_Pc av (cx_P G L ad g sz)) (va_Qi post (cx_B G L ad) (cx_A L ad sz)) 0 0 (cx_A L ad sz)
abbrev MV (l : Launch) (y : MethodName) (ws : List Cond) (rm : Room) (G : cx_G) (L : List Nat) (ad : Nat → Nat) (g : Nat → va_E) (av : List Value) (post : (Nat → va_E) → Prop) : Prop := ∀ sz : Nat, Met l y ws rm (va_Pc av (cx_P G L ad g sz)) (va_Qv post (cx_B G L ad) (cx_A L ad sz)) 0 0 (cx_A L ad sz)
theorem cx_pre {av : List Value} {U : State} (hU : U.heap = H) (hW : s.WarmedH U.vm) (hP : va_P G.1 vwCl (wl L ad g) H) (hK : cx_K G s) : va_Pc av (cx_P G L ad g H.size) av.toArray U := ⟨rfl, by rw [hU], by rw [hU]; exact hP, cx_K.warm hW hK⟩
theorem cx_recv (hK : cx_K G s) (hP : va_P G.1 vwCl (wl L ad g) H) {k ci : Nat} (hk : k ∈ L) {fs : List Value} (hg : g k = .inr (ci, fs)) {r : vw_C} (hc : vwCl[ci]? = some r) : ∃ cellB : Cell, H[ad k]? = some cellB ∧ cellB.vm.isStatics = false ∧ s.vm.findClass r.1 = some cellB.cls := by
  obtain ⟨q, hq⟩ := wl_get (ad := ad) (g := g) hk
  rw [hg] at hq
  exact va_recv hK.1 hP hc hq
theorem cx_goi {post : Int32 → (Nat → va_E) → Prop} (hr : va_Run p l e R s m args below meth c H locs cells slots 0 0 (F0 m pc ls st0) rest (va_Qi post (cx_B G L ad) (cx_A L ad H.size) As.toArray) (cx_A L ad H.size)) (hS : va_S (cx_A L ad sz) H0 H locs) (hz : sz ≤ H0.size)
    (kk : ∀ (r : Int32) (g1 : Nat → va_E) (H1 : Heap) (locs1 : List Loc), post r g1 → va_P G.1 vwCl (wl L ad g1) H1 → va_S (cx_A L ad sz) H0 H1 locs1 → W p l e R s m args below meth c H1 locs1 cells slots Q (F0 m (pc + 3) ls (.int r :: rest))) : W p l e R s m args below meth c H locs cells slots Q (F0 m pc ls st0) :=
  va_calli hr hS (fun q _ h => cx_A.mono (Nat.le_trans hz hS.1) h) (fun q h => cx_A.mono (Nat.le_trans hz hS.1) h) (fun r u t H1 locs1 ht _ hw hB _ _ hS1 => kk r u H1 locs1 hw (by rw [← ht]; exact hB.1) hS1)
theorem cx_gov {post : (Nat → va_E) → Prop} (hr : va_Run p l e R s m args below meth c H locs cells slots 0 0 (F0 m pc ls st0) rest (va_Qv post (cx_B G L ad) (cx_A L ad H.size) As.toArray) (cx_A L ad H.size)) (hS : va_S (cx_A L ad sz) H0 H locs) (hz : sz ≤ H0.size)
    (kk : ∀ (g1 : Nat → va_E) (H1 : Heap) (locs1 : List Loc), post g1 → va_P G.1 vwCl (wl L ad g1) H1 → va_S (cx_A L ad sz) H0 H1 locs1 → W p l e R s m args below meth c H1 locs1 cells slots Q (F0 m (pc + 3) ls rest)) : W p l e R s m args below meth c H locs cells slots Q (F0 m pc ls st0) :=
  va_callv hr hS (fun q _ h => cx_A.mono (Nat.le_trans hz hS.1) h) (fun q h => cx_A.mono (Nat.le_trans hz hS.1) h) (fun u t H1 locs1 ht _ hw hB _ _ hS1 => kk u H1 locs1 hw (by rw [← ht]; exact hB.1) hS1)
/-- calls: static, static of a nest mate, virtual (private too) -/
theorem cx_Si {post : Int32 → (Nat → va_E) → Prop} (S : CallFix p m c cc nL s args Ts own) (hM : MI l y ws rm G L ad g As post) (cw : CallB R s args own index y bytes maxL ret ws rm 0 0 n ∧ (Cond.static y).before args s = true) (hK : cx_K G s) (hP : va_P G.1 vwCl (wl L ad g) H) (hS : va_S (cx_A L ad sz) H0 H locs) (hz : sz ≤ H0.size) (hc : cells ≤ R.cells ∧ slots ≤ R.slots) (hn : As.length = n) (hsize : ls.size = nL) (hst : st0 = As.reverse ++ rest) (hW : (rest.map fun v => v.category).sum ≤ 8) (hdg : decode cc pc = .ok (.invokestatic index, 3))
    (kk : ∀ (r : Int32) (g1 : Nat → va_E) (H1 : Heap) (locs1 : List Loc), post r g1 → va_P G.1 vwCl (wl L ad g1) H1 → va_S (cx_A L ad sz) H0 H1 locs1 → W p l e R s m args below meth c H1 locs1 cells slots Q (F0 m (pc + 3) ls (.int r :: rest))) : W p l e R s m args below meth c H locs cells slots Q (F0 m pc ls st0) :=
  cx_goi (va_runS S (hM H.size) cw ⟨cx_blind, fun U hU hW => cx_pre hU hW hP hK⟩ rfl hn hsize hst (lv_room hW) hdg ⟨by omega, by omega⟩) hS hz kk
theorem cx_Sv {post : (Nat → va_E) → Prop} (S : CallFix p m c cc nL s args Ts own) (hM : MV l y ws rm G L ad g As post) (cw : CallB R s args own index y bytes maxL ret ws rm 0 0 n ∧ (Cond.static y).before args s = true) (hK : cx_K G s) (hP : va_P G.1 vwCl (wl L ad g) H) (hS : va_S (cx_A L ad sz) H0 H locs) (hz : sz ≤ H0.size) (hc : cells ≤ R.cells ∧ slots ≤ R.slots) (hn : As.length = n) (hsize : ls.size = nL) (hst : st0 = As.reverse ++ rest) (hW : (rest.map fun v => v.category).sum ≤ 8) (hdg : decode cc pc = .ok (.invokestatic index, 3))
    (kk : ∀ (g1 : Nat → va_E) (H1 : Heap) (locs1 : List Loc), post g1 → va_P G.1 vwCl (wl L ad g1) H1 → va_S (cx_A L ad sz) H0 H1 locs1 → W p l e R s m args below meth c H1 locs1 cells slots Q (F0 m (pc + 3) ls rest)) : W p l e R s m args below meth c H locs cells slots Q (F0 m pc ls st0) :=
  cx_gov (va_runS S (hM H.size) cw ⟨cx_blind, fun U hU hW => cx_pre hU hW hP hK⟩ rfl hn hsize hst (lv_room hW) hdg ⟨by omega, by omega⟩) hS hz kk
theorem cx_SNi {post : Int32 → (Nat → va_E) → Prop} (S : CallFix p m c cc nL s args Ts own) (hM : MI l y ws rm G L ad g As post) (cw : va_CN R s args own index y host bytes maxL ret ws rm 0 0 n ∧ (Cond.static y).before args s = true ∧ True) (hK : cx_K G s) (hP : va_P G.1 vwCl (wl L ad g) H) (hS : va_S (cx_A L ad sz) H0 H locs) (hz : sz ≤ H0.size) (hc : cells ≤ R.cells ∧ slots ≤ R.slots) (hn : As.length = n) (hsize : ls.size = nL) (hst : st0 = As.reverse ++ rest) (hW : (rest.map fun v => v.category).sum ≤ 8) (hdg : decode cc pc = .ok (.invokestatic index, 3))
    (kk : ∀ (r : Int32) (g1 : Nat → va_E) (H1 : Heap) (locs1 : List Loc), post r g1 → va_P G.1 vwCl (wl L ad g1) H1 → va_S (cx_A L ad sz) H0 H1 locs1 → W p l e R s m args below meth c H1 locs1 cells slots Q (F0 m (pc + 3) ls (.int r :: rest))) : W p l e R s m args below meth c H locs cells slots Q (F0 m pc ls st0) :=
  cx_goi (va_runSN S (hM H.size) cw ⟨cx_blind, fun U hU hW => cx_pre hU hW hP hK⟩ rfl hn hsize hst (lv_room hW) hdg ⟨by omega, by omega⟩) hS hz kk
theorem cx_SNv {post : (Nat → va_E) → Prop} (S : CallFix p m c cc nL s args Ts own) (hM : MV l y ws rm G L ad g As post) (cw : va_CN R s args own index y host bytes maxL ret ws rm 0 0 n ∧ (Cond.static y).before args s = true ∧ True) (hK : cx_K G s) (hP : va_P G.1 vwCl (wl L ad g) H) (hS : va_S (cx_A L ad sz) H0 H locs) (hz : sz ≤ H0.size) (hc : cells ≤ R.cells ∧ slots ≤ R.slots) (hn : As.length = n) (hsize : ls.size = nL) (hst : st0 = As.reverse ++ rest) (hW : (rest.map fun v => v.category).sum ≤ 8) (hdg : decode cc pc = .ok (.invokestatic index, 3))
    (kk : ∀ (g1 : Nat → va_E) (H1 : Heap) (locs1 : List Loc), post g1 → va_P G.1 vwCl (wl L ad g1) H1 → va_S (cx_A L ad sz) H0 H1 locs1 → W p l e R s m args below meth c H1 locs1 cells slots Q (F0 m (pc + 3) ls rest)) : W p l e R s m args below meth c H locs cells slots Q (F0 m pc ls st0) :=
  cx_gov (va_runSN S (hM H.size) cw ⟨cx_blind, fun U hU hW => cx_pre hU hW hP hK⟩ rfl hn hsize hst (lv_room hW) hdg ⟨by omega, by omega⟩) hS hz kk
theorem cx_Vi {post : Int32 → (Nat → va_E) → Prop} {C : String} {T : u_T} {N ci k : Nat} {fs : List Value} (S : CallFix p m c cc nL s args Ts own) (hM : MI l y ws rm G L ad g (.ref (ad k) :: As) post) (cw : CallW R s args own C index y bytes maxL ret ws rm 0 0 n) (hK : cx_K G s) (hP : va_P G.1 vwCl (wl L ad g) H) (hS : va_S (cx_A L ad sz) H0 H locs) (hz : sz ≤ H0.size) (hk : k ∈ L) (hg : g k = .inr (ci, fs)) (hcl : vwCl[ci]? = some (C, T, N)) (hc : cells ≤ R.cells ∧ slots ≤ R.slots) (hn : As.length = n) (hsize : ls.size = nL) (hst : st0 = As.reverse ++ .ref (ad k) :: rest) (hW : (rest.map fun v => v.category).sum ≤ 8) (hdg : decode cc pc = .ok (.invokevirtual index, 3))
    (kk : ∀ (r : Int32) (g1 : Nat → va_E) (H1 : Heap) (locs1 : List Loc), post r g1 → va_P G.1 vwCl (wl L ad g1) H1 → va_S (cx_A L ad sz) H0 H1 locs1 → W p l e R s m args below meth c H1 locs1 cells slots Q (F0 m (pc + 3) ls (.int r :: rest))) : W p l e R s m args below meth c H locs cells slots Q (F0 m pc ls st0) :=
  cx_goi (As := .ref (ad k) :: As) (va_runV S (hM H.size) cw ⟨cx_blind, cx_recv hK hP hk hg hcl, fun U hU hW => cx_pre hU hW hP hK⟩ rfl hn hsize hst (lv_room hW) hdg ⟨by omega, by omega⟩) hS hz kk
theorem cx_Vv {post : (Nat → va_E) → Prop} {C : String} {T : u_T} {N ci k : Nat} {fs : List Value} (S : CallFix p m c cc nL s args Ts own) (hM : MV l y ws rm G L ad g (.ref (ad k) :: As) post) (cw : CallW R s args own C index y bytes maxL ret ws rm 0 0 n) (hK : cx_K G s) (hP : va_P G.1 vwCl (wl L ad g) H) (hS : va_S (cx_A L ad sz) H0 H locs) (hz : sz ≤ H0.size) (hk : k ∈ L) (hg : g k = .inr (ci, fs)) (hcl : vwCl[ci]? = some (C, T, N)) (hc : cells ≤ R.cells ∧ slots ≤ R.slots) (hn : As.length = n) (hsize : ls.size = nL) (hst : st0 = As.reverse ++ .ref (ad k) :: rest) (hW : (rest.map fun v => v.category).sum ≤ 8) (hdg : decode cc pc = .ok (.invokevirtual index, 3))
    (kk : ∀ (g1 : Nat → va_E) (H1 : Heap) (locs1 : List Loc), post g1 → va_P G.1 vwCl (wl L ad g1) H1 → va_S (cx_A L ad sz) H0 H1 locs1 → W p l e R s m args below meth c H1 locs1 cells slots Q (F0 m (pc + 3) ls rest)) : W p l e R s m args below meth c H locs cells slots Q (F0 m pc ls st0) :=
  cx_gov (As := .ref (ad k) :: As) (va_runV S (hM H.size) cw ⟨cx_blind, cx_recv hK hP hk hg hcl, fun U hU hW => cx_pre hU hW hP hK⟩ rfl hn hsize hst (lv_room hW) hdg ⟨by omega, by omega⟩) hS hz kk
/-- a method's end: the world as it is -/
theorem cx_end {t : State} (ht : t.heap = H) (hW : s.WarmedH t.vm) (hP : va_P G.1 vwCl (wl L ad g) H) (hK : cx_K G s) : cx_B G L ad g t := ⟨by rw [ht]; exact hP, cx_K.warm hW hK⟩
end AC
theorem cx_ofW {l : Launch} {y : MethodName} {ws ws' : List Cond} {rm : Room} {Pc : Array Value → State → Prop} {Qc : Array Value → State → Outcome → State → Prop} {mc ms : Nat} {free : Addr → Prop} {cc : ByteArray} {maxL : Nat} {ret : Option FieldType}
    (hy : plainFor y = true) (hw : ws = Cond.code y cc maxL ret :: ws')
    (body : ∀ p e s m args below meth c s₁, BodyLoose p l y (headSpec ws rm) cc maxL ret e s m args below meth c s₁ → c.maxLocals = maxL → Pc args s →
      W p l e (headSpec ws rm).room s m args below meth c s.heap [] 0 0 (MQ below Qc args s mc ms free) (entryFrame m args maxL)) : Met l y ws rm Pc Qc mc ms free := by
  refine MetFree.of_bodySF (code := cc) (maxLocals := maxL) (ret := ret) hy ?_ ?_
  · intro args s m h hn
    obtain ⟨meth, c, h1, h2, h3, h4, h5, h6, -, -⟩ := Cond.code_spec hn (atoms_spec (ws := ws) h _ (by rw [hw]; exact List.mem_cons_self))
    exact ⟨meth, c, h1, h2, h3, h4, h5, h6⟩
  · intro p e s m args below meth c s₁ B hml hP _
    have hh0 : s₁.heap = s.heap := by rw [B.state]; rfl
    obtain ⟨t, a1, o, b1, b2, b3⟩ := body p e s m args below meth c s₁ B hml hP s₁ hh0 (Stand.of_body B)
    exact ⟨t, o, a1, b1, b2, ⟨b3.1, b3.2⟩⟩
section AO
variable {l : Launch} {y : MethodName} {ws ws' : List Cond} {rm : Room} {G : cx_G} {L : List Nat} {ad : Nat → Nat} {g : Nat → va_E} {av : List Value} {cc : ByteArray} {maxL : Nat}
/-- a body without an answer: Q is what is owed behind it, hret how it is paid at a return -/
theorem cx_ofV {post : (Nat → va_E) → Prop} (hy : plainFor y = true) (hw : ws = Cond.code y cc maxL none :: ws') (hav : (lg_sl av).length ≤ maxL)
    (body : ∀ (p : Program) (e : Env) (s : State) (m : MethodId) (args : Array Value) (below : List Frame) (meth : Method) (c : Code) (Q : State → Prop), p.tables.exec = Jvm.exec → c.code = cc → (∀ w ∈ ws, w.before args s = true) → s.vm.findClass y.cls = some m.cls → c.maxLocals = maxL → va_P G.1 vwCl (wl L ad g) s.heap → cx_K G s → va_S (cx_A L ad s.heap.size) s.heap s.heap [] → s.heap.size ≤ s.heap.size →
      (∀ (g1 : Nat → va_E) (H : Heap) (locs : List Loc) (pc : Nat) (ls : Array Slot), post g1 → va_P G.1 vwCl (wl L ad g1) H → va_S (cx_A L ad s.heap.size) s.heap H locs → decode cc pc = .ok (.return_, 1) → W p l e rm s m args below meth c H locs 0 0 Q (F0 m pc ls [])) →
      ∀ ls : Array Slot, lv_has ls maxL (lv_args 0 av) → W p l e rm s m args below meth c s.heap [] 0 0 Q (F0 m 0 ls [])) : MV l y ws rm G L ad g av post := by
  intro sz
  refine cx_ofW hy hw ?_
  intro p e s m args below meth c s₁ B hml hv
  obtain ⟨rfl, hsz, hP, hK⟩ := hv
  subst hsz
  rw [lg_entry_eq]
  refine body p e s m _ below meth c _ B.exec B.bytes (atoms_spec B.pre) (findClass_of_methodNamed B.named) hml hP hK va_S.rf (Nat.le_refl _) ?_ _ (lv_entry av hav)
  intro g1 H locs pc ls hp hP1 hS1 hd
  exact W.vret B.exec B.bytes B.returns (fun t ht hW => ⟨⟨g1, rfl, hp, cx_end ht hW hP1 hK⟩, hS1.F ht⟩) hS1.2.2 hd B.notSynchronized
theorem cx_ofI {ty : FieldType} {post : Int32 → (Nat → va_E) → Prop} (hy : plainFor y = true) (hw : ws = Cond.code y cc maxL (some ty) :: ws') (hav : (lg_sl av).length ≤ maxL)
    (body : ∀ (p : Program) (e : Env) (s : State) (m : MethodId) (args : Array Value) (below : List Frame) (meth : Method) (c : Code) (Q : State → Prop), p.tables.exec = Jvm.exec → c.code = cc → (∀ w ∈ ws, w.before args s = true) → s.vm.findClass y.cls = some m.cls → c.maxLocals = maxL → va_P G.1 vwCl (wl L ad g) s.heap → cx_K G s → va_S (cx_A L ad s.heap.size) s.heap s.heap [] → s.heap.size ≤ s.heap.size →
      (∀ (r : Int32) (g1 : Nat → va_E) (H : Heap) (locs : List Loc) (pc : Nat) (ls : Array Slot), narrow ty (.int r) = .int r → post r g1 → va_P G.1 vwCl (wl L ad g1) H → va_S (cx_A L ad s.heap.size) s.heap H locs → decode cc pc = .ok (.ireturn, 1) → W p l e rm s m args below meth c H locs 0 0 Q (F0 m pc ls [.int r])) →
      ∀ ls : Array Slot, lv_has ls maxL (lv_args 0 av) → W p l e rm s m args below meth c s.heap [] 0 0 Q (F0 m 0 ls [])) : MI l y ws rm G L ad g av post := by
  intro sz
  refine cx_ofW hy hw ?_
  intro p e s m args below meth c s₁ B hml hv
  obtain ⟨rfl, hsz, hP, hK⟩ := hv
  subst hsz
  rw [lg_entry_eq]
  refine body p e s m _ below meth c _ B.exec B.bytes (atoms_spec B.pre) (findClass_of_methodNamed B.named) hml hP hK va_S.rf (Nat.le_refl _) ?_ _ (lv_entry av hav)
  intro r g1 H locs pc ls hn hp hP1 hS1 hd
  exact W.zret B.exec B.bytes B.returns hn (fun t ht hW => ⟨⟨r, g1, rfl, hp, cx_end ht hW hP1 hK⟩, hS1.F ht⟩) hS1.2.2 hd B.notSynchronized
theorem nar_z (b : Bool) : narrow .boolean (.int (if b = true then 1 else 0)) = .int (if b = true then 1 else 0) := by cases b <;> decide
end AO
end
section
/-! numbers modulo 65521 -/
abbrev FF : Type := Fin 65521
def ff (n : Nat) : FF := Fin.ofNat 65521 n
def fi (z : Int) : FF := Fin.ofNat 65521 (z.emod 65521).toNat
def vN (v : Nat → FF) : Nat → Nat := fun j => (v j).val
theorem ff_val (n : Nat) : (ff n).val = n % 65521 := rfl
theorem ff_of (a : FF) : ff a.val = a := Fin.ext (Nat.mod_eq_of_lt a.isLt)
theorem vN_lt (v : Nat → FF) (j : Nat) : vN v j < 65521 := (v j).isLt
theorem vN_nu (v : Nat → FF) (k : Nat) (x : FF) : nu (vN v) k x.val = vN (nu v k x) := by
  funext j
  by_cases h : j = k <;> simp [nu, vN, h]
theorem ff_lin (a b : FF) (f : Nat) : (a.val + f * b.val) % 65521 = (a + ff f * b).val := by
  rw [Fin.val_add, Fin.val_mul, ff_val]
  rw [Nat.add_mod, Nat.mul_mod f b.val]
  simp [Nat.mod_mod, Nat.add_mod]
theorem ff_add (a b : Nat) : ff (a + b) = ff a + ff b := Fin.ext (by rw [Fin.val_add, ff_val, ff_val, ff_val, Nat.add_mod])
theorem ff_mul (a b : Nat) : ff (a * b) = ff a * ff b := Fin.ext (by rw [Fin.val_mul, ff_val, ff_val, ff_val, Nat.mul_mod])
theorem mul_le3 {a b x y : Nat} (h : a ≤ x) (h2 : b ≤ y) : a * b ≤ x * y := Nat.mul_le_mul h h2
/-- what the class's small methods do to rows: n places, others stay -/
def am (n : Nat) (v : Nat → FF) (c : FF) (w : Nat → FF) : Nat → FF := fun j => if j < n then v j + c * w j else v j
def cpv (n : Nat) (v w : Nat → FF) : Nat → FF := fun j => if j < n then v j else w j
def fl0 (n : Nat) (v : Nat → FF) : Nat → FF := fun j => if j < n then 0 else v j
def dot (v w : Nat → FF) : Nat → FF
  | 0 => 0
  | k + 1 => dot v w k + v k * w k
def dotN (v w : Nat → FF) : Nat → Nat
  | 0 => 0
  | k + 1 => dotN v w k + (v k).val * (w k).val
theorem dotN_le (v w : Nat → FF) : ∀ k : Nat, dotN v w k ≤ k * 4293001441
  | 0 => Nat.le_refl _
  | k + 1 => by
    have h := dotN_le v w k
    have h2 : (v k).val * (w k).val ≤ 65521 * 65521 := mul_le3 (Nat.le_of_lt (v k).isLt) (Nat.le_of_lt (w k).isLt)
    show dotN v w k + (v k).val * (w k).val ≤ (k + 1) * 4293001441
    omega
theorem dotN_ff (v w : Nat → FF) : ∀ k : Nat, ff (dotN v w k) = dot v w k
  | 0 => rfl
  | k + 1 => by
    show ff (dotN v w k + (v k).val * (w k).val) = dot v w k + v k * w k
    rw [ff_add, ff_mul, ff_of, ff_of, dotN_ff v w k]
theorem dotN_mod (v w : Nat → FF) (k : Nat) : dotN v w k % 65521 = (dot v w k).val := by rw [← dotN_ff, ff_val]
/-- Int32 and Int64 by their integers -/
theorem i32_rng (x : Int32) : -2147483648 ≤ x.toInt ∧ x.toInt < 2147483648 := by
  have h1 := Int32.le_toInt x
  have h2 := Int32.toInt_lt x
  omega
theorem fi_nat (n : Nat) : fi (n : Int) = ff n := by
  apply Fin.ext
  show (((n : Int) % 65521).toNat) % 65521 = n % 65521
  omega
theorem fi_add (a b : Int) : fi (a + b) = fi a + fi b := by
  unfold fi
  apply Fin.ext
  rw [Fin.val_add]
  simp only [Fin.val_ofNat]
  have h : (((a + b).emod 65521).toNat : Int) = (((a.emod 65521).toNat + (b.emod 65521).toNat : Nat) : Int) % 65521 := by
    have h1 : (0 : Int) ≤ a.emod 65521 := Int.emod_nonneg _ (by decide)
    have h2 : (0 : Int) ≤ b.emod 65521 := Int.emod_nonneg _ (by decide)
    have h3 : (0 : Int) ≤ (a + b).emod 65521 := Int.emod_nonneg _ (by decide)
    rw [Int.toNat_of_nonneg h3]
    push_cast
    rw [Int.toNat_of_nonneg h1, Int.toNat_of_nonneg h2]
    exact Int.add_emod a b 65521
  omega
theorem fi_mul (a b : Int) : fi (a * b) = fi a * fi b := by
  unfold fi
  apply Fin.ext
  rw [Fin.val_mul]
  simp only [Fin.val_ofNat]
  have h : (((a * b).emod 65521).toNat : Int) = (((a.emod 65521).toNat * (b.emod 65521).toNat : Nat) : Int) % 65521 := by
    have h1 : (0 : Int) ≤ a.emod 65521 := Int.emod_nonneg _ (by decide)
    have h2 : (0 : Int) ≤ b.emod 65521 := Int.emod_nonneg _ (by decide)
    have h3 : (0 : Int) ≤ (a * b).emod 65521 := Int.emod_nonneg _ (by decide)
    rw [Int.toNat_of_nonneg h3]
    push_cast
    rw [Int.toNat_of_nonneg h1, Int.toNat_of_nonneg h2]
    exact Int.mul_emod a b 65521
  have h5 : ((a.emod 65521).toNat % 65521) * ((b.emod 65521).toNat % 65521) % 65521 = ((a.emod 65521).toNat * (b.emod 65521).toNat) % 65521 := (Nat.mul_mod _ _ _).symm
  rw [h5]
  omega
theorem fi_neg (a : Int) : fi (-a) = - fi a := by
  have h : fi (a + -a) = 0 := by rw [Int.add_right_neg]; rfl
  rw [fi_add] at h
  grind
theorem fi_sub (a b : Int) : fi (a - b) = fi a - fi b := by
  rw [Int.sub_eq_add_neg, fi_add, fi_neg]
  grind
theorem fi_ff (a : FF) : fi (a.val : Int) = a := by rw [fi_nat, ff_of]
theorem ff_sub {a : Nat} (b : FF) (h : a = 65521 - b.val) : ff a = - b := by
  have h1 : ff (a + b.val) = 0 := by
    rw [h, Nat.sub_add_cancel (Nat.le_of_lt b.isLt)]
    rfl
  rw [ff_add, ff_of] at h1
  grind
def ff_pow (a : FF) : Nat → FF
  | 0 => 1
  | k + 1 => ff_pow a k * a
theorem ff_pow_add (a : FF) (m : Nat) : ∀ k : Nat, ff_pow a (m + k) = ff_pow a m * ff_pow a k
  | 0 => by show ff_pow a m = ff_pow a m * 1; grind
  | k + 1 => by
    show ff_pow a (m + k) * a = ff_pow a m * (ff_pow a k * a)
    rw [ff_pow_add a m k]
    grind
theorem ff_pow_mul (a b : FF) : ∀ k : Nat, ff_pow (a * b) k = ff_pow a k * ff_pow b k
  | 0 => by show (1 : FF) = 1 * 1; grind
  | k + 1 => by
    show ff_pow (a * b) k * (a * b) = ff_pow a k * a * (ff_pow b k * b)
    rw [ff_pow_mul a b k]
    grind
theorem ff_pow_sq (a : FF) (k : Nat) : ff_pow (a * a) k = ff_pow a (2 * k) := by
  rw [ff_pow_mul, Nat.two_mul, ff_pow_add]
theorem ff_pow_half (a : FF) (k : Nat) : ff_pow a k = ff_pow (a * a) (k / 2) * (if k % 2 = 1 then a else 1) := by
  rw [ff_pow_sq]
  have h : k = 2 * (k / 2) + k % 2 := by omega
  by_cases h1 : k % 2 = 1
  · rw [if_pos h1]
    have h2 : k = 2 * (k / 2) + 1 := by omega
    exact (congrArg (ff_pow a) h2).trans rfl
  · rw [if_neg h1]
    have h2 : k = 2 * (k / 2) := by omega
    have h3 : ff_pow a (2 * (k / 2)) * 1 = ff_pow a (2 * (k / 2)) := by grind
    rw [h3]
    exact congrArg (ff_pow a) h2
/-- the inverse, by a power -/
def finv (a : FF) : FF := ff_pow a 65519
theorem i32_bm {z : Int} (h1 : -2147483648 ≤ z) (h2 : z < 2147483648) : z.bmod (2 ^ 32) = z := by
  rw [Int.bmod_eq_of_le]
  · simpa using h1
  · simpa using h2
theorem i32_rem (x : Int32) : (x - x / nI 65521 * nI 65521).toInt = x.toInt.tmod 65521 := by
  have e : (nI 65521).toInt = 65521 := by decide
  have r := i32_rng x
  have hd : 65521 * x.toInt.tdiv 65521 + x.toInt.tmod 65521 = x.toInt := Int.mul_tdiv_add_tmod x.toInt 65521
  have h1 : x.toInt.tmod 65521 < 65521 := Int.tmod_lt_of_pos _ (by decide)
  have h2 : -65521 < x.toInt.tmod 65521 := by
    have := Int.tmod_lt_of_pos (-x.toInt) (b := 65521) (by decide)
    rw [Int.neg_tmod] at this
    omega
  have hq : (x / nI 65521).toInt = x.toInt.tdiv 65521 := by
    rw [Int32.toInt_div, e]
    exact i32_bm (by omega) (by omega)
  rcases Int.lt_or_le x.toInt 0 with h | h
  · have h3 : x.toInt.tmod 65521 ≤ 0 := by
      have h9 : (0 : Int) ≤ (-x.toInt).tmod 65521 := Int.tmod_nonneg _ (by omega)
      rw [Int.neg_tmod] at h9
      omega
    rw [Int32.toInt_sub, Int32.toInt_mul, hq, e, i32_bm (z := x.toInt.tdiv 65521 * 65521) (by omega) (by omega), i32_bm (by omega) (by omega)]
    omega
  · have h3 : 0 ≤ x.toInt.tmod 65521 := Int.tmod_nonneg _ h
    rw [Int32.toInt_sub, Int32.toInt_mul, hq, e, i32_bm (z := x.toInt.tdiv 65521 * 65521) (by omega) (by omega), i32_bm (by omega) (by omega)]
    omega
theorem i32_neg (x : Int32) : x < 0 ↔ x.toInt < 0 := by
  rw [Int32.lt_iff_toInt_lt]
  exact Iff.rfl
theorem i32_xor (x : Int32) : 0 ≤ x ^^^ nI 65521 ↔ 0 ≤ x.toInt := by
  have h : ∀ y : Int32, y.toInt < 0 ↔ y.toBitVec.msb = true := fun y => by
    rw [BitVec.msb_eq_toInt]
    exact decide_eq_true_iff.symm
  have h1 : (x ^^^ nI 65521).toInt < 0 ↔ x.toInt < 0 := by
    rw [h, h, Int32.toBitVec_xor, BitVec.msb_xor]
    have e : (nI 65521).toBitVec.msb = false := by decide
    rw [e, Bool.xor_false]
  rw [← Int32.not_lt, i32_neg, h1]
  omega
theorem i32_eq {x : Int32} {n : Nat} (hn : n < 2147483648) (h : x.toInt = n) : x = nI n := by
  apply Int32.toInt_inj.mp
  rw [h, nI_toInt hn]
theorem fi_val (z : Int) : ((fi z).val : Int) = z % 65521 := by
  show (((z % 65521).toNat % 65521 : Nat) : Int) = z % 65521
  omega
theorem fm_1 {x r : Int32} (er : r = x - x / nI 65521 * nI 65521) (h : 0 ≤ x ^^^ nI 65521) : r = nI (fi x.toInt).val := by
  have h1 := (i32_xor x).mp h
  refine i32_eq (by have := (fi x.toInt).isLt; omega) ?_
  rw [er, i32_rem, fi_val, Int.tmod_eq_emod_of_nonneg h1]
theorem fm_2 {x r : Int32} (er : r = x - x / nI 65521 * nI 65521) (h : r = 0) : r = nI (fi x.toInt).val := by
  refine i32_eq (by have := (fi x.toInt).isLt; omega) ?_
  have h1 : x.toInt.tmod 65521 = 0 := by rw [← i32_rem, ← er, h]; rfl
  have h2 : (65521 : Int) ∣ x.toInt := Int.dvd_of_tmod_eq_zero h1
  rw [h, fi_val, Int.emod_eq_zero_of_dvd h2]
  rfl
theorem fm_3 {x r : Int32} (er : r = x - x / nI 65521 * nI 65521) (h : ¬ 0 ≤ x ^^^ nI 65521) (h0 : ¬ r = 0) : r + nI 65521 = nI (fi x.toInt).val := by
  have h1 : x.toInt < 0 := by
    rw [i32_xor] at h
    omega
  refine i32_eq (by have := (fi x.toInt).isLt; omega) ?_
  have e : (nI 65521).toInt = 65521 := by decide
  have hr : r.toInt = x.toInt.tmod 65521 := by rw [er, i32_rem]
  have h5 : r.toInt ≠ 0 := fun z => h0 (Int32.toInt_inj.mp z)
  have h6 : (0 : Int) ≤ (-x.toInt).tmod 65521 := Int.tmod_nonneg _ (by omega)
  have h7 : (-x.toInt).tmod 65521 < 65521 := Int.tmod_lt_of_pos _ (by decide)
  rw [Int.neg_tmod] at h6 h7
  have hd : 65521 * x.toInt.tdiv 65521 + x.toInt.tmod 65521 = x.toInt := Int.mul_tdiv_add_tmod x.toInt 65521
  rw [Int32.toInt_add, e, i32_bm (by omega) (by omega), fi_val, hr]
  omega
section AZ
variable {p : Program} {l : Launch} {e : Env} {R : Room} {s : State} {m : MethodId} {args : Array Value} {below : List Frame} {meth : Method} {c : Code} {H : Heap} {locs : List Loc} {cells slots : Nat} {Q : State → Prop}
variable {cc : ByteArray} {pc : Nat} {ls : Array Slot} {rest : List Value}
theorem ax_ifle (hx : p.tables.exec = Jvm.exec) (hb : c.code = cc) {a : Nat} {off : Int} {tgt : Nat} (hdg : decode cc pc = .ok (.ifCond .le off, 3)) (ht : (pc : Int) + off = (tgt : Int)) (ha : a < 2147483648)
    (kt : a = 0 → W p l e R s m args below meth c H locs cells slots Q (F0 m tgt ls rest)) (kf : 0 < a → W p l e R s m args below meth c H locs cells slots Q (F0 m (pc + 3) ls rest)) : W p l e R s m args below meth c H locs cells slots Q (F0 m pc ls (.int (nI a) :: rest)) :=
  lv_if_le hx hb hdg ht (fun h => kt (Nat.le_zero.mp ((nI_leI (b := 0) ha (by decide)).mp h))) (fun h => kf (Nat.pos_of_ne_zero fun z => h ((nI_leI (b := 0) ha (by decide)).mpr (Nat.le_of_eq z))))
end AZ
end
section
theorem am_step {n : Nat} {r v w : Nat → FF} {c : FF} {k : Nat} (hr : ∀ j : Nat, r j = if j < k then v j + c * w j else v j) : ∀ j : Nat, nu r k (r k + c * w k) j = if j < k + 1 then v j + c * w j else v j := by
  intro j
  have hk := hr k
  rw [if_neg (Nat.lt_irrefl k)] at hk
  by_cases h : j = k
  · subst h
    rw [nu_s, if_pos (Nat.lt_succ_self j), hk]
  · rw [nu_n h, hr j]
    by_cases h2 : j < k
    · rw [if_pos h2, if_pos (by omega)]
    · rw [if_neg h2, if_neg (by omega)]

set_option maxRecDepth 20000 in
theorem wd_X5_addMultiple_0 : Cond.constantLong RX5 275 (65521) ∈ wsX5_addMultiple := by decide +kernel
abbrev rm_X5_addMultiple : Room := { frames := 0, cells := 0, slots := 0, locals := 0 }
set_option maxHeartbeats 4000000 in
set_option maxRecDepth 100000 in
theorem c_X5_addMultiple {l : Launch} {G : cx_G} {L : List Nat} {ad : Nat → Nat} {g : Nat → va_E} (hD : cx_D L ad) {a b n f : Nat} {v w : Nat → FF} {cf : FF} (hab : a ≠ b) (ha : a ∈ L) (hb2 : b ∈ L) (hn : n < 1000) (hf : f ≤ 65521) (hfc : ff f = cf) (c_a : g a = nA G n (vN v)) (c_b : g b = nA G n (vN w)) : MV l yX5_addMultiple wsX5_addMultiple rm_X5_addMultiple G L ad g [.ref (ad a), .int (nI f), .ref (ad b)] (fun u => (∀ j : Nat, j ≠ a → u j = g j) ∧ u a = nA G n (vN (am n v cf w))) := by
  refine cx_ofV (cc := cX5_addMultiple) (maxL := 4) (by decide +kernel) rfl (Nat.le_of_ble_eq_true rfl) ?_
  intro p e s m args below meth c Q hx hb hts hown hml hP hK hS hz hret ls hl
  have hown : s.vm.findClass RX5 = some m.cls := hown
  have hl : lv_has ls 4 [(0, .ref (ad a)), (1, .int (nI f)), (2, .ref (ad b))] := hl
  have fr : ∀ j : Nat, j ≠ a → g j = g j := fun _ _ => rfl
  refine lv_iconst (v := nI 0) hx hb dX5_addMultiple_0 (by decide) ?_
  refine lv_istore_n (lv' := [(3, .int (nI 0)), (0, .ref (ad a)), (1, .int (nI f)), (2, .ref (ad b))]) hx hb dX5_addMultiple_1 rfl hl (by decide) rfl (fun ls hl => ?_)
  have LP2 : ∀ (fu : Nat) (k : Nat) (r : Nat → FF), (k ≤ n) → (∀ j : Nat, r j = if j < k then v j + ff f * w j else v j) → (n - k) < fu → ∀ (ga1 : Nat → va_E) (H : Heap) (locs : List Loc) (ls : Array Slot), (ga1 a = nA G n (vN r)) → (ga1 b = nA G n (vN w)) → (∀ j : Nat, j ≠ a → ga1 j = g j) → va_P G.1 vwCl (wl L ad ga1) H → va_S (cx_A L ad s.heap.size) s.heap H locs → lv_has ls 4 [(3, .int (nI k)), (0, .ref (ad a)), (1, .int (nI f)), (2, .ref (ad b))] → W p l e rm_X5_addMultiple s m args below meth c H locs 0 0 Q (F0 m 2 ls []) := by
    intro fu
    induction fu with
    | zero => intro k r hkn hr hfu; exact absurd hfu (Nat.not_lt_zero _)
    | succ fu ih2 =>
      intro k r hkn hr hfu2 ga1 H locs ls c_a c_b fr hP hS hl
      refine lv_iload_n hx hb dX5_addMultiple_2 rfl (lv_at hl 0 rfl) ?_
      refine lv_aload_n hx hb dX5_addMultiple_3 rfl (lv_at hl 1 rfl) ?_
      refine ax_alen (k := a) (n := n) hx hb hK hP ha 0 rfl c_a rfl dX5_addMultiple_4 ?_
      refine ax_icge (a := k) (b := n) (tgt := 34) hx hb dX5_addMultiple_5 (by decide) (by omega) (by omega) (fun h5 => ?_) (fun h5 => ?_)
      · skip
        exact hret ga1 _ _ _ _ ⟨fr, by rw [c_a, show r = am n v cf w from funext fun j => by rw [hr j, show k = n by omega, hfc]; rfl]⟩ hP hS dX5_addMultiple_34
      · skip
        have b1 := vN_lt r k
        have b2 := vN_lt w k
        have b3 : f * vN w k ≤ 65521 * 65521 := mul_le3 hf (Nat.le_of_lt b2)
        refine lv_aload_n hx hb dX5_addMultiple_8 rfl (lv_at hl 1 rfl) ?_
        refine lv_iload_n hx hb dX5_addMultiple_9 rfl (lv_at hl 0 rfl) ?_
        refine lv_aload_n hx hb dX5_addMultiple_10 rfl (lv_at hl 1 rfl) ?_
        refine lv_iload_n hx hb dX5_addMultiple_11 rfl (lv_at hl 0 rfl) ?_
        refine ax_iald (k := a) (i := k) (v := nI ((vN r) k)) hx hb hK hP ha c_a (by omega) (by omega) rfl dX5_addMultiple_12 ?_
        refine ax_i2l (a := (vN r) k) hx hb dX5_addMultiple_13 (by omega) ?_
        refine lv_iload_n hx hb dX5_addMultiple_14 rfl (lv_at hl 2 rfl) ?_
        refine ax_i2l (a := f) hx hb dX5_addMultiple_15 (by omega) ?_
        refine lv_aload_n hx hb dX5_addMultiple_16 rfl (lv_at hl 3 rfl) ?_
        refine lv_iload_n hx hb dX5_addMultiple_17 rfl (lv_at hl 0 rfl) ?_
        refine ax_iald (k := b) (i := k) (v := nI ((vN w) k)) hx hb hK hP hb2 c_b (by omega) (by omega) rfl dX5_addMultiple_18 ?_
        refine ax_i2l (a := (vN w) k) hx hb dX5_addMultiple_19 (by omega) ?_
        refine ax_lmul (a := f) (b := (vN w) k) hx hb dX5_addMultiple_20 ?_
        refine ax_ladd (a := (vN r) k) (b := f * ((vN w) k)) hx hb dX5_addMultiple_21 ?_
        refine lv_ldc2 (v := 65521) hx hb hown (hts _ wd_X5_addMultiple_0) dX5_addMultiple_22 ?_
        refine ax_lremM (a := (vN r) k + (f * ((vN w) k))) hx hb dX5_addMultiple_25 (by omega) ?_
        refine ax_l2i (a := ((vN r) k + (f * ((vN w) k))) % 65521) hx hb dX5_addMultiple_26 ?_
        rw [show (vN r k + f * vN w k) % 65521 = (r k + ff f * w k).val from ff_lin _ _ _]
        refine ax_iast (k := a) (i := k) (f' := (fun j => nI ((nu (vN r) k ((r k + ff f * w k).val)) j))) hx hb hK hP hD hS ha c_a (by omega) (by omega) (up_n _ _ _) dX5_addMultiple_27 (fun H locs g2 eg2 hP hS => ?_)
        have c_b : g2 b = nA G n (vN w) := (cx_ne eg2 b (by omega)).trans c_b
        have c_a : g2 a = nA G n (nu (vN r) k ((r k + ff f * w k).val)) := cx_eq eg2
        have fr : ∀ j : Nat, j ≠ a → g2 j = g j := fun j hj => (cx_ne eg2 j (by omega)).trans (fr j hj)
        have c_a : g2 a = nA G n (vN (nu r k (r k + ff f * w k))) := by rw [← vN_nu]; exact c_a
        refine lv_iinc (v := nI (k + 1)) (lv' := [(3, .int (nI (k + 1))), (0, .ref (ad a)), (1, .int (nI f)), (2, .ref (ad b))]) hx hb dX5_addMultiple_28 hl (k := 0) rfl (nI_1 _) (by decide) rfl (fun ls hl => ?_)
        refine lv_goto (tgt := 2) hx hb dX5_addMultiple_31 (by decide) ?_
        exact ih2 (k + 1) (nu r k (r k + ff f * w k)) h5 (am_step (n := n) hr) (by omega) g2 _ _ _ c_a c_b  fr hP hS (lv_sub hl [0, 1, 2, 3] rfl)
  exact LP2 ((n - 0) + 1) 0 v (Nat.zero_le n) (fun j => (if_neg (Nat.not_lt_zero j)).symm) (Nat.lt_succ_self _) g _ _ _ c_a c_b  fr hP hS (lv_sub hl [0, 1, 2, 3] rfl)

set_option maxRecDepth 20000 in
theorem wd_X5_valueOf_0 : Cond.constantLong RX5 275 (65521) ∈ wsX5_valueOf := by decide +kernel
abbrev rm_X5_valueOf : Room := { frames := 0, cells := 0, slots := 0, locals := 0 }
set_option maxHeartbeats 4000000 in
set_option maxRecDepth 100000 in
theorem c_X5_valueOf {l : Launch} {G : cx_G} {L : List Nat} {ad : Nat → Nat} {g : Nat → va_E} (hD : cx_D L ad) {a b n : Nat} {v w : Nat → FF} (ha : a ∈ L) (hb2 : b ∈ L) (hn : n < 1000) (c_a : g a = nA G n (vN v)) (c_b : g b = nA G n (vN w)) : MI l yX5_valueOf wsX5_valueOf rm_X5_valueOf G L ad g [.ref (ad a), .ref (ad b)] (fun r u => r = nI (dot v w n).val ∧ u = g) := by
  refine cx_ofI (cc := cX5_valueOf) (maxL := 5) (by decide +kernel) rfl (Nat.le_of_ble_eq_true rfl) ?_
  intro p e s m args below meth c Q hx hb hts hown hml hP hK hS hz hret ls hl
  have hown : s.vm.findClass RX5 = some m.cls := hown
  have hl : lv_has ls 5 [(0, .ref (ad a)), (1, .ref (ad b))] := hl
  refine lv_lconst (v := lN 0) hx hb dX5_valueOf_0 rfl ?_
  refine lv_lstore_n (lv' := [(2, .long (lN 0)), (0, .ref (ad a)), (1, .ref (ad b))]) hx hb dX5_valueOf_1 rfl hl (by decide) rfl (fun ls hl => ?_)
  refine lv_iconst (v := nI 0) hx hb dX5_valueOf_2 (by decide) ?_
  refine lv_istore (lv' := [(4, .int (nI 0)), (2, .long (lN 0)), (0, .ref (ad a)), (1, .ref (ad b))]) hx hb dX5_valueOf_3 hl (by decide) rfl (fun ls hl => ?_)
  have LP5 : ∀ (fu : Nat) (k : Nat), (k ≤ n) → (n - k) < fu → ∀ (ls : Array Slot), lv_has ls 5 [(2, .long (lN (dotN v w k))), (4, .int (nI k)), (0, .ref (ad a)), (1, .ref (ad b))] → W p l e rm_X5_valueOf s m args below meth c s.heap [] 0 0 Q (F0 m 5 ls []) := by
    intro fu
    induction fu with
    | zero => intro k hkn hfu; exact absurd hfu (Nat.not_lt_zero _)
    | succ fu ih5 =>
      intro k hkn hfu5 ls hl
      refine lv_iload hx hb dX5_valueOf_5 (lv_at hl 1 rfl) ?_
      refine lv_aload_n hx hb dX5_valueOf_7 rfl (lv_at hl 2 rfl) ?_
      refine ax_alen (k := a) (n := n) hx hb hK hP ha 0 rfl c_a rfl dX5_valueOf_8 ?_
      refine ax_icge (a := k) (b := n) (tgt := 32) hx hb dX5_valueOf_9 (by decide) (by omega) (by omega) (fun h9 => ?_) (fun h9 => ?_)
      · skip
        refine lv_lload_n hx hb dX5_valueOf_32 rfl (lv_at hl 0 rfl) ?_
        refine lv_ldc2 (v := 65521) hx hb hown (hts _ wd_X5_valueOf_0) dX5_valueOf_33 ?_
        have b3 := dotN_le v w k
        refine ax_lremM (a := dotN v w k) hx hb dX5_valueOf_36 (by omega) ?_
        rw [show dotN v w k % 65521 = (dot v w n).val by rw [dotN_mod, show k = n by omega]]
        refine ax_l2i (a := (dot v w n).val) hx hb dX5_valueOf_37 ?_
        exact hret (nI ((dot v w n).val)) g _ _ _ _ rfl ⟨rfl, rfl⟩ hP hS dX5_valueOf_38
      · skip
        have b1 := vN_lt v k
        have b2 := vN_lt w k
        refine lv_lload_n hx hb dX5_valueOf_12 rfl (lv_at hl 0 rfl) ?_
        refine lv_aload_n hx hb dX5_valueOf_13 rfl (lv_at hl 2 rfl) ?_
        refine lv_iload hx hb dX5_valueOf_14 (lv_at hl 1 rfl) ?_
        refine ax_iald (k := a) (i := k) (v := nI ((vN v) k)) hx hb hK hP ha c_a (by omega) (by omega) rfl dX5_valueOf_16 ?_
        refine ax_i2l (a := (vN v) k) hx hb dX5_valueOf_17 (by omega) ?_
        refine lv_aload_n hx hb dX5_valueOf_18 rfl (lv_at hl 3 rfl) ?_
        refine lv_iload hx hb dX5_valueOf_19 (lv_at hl 1 rfl) ?_
        refine ax_iald (k := b) (i := k) (v := nI ((vN w) k)) hx hb hK hP hb2 c_b (by omega) (by omega) rfl dX5_valueOf_21 ?_
        refine ax_i2l (a := (vN w) k) hx hb dX5_valueOf_22 (by omega) ?_
        refine ax_lmul (a := (vN v) k) (b := (vN w) k) hx hb dX5_valueOf_23 ?_
        refine ax_ladd (a := dotN v w k) (b := ((vN v) k) * ((vN w) k)) hx hb dX5_valueOf_24 ?_
        refine lv_lstore_n (lv' := [(2, .long (lN (dotN v w k + (((vN v) k) * ((vN w) k))))), (4, .int (nI k)), (0, .ref (ad a)), (1, .ref (ad b))]) hx hb dX5_valueOf_25 rfl hl (by decide) rfl (fun ls hl => ?_)
        refine lv_iinc (v := nI (k + 1)) (lv' := [(4, .int (nI (k + 1))), (2, .long (lN (dotN v w k + (((vN v) k) * ((vN w) k))))), (0, .ref (ad a)), (1, .ref (ad b))]) hx hb dX5_valueOf_26 hl (k := 1) rfl (nI_1 _) (by decide) rfl (fun ls hl => ?_)
        refine lv_goto (tgt := 5) hx hb dX5_valueOf_29 (by decide) ?_
        exact ih5 (k + 1) h9 (by omega) _ (lv_sub hl [1, 0, 2, 3] rfl)
  exact LP5 ((n - 0) + 1) 0 (Nat.zero_le n) (Nat.lt_succ_self _) _ (lv_sub hl [1, 0, 2, 3] rfl)

set_option maxRecDepth 20000 in
theorem wd_X5_copy_0 : Cond.methodLink RX5 277 arraycopyName ∈ wsX5_copy := by decide +kernel
set_option maxRecDepth 20000 in
theorem wd_X5_copy_1 : Cond.native arraycopyName ∈ wsX5_copy := by decide +kernel
set_option maxRecDepth 20000 in
theorem wd_X5_copy_2 : Cond.static arraycopyName ∈ wsX5_copy := by decide +kernel
set_option maxRecDepth 20000 in
theorem wd_X5_copy_3 : Cond.initialized "java/lang/System" ∈ wsX5_copy := by decide +kernel
abbrev rm_X5_copy : Room := { frames := 1, cells := 0, slots := 0, locals := 60 }
set_option maxHeartbeats 4000000 in
set_option maxRecDepth 100000 in
theorem c_X5_copy {l : Launch} {G : cx_G} {L : List Nat} {ad : Nat → Nat} {g : Nat → va_E} (hD : cx_D L ad) {a b n : Nat} {v w : Nat → FF} (hab : a ≠ b) (ha : a ∈ L) (hb2 : b ∈ L) (hn : n < 1000) (c_a : g a = nA G n (vN v)) (c_b : g b = nA G n (vN w)) : MV l yX5_copy wsX5_copy rm_X5_copy G L ad g [.ref (ad a), .ref (ad b)] (fun u => (∀ j : Nat, j ≠ b → u j = g j) ∧ u b = nA G n (vN (cpv n v w))) := by
  refine cx_ofV (cc := cX5_copy) (maxL := 2) (by decide +kernel) rfl (Nat.le_of_ble_eq_true rfl) ?_
  intro p e s m args below meth c Q hx hb hts hown hml hP hK hS hz hret ls hl
  have hown : s.vm.findClass RX5 = some m.cls := hown
  have hl : lv_has ls 2 [(0, .ref (ad a)), (1, .ref (ad b))] := hl
  have fr : ∀ j : Nat, j ≠ b → g j = g j := fun _ _ => rfl
  refine lv_aload_n hx hb dX5_copy_0 rfl (lv_at hl 0 rfl) ?_
  refine lv_iconst (v := nI 0) hx hb dX5_copy_1 (by decide) ?_
  refine lv_aload_n hx hb dX5_copy_2 rfl (lv_at hl 1 rfl) ?_
  refine lv_iconst (v := nI 0) hx hb dX5_copy_3 (by decide) ?_
  refine lv_aload_n hx hb dX5_copy_4 rfl (lv_at hl 1 rfl) ?_
  refine ax_alen (k := b) (n := n) hx hb hK hP hb2 0 rfl c_b rfl dX5_copy_5 ?_
  refine ax_copy (k0 := a) (k1 := b) (n := n) (f := (fun j => nI ((vN v) j))) (f1 := (fun j => nI ((vN w) j))) hx hb (hml.trans hl.1.symm) hown (hts _ wd_X5_copy_0) (hts _ wd_X5_copy_1) (hts _ wd_X5_copy_2) (hts _ wd_X5_copy_3) hK hP hD hS ha hb2 c_a c_b (by omega) (by decide) (by decide) dX5_copy_6 (fun H locs g1 eg1 hP hS => ?_)
  have eg1 : g1 = va_up g b (nA G n (fun j => if j < n then (vN v) j else (vN w) j)) := eg1.trans (congrArg (fun f => va_up g b (iA G n f)) (funext fun j => by dsimp only; split <;> rfl))
  have c_a : g1 a = nA G n (vN v) := (cx_ne eg1 a (by omega)).trans c_a
  have c_b : g1 b = nA G n (fun j => if j < n then (vN v) j else (vN w) j) := cx_eq eg1
  have fr : ∀ j : Nat, j ≠ b → g1 j = g j := fun j hj => (cx_ne eg1 j (by omega)).trans (fr j hj)
  exact hret g1 _ _ _ _ ⟨fr, c_b.trans (congrArg (nA G n) (funext fun j => by simp only [vN, cpv]; split <;> rfl))⟩ hP hS dX5_copy_9

theorem fl_step {r v : Nat → FF} {k : Nat} (hr : ∀ j : Nat, r j = if j < k then 0 else v j) : ∀ j : Nat, nu r k 0 j = if j < k + 1 then 0 else v j := by
  intro j
  by_cases h : j = k
  · subst h
    rw [nu_s, if_pos (Nat.lt_succ_self j)]
  · rw [nu_n h, hr j]
    by_cases h2 : j < k
    · rw [if_pos h2, if_pos (by omega)]
    · rw [if_neg h2, if_neg (by omega)]

abbrev rm_J7_fill_53178 : Room := { frames := 0, cells := 0, slots := 0, locals := 0 }
set_option maxHeartbeats 4000000 in
set_option maxRecDepth 100000 in
theorem c_J7_fill_53178 {l : Launch} {G : cx_G} {L : List Nat} {ad : Nat → Nat} {g : Nat → va_E} (hD : cx_D L ad) {a n : Nat} {v : Nat → FF} (ha : a ∈ L) (hn : n < 1000) (c_a : g a = nA G n (vN v)) : MV l yJ7_fill_53178 wsJ7_fill_53178 rm_J7_fill_53178 G L ad g [.ref (ad a), .int (nI 0)] (fun u => (∀ j : Nat, j ≠ a → u j = g j) ∧ u a = nA G n (vN (fl0 n v))) := by
  refine cx_ofV (cc := cJ7_fill_53178) (maxL := 4) (by decide +kernel) rfl (Nat.le_of_ble_eq_true rfl) ?_
  intro p e s m args below meth c Q hx hb hts hown hml hP hK hS hz hret ls hl
  have hown : s.vm.findClass RJ7 = some m.cls := hown
  have hl : lv_has ls 4 [(0, .ref (ad a)), (1, .int (nI 0))] := hl
  have fr : ∀ j : Nat, j ≠ a → g j = g j := fun _ _ => rfl
  refine lv_iconst (v := nI 0) hx hb dJ7_fill_53178_0 (by decide) ?_
  refine lv_istore_n (lv' := [(2, .int (nI 0)), (0, .ref (ad a)), (1, .int (nI 0))]) hx hb dJ7_fill_53178_1 rfl hl (by decide) rfl (fun ls hl => ?_)
  refine lv_aload_n hx hb dJ7_fill_53178_2 rfl (lv_at hl 1 rfl) ?_
  refine ax_alen (k := a) (n := n) hx hb hK hP ha 0 rfl c_a rfl dJ7_fill_53178_3 ?_
  refine lv_istore_n (lv' := [(3, .int (nI n)), (2, .int (nI 0)), (0, .ref (ad a)), (1, .int (nI 0))]) hx hb dJ7_fill_53178_4 rfl hl (by decide) rfl (fun ls hl => ?_)
  have LP5 : ∀ (fu : Nat) (k : Nat) (r : Nat → FF), (k ≤ n) → (∀ j : Nat, r j = if j < k then 0 else v j) → (n - k) < fu → ∀ (ga1 : Nat → va_E) (H : Heap) (locs : List Loc) (ls : Array Slot), (ga1 a = nA G n (vN r)) → (∀ j : Nat, j ≠ a → ga1 j = g j) → va_P G.1 vwCl (wl L ad ga1) H → va_S (cx_A L ad s.heap.size) s.heap H locs → lv_has ls 4 [(3, .int (nI n)), (2, .int (nI k)), (0, .ref (ad a)), (1, .int (nI 0))] → W p l e rm_J7_fill_53178 s m args below meth c H locs 0 0 Q (F0 m 5 ls []) := by
    intro fu
    induction fu with
    | zero => intro k r hkn hr hfu; exact absurd hfu (Nat.not_lt_zero _)
    | succ fu ih5 =>
      intro k r hkn hr hfu5 ga1 H locs ls c_a fr hP hS hl
      refine lv_iload_n hx hb dJ7_fill_53178_5 rfl (lv_at hl 1 rfl) ?_
      refine lv_iload_n hx hb dJ7_fill_53178_6 rfl (lv_at hl 0 rfl) ?_
      refine ax_icge (a := k) (b := n) (tgt := 20) hx hb dJ7_fill_53178_7 (by decide) (by omega) (by omega) (fun h7 => ?_) (fun h7 => ?_)
      · skip
        exact hret ga1 _ _ _ _ ⟨fr, by rw [c_a, show r = fl0 n v from funext fun j => by rw [hr j, show k = n by omega]; rfl]⟩ hP hS dJ7_fill_53178_20
      · skip
        refine lv_aload_n hx hb dJ7_fill_53178_10 rfl (lv_at hl 2 rfl) ?_
        refine lv_iload_n hx hb dJ7_fill_53178_11 rfl (lv_at hl 1 rfl) ?_
        refine lv_iload_n hx hb dJ7_fill_53178_12 rfl (lv_at hl 3 rfl) ?_
        refine ax_iast (k := a) (i := k) (f' := (fun j => nI ((nu (vN r) k 0) j))) hx hb hK hP hD hS ha c_a (by omega) (by omega) (up_n _ _ _) dJ7_fill_53178_13 (fun H locs g2 eg2 hP hS => ?_)
        have c_a : g2 a = nA G n (nu (vN r) k 0) := cx_eq eg2
        have fr : ∀ j : Nat, j ≠ a → g2 j = g j := fun j hj => (cx_ne eg2 j (by omega)).trans (fr j hj)
        have c_a : g2 a = nA G n (vN (nu r k 0)) := by rw [← vN_nu]; exact c_a
        refine lv_iinc (v := nI (k + 1)) (lv' := [(2, .int (nI (k + 1))), (3, .int (nI n)), (0, .ref (ad a)), (1, .int (nI 0))]) hx hb dJ7_fill_53178_14 hl (k := 1) rfl (nI_1 _) (by decide) rfl (fun ls hl => ?_)
        refine lv_goto (tgt := 5) hx hb dJ7_fill_53178_17 (by decide) ?_
        exact ih5 (k + 1) (nu r k 0) h7 (fl_step hr) (by omega) g2 _ _ _ c_a  fr hP hS (lv_sub hl [1, 0, 2, 3] rfl)
  exact LP5 ((n - 0) + 1) 0 v (Nat.zero_le n) (fun j => (if_neg (Nat.not_lt_zero j)).symm) (Nat.lt_succ_self _) g _ _ _ c_a  fr hP hS (lv_sub hl [0, 1, 2, 3] rfl)

set_option maxRecDepth 20000 in
theorem wd_X0_set_0 : Cond.fieldLink RX0 15 "AffineHulls$Edge" "from" "I" ∈ wsX0_set := by decide +kernel
set_option maxRecDepth 20000 in
theorem in_X0_set_X0 : ∀ w ∈ u_ws RX0 TX0 5, w ∈ wsX0_set := by decide +kernel
set_option maxRecDepth 20000 in
theorem wd_X0_set_2 : Cond.fieldLink RX0 19 "AffineHulls$Edge" "to" "I" ∈ wsX0_set := by decide +kernel
set_option maxRecDepth 20000 in
theorem wd_X0_set_3 : Cond.fieldLink RX0 22 "AffineHulls$Edge" "kind" "I" ∈ wsX0_set := by decide +kernel
set_option maxRecDepth 20000 in
theorem wd_X0_set_4 : Cond.fieldLink RX0 25 "AffineHulls$Edge" "variable" "I" ∈ wsX0_set := by decide +kernel
set_option maxRecDepth 20000 in
theorem wd_X0_set_5 : Cond.fieldLink RX0 9 "AffineHulls$Edge" "form" "[I" ∈ wsX0_set := by decide +kernel
set_option maxRecDepth 20000 in
theorem wd_X0_set_6 : Cond.initialized RX5 ∈ wsX0_set := by decide +kernel
set_option maxRecDepth 20000 in
theorem wd_X0_set_7 : Cond.static yX5_copy ∈ wsX0_set := by decide +kernel
abbrev rm_X0_set : Room := { frames := 2, cells := 0, slots := 0, locals := 81 }
set_option maxHeartbeats 4000000 in
set_option maxRecDepth 100000 in
theorem c_X0_set {l : Launch} {G : cx_G} {L : List Nat} {ad : Nat → Nat} {g : Nat → va_E} (hD : cx_D L ad) {k kf b n : Nat} {v w : Nat → FF} {p0 p1 p2 p3 q0 q1 q2 q3 : Int32} (h1 : k ≠ kf) (h2 : k ≠ b) (h3 : b ≠ kf) (hk : k ∈ L) (hkf : kf ∈ L) (hbm : b ∈ L) (hn : n < 1000) (c_o : g k = .inr (0, [.int q0, .int q1, .int q2, .int q3, .ref (ad kf)])) (c_f : g kf = nA G n (vN w)) (c_b : g b = nA G n (vN v)) : MV l yX0_set wsX0_set rm_X0_set G L ad g [.ref (ad k), .int p0, .int p1, .int p2, .int p3, .ref (ad b)] (fun u => (∀ j : Nat, (j ≠ k ∧ j ≠ kf) → u j = g j) ∧ u k = .inr (0, [.int p0, .int p1, .int p2, .int p3, .ref (ad kf)]) ∧ u kf = nA G n (vN (cpv n v w))) := by
  refine cx_ofV (cc := cX0_set) (maxL := 6) (by decide +kernel) rfl (Nat.le_of_ble_eq_true rfl) ?_
  intro p e s m args below meth c Q hx hb hts hown hml hP hK hS hz hret ls hl
  have hown : s.vm.findClass RX0 = some m.cls := hown
  have hl : lv_has ls 6 [(0, .ref (ad k)), (1, .int p0), (2, .int p1), (3, .int p2), (4, .int p3), (5, .ref (ad b))] := hl
  have fr : ∀ j : Nat, (j ≠ k ∧ j ≠ kf) → g j = g j := fun _ _ => rfl
  refine lv_aload_n hx hb dX0_set_0 rfl (lv_at hl 0 rfl) ?_
  refine lv_iload_n hx hb dX0_set_1 rfl (lv_at hl 1 rfl) ?_
  refine ax_put (k := k) (v := .int p0) (fs' := [.int p0, .int q1, .int q2, .int q3, .ref (ad kf)]) hx hb hts in_X0_set_X0 tyX0 tyX0_ok nmX0 hown hK hP hD hS hk c_o rfl 0 (by decide) (hts _ wd_X0_set_0) (fun _ h9 => h9) rfl (ty := .int) (by decide +kernel) rfl rfl (Nat.le_of_ble_eq_true rfl) rfl dX0_set_2 (fun H locs g1 eg1 hP hS => ?_)
  have c_f : g1 kf = nA G n (vN w) := (cx_ne eg1 kf (by omega)).trans c_f
  have c_b : g1 b = nA G n (vN v) := (cx_ne eg1 b (by omega)).trans c_b
  have c_o : g1 k = .inr (0, [.int p0, .int q1, .int q2, .int q3, .ref (ad kf)]) := cx_eq eg1
  have fr : ∀ j : Nat, (j ≠ k ∧ j ≠ kf) → g1 j = g j := fun j hj => (cx_ne eg1 j (by omega)).trans (fr j hj)
  refine lv_aload_n hx hb dX0_set_5 rfl (lv_at hl 0 rfl) ?_
  refine lv_iload_n hx hb dX0_set_6 rfl (lv_at hl 2 rfl) ?_
  refine ax_put (k := k) (v := .int p1) (fs' := [.int p0, .int p1, .int q2, .int q3, .ref (ad kf)]) hx hb hts in_X0_set_X0 tyX0 tyX0_ok nmX0 hown hK hP hD hS hk c_o rfl 1 (by decide) (hts _ wd_X0_set_2) (fun _ h9 => h9) rfl (ty := .int) (by decide +kernel) rfl rfl (Nat.le_of_ble_eq_true rfl) rfl dX0_set_7 (fun H locs g2 eg2 hP hS => ?_)
  have c_f : g2 kf = nA G n (vN w) := (cx_ne eg2 kf (by omega)).trans c_f
  have c_b : g2 b = nA G n (vN v) := (cx_ne eg2 b (by omega)).trans c_b
  have c_o : g2 k = .inr (0, [.int p0, .int p1, .int q2, .int q3, .ref (ad kf)]) := cx_eq eg2
  have fr : ∀ j : Nat, (j ≠ k ∧ j ≠ kf) → g2 j = g j := fun j hj => (cx_ne eg2 j (by omega)).trans (fr j hj)
  refine lv_aload_n hx hb dX0_set_10 rfl (lv_at hl 0 rfl) ?_
  refine lv_iload_n hx hb dX0_set_11 rfl (lv_at hl 3 rfl) ?_
  refine ax_put (k := k) (v := .int p2) (fs' := [.int p0, .int p1, .int p2, .int q3, .ref (ad kf)]) hx hb hts in_X0_set_X0 tyX0 tyX0_ok nmX0 hown hK hP hD hS hk c_o rfl 2 (by decide) (hts _ wd_X0_set_3) (fun _ h9 => h9) rfl (ty := .int) (by decide +kernel) rfl rfl (Nat.le_of_ble_eq_true rfl) rfl dX0_set_12 (fun H locs g3 eg3 hP hS => ?_)
  have c_f : g3 kf = nA G n (vN w) := (cx_ne eg3 kf (by omega)).trans c_f
  have c_b : g3 b = nA G n (vN v) := (cx_ne eg3 b (by omega)).trans c_b
  have c_o : g3 k = .inr (0, [.int p0, .int p1, .int p2, .int q3, .ref (ad kf)]) := cx_eq eg3
  have fr : ∀ j : Nat, (j ≠ k ∧ j ≠ kf) → g3 j = g j := fun j hj => (cx_ne eg3 j (by omega)).trans (fr j hj)
  refine lv_aload_n hx hb dX0_set_15 rfl (lv_at hl 0 rfl) ?_
  refine lv_iload hx hb dX0_set_16 (lv_at hl 4 rfl) ?_
  refine ax_put (k := k) (v := .int p3) (fs' := [.int p0, .int p1, .int p2, .int p3, .ref (ad kf)]) hx hb hts in_X0_set_X0 tyX0 tyX0_ok nmX0 hown hK hP hD hS hk c_o rfl 3 (by decide) (hts _ wd_X0_set_4) (fun _ h9 => h9) rfl (ty := .int) (by decide +kernel) rfl rfl (Nat.le_of_ble_eq_true rfl) rfl dX0_set_18 (fun H locs g4 eg4 hP hS => ?_)
  have c_f : g4 kf = nA G n (vN w) := (cx_ne eg4 kf (by omega)).trans c_f
  have c_b : g4 b = nA G n (vN v) := (cx_ne eg4 b (by omega)).trans c_b
  have c_o : g4 k = .inr (0, [.int p0, .int p1, .int p2, .int p3, .ref (ad kf)]) := cx_eq eg4
  have fr : ∀ j : Nat, (j ≠ k ∧ j ≠ kf) → g4 j = g j := fun j hj => (cx_ne eg4 j (by omega)).trans (fr j hj)
  refine lv_aload hx hb dX0_set_21 (lv_at hl 5 rfl) ?_
  refine lv_aload_n hx hb dX0_set_23 rfl (lv_at hl 0 rfl) ?_
  refine ax_get (k := k) (v := .ref (ad kf)) hx hb hts in_X0_set_X0 hown hK hP hk c_o rfl 4 (by decide) (hts _ wd_X0_set_5) (fun _ h9 => h9) rfl dX0_set_24 ?_
  refine cx_SNv (As := [.ref (ad b), .ref (ad kf)]) (rest := []) ⟨hx, hb, hml, hown, hts⟩ (c_X5_copy hD (a := b) (b := kf) (n := n) (v := v) (w := w) (by omega) hbm hkf hn c_b c_f) ⟨va_cnB 2 hts gX0_set_X5_copy_n28 rfl rfl rfl (hK.2 (.methodLinkNest RX0 28 yX5_copy RX5) (by decide +kernel)) (hts _ wd_X0_set_6) (by decide +kernel) ⟨Nat.le_of_ble_eq_true rfl, Nat.le_of_ble_eq_true rfl⟩, hts _ wd_X0_set_7, trivial⟩ hK hP hS hz ⟨Nat.zero_le _, Nat.zero_le _⟩ rfl hl.1 rfl (Nat.le_of_ble_eq_true rfl) dX0_set_27 (fun g5 H locs hp5 hP hS => ?_)
  obtain ⟨hp5a, hp5b⟩ := hp5
  have c_o : g5 k = .inr (0, [.int p0, .int p1, .int p2, .int p3, .ref (ad kf)]) := (hp5a k (by omega)).trans c_o
  have c_b : g5 b = nA G n (vN v) := (hp5a b (by omega)).trans c_b
  have fr : ∀ j : Nat, (j ≠ k ∧ j ≠ kf) → g5 j = g j := fun j hj => (hp5a j (by omega)).trans (fr j hj)
  have c_f := hp5b
  exact hret g5 _ _ _ _ ⟨fr, c_o, c_f⟩ hP hS dX0_set_30

set_option maxRecDepth 20000 in
theorem wd_X2_set_0 : Cond.fieldLink RX2 13 "AffineHulls$Note" "node" "I" ∈ wsX2_set := by decide +kernel
set_option maxRecDepth 20000 in
theorem in_X2_set_X2 : ∀ w ∈ u_ws RX2 TX2 2, w ∈ wsX2_set := by decide +kernel
set_option maxRecDepth 20000 in
theorem wd_X2_set_2 : Cond.fieldLink RX2 7 "AffineHulls$Note" "form" "[I" ∈ wsX2_set := by decide +kernel
set_option maxRecDepth 20000 in
theorem wd_X2_set_3 : Cond.initialized RX5 ∈ wsX2_set := by decide +kernel
set_option maxRecDepth 20000 in
theorem wd_X2_set_4 : Cond.static yX5_copy ∈ wsX2_set := by decide +kernel
abbrev rm_X2_set : Room := { frames := 2, cells := 0, slots := 0, locals := 81 }
set_option maxHeartbeats 4000000 in
set_option maxRecDepth 100000 in
theorem c_X2_set {l : Launch} {G : cx_G} {L : List Nat} {ad : Nat → Nat} {g : Nat → va_E} (hD : cx_D L ad) {k kf b n : Nat} {v w : Nat → FF} {p0 q0 : Int32} (h1 : k ≠ kf) (h2 : k ≠ b) (h3 : b ≠ kf) (hk : k ∈ L) (hkf : kf ∈ L) (hbm : b ∈ L) (hn : n < 1000) (c_o : g k = .inr (2, [.int q0, .ref (ad kf)])) (c_f : g kf = nA G n (vN w)) (c_b : g b = nA G n (vN v)) : MV l yX2_set wsX2_set rm_X2_set G L ad g [.ref (ad k), .int p0, .ref (ad b)] (fun u => (∀ j : Nat, (j ≠ k ∧ j ≠ kf) → u j = g j) ∧ u k = .inr (2, [.int p0, .ref (ad kf)]) ∧ u kf = nA G n (vN (cpv n v w))) := by
  refine cx_ofV (cc := cX2_set) (maxL := 3) (by decide +kernel) rfl (Nat.le_of_ble_eq_true rfl) ?_
  intro p e s m args below meth c Q hx hb hts hown hml hP hK hS hz hret ls hl
  have hown : s.vm.findClass RX2 = some m.cls := hown
  have hl : lv_has ls 3 [(0, .ref (ad k)), (1, .int p0), (2, .ref (ad b))] := hl
  have fr : ∀ j : Nat, (j ≠ k ∧ j ≠ kf) → g j = g j := fun _ _ => rfl
  refine lv_aload_n hx hb dX2_set_0 rfl (lv_at hl 0 rfl) ?_
  refine lv_iload_n hx hb dX2_set_1 rfl (lv_at hl 1 rfl) ?_
  refine ax_put (k := k) (v := .int p0) (fs' := [.int p0, .ref (ad kf)]) hx hb hts in_X2_set_X2 tyX2 tyX2_ok nmX2 hown hK hP hD hS hk c_o rfl 0 (by decide) (hts _ wd_X2_set_0) (fun _ h9 => h9) rfl (ty := .int) (by decide +kernel) rfl rfl (Nat.le_of_ble_eq_true rfl) rfl dX2_set_2 (fun H locs g1 eg1 hP hS => ?_)
  have c_f : g1 kf = nA G n (vN w) := (cx_ne eg1 kf (by omega)).trans c_f
  have c_b : g1 b = nA G n (vN v) := (cx_ne eg1 b (by omega)).trans c_b
  have c_o : g1 k = .inr (2, [.int p0, .ref (ad kf)]) := cx_eq eg1
  have fr : ∀ j : Nat, (j ≠ k ∧ j ≠ kf) → g1 j = g j := fun j hj => (cx_ne eg1 j (by omega)).trans (fr j hj)
  refine lv_aload_n hx hb dX2_set_5 rfl (lv_at hl 2 rfl) ?_
  refine lv_aload_n hx hb dX2_set_6 rfl (lv_at hl 0 rfl) ?_
  refine ax_get (k := k) (v := .ref (ad kf)) hx hb hts in_X2_set_X2 hown hK hP hk c_o rfl 1 (by decide) (hts _ wd_X2_set_2) (fun _ h9 => h9) rfl dX2_set_7 ?_
  refine cx_SNv (As := [.ref (ad b), .ref (ad kf)]) (rest := []) ⟨hx, hb, hml, hown, hts⟩ (c_X5_copy hD (a := b) (b := kf) (n := n) (v := v) (w := w) (by omega) hbm hkf hn c_b c_f) ⟨va_cnB 2 hts gX2_set_X5_copy_n17 rfl rfl rfl (hK.2 (.methodLinkNest RX2 17 yX5_copy RX5) (by decide +kernel)) (hts _ wd_X2_set_3) (by decide +kernel) ⟨Nat.le_of_ble_eq_true rfl, Nat.le_of_ble_eq_true rfl⟩, hts _ wd_X2_set_4, trivial⟩ hK hP hS hz ⟨Nat.zero_le _, Nat.zero_le _⟩ rfl hl.1 rfl (Nat.le_of_ble_eq_true rfl) dX2_set_10 (fun g2 H locs hp2 hP hS => ?_)
  obtain ⟨hp2a, hp2b⟩ := hp2
  have c_o : g2 k = .inr (2, [.int p0, .ref (ad kf)]) := (hp2a k (by omega)).trans c_o
  have c_b : g2 b = nA G n (vN v) := (hp2a b (by omega)).trans c_b
  have fr : ∀ j : Nat, (j ≠ k ∧ j ≠ kf) → g2 j = g j := fun j hj => (hp2a j (by omega)).trans (fr j hj)
  have c_f := hp2b
  exact hret g2 _ _ _ _ ⟨fr, c_o, c_f⟩ hP hS dX2_set_13

set_option maxRecDepth 20000 in
theorem wd_X3_set_0 : Cond.fieldLink RX3 13 "AffineHulls$Point" "node" "I" ∈ wsX3_set := by decide +kernel
set_option maxRecDepth 20000 in
theorem in_X3_set_X3 : ∀ w ∈ u_ws RX3 TX3 4, w ∈ wsX3_set := by decide +kernel
set_option maxRecDepth 20000 in
theorem wd_X3_set_2 : Cond.fieldLink RX3 17 "AffineHulls$Point" "index" "I" ∈ wsX3_set := by decide +kernel
set_option maxRecDepth 20000 in
theorem wd_X3_set_3 : Cond.fieldLink RX3 20 "AffineHulls$Point" "origin" "I" ∈ wsX3_set := by decide +kernel
set_option maxRecDepth 20000 in
theorem wd_X3_set_4 : Cond.fieldLink RX3 7 "AffineHulls$Point" "row" "[I" ∈ wsX3_set := by decide +kernel
set_option maxRecDepth 20000 in
theorem wd_X3_set_5 : Cond.initialized RX5 ∈ wsX3_set := by decide +kernel
set_option maxRecDepth 20000 in
theorem wd_X3_set_6 : Cond.static yX5_copy ∈ wsX3_set := by decide +kernel
abbrev rm_X3_set : Room := { frames := 2, cells := 0, slots := 0, locals := 81 }
set_option maxHeartbeats 4000000 in
set_option maxRecDepth 100000 in
theorem c_X3_set {l : Launch} {G : cx_G} {L : List Nat} {ad : Nat → Nat} {g : Nat → va_E} (hD : cx_D L ad) {k kf b n : Nat} {v w : Nat → FF} {p0 p1 p2 q0 q1 q2 : Int32} (h1 : k ≠ kf) (h2 : k ≠ b) (h3 : b ≠ kf) (hk : k ∈ L) (hkf : kf ∈ L) (hbm : b ∈ L) (hn : n < 1000) (c_o : g k = .inr (3, [.int q0, .int q1, .int q2, .ref (ad kf)])) (c_f : g kf = nA G n (vN w)) (c_b : g b = nA G n (vN v)) : MV l yX3_set wsX3_set rm_X3_set G L ad g [.ref (ad k), .int p0, .int p1, .int p2, .ref (ad b)] (fun u => (∀ j : Nat, (j ≠ k ∧ j ≠ kf) → u j = g j) ∧ u k = .inr (3, [.int p0, .int p1, .int p2, .ref (ad kf)]) ∧ u kf = nA G n (vN (cpv n v w))) := by
  refine cx_ofV (cc := cX3_set) (maxL := 5) (by decide +kernel) rfl (Nat.le_of_ble_eq_true rfl) ?_
  intro p e s m args below meth c Q hx hb hts hown hml hP hK hS hz hret ls hl
  have hown : s.vm.findClass RX3 = some m.cls := hown
  have hl : lv_has ls 5 [(0, .ref (ad k)), (1, .int p0), (2, .int p1), (3, .int p2), (4, .ref (ad b))] := hl
  have fr : ∀ j : Nat, (j ≠ k ∧ j ≠ kf) → g j = g j := fun _ _ => rfl
  refine lv_aload_n hx hb dX3_set_0 rfl (lv_at hl 0 rfl) ?_
  refine lv_iload_n hx hb dX3_set_1 rfl (lv_at hl 1 rfl) ?_
  refine ax_put (k := k) (v := .int p0) (fs' := [.int p0, .int q1, .int q2, .ref (ad kf)]) hx hb hts in_X3_set_X3 tyX3 tyX3_ok nmX3 hown hK hP hD hS hk c_o rfl 0 (by decide) (hts _ wd_X3_set_0) (fun _ h9 => h9) rfl (ty := .int) (by decide +kernel) rfl rfl (Nat.le_of_ble_eq_true rfl) rfl dX3_set_2 (fun H locs g1 eg1 hP hS => ?_)
  have c_f : g1 kf = nA G n (vN w) := (cx_ne eg1 kf (by omega)).trans c_f
  have c_b : g1 b = nA G n (vN v) := (cx_ne eg1 b (by omega)).trans c_b
  have c_o : g1 k = .inr (3, [.int p0, .int q1, .int q2, .ref (ad kf)]) := cx_eq eg1
  have fr : ∀ j : Nat, (j ≠ k ∧ j ≠ kf) → g1 j = g j := fun j hj => (cx_ne eg1 j (by omega)).trans (fr j hj)
  refine lv_aload_n hx hb dX3_set_5 rfl (lv_at hl 0 rfl) ?_
  refine lv_iload_n hx hb dX3_set_6 rfl (lv_at hl 2 rfl) ?_
  refine ax_put (k := k) (v := .int p1) (fs' := [.int p0, .int p1, .int q2, .ref (ad kf)]) hx hb hts in_X3_set_X3 tyX3 tyX3_ok nmX3 hown hK hP hD hS hk c_o rfl 1 (by decide) (hts _ wd_X3_set_2) (fun _ h9 => h9) rfl (ty := .int) (by decide +kernel) rfl rfl (Nat.le_of_ble_eq_true rfl) rfl dX3_set_7 (fun H locs g2 eg2 hP hS => ?_)
  have c_f : g2 kf = nA G n (vN w) := (cx_ne eg2 kf (by omega)).trans c_f
  have c_b : g2 b = nA G n (vN v) := (cx_ne eg2 b (by omega)).trans c_b
  have c_o : g2 k = .inr (3, [.int p0, .int p1, .int q2, .ref (ad kf)]) := cx_eq eg2
  have fr : ∀ j : Nat, (j ≠ k ∧ j ≠ kf) → g2 j = g j := fun j hj => (cx_ne eg2 j (by omega)).trans (fr j hj)
  refine lv_aload_n hx hb dX3_set_10 rfl (lv_at hl 0 rfl) ?_
  refine lv_iload_n hx hb dX3_set_11 rfl (lv_at hl 3 rfl) ?_
  refine ax_put (k := k) (v := .int p2) (fs' := [.int p0, .int p1, .int p2, .ref (ad kf)]) hx hb hts in_X3_set_X3 tyX3 tyX3_ok nmX3 hown hK hP hD hS hk c_o rfl 2 (by decide) (hts _ wd_X3_set_3) (fun _ h9 => h9) rfl (ty := .int) (by decide +kernel) rfl rfl (Nat.le_of_ble_eq_true rfl) rfl dX3_set_12 (fun H locs g3 eg3 hP hS => ?_)
  have c_f : g3 kf = nA G n (vN w) := (cx_ne eg3 kf (by omega)).trans c_f
  have c_b : g3 b = nA G n (vN v) := (cx_ne eg3 b (by omega)).trans c_b
  have c_o : g3 k = .inr (3, [.int p0, .int p1, .int p2, .ref (ad kf)]) := cx_eq eg3
  have fr : ∀ j : Nat, (j ≠ k ∧ j ≠ kf) → g3 j = g j := fun j hj => (cx_ne eg3 j (by omega)).trans (fr j hj)
  refine lv_aload hx hb dX3_set_15 (lv_at hl 4 rfl) ?_
  refine lv_aload_n hx hb dX3_set_17 rfl (lv_at hl 0 rfl) ?_
  refine ax_get (k := k) (v := .ref (ad kf)) hx hb hts in_X3_set_X3 hown hK hP hk c_o rfl 3 (by decide) (hts _ wd_X3_set_4) (fun _ h9 => h9) rfl dX3_set_18 ?_
  refine cx_SNv (As := [.ref (ad b), .ref (ad kf)]) (rest := []) ⟨hx, hb, hml, hown, hts⟩ (c_X5_copy hD (a := b) (b := kf) (n := n) (v := v) (w := w) (by omega) hbm hkf hn c_b c_f) ⟨va_cnB 2 hts gX3_set_X5_copy_n23 rfl rfl rfl (hK.2 (.methodLinkNest RX3 23 yX5_copy RX5) (by decide +kernel)) (hts _ wd_X3_set_5) (by decide +kernel) ⟨Nat.le_of_ble_eq_true rfl, Nat.le_of_ble_eq_true rfl⟩, hts _ wd_X3_set_6, trivial⟩ hK hP hS hz ⟨Nat.zero_le _, Nat.zero_le _⟩ rfl hl.1 rfl (Nat.le_of_ble_eq_true rfl) dX3_set_21 (fun g4 H locs hp4 hP hS => ?_)
  obtain ⟨hp4a, hp4b⟩ := hp4
  have c_o : g4 k = .inr (3, [.int p0, .int p1, .int p2, .ref (ad kf)]) := (hp4a k (by omega)).trans c_o
  have c_b : g4 b = nA G n (vN v) := (hp4a b (by omega)).trans c_b
  have fr : ∀ j : Nat, (j ≠ k ∧ j ≠ kf) → g4 j = g j := fun j hj => (hp4a j (by omega)).trans (fr j hj)
  have c_f := hp4b
  exact hret g4 _ _ _ _ ⟨fr, c_o, c_f⟩ hP hS dX3_set_24

def opn (kd : Nat) (d : FF) : Bool := if kd = 3 then decide (d = 0) else if kd = 4 then decide (d ≠ 0) else true
def stepF (n kd vr : Nat) (f : Nat → FF) (x : FF) (w : Nat → FF) : Nat → FF := if kd = 1 then nu w vr (dot f w n) else if kd = 2 then nu w vr x else w
def backF (n kd vr : Nat) (f : Nat → FF) (x : FF) (w : Nat → FF) : Nat → FF := if kd = 1 then am n (nu w vr 0) (w vr) f else if kd = 2 then nu (nu w vr 0) 0 (nu w vr 0 0 + w vr * x) else w
theorem opn_3t {kd : Nat} {d : FF} (h : kd = 3) (h2 : d.val = 0) : nI 1 = if opn kd d = true then 1 else 0 := by
  have h3 : d = 0 := Fin.ext h2
  subst h h3
  decide
theorem opn_3f {kd : Nat} {d : FF} (h : kd = 3) (h2 : d.val ≠ 0) : nI 0 = if opn kd d = true then 1 else 0 := by
  have h3 : d ≠ 0 := fun z => h2 (by rw [z]; rfl)
  have h4 : opn kd d = false := by simp [opn, h, h3]
  rw [h4]
  decide
theorem opn_4t {kd : Nat} {d : FF} (h : kd = 4) (h2 : d.val ≠ 0) : nI 1 = if opn kd d = true then 1 else 0 := by
  have h3 : d ≠ 0 := fun z => h2 (by rw [z]; rfl)
  have h4 : opn kd d = true := by simp [opn, h, h3]
  rw [h4]
  decide
theorem opn_4f {kd : Nat} {d : FF} (h : kd = 4) (h2 : d.val = 0) : nI 0 = if opn kd d = true then 1 else 0 := by
  have h3 : d = 0 := Fin.ext h2
  subst h h3
  decide
theorem opn_n {kd : Nat} {d : FF} (h : kd ≠ 3) (h2 : kd ≠ 4) : nI 1 = if opn kd d = true then 1 else 0 := by
  have h4 : opn kd d = true := by simp [opn, h, h2]
  rw [h4]
  decide
theorem ff_v0 {a : FF} : a.val = 0 ↔ a = 0 := ⟨fun h => Fin.ext h, fun h => by rw [h]; rfl⟩

set_option maxRecDepth 20000 in
theorem wd_X0_isOpen_0 : Cond.fieldLink RX0 22 "AffineHulls$Edge" "kind" "I" ∈ wsX0_isOpen := by decide +kernel
set_option maxRecDepth 20000 in
theorem in_X0_isOpen_X0 : ∀ w ∈ u_ws RX0 TX0 5, w ∈ wsX0_isOpen := by decide +kernel
set_option maxRecDepth 20000 in
theorem wd_X0_isOpen_2 : Cond.fieldLink RX0 9 "AffineHulls$Edge" "form" "[I" ∈ wsX0_isOpen := by decide +kernel
set_option maxRecDepth 20000 in
theorem wd_X0_isOpen_3 : Cond.initialized RX5 ∈ wsX0_isOpen := by decide +kernel
set_option maxRecDepth 20000 in
theorem wd_X0_isOpen_4 : Cond.static yX5_valueOf ∈ wsX0_isOpen := by decide +kernel
abbrev rm_X0_isOpen : Room := { frames := 1, cells := 0, slots := 0, locals := 24 }
set_option maxHeartbeats 4000000 in
set_option maxRecDepth 100000 in
theorem c_X0_isOpen {l : Launch} {G : cx_G} {L : List Nat} {ad : Nat → Nat} {g : Nat → va_E} (hD : cx_D L ad) {k kf b n kd : Nat} {f w : Nat → FF} {fr0 to0 vz : Int32} (hk : k ∈ L) (hkf : kf ∈ L) (hbm : b ∈ L) (hn : n < 1000) (hkd : kd < 1000) (c_o : g k = .inr (0, [.int fr0, .int to0, .int (nI kd), .int vz, .ref (ad kf)])) (c_f : g kf = nA G n (vN f)) (c_b : g b = nA G n (vN w)) : MI l yX0_isOpen wsX0_isOpen rm_X0_isOpen G L ad g [.ref (ad k), .ref (ad b)] (fun r u => r = (if opn kd (dot f w n) = true then 1 else 0) ∧ u = g) := by
  refine cx_ofI (cc := cX0_isOpen) (maxL := 2) (by decide +kernel) rfl (Nat.le_of_ble_eq_true rfl) ?_
  intro p e s m args below meth c Q hx hb hts hown hml hP hK hS hz hret ls hl
  have hown : s.vm.findClass RX0 = some m.cls := hown
  have hl : lv_has ls 2 [(0, .ref (ad k)), (1, .ref (ad b))] := hl
  refine lv_aload_n hx hb dX0_isOpen_0 rfl (lv_at hl 0 rfl) ?_
  refine ax_get (k := k) (v := .int (nI kd)) hx hb hts in_X0_isOpen_X0 hown hK hP hk c_o rfl 2 (by decide) (hts _ wd_X0_isOpen_0) (fun _ h9 => h9) rfl dX0_isOpen_1 ?_
  refine lv_iconst (v := nI 3) hx hb dX0_isOpen_4 (by decide) ?_
  refine ax_icne (a := kd) (b := 3) (tgt := 25) hx hb dX0_isOpen_5 (by decide) (by omega) (by omega) (fun h5 => ?_) (fun h5 => ?_)
  · skip
    refine lv_aload_n hx hb dX0_isOpen_25 rfl (lv_at hl 0 rfl) ?_
    refine ax_get (k := k) (v := .int (nI kd)) hx hb hts in_X0_isOpen_X0 hown hK hP hk c_o rfl 2 (by decide) (hts _ wd_X0_isOpen_0) (fun _ h9 => h9) rfl dX0_isOpen_26 ?_
    refine lv_iconst (v := nI 4) hx hb dX0_isOpen_29 (by decide) ?_
    refine ax_icne (a := kd) (b := 4) (tgt := 44) hx hb dX0_isOpen_30 (by decide) (by omega) (by omega) (fun h30 => ?_) (fun h30 => ?_)
    · skip
      refine lv_iconst (v := nI 1) hx hb dX0_isOpen_44 (by decide) ?_
      refine lv_goto (tgt := 49) hx hb dX0_isOpen_45 (by decide) ?_
      exact hret (nI 1) g _ _ _ _ (by decide) ⟨opn_n h5 h30, rfl⟩ hP hS dX0_isOpen_49
    · skip
      refine lv_aload_n hx hb dX0_isOpen_33 rfl (lv_at hl 0 rfl) ?_
      refine ax_get (k := k) (v := .ref (ad kf)) hx hb hts in_X0_isOpen_X0 hown hK hP hk c_o rfl 4 (by decide) (hts _ wd_X0_isOpen_2) (fun _ h9 => h9) rfl dX0_isOpen_34 ?_
      refine lv_aload_n hx hb dX0_isOpen_37 rfl (lv_at hl 1 rfl) ?_
      refine cx_SNi (As := [.ref (ad kf), .ref (ad b)]) (rest := []) ⟨hx, hb, hml, hown, hts⟩ (c_X5_valueOf hD (a := kf) (b := b) (n := n) (v := f) (w := w) hkf hbm hn c_f c_b) ⟨va_cnB 2 hts gX0_isOpen_X5_valueOf_n32 rfl rfl rfl (hK.2 (.methodLinkNest RX0 32 yX5_valueOf RX5) (by decide +kernel)) (hts _ wd_X0_isOpen_3) (by decide +kernel) ⟨Nat.le_of_ble_eq_true rfl, Nat.le_of_ble_eq_true rfl⟩, hts _ wd_X0_isOpen_4, trivial⟩ hK hP hS hz ⟨Nat.zero_le _, Nat.zero_le _⟩ rfl hl.1 rfl (Nat.le_of_ble_eq_true rfl) dX0_isOpen_38 (fun r1 g1 H locs hp1 hP hS => ?_)
      obtain ⟨rfl, ehp1⟩ := hp1
      rw [ehp1] at hP
      have b0 := (dot f w n).isLt
      refine ax_ifeq (a := (dot f w n).val) (tgt := 48) hx hb dX0_isOpen_41 (by decide) (by omega) (fun h41 => ?_) (fun h41 => ?_)
      · skip
        refine lv_iconst (v := nI 0) hx hb dX0_isOpen_48 (by decide) ?_
        exact hret (nI 0) g _ _ _ _ (by decide) ⟨opn_4f h30 h41, rfl⟩ hP hS dX0_isOpen_49
      · skip
        refine lv_iconst (v := nI 1) hx hb dX0_isOpen_44 (by decide) ?_
        refine lv_goto (tgt := 49) hx hb dX0_isOpen_45 (by decide) ?_
        exact hret (nI 1) g _ _ _ _ (by decide) ⟨opn_4t h30 h41, rfl⟩ hP hS dX0_isOpen_49
  · skip
    refine lv_aload_n hx hb dX0_isOpen_8 rfl (lv_at hl 0 rfl) ?_
    refine ax_get (k := k) (v := .ref (ad kf)) hx hb hts in_X0_isOpen_X0 hown hK hP hk c_o rfl 4 (by decide) (hts _ wd_X0_isOpen_2) (fun _ h9 => h9) rfl dX0_isOpen_9 ?_
    refine lv_aload_n hx hb dX0_isOpen_12 rfl (lv_at hl 1 rfl) ?_
    refine cx_SNi (As := [.ref (ad kf), .ref (ad b)]) (rest := []) ⟨hx, hb, hml, hown, hts⟩ (c_X5_valueOf hD (a := kf) (b := b) (n := n) (v := f) (w := w) hkf hbm hn c_f c_b) ⟨va_cnB 2 hts gX0_isOpen_X5_valueOf_n32 rfl rfl rfl (hK.2 (.methodLinkNest RX0 32 yX5_valueOf RX5) (by decide +kernel)) (hts _ wd_X0_isOpen_3) (by decide +kernel) ⟨Nat.le_of_ble_eq_true rfl, Nat.le_of_ble_eq_true rfl⟩, hts _ wd_X0_isOpen_4, trivial⟩ hK hP hS hz ⟨Nat.zero_le _, Nat.zero_le _⟩ rfl hl.1 rfl (Nat.le_of_ble_eq_true rfl) dX0_isOpen_13 (fun r2 g2 H locs hp2 hP hS => ?_)
    obtain ⟨rfl, ehp2⟩ := hp2
    rw [ehp2] at hP
    have b0 := (dot f w n).isLt
    refine ax_ifne (a := (dot f w n).val) (tgt := 23) hx hb dX0_isOpen_16 (by decide) (by omega) (fun h16 => ?_) (fun h16 => ?_)
    · skip
      refine lv_iconst (v := nI 0) hx hb dX0_isOpen_23 (by decide) ?_
      exact hret (nI 0) g _ _ _ _ (by decide) ⟨opn_3f h5 h16, rfl⟩ hP hS dX0_isOpen_24
    · skip
      refine lv_iconst (v := nI 1) hx hb dX0_isOpen_19 (by decide) ?_
      refine lv_goto (tgt := 24) hx hb dX0_isOpen_20 (by decide) ?_
      exact hret (nI 1) g _ _ _ _ (by decide) ⟨opn_3t h5 h16, rfl⟩ hP hS dX0_isOpen_24

set_option maxRecDepth 20000 in
theorem wd_X0_step_0 : Cond.fieldLink RX0 22 "AffineHulls$Edge" "kind" "I" ∈ wsX0_step := by decide +kernel
set_option maxRecDepth 20000 in
theorem in_X0_step_X0 : ∀ w ∈ u_ws RX0 TX0 5, w ∈ wsX0_step := by decide +kernel
set_option maxRecDepth 20000 in
theorem wd_X0_step_2 : Cond.fieldLink RX0 25 "AffineHulls$Edge" "variable" "I" ∈ wsX0_step := by decide +kernel
set_option maxRecDepth 20000 in
theorem wd_X0_step_3 : Cond.fieldLink RX0 9 "AffineHulls$Edge" "form" "[I" ∈ wsX0_step := by decide +kernel
set_option maxRecDepth 20000 in
theorem wd_X0_step_4 : Cond.initialized RX5 ∈ wsX0_step := by decide +kernel
set_option maxRecDepth 20000 in
theorem wd_X0_step_5 : Cond.static yX5_valueOf ∈ wsX0_step := by decide +kernel
abbrev rm_X0_step : Room := { frames := 1, cells := 0, slots := 0, locals := 24 }
set_option maxHeartbeats 4000000 in
set_option maxRecDepth 100000 in
theorem c_X0_step {l : Launch} {G : cx_G} {L : List Nat} {ad : Nat → Nat} {g : Nat → va_E} (hD : cx_D L ad) {k kf b n kd vr : Nat} {f w : Nat → FF} {xf : FF} {fr0 to0 vz : Int32} (h1 : b ≠ k) (h2 : b ≠ kf) (hk : k ∈ L) (hkf : kf ∈ L) (hbm : b ∈ L) (hn : n < 1000) (hkd : kd < 1000) (hv : kd = 1 ∨ kd = 2 → vz = nI vr ∧ vr < n) (c_o : g k = .inr (0, [.int fr0, .int to0, .int (nI kd), .int vz, .ref (ad kf)])) (c_f : g kf = nA G n (vN f)) (c_b : g b = nA G n (vN w)) : MV l yX0_step wsX0_step rm_X0_step G L ad g [.ref (ad k), .ref (ad b), .int (nI xf.val)] (fun u => (∀ j : Nat, j ≠ b → u j = g j) ∧ u b = nA G n (vN (stepF n kd vr f xf w))) := by
  refine cx_ofV (cc := cX0_step) (maxL := 3) (by decide +kernel) rfl (Nat.le_of_ble_eq_true rfl) ?_
  intro p e s m args below meth c Q hx hb hts hown hml hP hK hS hz hret ls hl
  have hown : s.vm.findClass RX0 = some m.cls := hown
  have hl : lv_has ls 3 [(0, .ref (ad k)), (1, .ref (ad b)), (2, .int (nI xf.val))] := hl
  have fr : ∀ j : Nat, j ≠ b → g j = g j := fun _ _ => rfl
  refine lv_aload_n hx hb dX0_step_0 rfl (lv_at hl 0 rfl) ?_
  refine ax_get (k := k) (v := .int (nI kd)) hx hb hts in_X0_step_X0 hown hK hP hk c_o rfl 2 (by decide) (hts _ wd_X0_step_0) (fun _ h9 => h9) rfl dX0_step_1 ?_
  refine lv_iconst (v := nI 1) hx hb dX0_step_4 (by decide) ?_
  refine ax_icne (a := kd) (b := 1) (tgt := 25) hx hb dX0_step_5 (by decide) (by omega) (by omega) (fun h5 => ?_) (fun h5 => ?_)
  · skip
    refine lv_aload_n hx hb dX0_step_25 rfl (lv_at hl 0 rfl) ?_
    refine ax_get (k := k) (v := .int (nI kd)) hx hb hts in_X0_step_X0 hown hK hP hk c_o rfl 2 (by decide) (hts _ wd_X0_step_0) (fun _ h9 => h9) rfl dX0_step_26 ?_
    refine lv_iconst (v := nI 2) hx hb dX0_step_29 (by decide) ?_
    refine ax_icne (a := kd) (b := 2) (tgt := 40) hx hb dX0_step_30 (by decide) (by omega) (by omega) (fun h30 => ?_) (fun h30 => ?_)
    · skip
      exact hret g _ _ _ _ ⟨fr, by rw [c_b]; unfold stepF; rw [if_neg h5, if_neg h30]⟩ hP hS dX0_step_40
    · skip
      refine lv_aload_n hx hb dX0_step_33 rfl (lv_at hl 1 rfl) ?_
      refine lv_aload_n hx hb dX0_step_34 rfl (lv_at hl 0 rfl) ?_
      refine ax_get (k := k) (v := .int vz) hx hb hts in_X0_step_X0 hown hK hP hk c_o rfl 3 (by decide) (hts _ wd_X0_step_2) (fun _ h9 => h9) rfl dX0_step_35 ?_
      obtain ⟨ev, hvn⟩ := hv (by omega)
      rw [ev]
      refine lv_iload_n hx hb dX0_step_38 rfl (lv_at hl 2 rfl) ?_
      refine ax_iast (k := b) (i := vr) (f' := (fun j => nI ((nu (vN w) vr xf.val) j))) hx hb hK hP hD hS hbm c_b (by omega) (by omega) (up_n _ _ _) dX0_step_39 (fun H locs g1 eg1 hP hS => ?_)
      have c_o : g1 k = .inr (0, [.int fr0, .int to0, .int (nI kd), .int vz, .ref (ad kf)]) := (cx_ne eg1 k (by omega)).trans c_o
      have c_f : g1 kf = nA G n (vN f) := (cx_ne eg1 kf (by omega)).trans c_f
      have c_b : g1 b = nA G n (nu (vN w) vr xf.val) := cx_eq eg1
      have fr : ∀ j : Nat, j ≠ b → g1 j = g j := fun j hj => (cx_ne eg1 j (by omega)).trans (fr j hj)
      exact hret g1 _ _ _ _ ⟨fr, by rw [c_b, vN_nu]; unfold stepF; rw [if_neg h5, if_pos h30]⟩ hP hS dX0_step_40
  · skip
    refine lv_aload_n hx hb dX0_step_8 rfl (lv_at hl 1 rfl) ?_
    refine lv_aload_n hx hb dX0_step_9 rfl (lv_at hl 0 rfl) ?_
    refine ax_get (k := k) (v := .int vz) hx hb hts in_X0_step_X0 hown hK hP hk c_o rfl 3 (by decide) (hts _ wd_X0_step_2) (fun _ h9 => h9) rfl dX0_step_10 ?_
    obtain ⟨ev, hvn⟩ := hv (by omega)
    rw [ev]
    refine lv_aload_n hx hb dX0_step_13 rfl (lv_at hl 0 rfl) ?_
    refine ax_get (k := k) (v := .ref (ad kf)) hx hb hts in_X0_step_X0 hown hK hP hk c_o rfl 4 (by decide) (hts _ wd_X0_step_3) (fun _ h9 => h9) rfl dX0_step_14 ?_
    refine lv_aload_n hx hb dX0_step_17 rfl (lv_at hl 1 rfl) ?_
    refine cx_SNi (As := [.ref (ad kf), .ref (ad b)]) (rest := [.int (nI vr), .ref (ad b)]) ⟨hx, hb, hml, hown, hts⟩ (c_X5_valueOf hD (a := kf) (b := b) (n := n) (v := f) (w := w) hkf hbm hn c_f c_b) ⟨va_cnB 2 hts gX0_step_X5_valueOf_n32 rfl rfl rfl (hK.2 (.methodLinkNest RX0 32 yX5_valueOf RX5) (by decide +kernel)) (hts _ wd_X0_step_4) (by decide +kernel) ⟨Nat.le_of_ble_eq_true rfl, Nat.le_of_ble_eq_true rfl⟩, hts _ wd_X0_step_5, trivial⟩ hK hP hS hz ⟨Nat.zero_le _, Nat.zero_le _⟩ rfl hl.1 rfl (Nat.le_of_ble_eq_true rfl) dX0_step_18 (fun r2 g2 H locs hp2 hP hS => ?_)
    obtain ⟨rfl, ehp2⟩ := hp2
    rw [ehp2] at hP
    refine ax_iast (k := b) (i := vr) (f' := (fun j => nI ((nu (vN w) vr ((dot f w n).val)) j))) hx hb hK hP hD hS hbm c_b (by omega) (by omega) (up_n _ _ _) dX0_step_21 (fun H locs g3 eg3 hP hS => ?_)
    have c_o : g3 k = .inr (0, [.int fr0, .int to0, .int (nI kd), .int vz, .ref (ad kf)]) := (cx_ne eg3 k (by omega)).trans c_o
    have c_f : g3 kf = nA G n (vN f) := (cx_ne eg3 kf (by omega)).trans c_f
    have c_b : g3 b = nA G n (nu (vN w) vr ((dot f w n).val)) := cx_eq eg3
    have fr : ∀ j : Nat, j ≠ b → g3 j = g j := fun j hj => (cx_ne eg3 j (by omega)).trans (fr j hj)
    refine lv_goto (tgt := 40) hx hb dX0_step_22 (by decide) ?_
    exact hret g3 _ _ _ _ ⟨fr, by rw [c_b, vN_nu]; unfold stepF; rw [if_pos h5]⟩ hP hS dX0_step_40

abbrev rm_J9_floorMod_7cf53 : Room := { frames := 0, cells := 0, slots := 0, locals := 0 }
set_option maxHeartbeats 4000000 in
set_option maxRecDepth 100000 in
theorem c_J9_floorMod_7cf53 {l : Launch} {G : cx_G} {L : List Nat} {ad : Nat → Nat} {g : Nat → va_E} (hD : cx_D L ad) {x : Int32} : MI l yJ9_floorMod_7cf53 wsJ9_floorMod_7cf53 rm_J9_floorMod_7cf53 G L ad g [.int x, .int (nI 65521)] (fun r u => r = nI (fi x.toInt).val ∧ u = g) := by
  refine cx_ofI (cc := cJ9_floorMod_7cf53) (maxL := 3) (by decide +kernel) rfl (Nat.le_of_ble_eq_true rfl) ?_
  intro p e s m args below meth c Q hx hb hts hown hml hP hK hS hz hret ls hl
  have hown : s.vm.findClass RJ9 = some m.cls := hown
  have hl : lv_has ls 3 [(0, .int x), (1, .int (nI 65521))] := hl
  refine lv_iload_n hx hb dJ9_floorMod_7cf53_0 rfl (lv_at hl 0 rfl) ?_
  refine lv_iload_n hx hb dJ9_floorMod_7cf53_1 rfl (lv_at hl 1 rfl) ?_
  refine lv_irem hx hb dJ9_floorMod_7cf53_2 (by decide) ?_
  refine lv_topi (fun r er => ?_)
  refine lv_istore_n (lv' := [(2, .int r), (0, .int x), (1, .int (nI 65521))]) hx hb dJ9_floorMod_7cf53_3 rfl hl (by decide) rfl (fun ls hl => ?_)
  refine lv_iload_n hx hb dJ9_floorMod_7cf53_4 rfl (lv_at hl 1 rfl) ?_
  refine lv_iload_n hx hb dJ9_floorMod_7cf53_5 rfl (lv_at hl 2 rfl) ?_
  refine lv_ixor hx hb dJ9_floorMod_7cf53_6 ?_
  refine lv_if_ge (x := x ^^^ nI 65521) (tgt := 18) hx hb dJ9_floorMod_7cf53_7 (by decide) (fun h7 => ?_) (fun h7 => ?_)
  · skip
    refine lv_iload_n hx hb dJ9_floorMod_7cf53_18 rfl (lv_at hl 0 rfl) ?_
    exact hret r g _ _ _ _ rfl ⟨fm_1 er h7, rfl⟩ hP hS dJ9_floorMod_7cf53_19
  · skip
    refine lv_iload_n hx hb dJ9_floorMod_7cf53_10 rfl (lv_at hl 0 rfl) ?_
    refine lv_if_eq (x := r) (tgt := 18) hx hb dJ9_floorMod_7cf53_11 (by decide) (fun h11 => ?_) (fun h11 => ?_)
    · skip
      refine lv_iload_n hx hb dJ9_floorMod_7cf53_18 rfl (lv_at hl 0 rfl) ?_
      exact hret r g _ _ _ _ rfl ⟨fm_2 er h11, rfl⟩ hP hS dJ9_floorMod_7cf53_19
    · skip
      refine lv_iload_n hx hb dJ9_floorMod_7cf53_14 rfl (lv_at hl 0 rfl) ?_
      refine lv_iload_n hx hb dJ9_floorMod_7cf53_15 rfl (lv_at hl 2 rfl) ?_
      refine lv_iadd hx hb dJ9_floorMod_7cf53_16 ?_
      exact hret (r + (nI 65521)) g _ _ _ _ rfl ⟨fm_3 er h7 h11, rfl⟩ hP hS dJ9_floorMod_7cf53_17

set_option maxRecDepth 20000 in
theorem wd_X5_number_0 : Cond.constant RX5 271 (65521) ∈ wsX5_number := by decide +kernel
abbrev rm_X5_number : Room := { frames := 1, cells := 0, slots := 0, locals := 22 }
set_option maxHeartbeats 4000000 in
set_option maxRecDepth 100000 in
theorem c_X5_number {l : Launch} {G : cx_G} {L : List Nat} {ad : Nat → Nat} {g : Nat → va_E} (hD : cx_D L ad) {x : Int32} : MI l yX5_number wsX5_number rm_X5_number G L ad g [.int x] (fun r u => r = nI (fi x.toInt).val ∧ u = g) := by
  refine cx_ofI (cc := cX5_number) (maxL := 1) (by decide +kernel) rfl (Nat.le_of_ble_eq_true rfl) ?_
  intro p e s m args below meth c Q hx hb hts hown hml hP hK hS hz hret ls hl
  have hown : s.vm.findClass RX5 = some m.cls := hown
  have hl : lv_has ls 1 [(0, .int x)] := hl
  refine lv_iload_n hx hb dX5_number_0 rfl (lv_at hl 0 rfl) ?_
  refine lv_ldcw (v := 65521) hx hb hown (hts _ wd_X5_number_0) dX5_number_1 ?_
  rw [show (65521 : Int32) = nI 65521 from by decide]
  refine cx_Si (As := [.int x, .int (nI 65521)]) (rest := []) ⟨hx, hb, hml, hown, hts⟩ (c_J9_floorMod_7cf53 hD (x := x)) (va_cwS 2 hts gX5_number_J9_floorMod_7cf53 rfl rfl rfl (by decide +kernel) ⟨Nat.le_of_ble_eq_true rfl, Nat.le_of_ble_eq_true rfl⟩) hK hP hS hz ⟨Nat.zero_le _, Nat.zero_le _⟩ rfl hl.1 rfl (Nat.le_of_ble_eq_true rfl) dX5_number_4 (fun r1 g1 H locs hp1 hP hS => ?_)
  obtain ⟨er1, ehp1g⟩ := hp1
  rw [ehp1g] at hP
  rw [er1]
  exact hret (nI ((fi (x).toInt).val)) g _ _ _ _ rfl ⟨rfl, rfl⟩ hP hS dX5_number_7

theorem inv_s1 {x pv sv : FF} {R : Nat} (h : pv * ff_pow sv R = finv x) (h1 : R % 2 = 1) : (pv * sv) * ff_pow (sv * sv) (R / 2) = finv x := by
  rw [← h, ff_pow_half sv R, if_pos h1]
  grind
theorem inv_s0 {x pv sv : FF} {R : Nat} (h : pv * ff_pow sv R = finv x) (h1 : R % 2 ≠ 1) : pv * ff_pow (sv * sv) (R / 2) = finv x := by
  rw [← h, ff_pow_half sv R, if_neg h1]
  grind
theorem inv_e {x pv sv : FF} {R : Nat} (h : pv * ff_pow sv R = finv x) (h1 : R = 0) : pv = finv x := by
  subst h1
  rw [← h]
  show pv = pv * 1
  grind
theorem inv_0 (x : FF) : 1 * ff_pow x 65519 = finv x := by
  show 1 * ff_pow x 65519 = ff_pow x 65519
  grind
theorem fv_mul (a b : FF) : a.val * b.val % 65521 = (a * b).val := (Fin.val_mul a b).symm
theorem fv_le (a b : FF) : a.val * b.val ≤ 65521 * 65521 := mul_le3 (Nat.le_of_lt a.isLt) (Nat.le_of_lt b.isLt)

set_option maxRecDepth 20000 in
theorem wd_X5_inverse_0 : Cond.constant RX5 283 (65519) ∈ wsX5_inverse := by decide +kernel
set_option maxRecDepth 20000 in
theorem wd_X5_inverse_1 : Cond.constantLong RX5 275 (65521) ∈ wsX5_inverse := by decide +kernel
abbrev rm_X5_inverse : Room := { frames := 0, cells := 0, slots := 0, locals := 0 }
set_option maxHeartbeats 4000000 in
set_option maxRecDepth 100000 in
theorem c_X5_inverse {l : Launch} {G : cx_G} {L : List Nat} {ad : Nat → Nat} {g : Nat → va_E} (hD : cx_D L ad) {x : FF} : MI l yX5_inverse wsX5_inverse rm_X5_inverse G L ad g [.int (nI x.val)] (fun r u => r = nI (finv x).val ∧ u = g) := by
  refine cx_ofI (cc := cX5_inverse) (maxL := 6) (by decide +kernel) rfl (Nat.le_of_ble_eq_true rfl) ?_
  intro p e s m args below meth c Q hx hb hts hown hml hP hK hS hz hret ls hl
  have hown : s.vm.findClass RX5 = some m.cls := hown
  have hl : lv_has ls 6 [(0, .int (nI x.val))] := hl
  refine lv_lconst (v := lN 1) hx hb dX5_inverse_0 rfl ?_
  refine lv_lstore_n (lv' := [(1, .long (lN 1)), (0, .int (nI x.val))]) hx hb dX5_inverse_1 rfl hl (by decide) rfl (fun ls hl => ?_)
  refine lv_iload_n hx hb dX5_inverse_2 rfl (lv_at hl 1 rfl) ?_
  have bx := x.isLt
  refine ax_i2l (a := x.val) hx hb dX5_inverse_3 (by omega) ?_
  refine lv_lstore_n (lv' := [(3, .long (lN x.val)), (1, .long (lN 1)), (0, .int (nI x.val))]) hx hb dX5_inverse_4 rfl hl (by decide) rfl (fun ls hl => ?_)
  refine lv_ldcw (v := 65519) hx hb hown (hts _ wd_X5_inverse_0) dX5_inverse_5 ?_
  rw [show (65519 : Int32) = nI 65519 from by decide]
  refine lv_istore (lv' := [(5, .int (nI 65519)), (3, .long (lN x.val)), (1, .long (lN 1)), (0, .int (nI x.val))]) hx hb dX5_inverse_8 hl (by decide) rfl (fun ls hl => ?_)
  have LP10 : ∀ (fu : Nat) (R : Nat) (pv : FF) (sv : FF), (R < 65520) → (pv * ff_pow sv R = finv x) → R < fu → ∀ (ls : Array Slot), lv_has ls 6 [(5, .int (nI R)), (3, .long (lN sv.val)), (1, .long (lN pv.val)), (0, .int (nI x.val))] → W p l e rm_X5_inverse s m args below meth c s.heap [] 0 0 Q (F0 m 10 ls []) := by
    intro fu
    induction fu with
    | zero => intro R pv sv hR hi hfu; exact absurd hfu (Nat.not_lt_zero _)
    | succ fu ih10 =>
      intro R pv sv hR hi hfu10 ls hl
      refine lv_iload hx hb dX5_inverse_10 (lv_at hl 0 rfl) ?_
      refine ax_ifle (a := R) (tgt := 48) hx hb dX5_inverse_12 (by decide) (by omega) (fun h12 => ?_) (fun h12 => ?_)
      · skip
        refine lv_lload_n hx hb dX5_inverse_48 rfl (lv_at hl 2 rfl) ?_
        refine ax_l2i (a := pv.val) hx hb dX5_inverse_49 ?_
        exact hret (nI pv.val) g _ _ _ _ rfl ⟨by rw [inv_e hi h12], rfl⟩ hP hS dX5_inverse_50
      · skip
        refine lv_iload hx hb dX5_inverse_15 (lv_at hl 0 rfl) ?_
        refine lv_iconst (v := nI 1) hx hb dX5_inverse_17 (by decide) ?_
        refine lv_iand hx hb dX5_inverse_18 ?_
        rw [pk_andN (n := R) (by omega) 1 (by decide)]
        refine lv_iconst (v := nI 1) hx hb dX5_inverse_19 (by decide) ?_
        refine ax_icne (a := R % 2 ^ 1) (b := 1) (tgt := 31) hx hb dX5_inverse_20 (by decide) (by omega) (by omega) (fun h20 => ?_) (fun h20 => ?_)
        · skip
          have bs := fv_le sv sv
          refine lv_lload_n hx hb dX5_inverse_31 rfl (lv_at hl 1 rfl) ?_
          refine lv_lload_n hx hb dX5_inverse_32 rfl (lv_at hl 1 rfl) ?_
          refine ax_lmul (a := sv.val) (b := sv.val) hx hb dX5_inverse_33 ?_
          refine lv_ldc2 (v := 65521) hx hb hown (hts _ wd_X5_inverse_1) dX5_inverse_34 ?_
          refine ax_lremM (a := sv.val * sv.val) hx hb dX5_inverse_37 (by omega) ?_
          rw [fv_mul sv sv]
          refine lv_lstore_n (lv' := [(3, .long (lN ((sv * sv).val))), (5, .int (nI R)), (1, .long (lN pv.val)), (0, .int (nI x.val))]) hx hb dX5_inverse_38 rfl hl (by decide) rfl (fun ls hl => ?_)
          refine lv_iload hx hb dX5_inverse_39 (lv_at hl 1 rfl) ?_
          refine lv_iconst (v := nI 1) hx hb dX5_inverse_41 (by decide) ?_
          refine lv_ishr hx hb dX5_inverse_42 ?_
          rw [pk_shrN (n := R) (by omega) (nI 1 &&& 31) 1 (by decide)]
          refine lv_istore (lv' := [(5, .int (nI (R / 2 ^ 1))), (3, .long (lN ((sv * sv).val))), (1, .long (lN pv.val)), (0, .int (nI x.val))]) hx hb dX5_inverse_43 hl (by decide) rfl (fun ls hl => ?_)
          refine lv_goto (tgt := 10) hx hb dX5_inverse_45 (by decide) ?_
          exact ih10 (R / 2 ^ 1) pv (sv * sv) (by omega) (inv_s0 hi h20) (by omega) _ (lv_sub hl [0, 1, 2, 3] rfl)
        · skip
          have bp := fv_le pv sv
          refine lv_lload_n hx hb dX5_inverse_23 rfl (lv_at hl 2 rfl) ?_
          refine lv_lload_n hx hb dX5_inverse_24 rfl (lv_at hl 1 rfl) ?_
          refine ax_lmul (a := pv.val) (b := sv.val) hx hb dX5_inverse_25 ?_
          refine lv_ldc2 (v := 65521) hx hb hown (hts _ wd_X5_inverse_1) dX5_inverse_26 ?_
          refine ax_lremM (a := pv.val * sv.val) hx hb dX5_inverse_29 (by omega) ?_
          rw [fv_mul pv sv]
          refine lv_lstore_n (lv' := [(1, .long (lN ((pv * sv).val))), (5, .int (nI R)), (3, .long (lN sv.val)), (0, .int (nI x.val))]) hx hb dX5_inverse_30 rfl hl (by decide) rfl (fun ls hl => ?_)
          have bs := fv_le sv sv
          refine lv_lload_n hx hb dX5_inverse_31 rfl (lv_at hl 2 rfl) ?_
          refine lv_lload_n hx hb dX5_inverse_32 rfl (lv_at hl 2 rfl) ?_
          refine ax_lmul (a := sv.val) (b := sv.val) hx hb dX5_inverse_33 ?_
          refine lv_ldc2 (v := 65521) hx hb hown (hts _ wd_X5_inverse_1) dX5_inverse_34 ?_
          refine ax_lremM (a := sv.val * sv.val) hx hb dX5_inverse_37 (by omega) ?_
          rw [fv_mul sv sv]
          refine lv_lstore_n (lv' := [(3, .long (lN ((sv * sv).val))), (1, .long (lN ((pv * sv).val))), (5, .int (nI R)), (0, .int (nI x.val))]) hx hb dX5_inverse_38 rfl hl (by decide) rfl (fun ls hl => ?_)
          refine lv_iload hx hb dX5_inverse_39 (lv_at hl 2 rfl) ?_
          refine lv_iconst (v := nI 1) hx hb dX5_inverse_41 (by decide) ?_
          refine lv_ishr hx hb dX5_inverse_42 ?_
          rw [pk_shrN (n := R) (by omega) (nI 1 &&& 31) 1 (by decide)]
          refine lv_istore (lv' := [(5, .int (nI (R / 2 ^ 1))), (3, .long (lN ((sv * sv).val))), (1, .long (lN ((pv * sv).val))), (0, .int (nI x.val))]) hx hb dX5_inverse_43 hl (by decide) rfl (fun ls hl => ?_)
          refine lv_goto (tgt := 10) hx hb dX5_inverse_45 (by decide) ?_
          exact ih10 (R / 2 ^ 1) (pv * sv) (sv * sv) (by omega) (inv_s1 hi h20) (by omega) _ (lv_sub hl [0, 1, 2, 3] rfl)
  exact LP10 (65519 + 1) 65519 1 x (by decide) (inv_0 x) (Nat.lt_succ_self _) _ (lv_sub hl [0, 1, 2, 3] rfl)

theorem back_num (u w : Nat → FF) (i j : Nat) {xn : Nat} (h : xn ≤ 1) : (fi (nI (vN u i + vN w j * xn)).toInt).val = (u i + w j * ff xn).val := by
  have ha := (u i).isLt
  have hb := (w j).isLt
  have h2 : (w j).val * xn ≤ 65521 * 1 := mul_le3 (Nat.le_of_lt hb) h
  show (fi (nI ((u i).val + (w j).val * xn)).toInt).val = _
  rw [nI_toInt (by omega), fi_nat, ff_add, ff_mul, ff_of, ff_of]

set_option maxRecDepth 20000 in
theorem wd_X0_stepBack_0 : Cond.fieldLink RX0 22 "AffineHulls$Edge" "kind" "I" ∈ wsX0_stepBack := by decide +kernel
set_option maxRecDepth 20000 in
theorem in_X0_stepBack_X0 : ∀ w ∈ u_ws RX0 TX0 5, w ∈ wsX0_stepBack := by decide +kernel
set_option maxRecDepth 20000 in
theorem wd_X0_stepBack_2 : Cond.fieldLink RX0 25 "AffineHulls$Edge" "variable" "I" ∈ wsX0_stepBack := by decide +kernel
set_option maxRecDepth 20000 in
theorem wd_X0_stepBack_3 : Cond.initialized RX5 ∈ wsX0_stepBack := by decide +kernel
set_option maxRecDepth 20000 in
theorem wd_X0_stepBack_4 : Cond.static yX5_number ∈ wsX0_stepBack := by decide +kernel
set_option maxRecDepth 20000 in
theorem wd_X0_stepBack_5 : Cond.fieldLink RX0 9 "AffineHulls$Edge" "form" "[I" ∈ wsX0_stepBack := by decide +kernel
set_option maxRecDepth 20000 in
theorem wd_X0_stepBack_6 : Cond.static yX5_addMultiple ∈ wsX0_stepBack := by decide +kernel
abbrev rm_X0_stepBack : Room := { frames := 2, cells := 0, slots := 0, locals := 42 }
set_option maxHeartbeats 4000000 in
set_option maxRecDepth 100000 in
theorem c_X0_stepBack {l : Launch} {G : cx_G} {L : List Nat} {ad : Nat → Nat} {g : Nat → va_E} (hD : cx_D L ad) {k kf b n kd vr xn : Nat} {f w : Nat → FF} {fr0 to0 vz : Int32} (h1 : b ≠ k) (h2 : b ≠ kf) (hk : k ∈ L) (hkf : kf ∈ L) (hbm : b ∈ L) (hn : n < 1000) (hn0 : 0 < n) (hkd : kd < 1000) (hx1 : xn ≤ 1) (hv : kd = 1 ∨ kd = 2 → vz = nI vr ∧ vr < n) (c_o : g k = .inr (0, [.int fr0, .int to0, .int (nI kd), .int vz, .ref (ad kf)])) (c_f : g kf = nA G n (vN f)) (c_b : g b = nA G n (vN w)) : MV l yX0_stepBack wsX0_stepBack rm_X0_stepBack G L ad g [.ref (ad k), .ref (ad b), .int (nI xn)] (fun u => (∀ j : Nat, j ≠ b → u j = g j) ∧ u b = nA G n (vN (backF n kd vr f (ff xn) w))) := by
  refine cx_ofV (cc := cX0_stepBack) (maxL := 4) (by decide +kernel) rfl (Nat.le_of_ble_eq_true rfl) ?_
  intro p e s m args below meth c Q hx hb hts hown hml hP hK hS hz hret ls hl
  have hown : s.vm.findClass RX0 = some m.cls := hown
  have hl : lv_has ls 4 [(0, .ref (ad k)), (1, .ref (ad b)), (2, .int (nI xn))] := hl
  have fr : ∀ j : Nat, j ≠ b → g j = g j := fun _ _ => rfl
  refine lv_aload_n hx hb dX0_stepBack_0 rfl (lv_at hl 0 rfl) ?_
  refine ax_get (k := k) (v := .int (nI kd)) hx hb hts in_X0_stepBack_X0 hown hK hP hk c_o rfl 2 (by decide) (hts _ wd_X0_stepBack_0) (fun _ h9 => h9) rfl dX0_stepBack_1 ?_
  refine lv_iconst (v := nI 1) hx hb dX0_stepBack_4 (by decide) ?_
  refine ax_iceq (a := kd) (b := 1) (tgt := 17) hx hb dX0_stepBack_5 (by decide) (by omega) (by omega) (fun h5 => ?_) (fun h5 => ?_)
  · skip
    refine lv_aload_n hx hb dX0_stepBack_17 rfl (lv_at hl 1 rfl) ?_
    refine lv_aload_n hx hb dX0_stepBack_18 rfl (lv_at hl 0 rfl) ?_
    refine ax_get (k := k) (v := .int vz) hx hb hts in_X0_stepBack_X0 hown hK hP hk c_o rfl 3 (by decide) (hts _ wd_X0_stepBack_2) (fun _ h9 => h9) rfl dX0_stepBack_19 ?_
    obtain ⟨ev, hvn⟩ := hv (by omega)
    rw [ev]
    refine ax_iald (k := b) (i := vr) (v := nI ((vN w) vr)) hx hb hK hP hbm c_b (by omega) (by omega) rfl dX0_stepBack_22 ?_
    refine lv_istore_n (lv' := [(3, .int (nI ((vN w) vr))), (0, .ref (ad k)), (1, .ref (ad b)), (2, .int (nI xn))]) hx hb dX0_stepBack_23 rfl hl (by decide) rfl (fun ls hl => ?_)
    refine lv_aload_n hx hb dX0_stepBack_24 rfl (lv_at hl 2 rfl) ?_
    refine lv_aload_n hx hb dX0_stepBack_25 rfl (lv_at hl 1 rfl) ?_
    refine ax_get (k := k) (v := .int vz) hx hb hts in_X0_stepBack_X0 hown hK hP hk c_o rfl 3 (by decide) (hts _ wd_X0_stepBack_2) (fun _ h9 => h9) rfl dX0_stepBack_26 ?_
    obtain ⟨ev, hvn⟩ := hv (by omega)
    rw [ev]
    refine lv_iconst (v := nI 0) hx hb dX0_stepBack_29 (by decide) ?_
    refine ax_iast (k := b) (i := vr) (f' := (fun j => nI ((nu (vN w) vr 0) j))) hx hb hK hP hD hS hbm c_b (by omega) (by omega) (up_n _ _ _) dX0_stepBack_30 (fun H locs g1 eg1 hP hS => ?_)
    have c_o : g1 k = .inr (0, [.int fr0, .int to0, .int (nI kd), .int vz, .ref (ad kf)]) := (cx_ne eg1 k (by omega)).trans c_o
    have c_f : g1 kf = nA G n (vN f) := (cx_ne eg1 kf (by omega)).trans c_f
    have c_b : g1 b = nA G n (nu (vN w) vr 0) := cx_eq eg1
    have fr : ∀ j : Nat, j ≠ b → g1 j = g j := fun j hj => (cx_ne eg1 j (by omega)).trans (fr j hj)
    have c_b : g1 b = nA G n (vN (nu w vr 0)) := by rw [← vN_nu]; exact c_b
    refine lv_aload_n hx hb dX0_stepBack_31 rfl (lv_at hl 1 rfl) ?_
    refine ax_get (k := k) (v := .int (nI kd)) hx hb hts in_X0_stepBack_X0 hown hK hP hk c_o rfl 2 (by decide) (hts _ wd_X0_stepBack_0) (fun _ h9 => h9) rfl dX0_stepBack_32 ?_
    refine lv_iconst (v := nI 1) hx hb dX0_stepBack_35 (by decide) ?_
    refine ax_icne (a := kd) (b := 1) (tgt := 51) hx hb dX0_stepBack_36 (by decide) (by omega) (by omega) (fun h36 => ?_) (fun h36 => ?_)
    · skip
      refine lv_aload_n hx hb dX0_stepBack_51 rfl (lv_at hl 2 rfl) ?_
      refine lv_iconst (v := nI 0) hx hb dX0_stepBack_52 (by decide) ?_
      refine lv_aload_n hx hb dX0_stepBack_53 rfl (lv_at hl 2 rfl) ?_
      refine lv_iconst (v := nI 0) hx hb dX0_stepBack_54 (by decide) ?_
      refine ax_iald (k := b) (i := 0) (v := nI ((vN (nu w vr 0)) 0)) hx hb hK hP hbm c_b (by omega) (by omega) rfl dX0_stepBack_55 ?_
      refine lv_iload_n hx hb dX0_stepBack_56 rfl (lv_at hl 0 rfl) ?_
      refine lv_iload_n hx hb dX0_stepBack_57 rfl (lv_at hl 3 rfl) ?_
      refine ax_mul (a := (vN w) vr) (b := xn) hx hb dX0_stepBack_58 ?_
      refine ax_add (a := (vN (nu w vr 0)) 0) (b := ((vN w) vr) * xn) hx hb dX0_stepBack_59 ?_
      refine cx_SNi (As := [.int (nI ((vN (nu w vr 0)) 0 + (((vN w) vr) * xn)))]) (rest := [.int (nI 0), .ref (ad b)]) ⟨hx, hb, hml, hown, hts⟩ (c_X5_number hD (x := nI ((vN (nu w vr 0)) 0 + (((vN w) vr) * xn)))) ⟨va_cnB 1 hts gX0_stepBack_X5_number_n40 rfl rfl rfl (hK.2 (.methodLinkNest RX0 40 yX5_number RX5) (by decide +kernel)) (hts _ wd_X0_stepBack_3) (by decide +kernel) ⟨Nat.le_of_ble_eq_true rfl, Nat.le_of_ble_eq_true rfl⟩, hts _ wd_X0_stepBack_4, trivial⟩ hK hP hS hz ⟨Nat.zero_le _, Nat.zero_le _⟩ rfl hl.1 rfl (Nat.le_of_ble_eq_true rfl) dX0_stepBack_60 (fun r2 g2 H locs hp2 hP hS => ?_)
      obtain ⟨er2, ehp2g⟩ := hp2
      rw [ehp2g] at hP
      rw [er2]
      rw [back_num (nu w vr 0) w 0 vr hx1]
      refine ax_iast (k := b) (i := 0) (f' := (fun j => nI ((nu (vN (nu w vr 0)) 0 ((nu w vr 0 0 + w vr * ff xn).val)) j))) hx hb hK hP hD hS hbm c_b (by omega) (by omega) (up_n _ _ _) dX0_stepBack_63 (fun H locs g3 eg3 hP hS => ?_)
      have c_o : g3 k = .inr (0, [.int fr0, .int to0, .int (nI kd), .int vz, .ref (ad kf)]) := (cx_ne eg3 k (by omega)).trans c_o
      have c_f : g3 kf = nA G n (vN f) := (cx_ne eg3 kf (by omega)).trans c_f
      have c_b : g3 b = nA G n (nu (vN (nu w vr 0)) 0 ((nu w vr 0 0 + w vr * ff xn).val)) := cx_eq eg3
      have fr : ∀ j : Nat, j ≠ b → g3 j = g j := fun j hj => (cx_ne eg3 j (by omega)).trans (fr j hj)
      exact hret g3 _ _ _ _ ⟨fr, by rw [c_b, vN_nu]; unfold backF; rw [if_neg h36, if_pos (by omega)]⟩ hP hS dX0_stepBack_64
    · skip
      refine lv_aload_n hx hb dX0_stepBack_39 rfl (lv_at hl 2 rfl) ?_
      refine lv_iload_n hx hb dX0_stepBack_40 rfl (lv_at hl 0 rfl) ?_
      refine lv_aload_n hx hb dX0_stepBack_41 rfl (lv_at hl 1 rfl) ?_
      refine ax_get (k := k) (v := .ref (ad kf)) hx hb hts in_X0_stepBack_X0 hown hK hP hk c_o rfl 4 (by decide) (hts _ wd_X0_stepBack_5) (fun _ h9 => h9) rfl dX0_stepBack_42 ?_
      refine cx_SNv (As := [.ref (ad b), .int (nI ((vN w) vr)), .ref (ad kf)]) (rest := []) ⟨hx, hb, hml, hown, hts⟩ (c_X5_addMultiple hD (a := b) (b := kf) (n := n) (f := vN w vr) (v := nu w vr 0) (w := f) (cf := w vr) h2 hbm hkf hn (Nat.le_of_lt (vN_lt w vr)) (ff_of _) c_b c_f) ⟨va_cnB 3 hts gX0_stepBack_X5_addMultiple_n36 rfl rfl rfl (hK.2 (.methodLinkNest RX0 36 yX5_addMultiple RX5) (by decide +kernel)) (hts _ wd_X0_stepBack_3) (by decide +kernel) ⟨Nat.le_of_ble_eq_true rfl, Nat.le_of_ble_eq_true rfl⟩, hts _ wd_X0_stepBack_6, trivial⟩ hK hP hS hz ⟨Nat.zero_le _, Nat.zero_le _⟩ rfl hl.1 rfl (Nat.le_of_ble_eq_true rfl) dX0_stepBack_45 (fun g4 H locs hp4 hP hS => ?_)
      obtain ⟨hp4a, hp4b⟩ := hp4
      have c_o : g4 k = .inr (0, [.int fr0, .int to0, .int (nI kd), .int vz, .ref (ad kf)]) := (hp4a k (by omega)).trans c_o
      have c_f : g4 kf = nA G n (vN f) := (hp4a kf (by omega)).trans c_f
      have fr : ∀ j : Nat, j ≠ b → g4 j = g j := fun j hj => (hp4a j (by omega)).trans (fr j hj)
      have c_b := hp4b
      refine lv_goto (tgt := 64) hx hb dX0_stepBack_48 (by decide) ?_
      exact hret g4 _ _ _ _ ⟨fr, by rw [c_b]; unfold backF; rw [if_pos h36]⟩ hP hS dX0_stepBack_64
  · skip
    refine lv_aload_n hx hb dX0_stepBack_8 rfl (lv_at hl 0 rfl) ?_
    refine ax_get (k := k) (v := .int (nI kd)) hx hb hts in_X0_stepBack_X0 hown hK hP hk c_o rfl 2 (by decide) (hts _ wd_X0_stepBack_0) (fun _ h9 => h9) rfl dX0_stepBack_9 ?_
    refine lv_iconst (v := nI 2) hx hb dX0_stepBack_12 (by decide) ?_
    refine ax_iceq (a := kd) (b := 2) (tgt := 17) hx hb dX0_stepBack_13 (by decide) (by omega) (by omega) (fun h13 => ?_) (fun h13 => ?_)
    · skip
      refine lv_aload_n hx hb dX0_stepBack_17 rfl (lv_at hl 1 rfl) ?_
      refine lv_aload_n hx hb dX0_stepBack_18 rfl (lv_at hl 0 rfl) ?_
      refine ax_get (k := k) (v := .int vz) hx hb hts in_X0_stepBack_X0 hown hK hP hk c_o rfl 3 (by decide) (hts _ wd_X0_stepBack_2) (fun _ h9 => h9) rfl dX0_stepBack_19 ?_
      obtain ⟨ev, hvn⟩ := hv (by omega)
      rw [ev]
      refine ax_iald (k := b) (i := vr) (v := nI ((vN w) vr)) hx hb hK hP hbm c_b (by omega) (by omega) rfl dX0_stepBack_22 ?_
      refine lv_istore_n (lv' := [(3, .int (nI ((vN w) vr))), (0, .ref (ad k)), (1, .ref (ad b)), (2, .int (nI xn))]) hx hb dX0_stepBack_23 rfl hl (by decide) rfl (fun ls hl => ?_)
      refine lv_aload_n hx hb dX0_stepBack_24 rfl (lv_at hl 2 rfl) ?_
      refine lv_aload_n hx hb dX0_stepBack_25 rfl (lv_at hl 1 rfl) ?_
      refine ax_get (k := k) (v := .int vz) hx hb hts in_X0_stepBack_X0 hown hK hP hk c_o rfl 3 (by decide) (hts _ wd_X0_stepBack_2) (fun _ h9 => h9) rfl dX0_stepBack_26 ?_
      obtain ⟨ev, hvn⟩ := hv (by omega)
      rw [ev]
      refine lv_iconst (v := nI 0) hx hb dX0_stepBack_29 (by decide) ?_
      refine ax_iast (k := b) (i := vr) (f' := (fun j => nI ((nu (vN w) vr 0) j))) hx hb hK hP hD hS hbm c_b (by omega) (by omega) (up_n _ _ _) dX0_stepBack_30 (fun H locs g5 eg5 hP hS => ?_)
      have c_o : g5 k = .inr (0, [.int fr0, .int to0, .int (nI kd), .int vz, .ref (ad kf)]) := (cx_ne eg5 k (by omega)).trans c_o
      have c_f : g5 kf = nA G n (vN f) := (cx_ne eg5 kf (by omega)).trans c_f
      have c_b : g5 b = nA G n (nu (vN w) vr 0) := cx_eq eg5
      have fr : ∀ j : Nat, j ≠ b → g5 j = g j := fun j hj => (cx_ne eg5 j (by omega)).trans (fr j hj)
      have c_b : g5 b = nA G n (vN (nu w vr 0)) := by rw [← vN_nu]; exact c_b
      refine lv_aload_n hx hb dX0_stepBack_31 rfl (lv_at hl 1 rfl) ?_
      refine ax_get (k := k) (v := .int (nI kd)) hx hb hts in_X0_stepBack_X0 hown hK hP hk c_o rfl 2 (by decide) (hts _ wd_X0_stepBack_0) (fun _ h9 => h9) rfl dX0_stepBack_32 ?_
      refine lv_iconst (v := nI 1) hx hb dX0_stepBack_35 (by decide) ?_
      refine ax_icne (a := kd) (b := 1) (tgt := 51) hx hb dX0_stepBack_36 (by decide) (by omega) (by omega) (fun h36 => ?_) (fun h36 => ?_)
      · skip
        refine lv_aload_n hx hb dX0_stepBack_51 rfl (lv_at hl 2 rfl) ?_
        refine lv_iconst (v := nI 0) hx hb dX0_stepBack_52 (by decide) ?_
        refine lv_aload_n hx hb dX0_stepBack_53 rfl (lv_at hl 2 rfl) ?_
        refine lv_iconst (v := nI 0) hx hb dX0_stepBack_54 (by decide) ?_
        refine ax_iald (k := b) (i := 0) (v := nI ((vN (nu w vr 0)) 0)) hx hb hK hP hbm c_b (by omega) (by omega) rfl dX0_stepBack_55 ?_
        refine lv_iload_n hx hb dX0_stepBack_56 rfl (lv_at hl 0 rfl) ?_
        refine lv_iload_n hx hb dX0_stepBack_57 rfl (lv_at hl 3 rfl) ?_
        refine ax_mul (a := (vN w) vr) (b := xn) hx hb dX0_stepBack_58 ?_
        refine ax_add (a := (vN (nu w vr 0)) 0) (b := ((vN w) vr) * xn) hx hb dX0_stepBack_59 ?_
        refine cx_SNi (As := [.int (nI ((vN (nu w vr 0)) 0 + (((vN w) vr) * xn)))]) (rest := [.int (nI 0), .ref (ad b)]) ⟨hx, hb, hml, hown, hts⟩ (c_X5_number hD (x := nI ((vN (nu w vr 0)) 0 + (((vN w) vr) * xn)))) ⟨va_cnB 1 hts gX0_stepBack_X5_number_n40 rfl rfl rfl (hK.2 (.methodLinkNest RX0 40 yX5_number RX5) (by decide +kernel)) (hts _ wd_X0_stepBack_3) (by decide +kernel) ⟨Nat.le_of_ble_eq_true rfl, Nat.le_of_ble_eq_true rfl⟩, hts _ wd_X0_stepBack_4, trivial⟩ hK hP hS hz ⟨Nat.zero_le _, Nat.zero_le _⟩ rfl hl.1 rfl (Nat.le_of_ble_eq_true rfl) dX0_stepBack_60 (fun r6 g6 H locs hp6 hP hS => ?_)
        obtain ⟨er6, ehp6g⟩ := hp6
        rw [ehp6g] at hP
        rw [er6]
        rw [back_num (nu w vr 0) w 0 vr hx1]
        refine ax_iast (k := b) (i := 0) (f' := (fun j => nI ((nu (vN (nu w vr 0)) 0 ((nu w vr 0 0 + w vr * ff xn).val)) j))) hx hb hK hP hD hS hbm c_b (by omega) (by omega) (up_n _ _ _) dX0_stepBack_63 (fun H locs g7 eg7 hP hS => ?_)
        have c_o : g7 k = .inr (0, [.int fr0, .int to0, .int (nI kd), .int vz, .ref (ad kf)]) := (cx_ne eg7 k (by omega)).trans c_o
        have c_f : g7 kf = nA G n (vN f) := (cx_ne eg7 kf (by omega)).trans c_f
        have c_b : g7 b = nA G n (nu (vN (nu w vr 0)) 0 ((nu w vr 0 0 + w vr * ff xn).val)) := cx_eq eg7
        have fr : ∀ j : Nat, j ≠ b → g7 j = g j := fun j hj => (cx_ne eg7 j (by omega)).trans (fr j hj)
        exact hret g7 _ _ _ _ ⟨fr, by rw [c_b, vN_nu]; unfold backF; rw [if_neg h36, if_pos (by omega)]⟩ hP hS dX0_stepBack_64
      · skip
        refine lv_aload_n hx hb dX0_stepBack_39 rfl (lv_at hl 2 rfl) ?_
        refine lv_iload_n hx hb dX0_stepBack_40 rfl (lv_at hl 0 rfl) ?_
        refine lv_aload_n hx hb dX0_stepBack_41 rfl (lv_at hl 1 rfl) ?_
        refine ax_get (k := k) (v := .ref (ad kf)) hx hb hts in_X0_stepBack_X0 hown hK hP hk c_o rfl 4 (by decide) (hts _ wd_X0_stepBack_5) (fun _ h9 => h9) rfl dX0_stepBack_42 ?_
        refine cx_SNv (As := [.ref (ad b), .int (nI ((vN w) vr)), .ref (ad kf)]) (rest := []) ⟨hx, hb, hml, hown, hts⟩ (c_X5_addMultiple hD (a := b) (b := kf) (n := n) (f := vN w vr) (v := nu w vr 0) (w := f) (cf := w vr) h2 hbm hkf hn (Nat.le_of_lt (vN_lt w vr)) (ff_of _) c_b c_f) ⟨va_cnB 3 hts gX0_stepBack_X5_addMultiple_n36 rfl rfl rfl (hK.2 (.methodLinkNest RX0 36 yX5_addMultiple RX5) (by decide +kernel)) (hts _ wd_X0_stepBack_3) (by decide +kernel) ⟨Nat.le_of_ble_eq_true rfl, Nat.le_of_ble_eq_true rfl⟩, hts _ wd_X0_stepBack_6, trivial⟩ hK hP hS hz ⟨Nat.zero_le _, Nat.zero_le _⟩ rfl hl.1 rfl (Nat.le_of_ble_eq_true rfl) dX0_stepBack_45 (fun g8 H locs hp8 hP hS => ?_)
        obtain ⟨hp8a, hp8b⟩ := hp8
        have c_o : g8 k = .inr (0, [.int fr0, .int to0, .int (nI kd), .int vz, .ref (ad kf)]) := (hp8a k (by omega)).trans c_o
        have c_f : g8 kf = nA G n (vN f) := (hp8a kf (by omega)).trans c_f
        have fr : ∀ j : Nat, j ≠ b → g8 j = g j := fun j hj => (hp8a j (by omega)).trans (fr j hj)
        have c_b := hp8b
        refine lv_goto (tgt := 64) hx hb dX0_stepBack_48 (by decide) ?_
        exact hret g8 _ _ _ _ ⟨fr, by rw [c_b]; unfold backF; rw [if_pos h36]⟩ hP hS dX0_stepBack_64
    · skip
      exact hret g _ _ _ _ ⟨fr, by rw [c_b]; unfold backF; rw [if_neg h5, if_neg h13]⟩ hP hS dX0_stepBack_16
end
section
/-- a Span at the labels b .. b + 3 + n: which places are taken, the kept rows, the rest -/
def SpanAt (G : cx_G) (ad : Nat → Nat) (g : Nat → va_E) (b n : Nat) (t : Nat → Bool) (kp : Nat → Nat → FF) (rs : Nat → FF) : Prop :=
  g b = .inr (4, [.ref (ad (b + 1)), .ref (ad (b + 2)), .ref (ad (b + 3))]) ∧ g (b + 1) = rA (G.2 6) n (fun i => if i < n then some (ad (b + 4 + i)) else none) ∧ g (b + 2) = zA G n t ∧ g (b + 3) = nA G n (vN rs) ∧ ∀ i : Nat, i < n → g (b + 4 + i) = nA G n (vN (kp i))
theorem SpanAt.kept {G : cx_G} {ad : Nat → Nat} {g g1 : Nat → va_E} {b n : Nat} {t : Nat → Bool} {kp : Nat → Nat → FF} {rs : Nat → FF} (h : SpanAt G ad g b n t kp rs) (hk : ∀ j : Nat, b ≤ j → j < b + 4 + n → g1 j = g j) : SpanAt G ad g1 b n t kp rs := by
  obtain ⟨h1, h2, h3, h4, h5⟩ := h
  exact ⟨(hk _ (by omega) (by omega)).trans h1, (hk _ (by omega) (by omega)).trans h2, (hk _ (by omega) (by omega)).trans h3, (hk _ (by omega) (by omega)).trans h4, fun i hi => (hk _ (by omega) (by omega)).trans (h5 i hi)⟩
theorem fam_up {G : cx_G} {g g2 : Nat → va_E} {b n k0 : Nat} {kp : Nat → Nat → FF} {x : Nat → FF} (h : ∀ i : Nat, i < n → g (b + 4 + i) = nA G n (vN (kp i))) (hf : ∀ j : Nat, j ≠ b + 4 + k0 → g2 j = g j) (hx : g2 (b + 4 + k0) = nA G n (vN x)) : ∀ i : Nat, i < n → g2 (b + 4 + i) = nA G n (vN (nu kp k0 x i)) := by
  intro i hi
  by_cases e : i = k0
  · subst e
    rw [nu_s]
    exact hx
  · rw [nu_n e]
    exact (hf _ (by omega)).trans (h i hi)
/-- a row without what the kept rows 0 .. k - 1 take away -/
def sp_red (n : Nat) (t : Nat → Bool) (kp : Nat → Nat → FF) : Nat → (Nat → FF) → (Nat → FF)
  | 0, v => v
  | k + 1, v => if t k = true then am n (sp_red n t kp k v) (- (sp_red n t kp k v k)) (kp k) else sp_red n t kp k v
def isLead (n : Nat) (v : Nat → FF) (k : Nat) : Prop := k < n ∧ v k ≠ 0 ∧ (k ≠ 0 → v 0 = 0 ∧ ∀ j : Nat, k < j → j < n → v j = 0)
def sp_fresh (n : Nat) (kp : Nat → Nat → FF) (r : Nat → FF) (k0 : Nat) : Nat → FF := am n (fl0 n (kp k0)) (finv (r k0)) r
def sp_kp (n : Nat) (t : Nat → Bool) (kp : Nat → Nat → FF) (r : Nat → FF) (k0 : Nat) : Nat → Nat → FF := fun i => if i = k0 then sp_fresh n kp r k0 else if i < n ∧ t i = true then am n (kp i) (- (kp i k0)) (sp_fresh n kp r k0) else kp i
def AddR (n : Nat) (t : Nat → Bool) (kp : Nat → Nat → FF) (r : Nat → FF) (rb : Bool) (t2 : Nat → Bool) (kp2 : Nat → Nat → FF) : Prop :=
  (rb = false ∧ (∀ j : Nat, j < n → r j = 0) ∧ t2 = t ∧ kp2 = kp) ∨ (∃ k0 : Nat, isLead n r k0 ∧ rb = true ∧ t2 = nu t k0 true ∧ kp2 = sp_kp n t kp r k0)
def allZ (n : Nat) (v : Nat → FF) : Bool := decide (∀ j : Nat, j < n → v j = 0)
def fpl (t : Nat → Bool) : Nat → Nat → Nat → Nat
  | 0, _, _ => 0
  | fu + 1, k, left => if t k = true then fpl t fu (k + 1) left else if left = 0 then k else fpl t fu (k + 1) (left - 1)
def van (t : Nat → Bool) (kp : Nat → Nat → FF) (fr k : Nat) : FF := if k = fr then 1 else if t k = true then - (kp k fr) else 0

theorem cl_step {r v : Nat → Bool} {k : Nat} (hr : ∀ j : Nat, r j = if j < k then false else v j) : ∀ j : Nat, nu r k false j = if j < k + 1 then false else v j := by
  intro j
  by_cases h : j = k
  · subst h
    rw [nu_s, if_pos (Nat.lt_succ_self j)]
  · rw [nu_n h, hr j]
    by_cases h2 : j < k
    · rw [if_pos h2, if_pos (by omega)]
    · rw [if_neg h2, if_neg (by omega)]
theorem red_t {n k : Nat} {t : Nat → Bool} {kp : Nat → Nat → FF} {v r : Nat → FF} (h : r = sp_red n t kp k v) (ht : t k = true) : am n r (- (r k)) (kp k) = sp_red n t kp (k + 1) v := by
  rw [h]
  exact (if_pos ht).symm
theorem red_f {n k : Nat} {t : Nat → Bool} {kp : Nat → Nat → FF} {v r : Nat → FF} (h : r = sp_red n t kp k v) (ht : t k = false) : r = sp_red n t kp (k + 1) v := by
  rw [h]
  exact (if_neg (by rw [ht]; decide)).symm

set_option maxRecDepth 20000 in
theorem wd_X4_clear_0 : Cond.fieldLink RX4 16 "AffineHulls$Span" "taken" "[Z" ∈ wsX4_clear := by decide +kernel
set_option maxRecDepth 20000 in
theorem in_X4_clear_X4 : ∀ w ∈ u_ws RX4 TX4 3, w ∈ wsX4_clear := by decide +kernel
abbrev rm_X4_clear : Room := { frames := 0, cells := 0, slots := 0, locals := 0 }
set_option maxHeartbeats 4000000 in
set_option maxRecDepth 100000 in
theorem c_X4_clear {l : Launch} {G : cx_G} {L : List Nat} {ad : Nat → Nat} {g : Nat → va_E} (hD : cx_D L ad) {b n : Nat} {t : Nat → Bool} {kp : Nat → Nat → FF} {rs : Nat → FF} (hm : ∀ j : Nat, j < 4 + n → b + j ∈ L) (hn : n < 1000) (hn0 : 0 < n) (hsp : SpanAt G ad g b n t kp rs) : MV l yX4_clear wsX4_clear rm_X4_clear G L ad g [.ref (ad b)] (fun u => (∀ j : Nat, j ≠ b + 2 → u j = g j) ∧ ∃ t2 : Nat → Bool, (∀ j : Nat, j < n → t2 j = false) ∧ SpanAt G ad u b n t2 kp rs) := by
  refine cx_ofV (cc := cX4_clear) (maxL := 2) (by decide +kernel) rfl (Nat.le_of_ble_eq_true rfl) ?_
  intro p e s m args below meth c Q hx hb hts hown hml hP hK hS hz hret ls hl
  have hown : s.vm.findClass RX4 = some m.cls := hown
  have hl : lv_has ls 2 [(0, .ref (ad b))] := hl
  have fr : ∀ j : Nat, j ≠ b + 2 → g j = g j := fun _ _ => rfl
  obtain ⟨c_s, c_k, c_t, c_r, c_q⟩ := hsp
  refine lv_iconst (v := nI 0) hx hb dX4_clear_0 (by decide) ?_
  refine lv_istore_n (lv' := [(1, .int (nI 0)), (0, .ref (ad b))]) hx hb dX4_clear_1 rfl hl (by decide) rfl (fun ls hl => ?_)
  have LP2 : ∀ (fu : Nat) (k : Nat) (t1 : Nat → Bool), (k ≤ n) → (∀ j : Nat, t1 j = if j < k then false else t j) → (n - k) < fu → ∀ (ga1 : Nat → va_E) (H : Heap) (locs : List Loc) (ls : Array Slot), (ga1 b = .inr (4, [.ref (ad (b + 1)), .ref (ad (b + 2)), .ref (ad (b + 3))])) → (ga1 (b + 1) = rA (G.2 6) n (fun i => if i < n then some (ad (b + 4 + i)) else none)) → (ga1 (b + 2) = zA G n t1) → (ga1 (b + 3) = nA G n (vN rs)) → (∀ i : Nat, i < n → ga1 (b + 4 + i) = nA G n (vN (kp i))) → (∀ j : Nat, j ≠ b + 2 → ga1 j = g j) → va_P G.1 vwCl (wl L ad ga1) H → va_S (cx_A L ad s.heap.size) s.heap H locs → lv_has ls 2 [(1, .int (nI k)), (0, .ref (ad b))] → W p l e rm_X4_clear s m args below meth c H locs 0 0 Q (F0 m 2 ls []) := by
    intro fu
    induction fu with
    | zero => intro k t1 hkn ht hfu; exact absurd hfu (Nat.not_lt_zero _)
    | succ fu ih2 =>
      intro k t1 hkn ht hfu2 ga1 H locs ls c_s c_k c_t c_r c_q fr hP hS hl
      refine lv_iload_n hx hb dX4_clear_2 rfl (lv_at hl 0 rfl) ?_
      refine lv_aload_n hx hb dX4_clear_3 rfl (lv_at hl 1 rfl) ?_
      refine ax_get (k := b) (v := .ref (ad (b + 2))) hx hb hts in_X4_clear_X4 hown hK hP (hm 0 (by omega)) c_s rfl 1 (by decide) (hts _ wd_X4_clear_0) (fun _ h9 => h9) rfl dX4_clear_4 ?_
      refine ax_alen (k := b + 2) (n := n) hx hb hK hP (hm 2 (by omega)) 1 rfl c_t rfl dX4_clear_7 ?_
      refine ax_icge (a := k) (b := n) (tgt := 24) hx hb dX4_clear_8 (by decide) (by omega) (by omega) (fun h8 => ?_) (fun h8 => ?_)
      · skip
        exact hret ga1 _ _ _ _ ⟨fr, t1, fun j hj => by rw [ht j, if_pos (by omega)], c_s, c_k, c_t, c_r, c_q⟩ hP hS dX4_clear_24
      · skip
        refine lv_aload_n hx hb dX4_clear_11 rfl (lv_at hl 1 rfl) ?_
        refine ax_get (k := b) (v := .ref (ad (b + 2))) hx hb hts in_X4_clear_X4 hown hK hP (hm 0 (by omega)) c_s rfl 1 (by decide) (hts _ wd_X4_clear_0) (fun _ h9 => h9) rfl dX4_clear_12 ?_
        refine lv_iload_n hx hb dX4_clear_15 rfl (lv_at hl 0 rfl) ?_
        refine lv_iconst (v := nI 0) hx hb dX4_clear_16 (by decide) ?_
        refine ax_zast (k := b + 2) (i := k) (b := false) hx hb hK hP hD hS (hm 2 (by omega)) c_t (by omega) (by omega) (by decide) dX4_clear_17 (fun H locs g2 eg2 hP hS => ?_)
        have c_s : g2 b = .inr (4, [.ref (ad (b + 1)), .ref (ad (b + 2)), .ref (ad (b + 3))]) := (cx_ne eg2 b (by omega)).trans c_s
        have c_k : g2 (b + 1) = rA (G.2 6) n (fun i => if i < n then some (ad (b + 4 + i)) else none) := (cx_ne eg2 (b + 1) (by omega)).trans c_k
        have c_r : g2 (b + 3) = nA G n (vN rs) := (cx_ne eg2 (b + 3) (by omega)).trans c_r
        have c_q : ∀ i : Nat, i < n → g2 (b + 4 + i) = nA G n (vN (kp i)) := fun i hi => (cx_ne eg2 _ (by omega)).trans (c_q i hi)
        have c_t : g2 (b + 2) = zA G n (nu t1 k false) := cx_eq eg2
        have fr : ∀ j : Nat, j ≠ b + 2 → g2 j = g j := fun j hj => (cx_ne eg2 j (by omega)).trans (fr j hj)
        refine lv_iinc (v := nI (k + 1)) (lv' := [(1, .int (nI (k + 1))), (0, .ref (ad b))]) hx hb dX4_clear_18 hl (k := 0) rfl (nI_1 _) (by decide) rfl (fun ls hl => ?_)
        refine lv_goto (tgt := 2) hx hb dX4_clear_21 (by decide) ?_
        exact ih2 (k + 1) (nu t1 k false) h8 (cl_step ht) (by omega) g2 _ _ _ c_s c_k c_t c_r c_q  fr hP hS (lv_sub hl [0, 1] rfl)
  exact LP2 ((n - 0) + 1) 0 t (Nat.zero_le n) (fun j => (if_neg (Nat.not_lt_zero j)).symm) (Nat.lt_succ_self _) g _ _ _ c_s c_k c_t c_r c_q  fr hP hS (lv_sub hl [0, 1] rfl)

set_option maxRecDepth 20000 in
theorem wd_X4_reduce_0 : Cond.fieldLink RX4 20 "AffineHulls$Span" "rest" "[I" ∈ wsX4_reduce := by decide +kernel
set_option maxRecDepth 20000 in
theorem in_X4_reduce_X4 : ∀ w ∈ u_ws RX4 TX4 3, w ∈ wsX4_reduce := by decide +kernel
set_option maxRecDepth 20000 in
theorem wd_X4_reduce_2 : Cond.initialized RX5 ∈ wsX4_reduce := by decide +kernel
set_option maxRecDepth 20000 in
theorem wd_X4_reduce_3 : Cond.static yX5_copy ∈ wsX4_reduce := by decide +kernel
set_option maxRecDepth 20000 in
theorem wd_X4_reduce_4 : Cond.fieldLink RX4 16 "AffineHulls$Span" "taken" "[Z" ∈ wsX4_reduce := by decide +kernel
set_option maxRecDepth 20000 in
theorem wd_X4_reduce_5 : Cond.constant RX4 46 (65521) ∈ wsX4_reduce := by decide +kernel
set_option maxRecDepth 20000 in
theorem wd_X4_reduce_6 : Cond.fieldLink RX4 11 "AffineHulls$Span" "kept" "[[I" ∈ wsX4_reduce := by decide +kernel
set_option maxRecDepth 20000 in
theorem wd_X4_reduce_7 : Cond.static yX5_addMultiple ∈ wsX4_reduce := by decide +kernel
abbrev rm_X4_reduce : Room := { frames := 2, cells := 0, slots := 0, locals := 81 }
set_option maxHeartbeats 4000000 in
set_option maxRecDepth 100000 in
theorem c_X4_reduce {l : Launch} {G : cx_G} {L : List Nat} {ad : Nat → Nat} {g : Nat → va_E} (hD : cx_D L ad) {b n : Nat} {t : Nat → Bool} {kp : Nat → Nat → FF} {rs : Nat → FF}  {a : Nat} {v : Nat → FF} (ha : a ∈ L) (hab : a < b ∨ b + 4 + n ≤ a) (c_a : g a = nA G n (vN v)) (hm : ∀ j : Nat, j < 4 + n → b + j ∈ L) (hn : n < 1000) (hn0 : 0 < n) (hsp : SpanAt G ad g b n t kp rs) : MV l yX4_reduce wsX4_reduce rm_X4_reduce G L ad g [.ref (ad b), .ref (ad a)] (fun u => (∀ j : Nat, j ≠ b + 3 → u j = g j) ∧ SpanAt G ad u b n t kp (sp_red n t kp n (cpv n v rs))) := by
  refine cx_ofV (cc := cX4_reduce) (maxL := 3) (by decide +kernel) rfl (Nat.le_of_ble_eq_true rfl) ?_
  intro p e s m args below meth c Q hx hb hts hown hml hP hK hS hz hret ls hl
  have hown : s.vm.findClass RX4 = some m.cls := hown
  have hl : lv_has ls 3 [(0, .ref (ad b)), (1, .ref (ad a))] := hl
  have fr : ∀ j : Nat, j ≠ b + 3 → g j = g j := fun _ _ => rfl
  obtain ⟨c_s, c_k, c_t, c_r, c_q⟩ := hsp
  refine lv_aload_n hx hb dX4_reduce_0 rfl (lv_at hl 1 rfl) ?_
  refine lv_aload_n hx hb dX4_reduce_1 rfl (lv_at hl 0 rfl) ?_
  refine ax_get (k := b) (v := .ref (ad (b + 3))) hx hb hts in_X4_reduce_X4 hown hK hP (hm 0 (by omega)) c_s rfl 2 (by decide) (hts _ wd_X4_reduce_0) (fun _ h9 => h9) rfl dX4_reduce_2 ?_
  refine cx_SNv (As := [.ref (ad a), .ref (ad (b + 3))]) (rest := []) ⟨hx, hb, hml, hown, hts⟩ (c_X5_copy hD (a := a) (b := b + 3) (n := n) (v := v) (w := rs) (by omega) ha (hm 3 (by omega)) hn c_a c_r) ⟨va_cnB 2 hts gX4_reduce_X5_copy_n47 rfl rfl rfl (hK.2 (.methodLinkNest RX4 47 yX5_copy RX5) (by decide +kernel)) (hts _ wd_X4_reduce_2) (by decide +kernel) ⟨Nat.le_of_ble_eq_true rfl, Nat.le_of_ble_eq_true rfl⟩, hts _ wd_X4_reduce_3, trivial⟩ hK hP hS hz ⟨Nat.zero_le _, Nat.zero_le _⟩ rfl hl.1 rfl (Nat.le_of_ble_eq_true rfl) dX4_reduce_5 (fun g1 H locs hp1 hP hS => ?_)
  obtain ⟨hp1a, hp1b⟩ := hp1
  have c_s : g1 b = .inr (4, [.ref (ad (b + 1)), .ref (ad (b + 2)), .ref (ad (b + 3))]) := (hp1a b (by omega)).trans c_s
  have c_k : g1 (b + 1) = rA (G.2 6) n (fun i => if i < n then some (ad (b + 4 + i)) else none) := (hp1a (b + 1) (by omega)).trans c_k
  have c_t : g1 (b + 2) = zA G n t := (hp1a (b + 2) (by omega)).trans c_t
  have c_q : ∀ i : Nat, i < n → g1 (b + 4 + i) = nA G n (vN (kp i)) := fun i hi => (hp1a _ (by omega)).trans (c_q i hi)
  have c_a : g1 a = nA G n (vN v) := (hp1a a (by omega)).trans c_a
  have fr : ∀ j : Nat, j ≠ b + 3 → g1 j = g j := fun j hj => (hp1a j (by omega)).trans (fr j hj)
  have c_r := hp1b
  refine lv_iconst (v := nI 0) hx hb dX4_reduce_8 (by decide) ?_
  refine lv_istore_n (lv' := [(2, .int (nI 0)), (0, .ref (ad b)), (1, .ref (ad a))]) hx hb dX4_reduce_9 rfl hl (by decide) rfl (fun ls hl => ?_)
  have LP10 : ∀ (fu : Nat) (k : Nat) (r : Nat → FF), (k ≤ n) → (r = sp_red n t kp k (cpv n v rs)) → (n - k) < fu → ∀ (ga2 : Nat → va_E) (H : Heap) (locs : List Loc) (ls : Array Slot), (ga2 b = .inr (4, [.ref (ad (b + 1)), .ref (ad (b + 2)), .ref (ad (b + 3))])) → (ga2 (b + 1) = rA (G.2 6) n (fun i => if i < n then some (ad (b + 4 + i)) else none)) → (ga2 (b + 2) = zA G n t) → (ga2 (b + 3) = nA G n (vN r)) → (∀ i : Nat, i < n → ga2 (b + 4 + i) = nA G n (vN (kp i))) → (ga2 a = nA G n (vN v)) → (∀ j : Nat, j ≠ b + 3 → ga2 j = g j) → va_P G.1 vwCl (wl L ad ga2) H → va_S (cx_A L ad s.heap.size) s.heap H locs → lv_has ls 3 [(2, .int (nI k)), (0, .ref (ad b)), (1, .ref (ad a))] → W p l e rm_X4_reduce s m args below meth c H locs 0 0 Q (F0 m 10 ls []) := by
    intro fu
    induction fu with
    | zero => intro k r hkn hr hfu; exact absurd hfu (Nat.not_lt_zero _)
    | succ fu ih10 =>
      intro k r hkn hr hfu10 ga2 H locs ls c_s c_k c_t c_r c_q c_a fr hP hS hl
      refine lv_iload_n hx hb dX4_reduce_10 rfl (lv_at hl 0 rfl) ?_
      refine lv_aload_n hx hb dX4_reduce_11 rfl (lv_at hl 1 rfl) ?_
      refine ax_get (k := b) (v := .ref (ad (b + 2))) hx hb hts in_X4_reduce_X4 hown hK hP (hm 0 (by omega)) c_s rfl 1 (by decide) (hts _ wd_X4_reduce_4) (fun _ h9 => h9) rfl dX4_reduce_12 ?_
      refine ax_alen (k := b + 2) (n := n) hx hb hK hP (hm 2 (by omega)) 1 rfl c_t rfl dX4_reduce_15 ?_
      refine ax_icge (a := k) (b := n) (tgt := 56) hx hb dX4_reduce_16 (by decide) (by omega) (by omega) (fun h16 => ?_) (fun h16 => ?_)
      · skip
        exact hret ga2 _ _ _ _ ⟨fr, c_s, c_k, c_t, by rw [c_r, hr, show k = n by omega], c_q⟩ hP hS dX4_reduce_56
      · skip
        refine lv_aload_n hx hb dX4_reduce_19 rfl (lv_at hl 1 rfl) ?_
        refine ax_get (k := b) (v := .ref (ad (b + 2))) hx hb hts in_X4_reduce_X4 hown hK hP (hm 0 (by omega)) c_s rfl 1 (by decide) (hts _ wd_X4_reduce_4) (fun _ h9 => h9) rfl dX4_reduce_20 ?_
        refine lv_iload_n hx hb dX4_reduce_23 rfl (lv_at hl 0 rfl) ?_
        refine ax_zald (k := b + 2) (i := k) hx hb hK hP (hm 2 (by omega)) c_t (by omega) (by omega) dX4_reduce_24 ?_
        refine ax_zeq (b := (t k)) (tgt := 50) hx hb dX4_reduce_25 (by decide) (fun h25 => ?_) (fun h25 => ?_)
        · skip
          refine lv_iinc (v := nI (k + 1)) (lv' := [(2, .int (nI (k + 1))), (0, .ref (ad b)), (1, .ref (ad a))]) hx hb dX4_reduce_50 hl (k := 0) rfl (nI_1 _) (by decide) rfl (fun ls hl => ?_)
          refine lv_goto (tgt := 10) hx hb dX4_reduce_53 (by decide) ?_
          exact ih10 (k + 1) r h16 (red_f hr h25) (by omega) ga2 _ _ _ c_s c_k c_t c_r c_q c_a  fr hP hS (lv_sub hl [0, 1, 2] rfl)
        · skip
          have b1 := vN_lt r k
          refine lv_aload_n hx hb dX4_reduce_28 rfl (lv_at hl 1 rfl) ?_
          refine ax_get (k := b) (v := .ref (ad (b + 3))) hx hb hts in_X4_reduce_X4 hown hK hP (hm 0 (by omega)) c_s rfl 2 (by decide) (hts _ wd_X4_reduce_0) (fun _ h9 => h9) rfl dX4_reduce_29 ?_
          refine lv_ldc (v := 65521) hx hb hown (hts _ wd_X4_reduce_5) dX4_reduce_32 ?_
          rw [show (65521 : Int32) = nI 65521 from by decide]
          refine lv_aload_n hx hb dX4_reduce_34 rfl (lv_at hl 1 rfl) ?_
          refine ax_get (k := b) (v := .ref (ad (b + 3))) hx hb hts in_X4_reduce_X4 hown hK hP (hm 0 (by omega)) c_s rfl 2 (by decide) (hts _ wd_X4_reduce_0) (fun _ h9 => h9) rfl dX4_reduce_35 ?_
          refine lv_iload_n hx hb dX4_reduce_38 rfl (lv_at hl 0 rfl) ?_
          refine ax_iald (k := b + 3) (i := k) (v := nI ((vN r) k)) hx hb hK hP (hm 3 (by omega)) c_r (by omega) (by omega) rfl dX4_reduce_39 ?_
          refine ax_sub (a := 65521) (b := (vN r) k) hx hb dX4_reduce_40 (by omega) ?_
          refine lv_aload_n hx hb dX4_reduce_41 rfl (lv_at hl 1 rfl) ?_
          refine ax_get (k := b) (v := .ref (ad (b + 1))) hx hb hts in_X4_reduce_X4 hown hK hP (hm 0 (by omega)) c_s rfl 0 (by decide) (hts _ wd_X4_reduce_6) (fun _ h9 => h9) rfl dX4_reduce_42 ?_
          refine lv_iload_n hx hb dX4_reduce_45 rfl (lv_at hl 0 rfl) ?_
          refine ax_aald (k := b + 1) (i := k) (b := ad (b + 4 + k)) hx hb hK hP (hm 1 (by omega)) 6 rfl rfl c_k (by omega) (by omega) (if_pos (by omega)) dX4_reduce_46 ?_
          refine cx_SNv (As := [.ref (ad (b + 3)), .int (nI (65521 - ((vN r) k))), .ref (ad (b + 4 + k))]) (rest := []) ⟨hx, hb, hml, hown, hts⟩ (c_X5_addMultiple hD (a := b + 3) (b := b + 4 + k) (n := n) (f := 65521 - vN r k) (v := r) (w := kp k) (cf := - (r k)) (by omega) (hm 3 (by omega)) (by have := hm (4 + k) (by omega); rwa [← Nat.add_assoc] at this) hn (Nat.sub_le _ _) (ff_sub (r k) rfl) c_r (c_q k (by omega))) ⟨va_cnB 3 hts gX4_reduce_X5_addMultiple_n42 rfl rfl rfl (hK.2 (.methodLinkNest RX4 42 yX5_addMultiple RX5) (by decide +kernel)) (hts _ wd_X4_reduce_2) (by decide +kernel) ⟨Nat.le_of_ble_eq_true rfl, Nat.le_of_ble_eq_true rfl⟩, hts _ wd_X4_reduce_7, trivial⟩ hK hP hS hz ⟨Nat.zero_le _, Nat.zero_le _⟩ rfl hl.1 rfl (Nat.le_of_ble_eq_true rfl) dX4_reduce_47 (fun g3 H locs hp3 hP hS => ?_)
          obtain ⟨hp3a, hp3b⟩ := hp3
          have c_s : g3 b = .inr (4, [.ref (ad (b + 1)), .ref (ad (b + 2)), .ref (ad (b + 3))]) := (hp3a b (by omega)).trans c_s
          have c_k : g3 (b + 1) = rA (G.2 6) n (fun i => if i < n then some (ad (b + 4 + i)) else none) := (hp3a (b + 1) (by omega)).trans c_k
          have c_t : g3 (b + 2) = zA G n t := (hp3a (b + 2) (by omega)).trans c_t
          have c_q : ∀ i : Nat, i < n → g3 (b + 4 + i) = nA G n (vN (kp i)) := fun i hi => (hp3a _ (by omega)).trans (c_q i hi)
          have c_a : g3 a = nA G n (vN v) := (hp3a a (by omega)).trans c_a
          have fr : ∀ j : Nat, j ≠ b + 3 → g3 j = g j := fun j hj => (hp3a j (by omega)).trans (fr j hj)
          have c_r := hp3b
          refine lv_iinc (v := nI (k + 1)) (lv' := [(2, .int (nI (k + 1))), (0, .ref (ad b)), (1, .ref (ad a))]) hx hb dX4_reduce_50 hl (k := 0) rfl (nI_1 _) (by decide) rfl (fun ls hl => ?_)
          refine lv_goto (tgt := 10) hx hb dX4_reduce_53 (by decide) ?_
          exact ih10 (k + 1) (am n r (- (r k)) (kp k)) h16 (red_t hr h25) (by omega) g3 _ _ _ c_s c_k c_t c_r c_q c_a  fr hP hS (lv_sub hl [0, 1, 2] rfl)
  exact LP10 ((n - 0) + 1) 0 (cpv n v rs) (Nat.zero_le n) rfl (Nat.lt_succ_self _) g1 _ _ _ c_s c_k c_t c_r c_q c_a  fr hP hS (lv_sub hl [0, 1, 2] rfl)

theorem fn0 {a : FF} (h : a.val ≠ 0) : a ≠ 0 := fun z => h (by rw [z]; rfl)

set_option maxRecDepth 20000 in
theorem wd_X4_leadingPlace_0 : Cond.fieldLink RX4 20 "AffineHulls$Span" "rest" "[I" ∈ wsX4_leadingPlace := by decide +kernel
set_option maxRecDepth 20000 in
theorem in_X4_leadingPlace_X4 : ∀ w ∈ u_ws RX4 TX4 3, w ∈ wsX4_leadingPlace := by decide +kernel
abbrev rm_X4_leadingPlace : Room := { frames := 0, cells := 0, slots := 0, locals := 0 }
set_option maxHeartbeats 4000000 in
set_option maxRecDepth 100000 in
theorem c_X4_leadingPlace {l : Launch} {G : cx_G} {L : List Nat} {ad : Nat → Nat} {g : Nat → va_E} (hD : cx_D L ad) {b n : Nat} {t : Nat → Bool} {kp : Nat → Nat → FF} {rs : Nat → FF} (hm : ∀ j : Nat, j < 4 + n → b + j ∈ L) (hn : n < 1000) (hn0 : 0 < n) (hsp : SpanAt G ad g b n t kp rs) : MI l yX4_leadingPlace wsX4_leadingPlace rm_X4_leadingPlace G L ad g [.ref (ad b)] (fun r u => ((∃ k0 : Nat, isLead n rs k0 ∧ r = nI k0) ∨ ((∀ j : Nat, j < n → rs j = 0) ∧ r = -1)) ∧ u = g) := by
  refine cx_ofI (cc := cX4_leadingPlace) (maxL := 2) (by decide +kernel) rfl (Nat.le_of_ble_eq_true rfl) ?_
  intro p e s m args below meth c Q hx hb hts hown hml hP hK hS hz hret ls hl
  have hown : s.vm.findClass RX4 = some m.cls := hown
  have hl : lv_has ls 2 [(0, .ref (ad b))] := hl
  obtain ⟨c_s, c_k, c_t, c_r, c_q⟩ := hsp
  refine lv_aload_n hx hb dX4_leadingPlace_0 rfl (lv_at hl 0 rfl) ?_
  refine ax_get (k := b) (v := .ref (ad (b + 3))) hx hb hts in_X4_leadingPlace_X4 hown hK hP (hm 0 (by omega)) c_s rfl 2 (by decide) (hts _ wd_X4_leadingPlace_0) (fun _ h9 => h9) rfl dX4_leadingPlace_1 ?_
  refine lv_iconst (v := nI 0) hx hb dX4_leadingPlace_4 (by decide) ?_
  refine ax_iald (k := b + 3) (i := 0) (v := nI ((vN rs) 0)) hx hb hK hP (hm 3 (by omega)) c_r (by omega) (by omega) rfl dX4_leadingPlace_5 ?_
  have b0 := vN_lt rs 0
  refine ax_ifeq (a := (vN rs) 0) (tgt := 11) hx hb dX4_leadingPlace_6 (by decide) (by omega) (fun h6 => ?_) (fun h6 => ?_)
  · skip
    refine lv_aload_n hx hb dX4_leadingPlace_11 rfl (lv_at hl 0 rfl) ?_
    refine ax_get (k := b) (v := .ref (ad (b + 3))) hx hb hts in_X4_leadingPlace_X4 hown hK hP (hm 0 (by omega)) c_s rfl 2 (by decide) (hts _ wd_X4_leadingPlace_0) (fun _ h9 => h9) rfl dX4_leadingPlace_12 ?_
    refine ax_alen (k := b + 3) (n := n) hx hb hK hP (hm 3 (by omega)) 0 rfl c_r rfl dX4_leadingPlace_15 ?_
    refine lv_iconst (v := nI 1) hx hb dX4_leadingPlace_16 (by decide) ?_
    refine ax_sub (a := n) (b := 1) hx hb dX4_leadingPlace_17 (by omega) ?_
    refine lv_istore_n (lv' := [(1, .int (nI (n - 1))), (0, .ref (ad b))]) hx hb dX4_leadingPlace_18 rfl hl (by decide) rfl (fun ls hl => ?_)
    have LP19 : ∀ (fu : Nat) (k : Nat), (k < n) → (∀ j : Nat, k < j → j < n → rs j = 0) → k < fu → ∀ (ls : Array Slot), lv_has ls 2 [(1, .int (nI k)), (0, .ref (ad b))] → W p l e rm_X4_leadingPlace s m args below meth c s.heap [] 0 0 Q (F0 m 19 ls []) := by
      intro fu
      induction fu with
      | zero => intro k hkn hz hfu; exact absurd hfu (Nat.not_lt_zero _)
      | succ fu ih19 =>
        intro k hkn hz hfu19 ls hl
        refine lv_iload_n hx hb dX4_leadingPlace_19 rfl (lv_at hl 0 rfl) ?_
        refine ax_ifle (a := k) (tgt := 40) hx hb dX4_leadingPlace_20 (by decide) (by omega) (fun h20 => ?_) (fun h20 => ?_)
        · skip
          refine lv_iconst (v := (-1)) hx hb dX4_leadingPlace_40 (by decide) ?_
          exact hret (-1) g _ _ _ _ rfl ⟨Or.inr ⟨fun j hj => by rcases Nat.eq_zero_or_pos j with q | q; rw [q]; exact Fin.ext h6; exact hz j (by omega) hj, rfl⟩, rfl⟩ hP hS dX4_leadingPlace_41
        · skip
          refine lv_aload_n hx hb dX4_leadingPlace_23 rfl (lv_at hl 1 rfl) ?_
          refine ax_get (k := b) (v := .ref (ad (b + 3))) hx hb hts in_X4_leadingPlace_X4 hown hK hP (hm 0 (by omega)) c_s rfl 2 (by decide) (hts _ wd_X4_leadingPlace_0) (fun _ h9 => h9) rfl dX4_leadingPlace_24 ?_
          refine lv_iload_n hx hb dX4_leadingPlace_27 rfl (lv_at hl 0 rfl) ?_
          refine ax_iald (k := b + 3) (i := k) (v := nI ((vN rs) k)) hx hb hK hP (hm 3 (by omega)) c_r (by omega) (by omega) rfl dX4_leadingPlace_28 ?_
          have b1 := vN_lt rs k
          refine ax_ifeq (a := (vN rs) k) (tgt := 34) hx hb dX4_leadingPlace_29 (by decide) (by omega) (fun h29 => ?_) (fun h29 => ?_)
          · skip
            refine lv_iinc (v := nI (k - 1)) (lv' := [(1, .int (nI (k - 1))), (0, .ref (ad b))]) hx hb dX4_leadingPlace_34 hl (k := 0) rfl (sb_m1 (by omega)) (by decide) rfl (fun ls hl => ?_)
            refine lv_goto (tgt := 19) hx hb dX4_leadingPlace_37 (by decide) ?_
            exact ih19 (k - 1) (by omega) (fun j h1 h2 => by rcases Nat.lt_or_ge k j with q | q; exact hz j q h2; rw [show j = k by omega]; exact Fin.ext h29) (by omega) _ (lv_sub hl [0, 1] rfl)
          · skip
            refine lv_iload_n hx hb dX4_leadingPlace_32 rfl (lv_at hl 0 rfl) ?_
            exact hret (nI k) g _ _ _ _ rfl ⟨Or.inl ⟨k, ⟨hkn, fn0 h29, fun _ => ⟨Fin.ext h6, hz⟩⟩, rfl⟩, rfl⟩ hP hS dX4_leadingPlace_33
    exact LP19 ((n - 1) + 1) (n - 1) (by omega) (fun j h1 h2 => absurd h1 (by omega)) (Nat.lt_succ_self _) _ (lv_sub hl [0, 1] rfl)
  · skip
    refine lv_iconst (v := nI 0) hx hb dX4_leadingPlace_9 (by decide) ?_
    exact hret (nI 0) g _ _ _ _ rfl ⟨Or.inl ⟨0, ⟨hn0, fn0 h6, fun z => absurd rfl z⟩, rfl⟩, rfl⟩ hP hS dX4_leadingPlace_10

theorem ld_neg {n : Nat} {v : Nat → FF} {r : Int32} (hn : n < 1000) (h : (∃ k0 : Nat, isLead n v k0 ∧ r = nI k0) ∨ ((∀ j : Nat, j < n → v j = 0) ∧ r = -1)) (h0 : ¬ 0 ≤ r) : ∀ j : Nat, j < n → v j = 0 := by
  rcases h with ⟨k0, hl, e⟩ | ⟨hz, e⟩
  · exact absurd (by rw [e]; exact nI_pos' (by have := hl.1; omega)) h0
  · exact hz
theorem ld_pos {n : Nat} {v : Nat → FF} {r : Int32} (h : (∃ k0 : Nat, isLead n v k0 ∧ r = nI k0) ∨ ((∀ j : Nat, j < n → v j = 0) ∧ r = -1)) (h0 : 0 ≤ r) : ∃ k0 : Nat, isLead n v k0 ∧ r = nI k0 := by
  rcases h with h | ⟨hz, e⟩
  · exact h
  · exact absurd h0 (by rw [e]; decide)
theorem az_t {n : Nat} {v : Nat → FF} (h : ∀ j : Nat, j < n → v j = 0) : nI 1 = if allZ n v = true then 1 else 0 := by
  have h2 : allZ n v = true := decide_eq_true h
  rw [h2]
  decide
theorem az_f {n : Nat} {v : Nat → FF} (h : ∃ k0 : Nat, isLead n v k0) : nI 0 = if allZ n v = true then 1 else 0 := by
  obtain ⟨k0, hl⟩ := h
  have h2 : allZ n v = false := decide_eq_false (fun z => hl.2.1 (z k0 hl.1))
  rw [h2]
  decide

abbrev rm_X4_contains : Room := { frames := 3, cells := 0, slots := 0, locals := 103 }
set_option maxHeartbeats 4000000 in
set_option maxRecDepth 100000 in
theorem c_X4_contains {l : Launch} {G : cx_G} {L : List Nat} {ad : Nat → Nat} {g : Nat → va_E} (hD : cx_D L ad) {b n : Nat} {t : Nat → Bool} {kp : Nat → Nat → FF} {rs : Nat → FF}  {a : Nat} {v : Nat → FF} (ha : a ∈ L) (hab : a < b ∨ b + 4 + n ≤ a) (c_a : g a = nA G n (vN v)) (hm : ∀ j : Nat, j < 4 + n → b + j ∈ L) (hn : n < 1000) (hn0 : 0 < n) (hsp : SpanAt G ad g b n t kp rs) : MI l yX4_contains wsX4_contains rm_X4_contains G L ad g [.ref (ad b), .ref (ad a)] (fun r u => r = (if allZ n (sp_red n t kp n (cpv n v rs)) = true then 1 else 0) ∧ (∀ j : Nat, j ≠ b + 3 → u j = g j) ∧ SpanAt G ad u b n t kp (sp_red n t kp n (cpv n v rs))) := by
  refine cx_ofI (cc := cX4_contains) (maxL := 2) (by decide +kernel) rfl (Nat.le_of_ble_eq_true rfl) ?_
  intro p e s m args below meth c Q hx hb hts hown hml hP hK hS hz hret ls hl
  have hown : s.vm.findClass RX4 = some m.cls := hown
  have hl : lv_has ls 2 [(0, .ref (ad b)), (1, .ref (ad a))] := hl
  have fr : ∀ j : Nat, j ≠ b + 3 → g j = g j := fun _ _ => rfl
  obtain ⟨c_s, c_k, c_t, c_r, c_q⟩ := hsp
  refine lv_aload_n hx hb dX4_contains_0 rfl (lv_at hl 0 rfl) ?_
  refine lv_aload_n hx hb dX4_contains_1 rfl (lv_at hl 1 rfl) ?_
  refine cx_Vv (As := [.ref (ad a)]) (rest := []) ⟨hx, hb, hml, hown, hts⟩ (c_X4_reduce hD (b := b) (n := n) (a := a) (v := v) (rs := rs) ha hab c_a hm hn hn0 ⟨c_s, c_k, c_t, c_r, c_q⟩) (cwV 1 hts gX4_contains_X4_reduce rfl rfl rfl (by decide +kernel) ⟨Nat.le_of_ble_eq_true rfl, Nat.le_of_ble_eq_true rfl⟩) hK hP hS hz (hm 0 (by omega)) c_s rfl ⟨Nat.zero_le _, Nat.zero_le _⟩ rfl hl.1 rfl (Nat.le_of_ble_eq_true rfl) dX4_contains_2 (fun g1 H locs hp1 hP hS => ?_)
  obtain ⟨hp1a, hsp2⟩ := hp1
  have hsp3 := hsp2
  obtain ⟨c_s, c_k, c_t, c_r, c_q⟩ := hsp2
  have c_a : g1 a = nA G n (vN v) := (hp1a a (by omega)).trans c_a
  have fr : ∀ j : Nat, j ≠ b + 3 → g1 j = g j := fun j hj => (hp1a j (by omega)).trans (fr j hj)
  refine lv_aload_n hx hb dX4_contains_5 rfl (lv_at hl 0 rfl) ?_
  refine cx_Vi (As := []) (rest := []) ⟨hx, hb, hml, hown, hts⟩ (c_X4_leadingPlace hD (b := b) (n := n) (t := t) (kp := kp) (rs := sp_red n t kp n (cpv n v rs)) hm hn hn0 hsp3) (cwV 0 hts gX4_contains_X4_leadingPlace rfl rfl rfl (by decide +kernel) ⟨Nat.le_of_ble_eq_true rfl, Nat.le_of_ble_eq_true rfl⟩) hK hP hS hz (hm 0 (by omega)) c_s rfl ⟨Nat.zero_le _, Nat.zero_le _⟩ rfl hl.1 rfl (Nat.le_of_ble_eq_true rfl) dX4_contains_6 (fun r2 g2 H locs hp2 hP hS => ?_)
  obtain ⟨hld, ehp2g⟩ := hp2
  rw [ehp2g] at hP
  refine lv_if_ge (x := r2) (tgt := 16) hx hb dX4_contains_9 (by decide) (fun h9 => ?_) (fun h9 => ?_)
  · skip
    refine lv_iconst (v := nI 0) hx hb dX4_contains_16 (by decide) ?_
    exact hret (nI 0) g1 _ _ _ _ (by decide) ⟨az_f (by obtain ⟨k0, q, _⟩ := ld_pos hld h9; exact ⟨k0, q⟩), fr, hsp3⟩ hP hS dX4_contains_17
  · skip
    refine lv_iconst (v := nI 1) hx hb dX4_contains_12 (by decide) ?_
    refine lv_goto (tgt := 17) hx hb dX4_contains_13 (by decide) ?_
    exact hret (nI 1) g1 _ _ _ _ (by decide) ⟨az_t (ld_neg hn hld h9), fr, hsp3⟩ hP hS dX4_contains_17
end
section
theorem nu_nu {α : Type} (f : Nat → α) (k : Nat) (x y : α) : nu (nu f k x) k y = nu f k y := by
  funext j
  by_cases h : j = k <;> simp [nu, h]
theorem kq_0 {n k0 : Nat} {t : Nat → Bool} {kp : Nat → Nat → FF} {fr : Nat → FF} : ∀ i : Nat, nu kp k0 fr i = if i = k0 then fr else if i < 0 ∧ t i = true then am n (kp i) (- (kp i k0)) fr else kp i := by
  intro i
  by_cases h : i = k0
  · subst h
    rw [nu_s, if_pos rfl]
  · rw [nu_n h, if_neg h, if_neg (fun z => absurd z.1 (Nat.not_lt_zero _))]
theorem kq_t {n k0 k : Nat} {t : Nat → Bool} {kp kq : Nat → Nat → FF} {fr : Nat → FF} (h : ∀ i : Nat, kq i = if i = k0 then fr else if i < k ∧ t i = true then am n (kp i) (- (kp i k0)) fr else kp i) (hk : k ≠ k0) (ht : t k = true) : ∀ i : Nat, nu kq k (am n (kq k) (- (kq k k0)) (kq k0)) i = if i = k0 then fr else if i < k + 1 ∧ t i = true then am n (kp i) (- (kp i k0)) fr else kp i := by
  intro i
  have h1 := h k
  rw [if_neg hk, if_neg (fun z => absurd z.1 (Nat.lt_irrefl k))] at h1
  have h0 := h k0
  rw [if_pos rfl] at h0
  by_cases e : i = k
  · subst e
    rw [nu_s, if_neg hk, if_pos ⟨Nat.lt_succ_self i, ht⟩, h1, h0]
  · rw [nu_n e, h i]
    by_cases e2 : i = k0
    · rw [if_pos e2, if_pos e2]
    · rw [if_neg e2, if_neg e2]
      by_cases e3 : i < k ∧ t i = true
      · rw [if_pos e3, if_pos ⟨by omega, e3.2⟩]
      · rw [if_neg e3, if_neg (fun z => e3 ⟨by omega, z.2⟩)]
theorem kq_f {n k0 k : Nat} {t : Nat → Bool} {kp kq : Nat → Nat → FF} {fr : Nat → FF} (h : ∀ i : Nat, kq i = if i = k0 then fr else if i < k ∧ t i = true then am n (kp i) (- (kp i k0)) fr else kp i) (ht : t k = false) : ∀ i : Nat, kq i = if i = k0 then fr else if i < k + 1 ∧ t i = true then am n (kp i) (- (kp i k0)) fr else kp i := by
  intro i
  rw [h i]
  by_cases e2 : i = k0
  · rw [if_pos e2, if_pos e2]
  · rw [if_neg e2, if_neg e2]
    by_cases e3 : i < k ∧ t i = true
    · rw [if_pos e3, if_pos ⟨by omega, e3.2⟩]
    · rw [if_neg e3, if_neg (fun z => by
        by_cases e : i = k
        · rw [e, ht] at z
          exact absurd z.2 (by decide)
        · exact e3 ⟨by omega, z.2⟩)]
theorem kq_e {n k0 k : Nat} {t : Nat → Bool} {kp kq : Nat → Nat → FF} {r : Nat → FF} (h : ∀ i : Nat, kq i = if i = k0 then sp_fresh n kp r k0 else if i < k ∧ t i = true then am n (kp i) (- (kp i k0)) (sp_fresh n kp r k0) else kp i) (hk : k = n) : kq = sp_kp n t kp r k0 := by
  funext i
  rw [h i, hk]
  rfl
theorem fp_t {t : Nat → Bool} {n k le : Nat} (h : k < n) (ht : t k = true) : fpl t (n - k) k le = fpl t (n - (k + 1)) (k + 1) le := by
  rw [show n - k = (n - (k + 1)) + 1 by omega]
  exact if_pos ht
theorem fp_f {t : Nat → Bool} {n k le : Nat} (h : k < n) (ht : t k = false) (hl : le ≠ 0) : fpl t (n - k) k le = fpl t (n - (k + 1)) (k + 1) (le - 1) := by
  rw [show n - k = (n - (k + 1)) + 1 by omega]
  exact (if_neg (by rw [ht]; decide)).trans (if_neg hl)
theorem fp_h {t : Nat → Bool} {n k le : Nat} (h : k < n) (ht : t k = false) (hl : le = 0) : fpl t (n - k) k le = k := by
  rw [show n - k = (n - (k + 1)) + 1 by omega]
  exact (if_neg (by rw [ht]; decide)).trans (if_pos hl)
theorem fp_e {t : Nat → Bool} {n k le : Nat} (h : n ≤ k) : fpl t (n - k) k le = 0 := by
  rw [show n - k = 0 by omega]
  rfl
theorem neg_num (v : Nat → FF) (j : Nat) : (fi (-(nI (vN v j))).toInt).val = (- v j).val := by
  have h := (v j).isLt
  have e : (-(nI (vN v j))).toInt = -((v j).val : Int) := by
    rw [Int32.toInt_neg]
    show (-(nI (v j).val).toInt).bmod (2 ^ 32) = _
    rw [nI_toInt (by omega)]
    exact i32_bm (by omega) (by omega)
  rw [e, fi_neg, fi_ff]

set_option maxRecDepth 20000 in
theorem wd_X4_add_0 : Cond.fieldLink RX4 11 "AffineHulls$Span" "kept" "[[I" ∈ wsX4_add := by decide +kernel
set_option maxRecDepth 20000 in
theorem in_X4_add_X4 : ∀ w ∈ u_ws RX4 TX4 3, w ∈ wsX4_add := by decide +kernel
set_option maxRecDepth 20000 in
theorem wd_X4_add_2 : Cond.fieldLink RX4 20 "AffineHulls$Span" "rest" "[I" ∈ wsX4_add := by decide +kernel
set_option maxRecDepth 20000 in
theorem wd_X4_add_3 : Cond.initialized RX5 ∈ wsX4_add := by decide +kernel
set_option maxRecDepth 20000 in
theorem wd_X4_add_4 : Cond.static yX5_inverse ∈ wsX4_add := by decide +kernel
set_option maxRecDepth 20000 in
theorem wd_X4_add_5 : Cond.static yX5_addMultiple ∈ wsX4_add := by decide +kernel
set_option maxRecDepth 20000 in
theorem wd_X4_add_6 : Cond.fieldLink RX4 16 "AffineHulls$Span" "taken" "[Z" ∈ wsX4_add := by decide +kernel
set_option maxRecDepth 20000 in
theorem wd_X4_add_7 : Cond.constant RX4 46 (65521) ∈ wsX4_add := by decide +kernel
abbrev rm_X4_add : Room := { frames := 3, cells := 0, slots := 0, locals := 103 }
set_option maxHeartbeats 4000000 in
set_option maxRecDepth 100000 in
theorem c_X4_add {l : Launch} {G : cx_G} {L : List Nat} {ad : Nat → Nat} {g : Nat → va_E} (hD : cx_D L ad) {b n : Nat} {t : Nat → Bool} {kp : Nat → Nat → FF} {rs : Nat → FF}  {a : Nat} {v : Nat → FF} (ha : a ∈ L) (hab : a < b ∨ b + 4 + n ≤ a) (c_a : g a = nA G n (vN v)) (hm : ∀ j : Nat, j < 4 + n → b + j ∈ L) (hn : n < 1000) (hn0 : 0 < n) (hsp : SpanAt G ad g b n t kp rs) (hnt : ∀ j : Nat, j < n → sp_red n t kp n (cpv n v rs) j ≠ 0 → t j = false) : MI l yX4_add wsX4_add rm_X4_add G L ad g [.ref (ad b), .ref (ad a)] (fun r u => ∃ (rb : Bool) (t2 : Nat → Bool) (kp2 : Nat → Nat → FF), r = (if rb = true then 1 else 0) ∧ (∀ j : Nat, (j < b ∨ b + 4 + n ≤ j) → u j = g j) ∧ SpanAt G ad u b n t2 kp2 (sp_red n t kp n (cpv n v rs)) ∧ AddR n t kp (sp_red n t kp n (cpv n v rs)) rb t2 kp2) := by
  refine cx_ofI (cc := cX4_add) (maxL := 5) (by decide +kernel) rfl (Nat.le_of_ble_eq_true rfl) ?_
  intro p e s m args below meth c Q hx hb hts hown hml hP hK hS hz hret ls hl
  have hown : s.vm.findClass RX4 = some m.cls := hown
  have hl : lv_has ls 5 [(0, .ref (ad b)), (1, .ref (ad a))] := hl
  have fr : ∀ j : Nat, (j < b ∨ b + 4 + n ≤ j) → g j = g j := fun _ _ => rfl
  obtain ⟨c_s, c_k, c_t, c_r, c_q⟩ := hsp
  refine lv_aload_n hx hb dX4_add_0 rfl (lv_at hl 0 rfl) ?_
  refine lv_aload_n hx hb dX4_add_1 rfl (lv_at hl 1 rfl) ?_
  refine cx_Vv (As := [.ref (ad a)]) (rest := []) ⟨hx, hb, hml, hown, hts⟩ (c_X4_reduce hD (b := b) (n := n) (a := a) (v := v) (rs := rs) ha hab c_a hm hn hn0 ⟨c_s, c_k, c_t, c_r, c_q⟩) (cwV 1 hts gX4_add_X4_reduce rfl rfl rfl (by decide +kernel) ⟨Nat.le_of_ble_eq_true rfl, Nat.le_of_ble_eq_true rfl⟩) hK hP hS hz (hm 0 (by omega)) c_s rfl ⟨Nat.zero_le _, Nat.zero_le _⟩ rfl hl.1 rfl (Nat.le_of_ble_eq_true rfl) dX4_add_2 (fun g1 H locs hp1 hP hS => ?_)
  obtain ⟨hp1a, hsp2⟩ := hp1
  have hsp3 := hsp2
  obtain ⟨c_s, c_k, c_t, c_r, c_q⟩ := hsp2
  have c_a : g1 a = nA G n (vN v) := (hp1a a (by omega)).trans c_a
  have fr : ∀ j : Nat, (j < b ∨ b + 4 + n ≤ j) → g1 j = g j := fun j hj => (hp1a j (by omega)).trans (fr j hj)
  obtain ⟨R, eR⟩ : ∃ R : Nat → FF, R = sp_red n t kp n (cpv n v rs) := ⟨_, rfl⟩
  rw [← eR] at c_r hsp3 hnt
  refine lv_aload_n hx hb dX4_add_5 rfl (lv_at hl 0 rfl) ?_
  refine cx_Vi (As := []) (rest := []) ⟨hx, hb, hml, hown, hts⟩ (c_X4_leadingPlace hD (b := b) (n := n) (t := t) (kp := kp) (rs := R) hm hn hn0 hsp3) (cwV 0 hts gX4_add_X4_leadingPlace rfl rfl rfl (by decide +kernel) ⟨Nat.le_of_ble_eq_true rfl, Nat.le_of_ble_eq_true rfl⟩) hK hP hS hz (hm 0 (by omega)) c_s rfl ⟨Nat.zero_le _, Nat.zero_le _⟩ rfl hl.1 rfl (Nat.le_of_ble_eq_true rfl) dX4_add_6 (fun r2 g2 H locs hp2 hP hS => ?_)
  obtain ⟨hld, ehp2g⟩ := hp2
  rw [ehp2g] at hP
  refine lv_istore_n (lv' := [(2, .int r2), (0, .ref (ad b)), (1, .ref (ad a))]) hx hb dX4_add_9 rfl hl (by decide) rfl (fun ls hl => ?_)
  refine lv_iload_n hx hb dX4_add_10 rfl (lv_at hl 0 rfl) ?_
  refine lv_if_ge (x := r2) (tgt := 16) hx hb dX4_add_11 (by decide) (fun h11 => ?_) (fun h11 => ?_)
  · skip
    obtain ⟨k0, hlead, rfl⟩ := ld_pos hld h11
    have hk0 := hlead.1
    have ht0 : t k0 = false := hnt k0 hk0 hlead.2.1
    refine lv_aload_n hx hb dX4_add_16 rfl (lv_at hl 1 rfl) ?_
    refine ax_get (k := b) (v := .ref (ad (b + 1))) hx hb hts in_X4_add_X4 hown hK hP (hm 0 (by omega)) c_s rfl 0 (by decide) (hts _ wd_X4_add_0) (fun _ h9 => h9) rfl dX4_add_17 ?_
    refine lv_iload_n hx hb dX4_add_20 rfl (lv_at hl 0 rfl) ?_
    refine ax_aald (k := b + 1) (i := k0) (b := ad (b + 4 + k0)) hx hb hK hP (hm 1 (by omega)) 6 rfl rfl c_k (by omega) (by omega) (if_pos (by omega)) dX4_add_21 ?_
    refine lv_astore_n (lv' := [(3, .ref (ad (b + 4 + k0))), (2, .int (nI k0)), (0, .ref (ad b)), (1, .ref (ad a))]) hx hb dX4_add_22 rfl hl (by decide) rfl (fun ls hl => ?_)
    refine lv_aload_n hx hb dX4_add_23 rfl (lv_at hl 0 rfl) ?_
    refine lv_iconst (v := nI 0) hx hb dX4_add_24 (by decide) ?_
    refine cx_Sv (As := [.ref (ad (b + 4 + k0)), .int (nI 0)]) (rest := []) ⟨hx, hb, hml, hown, hts⟩ (c_J7_fill_53178 hD (a := b + 4 + k0) (n := n) (v := kp k0) (by have := hm (4 + k0) (by omega); rwa [← Nat.add_assoc] at this) hn (c_q k0 hk0)) (va_cwS 2 hts gX4_add_J7_fill_53178 rfl rfl rfl (by decide +kernel) ⟨Nat.le_of_ble_eq_true rfl, Nat.le_of_ble_eq_true rfl⟩) hK hP hS hz ⟨Nat.zero_le _, Nat.zero_le _⟩ rfl hl.1 rfl (Nat.le_of_ble_eq_true rfl) dX4_add_25 (fun g3 H locs hp3 hP hS => ?_)
    obtain ⟨hp3a, hp3b⟩ := hp3
    have c_s : g3 b = .inr (4, [.ref (ad (b + 1)), .ref (ad (b + 2)), .ref (ad (b + 3))]) := (hp3a b (by omega)).trans c_s
    have c_k : g3 (b + 1) = rA (G.2 6) n (fun i => if i < n then some (ad (b + 4 + i)) else none) := (hp3a (b + 1) (by omega)).trans c_k
    have c_t : g3 (b + 2) = zA G n t := (hp3a (b + 2) (by omega)).trans c_t
    have c_r : g3 (b + 3) = nA G n (vN R) := (hp3a (b + 3) (by omega)).trans c_r
    have c_a : g3 a = nA G n (vN v) := (hp3a a (by omega)).trans c_a
    have fr : ∀ j : Nat, (j < b ∨ b + 4 + n ≤ j) → g3 j = g j := fun j hj => (hp3a j (by omega)).trans (fr j hj)
    have c_q := fam_up c_q hp3a hp3b
    refine lv_aload_n hx hb dX4_add_28 rfl (lv_at hl 0 rfl) ?_
    refine lv_aload_n hx hb dX4_add_29 rfl (lv_at hl 2 rfl) ?_
    refine ax_get (k := b) (v := .ref (ad (b + 3))) hx hb hts in_X4_add_X4 hown hK hP (hm 0 (by omega)) c_s rfl 2 (by decide) (hts _ wd_X4_add_2) (fun _ h9 => h9) rfl dX4_add_30 ?_
    refine lv_iload_n hx hb dX4_add_33 rfl (lv_at hl 1 rfl) ?_
    refine ax_iald (k := b + 3) (i := k0) (v := nI ((vN R) k0)) hx hb hK hP (hm 3 (by omega)) c_r (by omega) (by omega) rfl dX4_add_34 ?_
    refine cx_SNi (As := [.int (nI ((vN R) k0))]) (rest := [.ref (ad (b + 4 + k0))]) ⟨hx, hb, hml, hown, hts⟩ (c_X5_inverse hD (x := R k0)) ⟨va_cnB 1 hts gX4_add_X5_inverse_n38 rfl rfl rfl (hK.2 (.methodLinkNest RX4 38 yX5_inverse RX5) (by decide +kernel)) (hts _ wd_X4_add_3) (by decide +kernel) ⟨Nat.le_of_ble_eq_true rfl, Nat.le_of_ble_eq_true rfl⟩, hts _ wd_X4_add_4, trivial⟩ hK hP hS hz ⟨Nat.zero_le _, Nat.zero_le _⟩ rfl hl.1 rfl (Nat.le_of_ble_eq_true rfl) dX4_add_35 (fun r4 g4 H locs hp4 hP hS => ?_)
    obtain ⟨er4, ehp4g⟩ := hp4
    rw [ehp4g] at hP
    rw [er4]
    refine lv_aload_n hx hb dX4_add_38 rfl (lv_at hl 2 rfl) ?_
    refine ax_get (k := b) (v := .ref (ad (b + 3))) hx hb hts in_X4_add_X4 hown hK hP (hm 0 (by omega)) c_s rfl 2 (by decide) (hts _ wd_X4_add_2) (fun _ h9 => h9) rfl dX4_add_39 ?_
    refine cx_SNv (As := [.ref (ad (b + 4 + k0)), .int (nI ((finv (R k0)).val)), .ref (ad (b + 3))]) (rest := []) ⟨hx, hb, hml, hown, hts⟩ (c_X5_addMultiple hD (a := b + 4 + k0) (b := b + 3) (n := n) (f := (finv (R k0)).val) (v := fl0 n (kp k0)) (w := R) (cf := finv (R k0)) (by omega) (by have := hm (4 + k0) (by omega); rwa [← Nat.add_assoc] at this) (hm 3 (by omega)) hn (Nat.le_of_lt (finv (R k0)).isLt) (ff_of _) (by have q := c_q k0 hk0; rwa [nu_s] at q) c_r) ⟨va_cnB 3 hts gX4_add_X5_addMultiple_n42 rfl rfl rfl (hK.2 (.methodLinkNest RX4 42 yX5_addMultiple RX5) (by decide +kernel)) (hts _ wd_X4_add_3) (by decide +kernel) ⟨Nat.le_of_ble_eq_true rfl, Nat.le_of_ble_eq_true rfl⟩, hts _ wd_X4_add_5, trivial⟩ hK hP hS hz ⟨Nat.zero_le _, Nat.zero_le _⟩ rfl hl.1 rfl (Nat.le_of_ble_eq_true rfl) dX4_add_42 (fun g5 H locs hp5 hP hS => ?_)
    obtain ⟨hp5a, hp5b⟩ := hp5
    have c_s : g5 b = .inr (4, [.ref (ad (b + 1)), .ref (ad (b + 2)), .ref (ad (b + 3))]) := (hp5a b (by omega)).trans c_s
    have c_k : g5 (b + 1) = rA (G.2 6) n (fun i => if i < n then some (ad (b + 4 + i)) else none) := (hp5a (b + 1) (by omega)).trans c_k
    have c_t : g5 (b + 2) = zA G n t := (hp5a (b + 2) (by omega)).trans c_t
    have c_r : g5 (b + 3) = nA G n (vN R) := (hp5a (b + 3) (by omega)).trans c_r
    have c_a : g5 a = nA G n (vN v) := (hp5a a (by omega)).trans c_a
    have fr : ∀ j : Nat, (j < b ∨ b + 4 + n ≤ j) → g5 j = g j := fun j hj => (hp5a j (by omega)).trans (fr j hj)
    have c_q := fam_up c_q hp5a hp5b
    rw [nu_nu] at c_q
    have c_q : ∀ i : Nat, i < n → g5 (b + 4 + i) = nA G n (vN (nu kp k0 (sp_fresh n kp R k0) i)) := c_q
    refine lv_iconst (v := nI 0) hx hb dX4_add_45 (by decide) ?_
    refine lv_istore (lv' := [(4, .int (nI 0)), (3, .ref (ad (b + 4 + k0))), (2, .int (nI k0)), (0, .ref (ad b)), (1, .ref (ad a))]) hx hb dX4_add_46 hl (by decide) rfl (fun ls hl => ?_)
    have LP48 : ∀ (fu : Nat) (k : Nat) (kq : Nat → Nat → FF), (k ≤ n) → (∀ i : Nat, kq i = if i = k0 then sp_fresh n kp R k0 else if i < k ∧ t i = true then am n (kp i) (- (kp i k0)) (sp_fresh n kp R k0) else kp i) → (n - k) < fu → ∀ (ga6 : Nat → va_E) (H : Heap) (locs : List Loc) (ls : Array Slot), (ga6 b = .inr (4, [.ref (ad (b + 1)), .ref (ad (b + 2)), .ref (ad (b + 3))])) → (ga6 (b + 1) = rA (G.2 6) n (fun i => if i < n then some (ad (b + 4 + i)) else none)) → (ga6 (b + 2) = zA G n t) → (ga6 (b + 3) = nA G n (vN R)) → (∀ i : Nat, i < n → ga6 (b + 4 + i) = nA G n (vN (kq i))) → (ga6 a = nA G n (vN v)) → (∀ j : Nat, (j < b ∨ b + 4 + n ≤ j) → ga6 j = g j) → va_P G.1 vwCl (wl L ad ga6) H → va_S (cx_A L ad s.heap.size) s.heap H locs → lv_has ls 5 [(4, .int (nI k)), (3, .ref (ad (b + 4 + k0))), (2, .int (nI k0)), (0, .ref (ad b)), (1, .ref (ad a))] → W p l e rm_X4_add s m args below meth c H locs 0 0 Q (F0 m 48 ls []) := by
      intro fu
      induction fu with
      | zero => intro k kq hkn hq hfu; exact absurd hfu (Nat.not_lt_zero _)
      | succ fu ih48 =>
        intro k kq hkn hq hfu48 ga6 H locs ls c_s c_k c_t c_r c_q c_a fr hP hS hl
        refine lv_iload hx hb dX4_add_48 (lv_at hl 0 rfl) ?_
        refine lv_aload_n hx hb dX4_add_50 rfl (lv_at hl 3 rfl) ?_
        refine ax_get (k := b) (v := .ref (ad (b + 2))) hx hb hts in_X4_add_X4 hown hK hP (hm 0 (by omega)) c_s rfl 1 (by decide) (hts _ wd_X4_add_6) (fun _ h9 => h9) rfl dX4_add_51 ?_
        refine ax_alen (k := b + 2) (n := n) hx hb hK hP (hm 2 (by omega)) 1 rfl c_t rfl dX4_add_54 ?_
        refine ax_icge (a := k) (b := n) (tgt := 97) hx hb dX4_add_55 (by decide) (by omega) (by omega) (fun h55 => ?_) (fun h55 => ?_)
        · skip
          refine lv_aload_n hx hb dX4_add_97 rfl (lv_at hl 3 rfl) ?_
          refine ax_get (k := b) (v := .ref (ad (b + 2))) hx hb hts in_X4_add_X4 hown hK hP (hm 0 (by omega)) c_s rfl 1 (by decide) (hts _ wd_X4_add_6) (fun _ h9 => h9) rfl dX4_add_98 ?_
          refine lv_iload_n hx hb dX4_add_101 rfl (lv_at hl 2 rfl) ?_
          refine lv_iconst (v := nI 1) hx hb dX4_add_102 (by decide) ?_
          refine ax_zast (k := b + 2) (i := k0) (b := true) hx hb hK hP hD hS (hm 2 (by omega)) c_t (by omega) (by omega) (by decide) dX4_add_103 (fun H locs g7 eg7 hP hS => ?_)
          have c_s : g7 b = .inr (4, [.ref (ad (b + 1)), .ref (ad (b + 2)), .ref (ad (b + 3))]) := (cx_ne eg7 b (by omega)).trans c_s
          have c_k : g7 (b + 1) = rA (G.2 6) n (fun i => if i < n then some (ad (b + 4 + i)) else none) := (cx_ne eg7 (b + 1) (by omega)).trans c_k
          have c_r : g7 (b + 3) = nA G n (vN R) := (cx_ne eg7 (b + 3) (by omega)).trans c_r
          have c_q : ∀ i : Nat, i < n → g7 (b + 4 + i) = nA G n (vN (kq i)) := fun i hi => (cx_ne eg7 _ (by omega)).trans (c_q i hi)
          have c_a : g7 a = nA G n (vN v) := (cx_ne eg7 a (by omega)).trans c_a
          have c_t : g7 (b + 2) = zA G n (nu t k0 true) := cx_eq eg7
          have fr : ∀ j : Nat, (j < b ∨ b + 4 + n ≤ j) → g7 j = g j := fun j hj => (cx_ne eg7 j (by omega)).trans (fr j hj)
          refine lv_iconst (v := nI 1) hx hb dX4_add_104 (by decide) ?_
          exact hret (nI 1) g7 _ _ _ _ (by decide) (by rw [← eR]; exact ⟨true, nu t k0 true, kq, by decide, fr, ⟨c_s, c_k, c_t, c_r, c_q⟩, Or.inr ⟨k0, hlead, rfl, rfl, kq_e hq (by omega)⟩⟩) hP hS dX4_add_105
        · skip
          refine lv_aload_n hx hb dX4_add_58 rfl (lv_at hl 3 rfl) ?_
          refine ax_get (k := b) (v := .ref (ad (b + 2))) hx hb hts in_X4_add_X4 hown hK hP (hm 0 (by omega)) c_s rfl 1 (by decide) (hts _ wd_X4_add_6) (fun _ h9 => h9) rfl dX4_add_59 ?_
          refine lv_iload hx hb dX4_add_62 (lv_at hl 0 rfl) ?_
          refine ax_zald (k := b + 2) (i := k) hx hb hK hP (hm 2 (by omega)) c_t (by omega) (by omega) dX4_add_64 ?_
          refine ax_zeq (b := (t k)) (tgt := 91) hx hb dX4_add_65 (by decide) (fun h65 => ?_) (fun h65 => ?_)
          · skip
            refine lv_iinc (v := nI (k + 1)) (lv' := [(4, .int (nI (k + 1))), (3, .ref (ad (b + 4 + k0))), (2, .int (nI k0)), (0, .ref (ad b)), (1, .ref (ad a))]) hx hb dX4_add_91 hl (k := 0) rfl (nI_1 _) (by decide) rfl (fun ls hl => ?_)
            refine lv_goto (tgt := 48) hx hb dX4_add_94 (by decide) ?_
            exact ih48 (k + 1) kq h55 (kq_f hq h65) (by omega) ga6 _ _ _ c_s c_k c_t c_r c_q c_a  fr hP hS (lv_sub hl [0, 1, 2, 3, 4] rfl)
          · skip
            refine lv_aload_n hx hb dX4_add_68 rfl (lv_at hl 3 rfl) ?_
            refine ax_get (k := b) (v := .ref (ad (b + 1))) hx hb hts in_X4_add_X4 hown hK hP (hm 0 (by omega)) c_s rfl 0 (by decide) (hts _ wd_X4_add_0) (fun _ h9 => h9) rfl dX4_add_69 ?_
            refine lv_iload hx hb dX4_add_72 (lv_at hl 0 rfl) ?_
            refine ax_aald (k := b + 1) (i := k) (b := ad (b + 4 + k)) hx hb hK hP (hm 1 (by omega)) 6 rfl rfl c_k (by omega) (by omega) (if_pos (by omega)) dX4_add_74 ?_
            refine lv_ldc (v := 65521) hx hb hown (hts _ wd_X4_add_7) dX4_add_75 ?_
            rw [show (65521 : Int32) = nI 65521 from by decide]
            refine lv_aload_n hx hb dX4_add_77 rfl (lv_at hl 3 rfl) ?_
            refine ax_get (k := b) (v := .ref (ad (b + 1))) hx hb hts in_X4_add_X4 hown hK hP (hm 0 (by omega)) c_s rfl 0 (by decide) (hts _ wd_X4_add_0) (fun _ h9 => h9) rfl dX4_add_78 ?_
            refine lv_iload hx hb dX4_add_81 (lv_at hl 0 rfl) ?_
            refine ax_aald (k := b + 1) (i := k) (b := ad (b + 4 + k)) hx hb hK hP (hm 1 (by omega)) 6 rfl rfl c_k (by omega) (by omega) (if_pos (by omega)) dX4_add_83 ?_
            refine lv_iload_n hx hb dX4_add_84 rfl (lv_at hl 2 rfl) ?_
            have c_rk : ga6 (b + 4 + k) = nA G n (vN (kq k)) := c_q k (by omega)
            have b1 := vN_lt (kq k) k0
            have hkk : k ≠ k0 := fun z => by rw [z, ht0] at h65; cases h65
            refine ax_iald (k := b + 4 + k) (i := k0) (v := nI ((vN (kq k)) k0)) hx hb hK hP (by have := hm (4 + k) (by omega); rwa [← Nat.add_assoc] at this) c_rk (by omega) (by omega) rfl dX4_add_85 ?_
            refine ax_sub (a := 65521) (b := (vN (kq k)) k0) hx hb dX4_add_86 (by omega) ?_
            refine lv_aload_n hx hb dX4_add_87 rfl (lv_at hl 1 rfl) ?_
            refine cx_SNv (As := [.ref (ad (b + 4 + k)), .int (nI (65521 - ((vN (kq k)) k0))), .ref (ad (b + 4 + k0))]) (rest := []) ⟨hx, hb, hml, hown, hts⟩ (c_X5_addMultiple hD (a := b + 4 + k) (b := b + 4 + k0) (n := n) (f := 65521 - vN (kq k) k0) (v := kq k) (w := kq k0) (cf := - (kq k k0)) (by omega) (by have := hm (4 + k) (by omega); rwa [← Nat.add_assoc] at this) (by have := hm (4 + k0) (by omega); rwa [← Nat.add_assoc] at this) hn (Nat.sub_le _ _) (ff_sub (kq k k0) rfl) (c_q k (by omega)) (c_q k0 hk0)) ⟨va_cnB 3 hts gX4_add_X5_addMultiple_n42 rfl rfl rfl (hK.2 (.methodLinkNest RX4 42 yX5_addMultiple RX5) (by decide +kernel)) (hts _ wd_X4_add_3) (by decide +kernel) ⟨Nat.le_of_ble_eq_true rfl, Nat.le_of_ble_eq_true rfl⟩, hts _ wd_X4_add_5, trivial⟩ hK hP hS hz ⟨Nat.zero_le _, Nat.zero_le _⟩ rfl hl.1 rfl (Nat.le_of_ble_eq_true rfl) dX4_add_88 (fun g8 H locs hp8 hP hS => ?_)
            obtain ⟨hp8a, hp8b⟩ := hp8
            have c_s : g8 b = .inr (4, [.ref (ad (b + 1)), .ref (ad (b + 2)), .ref (ad (b + 3))]) := (hp8a b (by omega)).trans c_s
            have c_k : g8 (b + 1) = rA (G.2 6) n (fun i => if i < n then some (ad (b + 4 + i)) else none) := (hp8a (b + 1) (by omega)).trans c_k
            have c_t : g8 (b + 2) = zA G n t := (hp8a (b + 2) (by omega)).trans c_t
            have c_r : g8 (b + 3) = nA G n (vN R) := (hp8a (b + 3) (by omega)).trans c_r
            have c_a : g8 a = nA G n (vN v) := (hp8a a (by omega)).trans c_a
            have fr : ∀ j : Nat, (j < b ∨ b + 4 + n ≤ j) → g8 j = g j := fun j hj => (hp8a j (by omega)).trans (fr j hj)
            have c_q := fam_up c_q hp8a hp8b
            refine lv_iinc (v := nI (k + 1)) (lv' := [(4, .int (nI (k + 1))), (3, .ref (ad (b + 4 + k0))), (2, .int (nI k0)), (0, .ref (ad b)), (1, .ref (ad a))]) hx hb dX4_add_91 hl (k := 0) rfl (nI_1 _) (by decide) rfl (fun ls hl => ?_)
            refine lv_goto (tgt := 48) hx hb dX4_add_94 (by decide) ?_
            exact ih48 (k + 1) (nu kq k (am n (kq k) (- (kq k k0)) (kq k0))) h55 (kq_t hq hkk h65) (by omega) g8 _ _ _ c_s c_k c_t c_r c_q c_a  fr hP hS (lv_sub hl [0, 1, 2, 3, 4] rfl)
    exact LP48 ((n - 0) + 1) 0 (nu kp k0 (sp_fresh n kp R k0)) (Nat.zero_le n) kq_0 (Nat.lt_succ_self _) g5 _ _ _ c_s c_k c_t c_r c_q c_a  fr hP hS (lv_sub hl [0, 1, 2, 3, 4] rfl)
  · skip
    refine lv_iconst (v := nI 0) hx hb dX4_add_14 (by decide) ?_
    exact hret (nI 0) g1 _ _ _ _ (by decide) (by rw [← eR]; exact ⟨false, t, kp, by decide, fr, hsp3, Or.inl ⟨rfl, ld_neg hn hld h11, rfl, rfl⟩⟩) hP hS dX4_add_15

set_option maxRecDepth 20000 in
theorem wd_X4_freePlace_0 : Cond.fieldLink RX4 16 "AffineHulls$Span" "taken" "[Z" ∈ wsX4_freePlace := by decide +kernel
set_option maxRecDepth 20000 in
theorem in_X4_freePlace_X4 : ∀ w ∈ u_ws RX4 TX4 3, w ∈ wsX4_freePlace := by decide +kernel
abbrev rm_X4_freePlace : Room := { frames := 0, cells := 0, slots := 0, locals := 0 }
set_option maxHeartbeats 4000000 in
set_option maxRecDepth 100000 in
theorem c_X4_freePlace {l : Launch} {G : cx_G} {L : List Nat} {ad : Nat → Nat} {g : Nat → va_E} (hD : cx_D L ad) {b n : Nat} {t : Nat → Bool} {kp : Nat → Nat → FF} {rs : Nat → FF} {i : Nat} (hi : i < 1000) (hm : ∀ j : Nat, j < 4 + n → b + j ∈ L) (hn : n < 1000) (hn0 : 0 < n) (hsp : SpanAt G ad g b n t kp rs) : MI l yX4_freePlace wsX4_freePlace rm_X4_freePlace G L ad g [.ref (ad b), .int (nI i)] (fun r u => r = nI (fpl t (n - 1) 1 i) ∧ u = g) := by
  refine cx_ofI (cc := cX4_freePlace) (maxL := 4) (by decide +kernel) rfl (Nat.le_of_ble_eq_true rfl) ?_
  intro p e s m args below meth c Q hx hb hts hown hml hP hK hS hz hret ls hl
  have hown : s.vm.findClass RX4 = some m.cls := hown
  have hl : lv_has ls 4 [(0, .ref (ad b)), (1, .int (nI i))] := hl
  obtain ⟨c_s, c_k, c_t, c_r, c_q⟩ := hsp
  refine lv_iload_n hx hb dX4_freePlace_0 rfl (lv_at hl 1 rfl) ?_
  refine lv_istore_n (lv' := [(2, .int (nI i)), (0, .ref (ad b)), (1, .int (nI i))]) hx hb dX4_freePlace_1 rfl hl (by decide) rfl (fun ls hl => ?_)
  refine lv_iconst (v := nI 1) hx hb dX4_freePlace_2 (by decide) ?_
  refine lv_istore_n (lv' := [(3, .int (nI 1)), (2, .int (nI i)), (0, .ref (ad b)), (1, .int (nI i))]) hx hb dX4_freePlace_3 rfl hl (by decide) rfl (fun ls hl => ?_)
  have LP4 : ∀ (fu : Nat) (k : Nat) (le : Nat), (1 ≤ k) → (k ≤ n) → (le ≤ i) → (fpl t (n - k) k le = fpl t (n - 1) 1 i) → (n - k) < fu → ∀ (ls : Array Slot), lv_has ls 4 [(3, .int (nI k)), (2, .int (nI le)), (0, .ref (ad b)), (1, .int (nI i))] → W p l e rm_X4_freePlace s m args below meth c s.heap [] 0 0 Q (F0 m 4 ls []) := by
    intro fu
    induction fu with
    | zero => intro k le hk1 hkn hle hf hfu; exact absurd hfu (Nat.not_lt_zero _)
    | succ fu ih4 =>
      intro k le hk1 hkn hle hf hfu4 ls hl
      refine lv_iload_n hx hb dX4_freePlace_4 rfl (lv_at hl 0 rfl) ?_
      refine lv_aload_n hx hb dX4_freePlace_5 rfl (lv_at hl 2 rfl) ?_
      refine ax_get (k := b) (v := .ref (ad (b + 2))) hx hb hts in_X4_freePlace_X4 hown hK hP (hm 0 (by omega)) c_s rfl 1 (by decide) (hts _ wd_X4_freePlace_0) (fun _ h9 => h9) rfl dX4_freePlace_6 ?_
      refine ax_alen (k := b + 2) (n := n) hx hb hK hP (hm 2 (by omega)) 1 rfl c_t rfl dX4_freePlace_9 ?_
      refine ax_icge (a := k) (b := n) (tgt := 37) hx hb dX4_freePlace_10 (by decide) (by omega) (by omega) (fun h10 => ?_) (fun h10 => ?_)
      · skip
        refine lv_iconst (v := nI 0) hx hb dX4_freePlace_37 (by decide) ?_
        exact hret (nI 0) g _ _ _ _ rfl ⟨by rw [← hf, fp_e h10], rfl⟩ hP hS dX4_freePlace_38
      · skip
        refine lv_aload_n hx hb dX4_freePlace_13 rfl (lv_at hl 2 rfl) ?_
        refine ax_get (k := b) (v := .ref (ad (b + 2))) hx hb hts in_X4_freePlace_X4 hown hK hP (hm 0 (by omega)) c_s rfl 1 (by decide) (hts _ wd_X4_freePlace_0) (fun _ h9 => h9) rfl dX4_freePlace_14 ?_
        refine lv_iload_n hx hb dX4_freePlace_17 rfl (lv_at hl 0 rfl) ?_
        refine ax_zald (k := b + 2) (i := k) hx hb hK hP (hm 2 (by omega)) c_t (by omega) (by omega) dX4_freePlace_18 ?_
        refine ax_zne (b := (t k)) (tgt := 31) hx hb dX4_freePlace_19 (by decide) (fun h19 => ?_) (fun h19 => ?_)
        · skip
          refine lv_iinc (v := nI (k + 1)) (lv' := [(3, .int (nI (k + 1))), (2, .int (nI le)), (0, .ref (ad b)), (1, .int (nI i))]) hx hb dX4_freePlace_31 hl (k := 0) rfl (nI_1 _) (by decide) rfl (fun ls hl => ?_)
          refine lv_goto (tgt := 4) hx hb dX4_freePlace_34 (by decide) ?_
          exact ih4 (k + 1) le (by omega) (by omega) (by omega) ((fp_t h10 h19).symm.trans hf) (by omega) _ (lv_sub hl [0, 1, 2, 3] rfl)
        · skip
          refine lv_iload_n hx hb dX4_freePlace_22 rfl (lv_at hl 1 rfl) ?_
          refine ax_ifne (a := le) (tgt := 28) hx hb dX4_freePlace_23 (by decide) (by omega) (fun h23 => ?_) (fun h23 => ?_)
          · skip
            refine lv_iinc (v := nI (le - 1)) (lv' := [(2, .int (nI (le - 1))), (3, .int (nI k)), (0, .ref (ad b)), (1, .int (nI i))]) hx hb dX4_freePlace_28 hl (k := 1) rfl (sb_m1 (by omega)) (by decide) rfl (fun ls hl => ?_)
            refine lv_iinc (v := nI (k + 1)) (lv' := [(3, .int (nI (k + 1))), (2, .int (nI (le - 1))), (0, .ref (ad b)), (1, .int (nI i))]) hx hb dX4_freePlace_31 hl (k := 1) rfl (nI_1 _) (by decide) rfl (fun ls hl => ?_)
            refine lv_goto (tgt := 4) hx hb dX4_freePlace_34 (by decide) ?_
            exact ih4 (k + 1) (le - 1) (by omega) (by omega) (by omega) ((fp_f h10 h19 h23).symm.trans hf) (by omega) _ (lv_sub hl [0, 1, 2, 3] rfl)
          · skip
            refine lv_iload_n hx hb dX4_freePlace_26 rfl (lv_at hl 0 rfl) ?_
            exact hret (nI k) g _ _ _ _ rfl ⟨by rw [← hf, fp_h h10 h19 h23], rfl⟩ hP hS dX4_freePlace_27
  exact LP4 ((n - 1) + 1) 1 i (by omega) (by omega) (by omega) rfl (Nat.lt_succ_self _) _ (lv_sub hl [0, 1, 2, 3] rfl)

set_option maxRecDepth 20000 in
theorem wd_X4_vanishing_0 : Cond.fieldLink RX4 16 "AffineHulls$Span" "taken" "[Z" ∈ wsX4_vanishing := by decide +kernel
set_option maxRecDepth 20000 in
theorem in_X4_vanishing_X4 : ∀ w ∈ u_ws RX4 TX4 3, w ∈ wsX4_vanishing := by decide +kernel
set_option maxRecDepth 20000 in
theorem wd_X4_vanishing_2 : Cond.fieldLink RX4 11 "AffineHulls$Span" "kept" "[[I" ∈ wsX4_vanishing := by decide +kernel
set_option maxRecDepth 20000 in
theorem wd_X4_vanishing_3 : Cond.initialized RX5 ∈ wsX4_vanishing := by decide +kernel
set_option maxRecDepth 20000 in
theorem wd_X4_vanishing_4 : Cond.static yX5_number ∈ wsX4_vanishing := by decide +kernel
abbrev rm_X4_vanishing : Room := { frames := 2, cells := 0, slots := 0, locals := 42 }
set_option maxHeartbeats 4000000 in
set_option maxRecDepth 100000 in
theorem c_X4_vanishing {l : Launch} {G : cx_G} {L : List Nat} {ad : Nat → Nat} {g : Nat → va_E} (hD : cx_D L ad) {b n : Nat} {t : Nat → Bool} {kp : Nat → Nat → FF} {rs : Nat → FF} {fr k : Nat} (hfr : fr < n) (hk : k < n) (hm : ∀ j : Nat, j < 4 + n → b + j ∈ L) (hn : n < 1000) (hn0 : 0 < n) (hsp : SpanAt G ad g b n t kp rs) : MI l yX4_vanishing wsX4_vanishing rm_X4_vanishing G L ad g [.ref (ad b), .int (nI fr), .int (nI k)] (fun r u => r = nI (van t kp fr k).val ∧ u = g) := by
  refine cx_ofI (cc := cX4_vanishing) (maxL := 3) (by decide +kernel) rfl (Nat.le_of_ble_eq_true rfl) ?_
  intro p e s m args below meth c Q hx hb hts hown hml hP hK hS hz hret ls hl
  have hown : s.vm.findClass RX4 = some m.cls := hown
  have hl : lv_has ls 3 [(0, .ref (ad b)), (1, .int (nI fr)), (2, .int (nI k))] := hl
  obtain ⟨c_s, c_k, c_t, c_r, c_q⟩ := hsp
  refine lv_iload_n hx hb dX4_vanishing_0 rfl (lv_at hl 2 rfl) ?_
  refine lv_iload_n hx hb dX4_vanishing_1 rfl (lv_at hl 1 rfl) ?_
  refine ax_icne (a := k) (b := fr) (tgt := 7) hx hb dX4_vanishing_2 (by decide) (by omega) (by omega) (fun h2 => ?_) (fun h2 => ?_)
  · skip
    refine lv_aload_n hx hb dX4_vanishing_7 rfl (lv_at hl 0 rfl) ?_
    refine ax_get (k := b) (v := .ref (ad (b + 2))) hx hb hts in_X4_vanishing_X4 hown hK hP (hm 0 (by omega)) c_s rfl 1 (by decide) (hts _ wd_X4_vanishing_0) (fun _ h9 => h9) rfl dX4_vanishing_8 ?_
    refine lv_iload_n hx hb dX4_vanishing_11 rfl (lv_at hl 2 rfl) ?_
    refine ax_zald (k := b + 2) (i := k) hx hb hK hP (hm 2 (by omega)) c_t (by omega) (by omega) dX4_vanishing_12 ?_
    refine ax_zeq (b := (t k)) (tgt := 31) hx hb dX4_vanishing_13 (by decide) (fun h13 => ?_) (fun h13 => ?_)
    · skip
      refine lv_iconst (v := nI 0) hx hb dX4_vanishing_31 (by decide) ?_
      exact hret (nI 0) g _ _ _ _ rfl ⟨by unfold van; rw [if_neg h2, if_neg (by rw [h13]; decide)]; rfl, rfl⟩ hP hS dX4_vanishing_32
    · skip
      refine lv_aload_n hx hb dX4_vanishing_16 rfl (lv_at hl 0 rfl) ?_
      refine ax_get (k := b) (v := .ref (ad (b + 1))) hx hb hts in_X4_vanishing_X4 hown hK hP (hm 0 (by omega)) c_s rfl 0 (by decide) (hts _ wd_X4_vanishing_2) (fun _ h9 => h9) rfl dX4_vanishing_17 ?_
      refine lv_iload_n hx hb dX4_vanishing_20 rfl (lv_at hl 2 rfl) ?_
      refine ax_aald (k := b + 1) (i := k) (b := ad (b + 4 + k)) hx hb hK hP (hm 1 (by omega)) 6 rfl rfl c_k (by omega) (by omega) (if_pos (by omega)) dX4_vanishing_21 ?_
      refine lv_iload_n hx hb dX4_vanishing_22 rfl (lv_at hl 1 rfl) ?_
      have c_rk : g (b + 4 + k) = nA G n (vN (kp k)) := c_q k hk
      refine ax_iald (k := b + 4 + k) (i := fr) (v := nI ((vN (kp k)) fr)) hx hb hK hP (by have := hm (4 + k) (by omega); rwa [← Nat.add_assoc] at this) c_rk (by omega) (by omega) rfl dX4_vanishing_23 ?_
      refine lv_ineg hx hb dX4_vanishing_24 ?_
      refine cx_SNi (As := [.int (-(nI (vN (kp k) fr)))]) (rest := []) ⟨hx, hb, hml, hown, hts⟩ (c_X5_number hD (x := -(nI (vN (kp k) fr)))) ⟨va_cnB 1 hts gX4_vanishing_X5_number_n51 rfl rfl rfl (hK.2 (.methodLinkNest RX4 51 yX5_number RX5) (by decide +kernel)) (hts _ wd_X4_vanishing_3) (by decide +kernel) ⟨Nat.le_of_ble_eq_true rfl, Nat.le_of_ble_eq_true rfl⟩, hts _ wd_X4_vanishing_4, trivial⟩ hK hP hS hz ⟨Nat.zero_le _, Nat.zero_le _⟩ rfl hl.1 rfl (Nat.le_of_ble_eq_true rfl) dX4_vanishing_25 (fun r1 g1 H locs hp1 hP hS => ?_)
      obtain ⟨er1, ehp1g⟩ := hp1
      rw [ehp1g] at hP
      rw [er1]
      rw [neg_num]
      refine lv_goto (tgt := 32) hx hb dX4_vanishing_28 (by decide) ?_
      exact hret (nI ((- kp k fr).val)) g _ _ _ _ rfl ⟨by unfold van; rw [if_neg h2, if_pos h13], rfl⟩ hP hS dX4_vanishing_32
  · skip
    refine lv_iconst (v := nI 1) hx hb dX4_vanishing_5 (by decide) ?_
    exact hret (nI 1) g _ _ _ _ rfl ⟨by unfold van; rw [if_pos h2]; rfl, rfl⟩ hP hS dX4_vanishing_6

set_option maxRecDepth 20000 in
theorem wd_X1_clear_0 : Cond.fieldLink RX1 12 "AffineHulls$Hull" "span" "LAffineHulls$Span;" ∈ wsX1_clear := by decide +kernel
set_option maxRecDepth 20000 in
theorem in_X1_clear_X1 : ∀ w ∈ u_ws RX1 TX1 3, w ∈ wsX1_clear := by decide +kernel
set_option maxRecDepth 20000 in
theorem wd_X1_clear_2 : Cond.fieldLink RX1 25 "AffineHulls$Hull" "pointCount" "I" ∈ wsX1_clear := by decide +kernel
abbrev rm_X1_clear : Room := { frames := 1, cells := 0, slots := 0, locals := 21 }
set_option maxHeartbeats 4000000 in
set_option maxRecDepth 100000 in
theorem c_X1_clear {l : Launch} {G : cx_G} {L : List Nat} {ad : Nat → Nat} {g : Nat → va_E} (hD : cx_D L ad) {b n : Nat} {t : Nat → Bool} {kp : Nat → Nat → FF} {rs : Nat → FF} {h mb pc : Nat} (hh : h ∈ L) (hhb : h < b ∨ b + 4 + n ≤ h) (c_o : g h = .inr (1, [.ref (ad b), .ref (ad mb), .int (nI pc)])) (hm : ∀ j : Nat, j < 4 + n → b + j ∈ L) (hn : n < 1000) (hn0 : 0 < n) (hsp : SpanAt G ad g b n t kp rs) : MV l yX1_clear wsX1_clear rm_X1_clear G L ad g [.ref (ad h)] (fun u => (∀ j : Nat, (j ≠ b + 2 ∧ j ≠ h) → u j = g j) ∧ u h = .inr (1, [.ref (ad b), .ref (ad mb), .int (nI 0)]) ∧ ∃ t2 : Nat → Bool, (∀ j : Nat, j < n → t2 j = false) ∧ SpanAt G ad u b n t2 kp rs) := by
  refine cx_ofV (cc := cX1_clear) (maxL := 1) (by decide +kernel) rfl (Nat.le_of_ble_eq_true rfl) ?_
  intro p e s m args below meth c Q hx hb hts hown hml hP hK hS hz hret ls hl
  have hown : s.vm.findClass RX1 = some m.cls := hown
  have hl : lv_has ls 1 [(0, .ref (ad h))] := hl
  have fr : ∀ j : Nat, (j ≠ b + 2 ∧ j ≠ h) → g j = g j := fun _ _ => rfl
  have c_s := hsp.1
  refine lv_aload_n hx hb dX1_clear_0 rfl (lv_at hl 0 rfl) ?_
  refine ax_get (k := h) (v := .ref (ad b)) hx hb hts in_X1_clear_X1 hown hK hP hh c_o rfl 0 (by decide) (hts _ wd_X1_clear_0) (fun _ h9 => h9) rfl dX1_clear_1 ?_
  refine cx_Vv (As := []) (rest := []) ⟨hx, hb, hml, hown, hts⟩ (c_X4_clear hD (b := b) (n := n) (t := t) (kp := kp) (rs := rs) hm hn hn0 hsp) (cwV 0 hts gX1_clear_X4_clear rfl rfl rfl (by decide +kernel) ⟨Nat.le_of_ble_eq_true rfl, Nat.le_of_ble_eq_true rfl⟩) hK hP hS hz (hm 0 (by omega)) c_s rfl ⟨Nat.zero_le _, Nat.zero_le _⟩ rfl hl.1 rfl (Nat.le_of_ble_eq_true rfl) dX1_clear_4 (fun g1 H locs hp1 hP hS => ?_)
  obtain ⟨hp1a, t2, ht2, hsp2⟩ := hp1
  have c_o : g1 h = .inr (1, [.ref (ad b), .ref (ad mb), .int (nI pc)]) := (hp1a h (by omega)).trans c_o
  have fr : ∀ j : Nat, (j ≠ b + 2 ∧ j ≠ h) → g1 j = g j := fun j hj => (hp1a j (by omega)).trans (fr j hj)
  have c_s := hsp2.1
  refine lv_aload_n hx hb dX1_clear_7 rfl (lv_at hl 0 rfl) ?_
  refine lv_iconst (v := nI 0) hx hb dX1_clear_8 (by decide) ?_
  refine ax_put (k := h) (v := .int (nI 0)) (fs' := [.ref (ad b), .ref (ad mb), .int (nI 0)]) hx hb hts in_X1_clear_X1 tyX1 tyX1_ok nmX1 hown hK hP hD hS hh c_o rfl 2 (by decide) (hts _ wd_X1_clear_2) (fun _ h9 => h9) rfl (ty := .int) (by decide +kernel) rfl rfl (Nat.le_of_ble_eq_true rfl) rfl dX1_clear_9 (fun H locs g2 eg2 hP hS => ?_)
  have c_s : g2 b = .inr (4, [.ref (ad (b + 1)), .ref (ad (b + 2)), .ref (ad (b + 3))]) := (cx_ne eg2 b (by omega)).trans c_s
  have c_o : g2 h = .inr (1, [.ref (ad b), .ref (ad mb), .int (nI 0)]) := cx_eq eg2
  have fr : ∀ j : Nat, (j ≠ b + 2 ∧ j ≠ h) → g2 j = g j := fun j hj => (cx_ne eg2 j (by omega)).trans (fr j hj)
  exact hret g2 _ _ _ _ ⟨fr, c_o, t2, ht2, hsp2.kept (fun j h1 h2 => cx_ne eg2 j (by omega))⟩ hP hS dX1_clear_12

set_option maxRecDepth 20000 in
theorem wd_X1_equationCount_0 : Cond.fieldLink RX1 18 "AffineHulls$Hull" "members" "[I" ∈ wsX1_equationCount := by decide +kernel
set_option maxRecDepth 20000 in
theorem in_X1_equationCount_X1 : ∀ w ∈ u_ws RX1 TX1 3, w ∈ wsX1_equationCount := by decide +kernel
set_option maxRecDepth 20000 in
theorem wd_X1_equationCount_2 : Cond.fieldLink RX1 25 "AffineHulls$Hull" "pointCount" "I" ∈ wsX1_equationCount := by decide +kernel
abbrev rm_X1_equationCount : Room := { frames := 0, cells := 0, slots := 0, locals := 0 }
set_option maxHeartbeats 4000000 in
set_option maxRecDepth 100000 in
theorem c_X1_equationCount {l : Launch} {G : cx_G} {L : List Nat} {ad : Nat → Nat} {g : Nat → va_E} (hD : cx_D L ad) {b n h mb pc : Nat} {mf : Nat → Nat} (hh : h ∈ L) (hmb : mb ∈ L) (hpc : pc ≤ n) (c_o : g h = .inr (1, [.ref (ad b), .ref (ad mb), .int (nI pc)])) (c_m : g mb = nA G n mf) : MI l yX1_equationCount wsX1_equationCount rm_X1_equationCount G L ad g [.ref (ad h)] (fun r u => r = nI (n - pc) ∧ u = g) := by
  refine cx_ofI (cc := cX1_equationCount) (maxL := 1) (by decide +kernel) rfl (Nat.le_of_ble_eq_true rfl) ?_
  intro p e s m args below meth c Q hx hb hts hown hml hP hK hS hz hret ls hl
  have hown : s.vm.findClass RX1 = some m.cls := hown
  have hl : lv_has ls 1 [(0, .ref (ad h))] := hl
  refine lv_aload_n hx hb dX1_equationCount_0 rfl (lv_at hl 0 rfl) ?_
  refine ax_get (k := h) (v := .ref (ad mb)) hx hb hts in_X1_equationCount_X1 hown hK hP hh c_o rfl 1 (by decide) (hts _ wd_X1_equationCount_0) (fun _ h9 => h9) rfl dX1_equationCount_1 ?_
  refine ax_alen (k := mb) (n := n) hx hb hK hP hmb 0 rfl c_m rfl dX1_equationCount_4 ?_
  refine lv_aload_n hx hb dX1_equationCount_5 rfl (lv_at hl 0 rfl) ?_
  refine ax_get (k := h) (v := .int (nI pc)) hx hb hts in_X1_equationCount_X1 hown hK hP hh c_o rfl 2 (by decide) (hts _ wd_X1_equationCount_2) (fun _ h9 => h9) rfl dX1_equationCount_6 ?_
  refine ax_sub (a := n) (b := pc) hx hb dX1_equationCount_9 (by omega) ?_
  exact hret (nI (n - pc)) g _ _ _ _ rfl ⟨rfl, rfl⟩ hP hS dX1_equationCount_10
end
section
/-! linear algebra over the numbers: spans, reduced rows, and that they are determined by the span -/
/-- a set of rows of n places that is closed under sums of multiples -/
def Lin (n : Nat) (S : (Nat → FF) → Prop) : Prop :=
  (∀ u v : Nat → FF, (∀ j : Nat, j < n → u j = v j) → S u → S v) ∧ S (fun _ => 0) ∧ ∀ (u v : Nat → FF) (a : FF), S u → S v → S (fun j => u j + a * v j)
theorem Lin.cg {n : Nat} {S : (Nat → FF) → Prop} (h : Lin n S) {u v : Nat → FF} (hu : S u) (e : ∀ j : Nat, j < n → u j = v j) : S v := h.1 u v e hu
theorem Lin.ad {n : Nat} {S : (Nat → FF) → Prop} (h : Lin n S) {u v z : Nat → FF} (a : FF) (hu : S u) (hv : S v) (e : ∀ j : Nat, j < n → u j + a * v j = z j) : S z := h.1 _ z e (h.2.2 u v a hu hv)
/-- the order of places: 0, n - 1, .., 1 -/
def bef (j k : Nat) : Prop := k ≠ 0 ∧ (j = 0 ∨ k < j)
theorem isLead_iff {n : Nat} {v : Nat → FF} {k : Nat} : isLead n v k ↔ k < n ∧ v k ≠ 0 ∧ ∀ j : Nat, j < n → bef j k → v j = 0 := by
  constructor
  · rintro ⟨h1, h2, h3⟩
    refine ⟨h1, h2, fun j hj hb => ?_⟩
    obtain ⟨q1, q2⟩ := h3 hb.1
    rcases hb.2 with e | e
    · rw [e]; exact q1
    · exact q2 j e hj
  · rintro ⟨h1, h2, h3⟩
    exact ⟨h1, h2, fun h0 => ⟨h3 0 (by omega) ⟨h0, Or.inl rfl⟩, fun j a b => h3 j b ⟨h0, Or.inr a⟩⟩⟩
/-- reduced rows kp at the taken places t, of the span S -/
def RRf (n : Nat) (t : Nat → Bool) (kp : Nat → Nat → FF) (S : (Nat → FF) → Prop) : Prop :=
  (∀ k : Nat, k < n → t k = true → S (kp k) ∧ kp k k = 1 ∧ (∀ j : Nat, j < n → t j = true → j ≠ k → kp k j = 0) ∧ ∀ j : Nat, j < n → bef j k → kp k j = 0) ∧
  ∀ v : Nat → FF, S v → (∀ k : Nat, k < n → t k = true → v k = 0) → ∀ j : Nat, j < n → v j = 0
theorem red_steps {n : Nat} {t : Nat → Bool} {kp : Nat → Nat → FF} {S : (Nat → FF) → Prop} (hL : Lin n S) (h : RRf n t kp S) (v : Nat → FF) : ∀ k : Nat, k ≤ n → (∀ i : Nat, i < k → t i = true → sp_red n t kp k v i = 0) ∧ S (fun j => v j - sp_red n t kp k v j) := by
  intro k
  induction k with
  | zero =>
    intro _
    refine ⟨fun i hi => absurd hi (Nat.not_lt_zero i), hL.cg hL.2.1 (fun j _ => ?_)⟩
    show (0 : FF) = v j - v j
    grind
  | succ k ih =>
    intro hk
    obtain ⟨h1, h2⟩ := ih (by omega)
    by_cases ht : t k = true
    · have e : sp_red n t kp (k + 1) v = am n (sp_red n t kp k v) (- (sp_red n t kp k v k)) (kp k) := if_pos ht
      rw [e]
      obtain ⟨q1, q2, q3, q4⟩ := h.1 k (by omega) ht
      constructor
      · intro i hi hti
        unfold am
        rw [if_pos (by omega)]
        by_cases ei : i = k
        · subst ei
          rw [q2]
          grind
        · rw [h1 i (by omega) hti, q3 i (by omega) hti ei]
          grind
      · refine hL.ad (sp_red n t kp k v k) h2 q1 (fun j hj => ?_)
        unfold am
        rw [if_pos hj]
        grind
    · have e : sp_red n t kp (k + 1) v = sp_red n t kp k v := if_neg ht
      rw [e]
      refine ⟨fun i hi hti => ?_, h2⟩
      by_cases ei : i = k
      · rw [ei] at hti
        exact absurd hti ht
      · exact h1 i (by omega) hti
theorem red_zero {n : Nat} {t : Nat → Bool} {kp : Nat → Nat → FF} {S : (Nat → FF) → Prop} (hL : Lin n S) (h : RRf n t kp S) (v : Nat → FF) {i : Nat} (hi : i < n) (ht : t i = true) : sp_red n t kp n v i = 0 := (red_steps hL h v n (Nat.le_refl n)).1 i hi ht
theorem red_nt {n : Nat} {t : Nat → Bool} {kp : Nat → Nat → FF} {S : (Nat → FF) → Prop} (hL : Lin n S) (h : RRf n t kp S) (v : Nat → FF) : ∀ j : Nat, j < n → sp_red n t kp n v j ≠ 0 → t j = false := by
  intro j hj hn
  cases ht : t j
  · rfl
  · exact absurd (red_zero hL h v hj ht) hn
theorem red_S {n : Nat} {t : Nat → Bool} {kp : Nat → Nat → FF} {S : (Nat → FF) → Prop} (hL : Lin n S) (h : RRf n t kp S) (v : Nat → FF) : (∀ j : Nat, j < n → sp_red n t kp n v j = 0) ↔ S v := by
  have h2 := (red_steps hL h v n (Nat.le_refl n)).2
  constructor
  · intro hz
    refine hL.cg h2 (fun j hj => ?_)
    rw [hz j hj]
    grind
  · intro hv
    refine h.2 _ (hL.ad (-1) hv h2 (fun j hj => ?_)) (fun k hk ht => red_zero hL h v hk ht)
    grind
/-- S and one row more -/
def Sad (S : (Nat → FF) → Prop) (v : Nat → FF) : (Nat → FF) → Prop := fun u => ∃ a : FF, S (fun j => u j - a * v j)
theorem Lin.sad {n : Nat} {S : (Nat → FF) → Prop} (h : Lin n S) (v : Nat → FF) : Lin n (Sad S v) := by
  refine ⟨fun u z e hu => ?_, ⟨0, h.cg h.2.1 (fun j _ => by grind)⟩, fun u z a hu hz => ?_⟩
  · obtain ⟨a, ha⟩ := hu
    exact ⟨a, h.cg ha (fun j hj => by rw [e j hj])⟩
  · obtain ⟨b, hb⟩ := hu
    obtain ⟨c, hc⟩ := hz
    exact ⟨b + a * c, h.ad a hb hc (fun j _ => by grind)⟩
theorem Sad.old {n : Nat} {S : (Nat → FF) → Prop} (h : Lin n S) (v : Nat → FF) {u : Nat → FF} (hu : S u) : Sad S v u := ⟨0, h.cg hu (fun j _ => by grind)⟩
theorem Sad.new {n : Nat} {S : (Nat → FF) → Prop} (h : Lin n S) (v : Nat → FF) : Sad S v v := ⟨1, h.cg h.2.1 (fun j _ => by grind)⟩
theorem fr_at {n : Nat} {kp : Nat → Nat → FF} {r : Nat → FF} {k0 j : Nat} (hj : j < n) : sp_fresh n kp r k0 j = finv (r k0) * r j := by
  unfold sp_fresh am fl0
  rw [if_pos hj, if_pos hj]
  grind
theorem RRf.add {n : Nat} {t : Nat → Bool} {kp : Nat → Nat → FF} {S : (Nat → FF) → Prop} (hL : Lin n S) (h : RRf n t kp S) (v : Nat → FF) {k0 : Nat} (hl : isLead n (sp_red n t kp n v) k0) (hinv : ∀ a : FF, a ≠ 0 → a * finv a = 1) :
    RRf n (nu t k0 true) (sp_kp n t kp (sp_red n t kp n v) k0) (Sad S v) := by
  have hz := fun (i : Nat) (hi : i < n) (ht : t i = true) => red_zero hL h v hi ht
  have hS := (red_steps hL h v n (Nat.le_refl n)).2
  generalize sp_red n t kp n v = r at hl hz hS ⊢
  obtain ⟨hk0, hr0, hb0⟩ := isLead_iff.mp hl
  have ht0 : t k0 = false := by
    cases q : t k0
    · rfl
    · exact absurd (hz k0 hk0 q) hr0
  have hLs := hL.sad v
  have hi := hinv _ hr0
  have hrS : Sad S v r := ⟨1, hL.ad (-1) hL.2.1 hS (fun j _ => by grind)⟩
  have hfr : Sad S v (sp_fresh n kp r k0) := hLs.ad (finv (r k0)) hLs.2.1 hrS (fun j hj => by rw [fr_at hj]; grind)
  have hf0 : sp_fresh n kp r k0 k0 = 1 := by rw [fr_at hk0]; exact (Fin.mul_comm _ _).trans hi
  have hft : ∀ i : Nat, i < n → t i = true → sp_fresh n kp r k0 i = 0 := fun i hi ht => by rw [fr_at hi, hz i hi ht]; grind
  have hfb : ∀ j : Nat, j < n → bef j k0 → sp_fresh n kp r k0 j = 0 := fun j hj hb => by rw [fr_at hj, hb0 j hj hb]; grind
  have hold : ∀ k : Nat, k < n → t k = true → sp_kp n t kp r k0 k = am n (kp k) (- (kp k k0)) (sp_fresh n kp r k0) := by
    intro k hk ht
    unfold sp_kp
    rw [if_neg (fun e => by rw [e, ht0] at ht; cases ht), if_pos ⟨hk, ht⟩]
  have hnew : sp_kp n t kp r k0 k0 = sp_fresh n kp r k0 := if_pos rfl
  have tt : ∀ k : Nat, nu t k0 true k = true → k = k0 ∨ t k = true := by
    intro k hk
    by_cases e : k = k0
    · exact Or.inl e
    · rw [nu_n e] at hk
      exact Or.inr hk
  constructor
  · intro k hk hk2
    rcases tt k hk2 with e | ht
    · subst e
      rw [hnew]
      refine ⟨hfr, hf0, fun j hj htj hne => ?_, hfb⟩
      rcases tt j htj with e | q
      · exact absurd e hne
      · exact hft j hj q
    · obtain ⟨q1, q2, q3, q4⟩ := h.1 k hk ht
      have hne0 : k ≠ k0 := fun e => by rw [e, ht0] at ht; cases ht
      rw [hold k hk ht]
      refine ⟨hLs.ad (- (kp k k0)) (Sad.old hL v q1) hfr (fun j hj => by unfold am; rw [if_pos hj]), ?_, fun j hj htj hne => ?_, fun j hj hb => ?_⟩
      · unfold am
        rw [if_pos hk, hft k hk ht, q2]
        grind
      · unfold am
        rw [if_pos hj]
        rcases tt j htj with e | q
        · subst e
          rw [hf0]
          grind
        · rw [q3 j hj q hne, hft j hj q]
          grind
      · unfold am
        rw [if_pos hj, q4 j hj hb]
        by_cases e : bef j k0
        · rw [hfb j hj e]
          grind
        · have hb2 : bef k0 k := by
            unfold bef at hb e ⊢
            refine ⟨hb.1, ?_⟩
            omega
          rw [q4 k0 hk0 hb2]
          grind
  · intro u hu hzu
    obtain ⟨a, ha⟩ := hu
    have h1 : S (fun j => u j - a * r j) := hL.ad a ha hS (fun j _ => by grind)
    have h2 := h.2 _ h1 (fun k hk ht => by
      have hne0 : k ≠ k0 := fun e => by rw [e, ht0] at ht; cases ht
      have q := hzu k hk (by rw [nu_n hne0]; exact ht)
      show u k - a * r k = 0
      rw [q, hz k hk ht]
      grind)
    have h3 := h2 k0 hk0
    have h4 := hzu k0 hk0 (nu_s _ _ _)
    have ha0 : a = 0 := by
      have h5 : a * r k0 = 0 := by grind
      have h6 : a * r k0 * finv (r k0) = 0 := by rw [h5]; grind
      grind
    intro j hj
    have h7 := h2 j hj
    rw [ha0] at h7
    grind
/-- two reduced forms of one span are the same -/
theorem RRf.lead {n : Nat} {t : Nat → Bool} {kp : Nat → Nat → FF} {S : (Nat → FF) → Prop} (h : RRf n t kp S) (hL : Lin n S) {k : Nat} (hk : k < n) : t k = true ↔ ∃ v : Nat → FF, S v ∧ isLead n v k := by
  constructor
  · intro ht
    obtain ⟨q1, q2, q3, q4⟩ := h.1 k hk ht
    exact ⟨kp k, q1, isLead_iff.mpr ⟨hk, by rw [q2]; decide, q4⟩⟩
  · rintro ⟨v, hv, hl⟩
    obtain ⟨-, hv0, hb⟩ := isLead_iff.mp hl
    cases ht : t k
    · exfalso
      -- take away what the taken places have, in their order: what comes is 0 before k, v k at k
      have key : ∀ m : Nat, m ≤ n → (∀ i : Nat, i < m → bef i k ∨ i = k → sp_red n t kp m v i = v i) ∧ (∀ i : Nat, i < n → bef i k ∨ i = k → sp_red n t kp m v i = v i) := by
        intro m
        induction m with
        | zero => intro _; exact ⟨fun i _ _ => rfl, fun i _ _ => rfl⟩
        | succ m ih =>
          intro hm
          obtain ⟨-, h2⟩ := ih (by omega)
          have h3 : ∀ i : Nat, i < n → bef i k ∨ i = k → sp_red n t kp (m + 1) v i = v i := by
            intro i hi hbi
            by_cases htm : t m = true
            · have e : sp_red n t kp (m + 1) v = am n (sp_red n t kp m v) (- (sp_red n t kp m v m)) (kp m) := if_pos htm
              rw [e]
              unfold am
              rw [if_pos hi, h2 i hi hbi]
              obtain ⟨q1, q2, q3, q4⟩ := h.1 m (by omega) htm
              have hmk : m ≠ k := fun z => by rw [z, ht] at htm; cases htm
              by_cases hbm : bef m k
              · rw [h2 m (by omega) (Or.inl hbm), hb m (by omega) hbm]
                grind
              · have hb2 : bef i m := by
                  unfold bef at hbm hbi ⊢
                  omega
                rw [q4 i hi hb2]
                grind
            · have e : sp_red n t kp (m + 1) v = sp_red n t kp m v := if_neg htm
              rw [e]
              exact h2 i hi hbi
          exact ⟨fun i hi hbi => h3 i (by omega) hbi, h3⟩
      have h4 := (key n (Nat.le_refl n)).2 k hk (Or.inr rfl)
      rw [(red_S hL h v).mpr hv k hk] at h4
      exact hv0 h4.symm
    · rfl
theorem RRf.one {n : Nat} {t t' : Nat → Bool} {kp kp' : Nat → Nat → FF} {S : (Nat → FF) → Prop} (h : RRf n t kp S) (h' : RRf n t' kp' S) (hL : Lin n S) : (∀ k : Nat, k < n → t k = t' k) ∧ ∀ k : Nat, k < n → t k = true → ∀ j : Nat, j < n → kp k j = kp' k j := by
  have ht : ∀ k : Nat, k < n → t k = t' k := by
    intro k hk
    have a := h.lead hL hk
    have b := h'.lead hL hk
    have c := a.trans b.symm
    cases q : t k <;> cases q' : t' k
    · rfl
    · rw [q, q'] at c
      exact absurd (c.mpr rfl) (by decide)
    · rw [q, q'] at c
      exact absurd (c.mp rfl) (by decide)
    · rfl
  refine ⟨ht, fun k hk hk2 j hj => ?_⟩
  obtain ⟨q1, q2, q3, -⟩ := h.1 k hk hk2
  obtain ⟨p1, p2, p3, -⟩ := h'.1 k hk (by rw [← ht k hk]; exact hk2)
  have hd : S (fun i => kp k i + (-1) * kp' k i) := hL.2.2 _ _ _ q1 p1
  have hz := h.2 _ hd (fun i hi hti => by
    by_cases e : i = k
    · subst e
      show kp i i + (-1) * kp' i i = 0
      rw [q2, p2]
      decide
    · show kp k i + (-1) * kp' k i = 0
      rw [q3 i hi hti e, p3 i hi (by rw [← ht i hi]; exact hti) e]
      decide) j hj
  have hz2 : kp k j + (-1) * kp' k j = 0 := hz
  grind
/-- the number of taken places -/
def cntT (t : Nat → Bool) : Nat → Nat
  | 0 => 0
  | k + 1 => cntT t k + (if t k = true then 1 else 0)
theorem cntT_le (t : Nat → Bool) : ∀ n : Nat, cntT t n ≤ n
  | 0 => Nat.le_refl 0
  | n + 1 => by
    have h := cntT_le t n
    show cntT t n + (if t n = true then 1 else 0) ≤ n + 1
    split <;> omega
theorem cntT_cg {t t' : Nat → Bool} : ∀ {n : Nat}, (∀ k : Nat, k < n → t k = t' k) → cntT t n = cntT t' n
  | 0, _ => rfl
  | n + 1, h => by
    show cntT t n + (if t n = true then 1 else 0) = cntT t' n + (if t' n = true then 1 else 0)
    rw [cntT_cg (n := n) (fun k hk => h k (by omega)), h n (by omega)]
theorem cntT_add {t : Nat → Bool} {k0 : Nat} (h0 : t k0 = false) : ∀ {n : Nat}, cntT (nu t k0 true) n = cntT t n + (if k0 < n then 1 else 0)
  | 0 => rfl
  | n + 1 => by
    show cntT (nu t k0 true) n + (if nu t k0 true n = true then 1 else 0) = cntT t n + (if t n = true then 1 else 0) + (if k0 < n + 1 then 1 else 0)
    rw [cntT_add h0 (n := n)]
    by_cases e : n = k0
    · subst e
      rw [nu_s, h0, if_neg (Nat.lt_irrefl n), if_pos rfl, if_neg (by decide), if_pos (Nat.lt_succ_self n)]
    · rw [nu_n e]
      by_cases e2 : k0 < n
      · have q1 : (if k0 < n then 1 else 0) = 1 := if_pos e2
        have q2 : (if k0 < n + 1 then 1 else 0) = 1 := if_pos (by omega)
        omega
      · have q1 : (if k0 < n then 1 else 0) = 0 := if_neg e2
        have q2 : (if k0 < n + 1 then 1 else 0) = 0 := if_neg (by omega)
        omega
theorem cntT_0 {t : Nat → Bool} : ∀ {n : Nat}, (∀ k : Nat, k < n → t k = false) → cntT t n = 0
  | 0, _ => rfl
  | n + 1, h => by
    show cntT t n + (if t n = true then 1 else 0) = 0
    rw [cntT_0 (n := n) (fun k hk => h k (by omega)), h n (by omega)]
    rfl
theorem cntT_full {t : Nat → Bool} : ∀ {n : Nat}, cntT t n = n → ∀ k : Nat, k < n → t k = true
  | 0, _, k, hk => absurd hk (Nat.not_lt_zero k)
  | n + 1, h, k, hk => by
    have h1 := cntT_le t n
    have h2 : cntT t n + (if t n = true then 1 else 0) = n + 1 := h
    by_cases q : t n = true
    · by_cases e : k = n
      · rw [e]; exact q
      · rw [if_pos q] at h2
        exact cntT_full (n := n) (by omega) k (by omega)
    · rw [if_neg q] at h2
      omega
/-- sums of multiples of rows -/
def lsum (c : Nat → FF) (rows : Nat → Nat → FF) : Nat → Nat → FF
  | 0, _ => 0
  | m + 1, j => lsum c rows m j + c m * rows m j
def InSp (n : Nat) (rows : Nat → Nat → FF) (m : Nat) (v : Nat → FF) : Prop := ∃ c : Nat → FF, ∀ j : Nat, j < n → v j = lsum c rows m j
theorem lsum_lin (c d : Nat → FF) (a : FF) (rows : Nat → Nat → FF) (j : Nat) : ∀ m : Nat, lsum (fun i => c i + a * d i) rows m j = lsum c rows m j + a * lsum d rows m j
  | 0 => by show (0 : FF) = 0 + a * 0; grind
  | m + 1 => by
    show lsum (fun i => c i + a * d i) rows m j + (c m + a * d m) * rows m j = lsum c rows m j + c m * rows m j + a * (lsum d rows m j + d m * rows m j)
    rw [lsum_lin c d a rows j m]
    grind
theorem lsum_0 (rows : Nat → Nat → FF) (j : Nat) : ∀ m : Nat, lsum (fun _ => 0) rows m j = 0
  | 0 => rfl
  | m + 1 => by
    show lsum (fun _ => 0) rows m j + 0 * rows m j = 0
    rw [lsum_0 rows j m]
    grind
theorem lsum_cg {c d : Nat → FF} {rows rows' : Nat → Nat → FF} {j : Nat} : ∀ {m : Nat}, (∀ i : Nat, i < m → c i = d i) → (∀ i : Nat, i < m → rows i j = rows' i j) → lsum c rows m j = lsum d rows' m j
  | 0, _, _ => rfl
  | m + 1, h, h2 => by
    show lsum c rows m j + c m * rows m j = lsum d rows' m j + d m * rows' m j
    rw [lsum_cg (m := m) (fun i hi => h i (by omega)) (fun i hi => h2 i (by omega)), h m (by omega), h2 m (by omega)]
theorem InSp.lin (n : Nat) (rows : Nat → Nat → FF) (m : Nat) : Lin n (InSp n rows m) := by
  refine ⟨fun u v e hu => ?_, ⟨fun _ => 0, fun j _ => (lsum_0 rows j m).symm⟩, fun u v a hu hv => ?_⟩
  · obtain ⟨c, hc⟩ := hu
    exact ⟨c, fun j hj => (e j hj).symm.trans (hc j hj)⟩
  · obtain ⟨c, hc⟩ := hu
    obtain ⟨d, hd⟩ := hv
    exact ⟨fun i => c i + a * d i, fun j hj => by show u j + a * v j = _; rw [lsum_lin, hc j hj, hd j hj]⟩
theorem InSp.cg {n m : Nat} {rows rows' : Nat → Nat → FF} {v : Nat → FF} (h : ∀ i : Nat, i < m → ∀ j : Nat, j < n → rows i j = rows' i j) (hv : InSp n rows m v) : InSp n rows' m v := by
  obtain ⟨c, hc⟩ := hv
  exact ⟨c, fun j hj => (hc j hj).trans (lsum_cg (fun _ _ => rfl) (fun i hi => h i hi j hj))⟩
theorem InSp.add {n m : Nat} {rows : Nat → Nat → FF} {u : Nat → FF} : InSp n rows (m + 1) u ↔ Sad (InSp n rows m) (rows m) u := by
  constructor
  · rintro ⟨c, hc⟩
    refine ⟨c m, c, fun j hj => ?_⟩
    have h : u j = lsum c rows m j + c m * rows m j := hc j hj
    grind
  · rintro ⟨a, c, hc⟩
    refine ⟨nu c m a, fun j hj => ?_⟩
    show u j = lsum (nu c m a) rows m j + nu c m a m * rows m j
    rw [nu_s, lsum_cg (d := c) (rows' := rows) (fun i hi => nu_n (by omega)) (fun _ _ => rfl)]
    have h := hc j hj
    grind
theorem InSp.self {n m : Nat} {rows : Nat → Nat → FF} {i : Nat} (hi : i < m) : InSp n rows m (rows i) := by
  induction m with
  | zero => exact absurd hi (Nat.not_lt_zero i)
  | succ m ih =>
    by_cases e : i = m
    · subst e
      exact InSp.add.mpr (Sad.new (InSp.lin n rows i) (rows i))
    · exact InSp.add.mpr (Sad.old (InSp.lin n rows m) _ (ih (by omega)))
/-- the least span: what rows make lies in every closed set that holds them -/
theorem InSp.le {n m : Nat} {rows : Nat → Nat → FF} {S : (Nat → FF) → Prop} (hL : Lin n S) (h : ∀ i : Nat, i < m → S (rows i)) {v : Nat → FF} (hv : InSp n rows m v) : S v := by
  induction m generalizing v with
  | zero =>
    obtain ⟨c, hc⟩ := hv
    exact hL.cg hL.2.1 (fun j hj => (hc j hj).symm)
  | succ m ih =>
    obtain ⟨a, ha⟩ := InSp.add.mp hv
    have h1 := ih (fun i hi => h i (by omega)) ha
    exact hL.ad a h1 (h m (by omega)) (fun j _ => by grind)
theorem RRf.ex {n : Nat} {t : Nat → Bool} {kp : Nat → Nat → FF} {S S' : (Nat → FF) → Prop} (h : RRf n t kp S) (e : ∀ v : Nat → FF, S v ↔ S' v) : RRf n t kp S' :=
  ⟨fun k hk ht => ⟨(e _).mp (h.1 k hk ht).1, (h.1 k hk ht).2⟩, fun v hv => h.2 v ((e v).mpr hv)⟩
theorem RRf.empty {n : Nat} {t : Nat → Bool} {kp rows : Nat → Nat → FF} (h : ∀ k : Nat, k < n → t k = false) : RRf n t kp (InSp n rows 0) := by
  refine ⟨fun k hk ht => (by rw [h k hk] at ht; cases ht), fun v hv _ j hj => ?_⟩
  obtain ⟨c, hc⟩ := hv
  exact hc j hj
/-- every number but 0 has its inverse: each is tried -/
def fe_row : Nat → Nat → Bool
  | 0, _ => true
  | k + 1, lo => Nat.beq (((lo + k) ^ 240 % 65521) ^ 273 % 65521) 1 && fe_row k lo
def fe_all : Nat → Bool
  | 0 => true
  | k + 1 => fe_row 240 (240 * k + 1) && fe_all k
set_option maxRecDepth 100000 in
theorem fe_ok : fe_all 273 = true := by decide +kernel
theorem fe_row_at : ∀ (k lo : Nat), fe_row k lo = true → ∀ i : Nat, i < k → ((lo + i) ^ 240 % 65521) ^ 273 % 65521 = 1
  | 0, _, _, i, h => absurd h (Nat.not_lt_zero i)
  | k + 1, lo, h, i, hi => by
    have h2 : (Nat.beq (((lo + k) ^ 240 % 65521) ^ 273 % 65521) 1 && fe_row k lo) = true := h
    rw [Bool.and_eq_true] at h2
    by_cases e : i = k
    · rw [e]
      exact Nat.eq_of_beq_eq_true h2.1
    · exact fe_row_at k lo h2.2 i (by omega)
theorem fe_all_s (k : Nat) : fe_all (k + 1) = (fe_row 240 (240 * k + 1) && fe_all k) := by rw [fe_all]
theorem fe_all_at (k : Nat) (h : fe_all k = true) (q : Nat) (hq : q < k) : fe_row 240 (240 * q + 1) = true := by
  induction k with
  | zero => omega
  | succ k ih =>
    rw [fe_all_s, Bool.and_eq_true] at h
    by_cases e : q = k
    · subst e
      exact h.1
    · exact ih h.2 (by omega)
theorem ff_pow_val (a : FF) : ∀ k : Nat, (ff_pow a k).val = a.val ^ k % 65521
  | 0 => rfl
  | k + 1 => by
    show (ff_pow a k * a).val = _
    rw [Fin.val_mul, ff_pow_val a k, Nat.pow_succ, Nat.mul_mod (a.val ^ k) a.val, Nat.mod_eq_of_lt a.isLt]
theorem finv_ok (a : FF) (h : a ≠ 0) : a * finv a = 1 := by
  have h0 : a.val ≠ 0 := fun z => h (Fin.ext z)
  have h1 := a.isLt
  have h2 := fe_row_at 240 _ (fe_all_at 273 fe_ok ((a.val - 1) / 240) (by omega)) ((a.val - 1) % 240) (Nat.mod_lt _ (by decide))
  rw [show 240 * ((a.val - 1) / 240) + 1 + (a.val - 1) % 240 = a.val by omega] at h2
  rw [← Nat.pow_mod, ← Nat.pow_mul] at h2
  have h3 : ff_pow a (240 * 273) = 1 := Fin.ext (by rw [ff_pow_val]; exact h2)
  have h4 : ff_pow a (240 * 273) = ff_pow a 65519 * a := rfl
  rw [Fin.mul_comm]
  exact h4.symm.trans h3
end
section
/-! the analysis of the class: its cells, and the points that they stand for -/
/-- which labels an AffineHulls has: N nodes, V variables, M = N (V + 1) points -/
def lbX (N V M j : Nat) : Prop := j < 8 ∨ (100 ≤ j ∧ j < 100 + 10 * N ∧ j % 10 < V + 5) ∨ (180 ≤ j ∧ j < 185 + V) ∨ (200 ≤ j ∧ j < 200 + 2 * N) ∨ (300 ≤ j ∧ j < 340) ∨ (400 ≤ j ∧ j < 448) ∨ (500 ≤ j ∧ j < 500 + 2 * M)
def XAn (G : cx_G) (ad : Nat → Nat) (g : Nat → va_E) (N V M : Nat) (nd ix : Nat → Nat) (og : Nat → Int32) (rw : Nat → Nat → FF) (ct : Nat → Nat) (mb : Nat → Nat → Nat) (T : Nat → Nat → Bool) (K : Nat → Nat → Nat → FF) (R : Nat → Nat → FF) : Prop :=
  (∀ i : Nat, i < N → g (200 + 2 * i) = .inr (1, [.ref (ad (100 + 10 * i)), .ref (ad (201 + 2 * i)), .int (nI (ct i))])) ∧
  (∀ i : Nat, i < N → g (201 + 2 * i) = nA G (V + 1) (mb i)) ∧
  (∀ i : Nat, i < N → SpanAt G ad g (100 + 10 * i) (V + 1) (T i) (K i) (R i)) ∧
  (∀ i : Nat, i < M → g (500 + 2 * i) = .inr (3, [.int (nI (nd i)), .int (nI (ix i)), .int (og i), .ref (ad (501 + 2 * i))])) ∧
  (∀ i : Nat, i < M → g (501 + 2 * i) = nA G (V + 1) (vN (rw i)))
def lbA (j : Nat) : Prop := (100 ≤ j ∧ j < 180) ∨ (200 ≤ j ∧ j < 300) ∨ 500 ≤ j
theorem XAn.kept {G : cx_G} {ad : Nat → Nat} {g g1 : Nat → va_E} {N V M : Nat} {nd ix : Nat → Nat} {og : Nat → Int32} {rw : Nat → Nat → FF} {ct : Nat → Nat} {mb : Nat → Nat → Nat} {T : Nat → Nat → Bool} {K : Nat → Nat → Nat → FF} {R : Nat → Nat → FF} (h : XAn G ad g N V M nd ix og rw ct mb T K R) (hN : N ≤ 8) (hV : V ≤ 4) (hk : ∀ j : Nat, lbA j → g1 j = g j) : XAn G ad g1 N V M nd ix og rw ct mb T K R := by
  obtain ⟨h1, h2, h3, h4, h5⟩ := h
  exact ⟨fun i hi => (hk _ (by unfold lbA; omega)).trans (h1 i hi), fun i hi => (hk _ (by unfold lbA; omega)).trans (h2 i hi), fun i hi => (h3 i hi).kept (fun j a b => hk j (by unfold lbA; omega)), fun i hi => (hk _ (by unfold lbA; omega)).trans (h4 i hi), fun i hi => (hk _ (by unfold lbA; omega)).trans (h5 i hi)⟩
/-- a point more -/
theorem XAn.upd {G : cx_G} {ad : Nat → Nat} {g u : Nat → va_E} {N V M : Nat} {nd ix : Nat → Nat} {og : Nat → Int32} {rw : Nat → Nat → FF} {ct : Nat → Nat} {mb : Nat → Nat → Nat} {T : Nat → Nat → Bool} {K : Nat → Nat → Nat → FF} {R : Nat → Nat → FF} {node al c2 : Nat} {fz : Int32} {v r2 : Nat → FF} {t2 : Nat → Bool} {kp2 : Nat → Nat → FF} {mb2 : Nat → Nat} {n2 i2 : Nat}
    (h : XAn G ad g N V M nd ix og rw ct mb T K R) (hN : N ≤ 8) (hV : V ≤ 4) (hnode : node < N)
    (fr : ∀ j : Nat, (j ≠ 0 ∧ (j < 100 + 10 * node ∨ 100 + 10 * node + 4 + (V + 1) ≤ j) ∧ j ≠ 200 + 2 * node ∧ j ≠ 201 + 2 * node ∧ j ≠ 500 + 2 * al ∧ j ≠ 501 + 2 * al) → u j = g j)
    (c_h : u (200 + 2 * node) = .inr (1, [.ref (ad (100 + 10 * node)), .ref (ad (201 + 2 * node)), .int (nI c2)])) (c_m : u (201 + 2 * node) = nA G (V + 1) mb2) (sp : SpanAt G ad u (100 + 10 * node) (V + 1) t2 kp2 r2)
    (c_p : al < M → u (500 + 2 * al) = .inr (3, [.int (nI n2), .int (nI i2), .int fz, .ref (ad (501 + 2 * al))])) (c_pr : al < M → u (501 + 2 * al) = nA G (V + 1) (vN v)) :
    XAn G ad u N V M (nu nd al n2) (nu ix al i2) (nu og al fz) (nu rw al v) (nu ct node c2) (nu mb node mb2) (nu T node t2) (nu K node kp2) (nu R node r2) := by
  obtain ⟨h1, h2, h3, h4, h5⟩ := h
  refine ⟨fun i hi => ?_, fun i hi => ?_, fun i hi => ?_, fun i hi => ?_, fun i hi => ?_⟩
  · by_cases e : i = node
    · subst e; rw [nu_s]; exact c_h
    · rw [nu_n e]; exact (fr _ (by omega)).trans (h1 i hi)
  · by_cases e : i = node
    · subst e; rw [nu_s]; exact c_m
    · rw [nu_n e]; exact (fr _ (by omega)).trans (h2 i hi)
  · by_cases e : i = node
    · subst e; rw [nu_s, nu_s, nu_s]; exact sp
    · rw [nu_n e, nu_n e, nu_n e]; exact (h3 i hi).kept (fun j a b => fr j (by omega))
  · by_cases e : i = al
    · subst e; rw [nu_s, nu_s, nu_s]; exact c_p hi
    · rw [nu_n e, nu_n e, nu_n e]; exact (fr _ (by omega)).trans (h4 i hi)
  · by_cases e : i = al
    · subst e; rw [nu_s]; exact c_pr hi
    · rw [nu_n e]; exact (fr _ (by omega)).trans (h5 i hi)
/-- the points: all, of each arrival node and number, of each node how many, their values, where they came from -/
abbrev PS : Type := Nat × (Nat → Nat) × (Nat → Nat) × (Nat → Nat) × (Nat → Nat → Nat → FF) × (Nat → Nat → Int32)
def csum (f : Nat → Nat) : Nat → Nat
  | 0 => 0
  | k + 1 => csum f k + f k
theorem csum_cg {f f' : Nat → Nat} : ∀ {n : Nat}, (∀ i : Nat, i < n → f i = f' i) → csum f n = csum f' n
  | 0, _ => rfl
  | n + 1, h => by
    show csum f n + f n = csum f' n + f' n
    rw [csum_cg (n := n) (fun i hi => h i (by omega)), h n (by omega)]
theorem csum_up {f : Nat → Nat} {k x : Nat} : ∀ {n : Nat}, k < n → csum (nu f k x) n + f k = csum f n + x
  | 0, h => absurd h (Nat.not_lt_zero k)
  | n + 1, h => by
    show csum (nu f k x) n + nu f k x n + f k = csum f n + f n + x
    by_cases e : k = n
    · subst e
      rw [nu_s, csum_cg (n := k) (f' := f) (fun i hi => nu_n (by omega))]
      omega
    · have h2 := csum_up (f := f) (k := k) (x := x) (n := n) (by omega)
      rw [nu_n (by omega)]
      omega
theorem csum_le {f : Nat → Nat} {c : Nat} : ∀ {n : Nat}, (∀ i : Nat, i < n → f i ≤ c) → csum f n ≤ n * c
  | 0, _ => Nat.zero_le _
  | n + 1, h => by
    show csum f n + f n ≤ (n + 1) * c
    have h1 := csum_le (f := f) (n := n) (fun i hi => h i (by omega))
    have h2 := h n (by omega)
    rw [Nat.succ_mul]
    omega
theorem csum_full {f : Nat → Nat} {c : Nat} : ∀ {n : Nat}, (∀ i : Nat, i < n → f i ≤ c) → n * c ≤ csum f n → ∀ i : Nat, i < n → f i = c
  | 0, _, _, i, hi => absurd hi (Nat.not_lt_zero i)
  | n + 1, h, h0, i, hi => by
    have h1 := csum_le (f := f) (n := n) (fun i hi => h i (by omega))
    have h2 := h n (by omega)
    have h3 : (n + 1) * c ≤ csum f n + f n := h0
    rw [Nat.succ_mul] at h3
    by_cases e : i = n
    · rw [e]; omega
    · exact csum_full (f := f) (n := n) (fun i hi => h i (by omega)) (by omega) i (by omega)
theorem csum_0 : ∀ n : Nat, csum (fun _ => 0) n = 0
  | 0 => rfl
  | n + 1 => by
    show csum (fun _ => 0) n + 0 = 0
    rw [csum_0 n]
noncomputable def meetF (w : Nat) (P : PS) (node : Nat) (v : Nat → FF) (fz : Int32) : PS :=
  @ite _ (InSp w (P.2.2.2.2.1 node) (P.2.2.2.1 node) v) (Classical.propDecidable _) P
    (P.1 + 1, nu P.2.1 P.1 node, nu P.2.2.1 P.1 (P.2.2.2.1 node), nu P.2.2.2.1 node (P.2.2.2.1 node + 1), nu P.2.2.2.2.1 node (nu (P.2.2.2.2.1 node) (P.2.2.2.1 node) v), nu P.2.2.2.2.2 node (nu (P.2.2.2.2.2 node) (P.2.2.2.1 node) fz))
theorem meetF_t {w : Nat} {P : PS} {node : Nat} {v : Nat → FF} {fz : Int32} (h : InSp w (P.2.2.2.2.1 node) (P.2.2.2.1 node) v) : meetF w P node v fz = P := if_pos h
theorem meetF_f {w : Nat} {P : PS} {node : Nat} {v : Nat → FF} {fz : Int32} (h : ¬ InSp w (P.2.2.2.2.1 node) (P.2.2.2.1 node) v) : meetF w P node v fz = (P.1 + 1, nu P.2.1 P.1 node, nu P.2.2.1 P.1 (P.2.2.2.1 node), nu P.2.2.2.1 node (P.2.2.2.1 node + 1), nu P.2.2.2.2.1 node (nu (P.2.2.2.2.1 node) (P.2.2.2.1 node) v), nu P.2.2.2.2.2 node (nu (P.2.2.2.2.2 node) (P.2.2.2.1 node) fz)) := if_neg h
/-- a row has 0s beyond its n places -/
def Zb (n : Nat) (v : Nat → FF) : Prop := ∀ j : Nat, n ≤ j → v j = 0
theorem cpv_z {n : Nat} {v w : Nat → FF} (hv : Zb n v) (hw : Zb n w) : cpv n v w = v := by
  funext j
  unfold cpv
  by_cases h : j < n
  · rw [if_pos h]
  · rw [if_neg h, hw j (by omega), hv j (by omega)]
/-- what the class's cells say of the points, without the spans -/
def XPt (N V M : Nat) (P : PS) (nd ix : Nat → Nat) (og : Nat → Int32) (rw : Nat → Nat → FF) (ct : Nat → Nat) (mb : Nat → Nat → Nat) : Prop :=
  (∀ k : Nat, k < P.1 → nd k = P.2.1 k ∧ ix k = P.2.2.1 k ∧ P.2.1 k < N ∧ P.2.2.1 k < P.2.2.2.1 (P.2.1 k) ∧ rw k = P.2.2.2.2.1 (P.2.1 k) (P.2.2.1 k)) ∧
  (∀ i : Nat, i < N → ct i = P.2.2.2.1 i ∧ P.2.2.2.1 i ≤ V + 1 ∧ ∀ j : Nat, j < P.2.2.2.1 i → mb i j < P.1 ∧ rw (mb i j) = P.2.2.2.2.1 i j ∧ og (mb i j) = P.2.2.2.2.2 i j) ∧
  P.1 = csum P.2.2.2.1 N ∧ (∀ k : Nat, Zb (V + 1) (rw k)) ∧ P.1 ≤ M
def XSp (N V : Nat) (P : PS) (T : Nat → Nat → Bool) (K : Nat → Nat → Nat → FF) : Prop :=
  ∀ i : Nat, i < N → P.2.2.2.1 i = cntT (T i) (V + 1) ∧ RRf (V + 1) (T i) (K i) (InSp (V + 1) (P.2.2.2.2.1 i) (P.2.2.2.1 i))
def XA (G : cx_G) (ad : Nat → Nat) (g : Nat → va_E) (N V M : Nat) (P : PS) : Prop :=
  ∃ (nd ix : Nat → Nat) (og : Nat → Int32) (rw : Nat → Nat → FF) (ct : Nat → Nat) (mb : Nat → Nat → Nat) (T : Nat → Nat → Bool) (K : Nat → Nat → Nat → FF) (R : Nat → Nat → FF), XAn G ad g N V M nd ix og rw ct mb T K R ∧ XPt N V M P nd ix og rw ct mb ∧ XSp N V P T K
theorem XA.kept {G : cx_G} {ad : Nat → Nat} {g g1 : Nat → va_E} {N V M : Nat} {P : PS} (h : XA G ad g N V M P) (hN : N ≤ 8) (hV : V ≤ 4) (hk : ∀ j : Nat, lbA j → g1 j = g j) : XA G ad g1 N V M P := by
  obtain ⟨nd, ix, og, rw, ct, mb, T, K, R, h1, h2⟩ := h
  exact ⟨nd, ix, og, rw, ct, mb, T, K, R, h1.kept hN hV hk, h2⟩
theorem nu_id {α : Type} (f : Nat → α) (k : Nat) : nu f k (f k) = f := by
  funext j
  by_cases h : j = k <;> simp [nu, h]
/-- no point more: the span's rest has changed alone, or nothing -/
theorem XPt.full {N V M : Nat} {P : PS} {nd ix : Nat → Nat} {og : Nat → Int32} {rw : Nat → Nat → FF} {ct : Nat → Nat} {mb : Nat → Nat → Nat} {T : Nat → Nat → Bool} {K : Nat → Nat → Nat → FF} (h : XPt N V M P nd ix og rw ct mb) (hs : XSp N V P T K) (hM : M = N * (V + 1)) (hal : M ≤ P.1) {node : Nat} (hnode : node < N) (v : Nat → FF) : InSp (V + 1) (P.2.2.2.2.1 node) (P.2.2.2.1 node) v := by
  obtain ⟨h1, h2, h3, -, -⟩ := h
  have hc := csum_full (f := P.2.2.2.1) (c := V + 1) (n := N) (fun i hi => (h2 i hi).2.1) (by rw [← hM, ← h3]; exact hal) node hnode
  obtain ⟨q1, q2⟩ := hs node hnode
  have hall := cntT_full (q1.symm.trans hc)
  exact (red_S (InSp.lin _ _ _) q2 v).mp (fun j hj => red_zero (InSp.lin _ _ _) q2 v hj (hall j hj))
theorem InSp_push {w m : Nat} {rows : Nat → Nat → FF} {v : Nat → FF} (u : Nat → FF) : Sad (InSp w rows m) v u ↔ InSp w (nu rows m v) (m + 1) u := by
  rw [InSp.add, nu_s]
  constructor
  · rintro ⟨a, h⟩
    exact ⟨a, h.cg (fun i hi j _ => by rw [nu_n (by omega)])⟩
  · rintro ⟨a, h⟩
    exact ⟨a, h.cg (fun i hi j _ => by rw [nu_n (by omega)])⟩
theorem Sad_cg {n : Nat} {S : (Nat → FF) → Prop} (hL : Lin n S) {v v2 u : Nat → FF} (h : ∀ j : Nat, j < n → v2 j = v j) : Sad S v2 u ↔ Sad S v u := by
  constructor
  · rintro ⟨a, ha⟩
    exact ⟨a, hL.cg ha (fun j hj => by rw [h j hj])⟩
  · rintro ⟨a, ha⟩
    exact ⟨a, hL.cg ha (fun j hj => by rw [h j hj])⟩
theorem XP.push {N V M : Nat} {P : PS} {nd ix : Nat → Nat} {og : Nat → Int32} {rw : Nat → Nat → FF} {ct : Nat → Nat} {mb : Nat → Nat → Nat} {T : Nat → Nat → Bool} {K : Nat → Nat → Nat → FF} (h : XPt N V M P nd ix og rw ct mb) (hs : XSp N V P T K) {node : Nat} (hnode : node < N) (hal : P.1 < M) {v v2 : Nat → FF} (hv : Zb (V + 1) v) (hv2 : ∀ j : Nat, j < V + 1 → v2 j = v j) {fz : Int32} {k0 : Nat} (hl : isLead (V + 1) (sp_red (V + 1) (T node) (K node) (V + 1) v2) k0) :
    XPt N V M (meetF (V + 1) P node v fz) (nu nd P.1 node) (nu ix P.1 (ct node)) (nu og P.1 fz) (nu rw P.1 v) (nu ct node (ct node + 1)) (nu mb node (nu (mb node) (ct node) P.1)) ∧
    XSp N V (meetF (V + 1) P node v fz) (nu T node (nu (T node) k0 true)) (nu K node (sp_kp (V + 1) (T node) (K node) (sp_red (V + 1) (T node) (K node) (V + 1) v2) k0)) ∧ (meetF (V + 1) P node v fz).1 = P.1 + 1 := by
  obtain ⟨h1, h2, h3, h4, h5⟩ := h
  obtain ⟨q1, q2⟩ := hs node hnode
  obtain ⟨p1, p2, p3⟩ := h2 node hnode
  have hn : ¬ InSp (V + 1) (P.2.2.2.2.1 node) (P.2.2.2.1 node) v := fun z => hl.2.1 ((red_S (InSp.lin _ _ _) q2 v2).mpr ((InSp.lin _ _ _).cg z (fun j hj => (hv2 j hj).symm)) k0 hl.1)
  have ht0 : T node k0 = false := red_nt (InSp.lin _ _ _) q2 v2 k0 hl.1 hl.2.1
  have hc1 := cntT_add ht0 (n := V + 1)
  rw [if_pos hl.1] at hc1
  have hc2 := cntT_le (nu (T node) k0 true) (V + 1)
  rw [meetF_f hn, p1]
  refine ⟨⟨fun k hk => ?_, fun i hi => ?_, ?_, fun k => ?_, ?_⟩, fun i hi => ?_, rfl⟩
  · show nu nd P.1 node k = nu P.2.1 P.1 node k ∧ nu ix P.1 (P.2.2.2.1 node) k = nu P.2.2.1 P.1 (P.2.2.2.1 node) k ∧ nu P.2.1 P.1 node k < N ∧ nu P.2.2.1 P.1 (P.2.2.2.1 node) k < nu P.2.2.2.1 node (P.2.2.2.1 node + 1) (nu P.2.1 P.1 node k) ∧ nu rw P.1 v k = nu P.2.2.2.2.1 node (nu (P.2.2.2.2.1 node) (P.2.2.2.1 node) v) (nu P.2.1 P.1 node k) (nu P.2.2.1 P.1 (P.2.2.2.1 node) k)
    have hk2 : k < P.1 + 1 := hk
    by_cases e : k = P.1
    · subst e
      simp only [nu_s]
      exact ⟨trivial, trivial, hnode, Nat.lt_succ_self _, trivial⟩
    · obtain ⟨a1, a2, a3, a4, a5⟩ := h1 k (by omega)
      simp only [nu_n e]
      refine ⟨a1, a2, a3, ?_, ?_⟩
      · by_cases e2 : P.2.1 k = node
        · rw [e2, nu_s]
          rw [e2] at a4
          omega
        · rw [nu_n e2]
          exact a4
      · rw [a5]
        by_cases e2 : P.2.1 k = node
        · rw [e2, nu_s]
          rw [e2] at a4
          rw [nu_n (by omega)]
        · rw [nu_n e2]
  · show nu ct node (P.2.2.2.1 node + 1) i = nu P.2.2.2.1 node (P.2.2.2.1 node + 1) i ∧ nu P.2.2.2.1 node (P.2.2.2.1 node + 1) i ≤ V + 1 ∧ ∀ j : Nat, j < nu P.2.2.2.1 node (P.2.2.2.1 node + 1) i → nu mb node (nu (mb node) (P.2.2.2.1 node) P.1) i j < P.1 + 1 ∧ nu rw P.1 v (nu mb node (nu (mb node) (P.2.2.2.1 node) P.1) i j) = nu P.2.2.2.2.1 node (nu (P.2.2.2.2.1 node) (P.2.2.2.1 node) v) i j ∧ nu og P.1 fz (nu mb node (nu (mb node) (P.2.2.2.1 node) P.1) i j) = nu P.2.2.2.2.2 node (nu (P.2.2.2.2.2 node) (P.2.2.2.1 node) fz) i j
    by_cases e : i = node
    · subst e
      simp only [nu_s]
      refine ⟨trivial, by omega, fun j hj => ?_⟩
      by_cases e2 : j = P.2.2.2.1 i
      · subst e2
        simp only [nu_s]
        exact ⟨by omega, trivial, trivial⟩
      · simp only [nu_n e2]
        obtain ⟨b1, b2, b3⟩ := p3 j (by omega)
        rw [nu_n (show mb i j ≠ P.1 by omega), nu_n (show mb i j ≠ P.1 by omega)]
        exact ⟨by omega, b2, b3⟩
    · simp only [nu_n e]
      obtain ⟨a1, a2, a3⟩ := h2 i hi
      refine ⟨a1, a2, fun j hj => ?_⟩
      obtain ⟨b1, b2, b3⟩ := a3 j hj
      rw [nu_n (show mb i j ≠ P.1 by omega), nu_n (show mb i j ≠ P.1 by omega)]
      exact ⟨by omega, b2, b3⟩
  · show P.1 + 1 = csum (nu P.2.2.2.1 node (P.2.2.2.1 node + 1)) N
    have := csum_up (f := P.2.2.2.1) (k := node) (x := P.2.2.2.1 node + 1) hnode
    omega
  · by_cases e : k = P.1
    · subst e
      rw [nu_s]
      exact hv
    · rw [nu_n e]
      exact h4 k
  · show P.1 + 1 ≤ M
    omega
  · show nu P.2.2.2.1 node (P.2.2.2.1 node + 1) i = cntT (nu T node (nu (T node) k0 true) i) (V + 1) ∧ RRf (V + 1) (nu T node (nu (T node) k0 true) i) (nu K node (sp_kp (V + 1) (T node) (K node) (sp_red (V + 1) (T node) (K node) (V + 1) v2) k0) i) (InSp (V + 1) (nu P.2.2.2.2.1 node (nu (P.2.2.2.2.1 node) (P.2.2.2.1 node) v) i) (nu P.2.2.2.1 node (P.2.2.2.1 node + 1) i))
    by_cases e : i = node
    · subst e
      simp only [nu_s]
      exact ⟨by omega, (RRf.add (InSp.lin _ _ _) q2 v2 hl finv_ok).ex (fun u => (Sad_cg (InSp.lin _ _ _) hv2).trans (InSp_push u))⟩
    · simp only [nu_n e]
      exact hs i hi
theorem cpv_in {n : Nat} {v w : Nat → FF} : ∀ j : Nat, j < n → cpv n v w j = v j := fun _ h => if_pos h
/-- behind addPoint: nothing new -/
theorem addp_f {G : cx_G} {ad : Nat → Nat} {g u : Nat → va_E} {N V M : Nat} {P : PS} {nd ix : Nat → Nat} {og : Nat → Int32} {rw : Nat → Nat → FF} {ct : Nat → Nat} {mb : Nat → Nat → Nat} {T : Nat → Nat → Bool} {K : Nat → Nat → Nat → FF} {R : Nat → Nat → FF} {node : Nat} {v v2 : Nat → FF} {t2 : Nat → Bool} {kp2 : Nat → Nat → FF} {rb : Bool}
    (h : XAn G ad g N V M nd ix og rw ct mb T K R) (hxp : XPt N V M P nd ix og rw ct mb) (hxs : XSp N V P T K) (hN : N ≤ 8) (hV : V ≤ 4) (hnode : node < N) (hv2 : ∀ j : Nat, j < V + 1 → v2 j = v j)
    (fr : ∀ j : Nat, (j < 100 + 10 * node ∨ 100 + 10 * node + 4 + (V + 1) ≤ j) → u j = g j) (sp : SpanAt G ad u (100 + 10 * node) (V + 1) t2 kp2 (sp_red (V + 1) (T node) (K node) (V + 1) v2)) (hadd : AddR (V + 1) (T node) (K node) (sp_red (V + 1) (T node) (K node) (V + 1) v2) rb t2 kp2) (hrb : rb = false) (fz : Int32) :
    meetF (V + 1) P node v fz = P ∧ XA G ad u N V M P := by
  rcases hadd with ⟨-, hz, rfl, rfl⟩ | ⟨k0, -, h1, -⟩
  · have hin := (InSp.lin _ _ _).cg ((red_S (InSp.lin _ _ _) (hxs node hnode).2 v2).mp hz) hv2
    have q := XAn.upd (al := M) (c2 := ct node) (fz := og M) (v := rw M) (mb2 := mb node) (n2 := nd M) (i2 := ix M) h hN hV hnode (fun j hj => fr j (by omega)) ((fr _ (by omega)).trans (h.1 node hnode)) ((fr _ (by omega)).trans (h.2.1 node hnode)) sp (fun z => absurd z (Nat.lt_irrefl M)) (fun z => absurd z (Nat.lt_irrefl M))
    rw [nu_id nd, nu_id ix, nu_id og, nu_id rw, nu_id ct, nu_id mb, nu_id T, nu_id K] at q
    exact ⟨meetF_t hin, nd, ix, og, rw, ct, mb, T, K, _, q, hxp, hxs⟩
  · rw [h1] at hrb
    cases hrb
theorem addp_ct {N V M : Nat} {P : PS} {nd ix : Nat → Nat} {og : Nat → Int32} {rw : Nat → Nat → FF} {ct : Nat → Nat} {mb : Nat → Nat → Nat} {T : Nat → Nat → Bool} {K : Nat → Nat → Nat → FF} {node : Nat} {v2 : Nat → FF} {t2 : Nat → Bool} {kp2 : Nat → Nat → FF} {rb : Bool}
    (hxp : XPt N V M P nd ix og rw ct mb) (hxs : XSp N V P T K) (hnode : node < N) (hadd : AddR (V + 1) (T node) (K node) (sp_red (V + 1) (T node) (K node) (V + 1) v2) rb t2 kp2) (hrb : rb = true) : ct node < V + 1 := by
  rcases hadd with ⟨h1, -⟩ | ⟨k0, hl, -, -⟩
  · rw [h1] at hrb
    cases hrb
  · obtain ⟨q1, q2⟩ := hxs node hnode
    have ht0 := red_nt (InSp.lin _ _ _) q2 v2 k0 hl.1 hl.2.1
    have hc1 := cntT_add ht0 (n := V + 1)
    rw [if_pos hl.1] at hc1
    have hc2 := cntT_le (nu (T node) k0 true) (V + 1)
    rw [(hxp.2.1 node hnode).1]
    omega
theorem addp_t {G : cx_G} {ad : Nat → Nat} {g u : Nat → va_E} {N V M : Nat} {P : PS} {nd ix : Nat → Nat} {og : Nat → Int32} {rw : Nat → Nat → FF} {ct : Nat → Nat} {mb : Nat → Nat → Nat} {T : Nat → Nat → Bool} {K : Nat → Nat → Nat → FF} {R : Nat → Nat → FF} {node : Nat} {v v2 : Nat → FF} {t2 : Nat → Bool} {kp2 : Nat → Nat → FF} {rb : Bool} {fz : Int32}
    (h : XAn G ad g N V M nd ix og rw ct mb T K R) (hxp : XPt N V M P nd ix og rw ct mb) (hxs : XSp N V P T K) (hN : N ≤ 8) (hV : V ≤ 4) (hnode : node < N) (hal : P.1 < M) (hv : Zb (V + 1) v) (hv2 : ∀ j : Nat, j < V + 1 → v2 j = v j)
    (fr : ∀ j : Nat, (j ≠ 0 ∧ (j < 100 + 10 * node ∨ 100 + 10 * node + 4 + (V + 1) ≤ j) ∧ j ≠ 200 + 2 * node ∧ j ≠ 201 + 2 * node ∧ j ≠ 500 + 2 * P.1 ∧ j ≠ 501 + 2 * P.1) → u j = g j) (sp : SpanAt G ad u (100 + 10 * node) (V + 1) t2 kp2 (sp_red (V + 1) (T node) (K node) (V + 1) v2)) (hadd : AddR (V + 1) (T node) (K node) (sp_red (V + 1) (T node) (K node) (V + 1) v2) rb t2 kp2) (hrb : rb = true)
    (c_h : u (200 + 2 * node) = .inr (1, [.ref (ad (100 + 10 * node)), .ref (ad (201 + 2 * node)), .int (nI (ct node + 1))])) (c_m : u (201 + 2 * node) = nA G (V + 1) (nu (mb node) (ct node) P.1))
    (c_p : u (500 + 2 * P.1) = .inr (3, [.int (nI node), .int (nI (ct node)), .int fz, .ref (ad (501 + 2 * P.1))])) (c_pr : u (501 + 2 * P.1) = nA G (V + 1) (vN v)) :
    (meetF (V + 1) P node v fz).1 = P.1 + 1 ∧ XA G ad u N V M (meetF (V + 1) P node v fz) := by
  rcases hadd with ⟨h1, -⟩ | ⟨k0, hl, -, rfl, rfl⟩
  · rw [h1] at hrb
    cases hrb
  · obtain ⟨a1, a2, a3⟩ := XP.push hxp hxs hnode hal hv hv2 (fz := fz) hl
    exact ⟨a3, _, _, _, _, _, _, _, _, _, XAn.upd h hN hV hnode fr c_h c_m sp (fun _ => c_p) (fun _ => c_pr), a1, a2⟩
theorem fl0_z {n : Nat} {v : Nat → FF} (h : Zb n v) : fl0 n v = fun _ => 0 := by
  funext j
  unfold fl0
  by_cases q : j < n
  · rw [if_pos q]
  · rw [if_neg q]; exact h j (by omega)
theorem Zb.nu {n : Nat} {v : Nat → FF} (h : Zb n v) {k : Nat} (hk : k < n) (x : FF) : Zb n (nu v k x) := fun j hj => by rw [nu_n (by omega)]; exact h j hj
theorem Zb.zero (n : Nat) : Zb n (fun _ => 0) := fun _ _ => rfl
theorem stepF_z {n kd vr : Nat} {f w : Nat → FF} {x : FF} (h : Zb n w) (hv : kd = 1 ∨ kd = 2 → vr < n) : Zb n (stepF n kd vr f x w) := by
  unfold stepF
  by_cases h1 : kd = 1
  · rw [if_pos h1]; exact h.nu (hv (Or.inl h1)) _
  · rw [if_neg h1]
    by_cases h2 : kd = 2
    · rw [if_pos h2]; exact h.nu (hv (Or.inr h2)) _
    · rw [if_neg h2]; exact h
/-- the first points; a point worked off; all of them -/
def fpt (i : Nat) : Nat → FF := nu (nu (fun _ => 0) i 1) 0 1
theorem fpt_z {V i : Nat} (h : i ≤ V) : Zb (V + 1) (fpt i) := ((Zb.zero _).nu (by omega) 1).nu (by omega) 1
def PS0 : PS := (0, fun _ => 0, fun _ => 0, fun _ => 0, fun _ _ _ => 0, fun _ _ => 0)
noncomputable def firstF (w en : Nat) : Nat → PS
  | 0 => PS0
  | k + 1 => meetF w (firstF w en k) en (fpt k) (-1)
noncomputable def follF (w : Nat) (et ek ev : Nat → Nat) (eg : Nat → Nat → FF) (k e x : Nat) (P : PS) : PS :=
  meetF w P (et e) (stepF w (ek e) (ev e) (eg e) (ff x) (P.2.2.2.2.1 (P.2.1 k) (P.2.2.1 k))) (nI (10000 * e + 1000 * P.2.1 k + 10 * P.2.2.1 k + x))
noncomputable def workF (w : Nat) (ef et ek ev : Nat → Nat) (eg : Nat → Nat → FF) (k : Nat) : Nat → PS → PS
  | 0, P => P
  | e + 1, P =>
    if ef e = (workF w ef et ek ev eg k e P).2.1 k then
      (if ek e = 2 then follF w et ek ev eg k e 1 (follF w et ek ev eg k e 0 (workF w ef et ek ev eg k e P)) else follF w et ek ev eg k e 0 (workF w ef et ek ev eg k e P))
    else workF w ef et ek ev eg k e P
noncomputable def runF (w ec : Nat) (ef et ek ev : Nat → Nat) (eg : Nat → Nat → FF) : Nat → Nat → PS → PS
  | 0, _, P => P
  | f + 1, k, P => if k < P.1 then runF w ec ef et ek ev eg f (k + 1) (workF w ef et ek ev eg k ec P) else P
noncomputable def anaF (w M en ec : Nat) (ef et ek ev : Nat → Nat) (eg : Nat → Nat → FF) : PS := runF w ec ef et ek ev eg M 0 (firstF w en w)
/-- the edges' cells, and what is right of them -/
def XE (G : cx_G) (ad : Nat → Nat) (g : Nat → va_E) (V : Nat) (ef et ek : Nat → Nat) (ez : Nat → Int32) (eg : Nat → Nat → FF) : Prop :=
  (∀ i : Nat, i < 20 → g (300 + 2 * i) = .inr (0, [.int (nI (ef i)), .int (nI (et i)), .int (nI (ek i)), .int (ez i), .ref (ad (301 + 2 * i))])) ∧ ∀ i : Nat, i < 20 → g (301 + 2 * i) = nA G (V + 1) (vN (eg i))
theorem XE.kept {G : cx_G} {ad : Nat → Nat} {g g1 : Nat → va_E} {V : Nat} {ef et ek : Nat → Nat} {ez : Nat → Int32} {eg : Nat → Nat → FF} (h : XE G ad g V ef et ek ez eg) (hk : ∀ j : Nat, 300 ≤ j → j < 340 → g1 j = g j) : XE G ad g1 V ef et ek ez eg :=
  ⟨fun i hi => (hk _ (by omega) (by omega)).trans (h.1 i hi), fun i hi => (hk _ (by omega) (by omega)).trans (h.2 i hi)⟩
def EV (N V ec : Nat) (ef et ek : Nat → Nat) (ez : Nat → Int32) (ev : Nat → Nat) (eg : Nat → Nat → FF) : Prop :=
  ec ≤ 20 ∧ (∀ i : Nat, i < ec → ef i < N ∧ et i < N ∧ ek i ≤ 4 ∧ (ek i = 1 ∨ ek i = 2 → ez i = nI (ev i) ∧ 1 ≤ ev i ∧ ev i < V + 1)) ∧ ∀ i : Nat, Zb (V + 1) (eg i)
theorem XA.pt {G : cx_G} {ad : Nat → Nat} {g : Nat → va_E} {N V M : Nat} {P : PS} (h : XA G ad g N V M P) {k : Nat} (hk : k < P.1) : k < M ∧ P.2.1 k < N ∧ P.2.2.1 k < V + 1 ∧ Zb (V + 1) (P.2.2.2.2.1 (P.2.1 k) (P.2.2.1 k)) ∧
    (∃ ok : Int32, g (500 + 2 * k) = .inr (3, [.int (nI (P.2.1 k)), .int (nI (P.2.2.1 k)), .int ok, .ref (ad (501 + 2 * k))])) ∧ g (501 + 2 * k) = nA G (V + 1) (vN (P.2.2.2.2.1 (P.2.1 k) (P.2.2.1 k))) := by
  obtain ⟨nd, ix, og, rw, ct, mb, T, K, R, hxn, hxp, hxs⟩ := h
  obtain ⟨a1, a2, a3, a4, a5⟩ := hxp.1 k hk
  have a6 := (hxp.2.1 _ a3).2.1
  have hkM : k < M := Nat.lt_of_lt_of_le hk hxp.2.2.2.2
  have b1 := hxn.2.2.2.1 k hkM
  have b2 := hxn.2.2.2.2 k hkM
  rw [a1, a2] at b1
  rw [a5] at b2
  exact ⟨hkM, a3, by omega, by rw [← a5]; exact hxp.2.2.2.1 k, ⟨_, b1⟩, b2⟩
theorem meetF_le {w : Nat} {P : PS} {node : Nat} {v : Nat → FF} {fz : Int32} : P.1 ≤ (meetF w P node v fz).1 := by
  unfold meetF
  split
  · exact Nat.le_refl _
  · exact Nat.le_succ _
theorem workF_le {w : Nat} {ef et ek ev : Nat → Nat} {eg : Nat → Nat → FF} {k : Nat} {P : PS} : ∀ e : Nat, P.1 ≤ (workF w ef et ek ev eg k e P).1
  | 0 => Nat.le_refl _
  | e + 1 => by
    have h := workF_le (w := w) (ef := ef) (et := et) (ek := ek) (ev := ev) (eg := eg) (k := k) (P := P) e
    show P.1 ≤ (if ef e = (workF w ef et ek ev eg k e P).2.1 k then (if ek e = 2 then follF w et ek ev eg k e 1 (follF w et ek ev eg k e 0 (workF w ef et ek ev eg k e P)) else follF w et ek ev eg k e 0 (workF w ef et ek ev eg k e P)) else workF w ef et ek ev eg k e P).1
    split
    · split
      · exact Nat.le_trans h (Nat.le_trans meetF_le meetF_le)
      · exact Nat.le_trans h meetF_le
    · exact h
theorem XA.le {G : cx_G} {ad : Nat → Nat} {g : Nat → va_E} {N V M : Nat} {P : PS} (h : XA G ad g N V M P) : P.1 ≤ M := by
  obtain ⟨nd, ix, og, rw, ct, mb, T, K, R, hxn, hxp, hxs⟩ := h
  exact hxp.2.2.2.2
/-- forgetting: the first k nodes have no points -/
def XF (G : cx_G) (ad : Nat → Nat) (g : Nat → va_E) (N V M k : Nat) : Prop :=
  ∃ (nd ix : Nat → Nat) (og : Nat → Int32) (rw : Nat → Nat → FF) (ct : Nat → Nat) (mb : Nat → Nat → Nat) (T : Nat → Nat → Bool) (K : Nat → Nat → Nat → FF) (R : Nat → Nat → FF), XAn G ad g N V M nd ix og rw ct mb T K R ∧ (∀ i : Nat, Zb (V + 1) (rw i)) ∧ ∀ i : Nat, i < k → ct i = 0 ∧ ∀ j : Nat, j < V + 1 → T i j = false
theorem XF.kept {G : cx_G} {ad : Nat → Nat} {g g1 : Nat → va_E} {N V M k : Nat} (h : XF G ad g N V M k) (hN : N ≤ 8) (hV : V ≤ 4) (hk : ∀ j : Nat, lbA j → g1 j = g j) : XF G ad g1 N V M k := by
  obtain ⟨nd, ix, og, rw, ct, mb, T, K, R, h1, h2⟩ := h
  exact ⟨nd, ix, og, rw, ct, mb, T, K, R, h1.kept hN hV hk, h2⟩
theorem XF.of {G : cx_G} {ad : Nat → Nat} {g : Nat → va_E} {N V M : Nat} {P : PS} (h : XA G ad g N V M P) : XF G ad g N V M 0 := by
  obtain ⟨nd, ix, og, rw, ct, mb, T, K, R, hxn, hxp, hxs⟩ := h
  exact ⟨nd, ix, og, rw, ct, mb, T, K, R, hxn, hxp.2.2.2.1, fun i hi => absurd hi (Nat.not_lt_zero i)⟩
theorem XF.done {G : cx_G} {ad : Nat → Nat} {g : Nat → va_E} {N V M : Nat} (h : XF G ad g N V M N) : XA G ad g N V M PS0 := by
  obtain ⟨nd, ix, og, rw, ct, mb, T, K, R, hxn, hz, hc⟩ := h
  refine ⟨nd, ix, og, rw, ct, mb, T, K, R, hxn, ⟨fun k hk => absurd hk (Nat.not_lt_zero k), fun i hi => ⟨(hc i hi).1, Nat.zero_le _, fun j hj => absurd hj (Nat.not_lt_zero j)⟩, (csum_0 N).symm, hz, Nat.zero_le _⟩, fun i hi => ⟨(cntT_0 (hc i hi).2).symm, RRf.empty (hc i hi).2⟩⟩
theorem XF.step {G : cx_G} {ad : Nat → Nat} {g u : Nat → va_E} {N V M k : Nat} {nd ix : Nat → Nat} {og : Nat → Int32} {rw : Nat → Nat → FF} {ct : Nat → Nat} {mb : Nat → Nat → Nat} {T : Nat → Nat → Bool} {K : Nat → Nat → Nat → FF} {R : Nat → Nat → FF} {t2 : Nat → Bool} (hxn : XAn G ad g N V M nd ix og rw ct mb T K R) (hz : ∀ i : Nat, Zb (V + 1) (rw i)) (hc : ∀ i : Nat, i < k → ct i = 0 ∧ ∀ j : Nat, j < V + 1 → T i j = false) (hN : N ≤ 8) (hV : V ≤ 4) (hk : k < N)
    (fr : ∀ j : Nat, (j ≠ 100 + 10 * k + 2 ∧ j ≠ 200 + 2 * k) → u j = g j) (c_h : u (200 + 2 * k) = .inr (1, [.ref (ad (100 + 10 * k)), .ref (ad (201 + 2 * k)), .int (nI 0)])) (ht2 : ∀ j : Nat, j < V + 1 → t2 j = false) (sp : SpanAt G ad u (100 + 10 * k) (V + 1) t2 (K k) (R k)) : XF G ad u N V M (k + 1) := by
  have q := XAn.upd (al := M) (c2 := 0) (fz := og M) (v := rw M) (mb2 := mb k) (n2 := nd M) (i2 := ix M) hxn hN hV hk (fun j hj => fr j (by omega)) c_h ((fr _ (by omega)).trans (hxn.2.1 k hk)) sp (fun z => absurd z (Nat.lt_irrefl M)) (fun z => absurd z (Nat.lt_irrefl M))
  rw [nu_id nd, nu_id ix, nu_id og, nu_id rw, nu_id mb, nu_id K, nu_id R] at q
  refine ⟨_, _, _, _, _, _, _, _, _, q, hz, fun i hi => ?_⟩
  by_cases e : i = k
  · subst e
    rw [nu_s, nu_s]
    exact ⟨rfl, ht2⟩
  · rw [nu_n e, nu_n e]
    exact hc i (by omega)
theorem wk_no {w : Nat} {ef et ek ev : Nat → Nat} {eg : Nat → Nat → FF} {k e : Nat} {P : PS} (h : ef e ≠ (workF w ef et ek ev eg k e P).2.1 k) : workF w ef et ek ev eg k (e + 1) P = workF w ef et ek ev eg k e P := if_neg h
theorem wk_1 {w : Nat} {ef et ek ev : Nat → Nat} {eg : Nat → Nat → FF} {k e : Nat} {P : PS} (h : ef e = (workF w ef et ek ev eg k e P).2.1 k) (h2 : ek e ≠ 2) : workF w ef et ek ev eg k (e + 1) P = follF w et ek ev eg k e 0 (workF w ef et ek ev eg k e P) := (if_pos h).trans (if_neg h2)
theorem wk_2 {w : Nat} {ef et ek ev : Nat → Nat} {eg : Nat → Nat → FF} {k e : Nat} {P : PS} (h : ef e = (workF w ef et ek ev eg k e P).2.1 k) (h2 : ek e = 2) : workF w ef et ek ev eg k (e + 1) P = follF w et ek ev eg k e 1 (follF w et ek ev eg k e 0 (workF w ef et ek ev eg k e P)) := (if_pos h).trans (if_pos h2)
theorem run_end {w ec : Nat} {ef et ek ev : Nat → Nat} {eg : Nat → Nat → FF} {f i : Nat} {P : PS} (h : f = 0 ∨ P.1 ≤ i) : runF w ec ef et ek ev eg f i P = P := by
  cases f with
  | zero => rfl
  | succ f =>
    have h2 : ¬ i < P.1 := by omega
    exact if_neg h2
theorem run_go {w ec : Nat} {ef et ek ev : Nat → Nat} {eg : Nat → Nat → FF} {M i : Nat} {P : PS} (h : i < M) (h2 : i < P.1) : runF w ec ef et ek ev eg (M - i) i P = runF w ec ef et ek ev eg (M - (i + 1)) (i + 1) (workF w ef et ek ev eg i ec P) := by
  rw [show M - i = (M - (i + 1)) + 1 by omega]
  exact if_pos h2
end
section
/-! equations and notes: pure part -/
theorem XA.hull {G : cx_G} {ad : Nat → Nat} {g : Nat → va_E} {N V M : Nat} {P : PS} (h : XA G ad g N V M P) {node : Nat} (hn : node < N) : ∃ (mbn : Nat → Nat) (t : Nat → Bool) (kp : Nat → Nat → FF) (rs : Nat → FF),
    g (200 + 2 * node) = .inr (1, [.ref (ad (100 + 10 * node)), .ref (ad (201 + 2 * node)), .int (nI (P.2.2.2.1 node))]) ∧ g (201 + 2 * node) = nA G (V + 1) mbn ∧ P.2.2.2.1 node ≤ V + 1 ∧ SpanAt G ad g (100 + 10 * node) (V + 1) t kp rs ∧ P.2.2.2.1 node = cntT t (V + 1) ∧ RRf (V + 1) t kp (InSp (V + 1) (P.2.2.2.2.1 node) (P.2.2.2.1 node)) ∧
    ∀ i : Nat, i < P.2.2.2.1 node → mbn i < M ∧ (∃ a b : Nat, g (500 + 2 * mbn i) = .inr (3, [.int (nI a), .int (nI b), .int (P.2.2.2.2.2 node i), .ref (ad (501 + 2 * mbn i))])) ∧ g (501 + 2 * mbn i) = nA G (V + 1) (vN (P.2.2.2.2.1 node i)) := by
  obtain ⟨nd, ix, og, rw, ct, mb, T, K, R, hxn, hxp, hxs⟩ := h
  obtain ⟨a1, a2, a3⟩ := hxp.2.1 node hn
  have b1 := hxn.1 node hn
  rw [a1] at b1
  refine ⟨mb node, T node, K node, R node, b1, hxn.2.1 node hn, a2, hxn.2.2.1 node hn, (hxs node hn).1, (hxs node hn).2, fun i hi => ?_⟩
  obtain ⟨c1, c2, c3⟩ := a3 i hi
  have hM : mb node i < M := Nat.lt_of_lt_of_le c1 hxp.2.2.2.2
  have d1 := hxn.2.2.2.1 _ hM
  have d2 := hxn.2.2.2.2 _ hM
  rw [c3] at d1
  rw [c2] at d2
  exact ⟨hM, ⟨_, _, d1⟩, d2⟩
def hldF (w : Nat) (d : Nat → FF) (pt : Nat → Nat → FF) (m : Nat) : Bool := decide (∀ i : Nat, i < m → dot d (pt i) w = 0)
theorem hld_t {w m : Nat} {d : Nat → FF} {pt : Nat → Nat → FF} (h : ∀ i : Nat, i < m → dot d (pt i) w = 0) : nI 1 = if hldF w d pt m = true then 1 else 0 := by
  have e : hldF w d pt m = true := decide_eq_true h
  rw [e]
  decide
theorem hld_f {w m i : Nat} {d : Nat → FF} {pt : Nat → Nat → FF} (hi : i < m) (h : dot d (pt i) w ≠ 0) : nI 0 = if hldF w d pt m = true then 1 else 0 := by
  have e : hldF w d pt m = false := decide_eq_false (fun z => h (z i hi))
  rw [e]
  decide
/-- equation i of a reduced form -/
def eqv (w : Nat) (t : Nat → Bool) (kp : Nat → Nat → FF) (i : Nat) : Nat → FF := fun k => if k < w then van t kp (fpl t (w - 1) 1 i) k else 0
theorem eqv_z (w : Nat) (t : Nat → Bool) (kp : Nat → Nat → FF) (i : Nat) : Zb w (eqv w t kp i) := fun j hj => if_neg (by omega)
/-- free places -/
def cntF (t : Nat → Bool) : Nat → Nat → Nat
  | 0, _ => 0
  | fu + 1, k => (if t k = true then 0 else 1) + cntF t fu (k + 1)
theorem cntF_T (t : Nat → Bool) : ∀ fu k : Nat, cntF t fu k + cntT t (k + fu) = fu + cntT t k
  | 0, k => by show 0 + cntT t k = 0 + cntT t k; rfl
  | fu + 1, k => by
    have h := cntF_T t fu (k + 1)
    have h2 : cntT t (k + 1) = cntT t k + (if t k = true then 1 else 0) := rfl
    show (if t k = true then 0 else 1) + cntF t fu (k + 1) + cntT t (k + (fu + 1)) = fu + 1 + cntT t k
    rw [show k + (fu + 1) = k + 1 + fu by omega]
    by_cases q : t k = true
    · rw [if_pos q] at h2 ⊢
      omega
    · rw [if_neg q] at h2 ⊢
      omega
theorem fpl_in (t : Nat → Bool) : ∀ (fu k i : Nat), i < cntF t fu k → k ≤ fpl t fu k i ∧ fpl t fu k i < k + fu ∧ t (fpl t fu k i) = false
  | 0, _, i, h => absurd h (Nat.not_lt_zero i)
  | fu + 1, k, i, h => by
    have h2 : i < (if t k = true then 0 else 1) + cntF t fu (k + 1) := h
    show k ≤ (if t k = true then fpl t fu (k + 1) i else if i = 0 then k else fpl t fu (k + 1) (i - 1)) ∧ (if t k = true then fpl t fu (k + 1) i else if i = 0 then k else fpl t fu (k + 1) (i - 1)) < k + (fu + 1) ∧ t (if t k = true then fpl t fu (k + 1) i else if i = 0 then k else fpl t fu (k + 1) (i - 1)) = false
    by_cases q : t k = true
    · rw [if_pos q] at h2
      rw [if_pos q]
      obtain ⟨a, b, c⟩ := fpl_in t fu (k + 1) i (by omega)
      exact ⟨by omega, by omega, c⟩
    · rw [if_neg q] at h2
      rw [if_neg q]
      by_cases e : i = 0
      · rw [if_pos e]
        exact ⟨Nat.le_refl k, by omega, by cases q2 : t k; rfl; exact absurd q2 q⟩
      · rw [if_neg e]
        obtain ⟨a, b, c⟩ := fpl_in t fu (k + 1) (i - 1) (by omega)
        exact ⟨by omega, by omega, c⟩
theorem fpl_out (t : Nat → Bool) : ∀ (fu k i : Nat), cntF t fu k ≤ i → fpl t fu k i = 0
  | 0, _, _, _ => rfl
  | fu + 1, k, i, h => by
    have h2 : (if t k = true then 0 else 1) + cntF t fu (k + 1) ≤ i := h
    show (if t k = true then fpl t fu (k + 1) i else if i = 0 then k else fpl t fu (k + 1) (i - 1)) = 0
    by_cases q : t k = true
    · rw [if_pos q] at h2
      rw [if_pos q]
      exact fpl_out t fu (k + 1) i (by omega)
    · rw [if_neg q] at h2
      rw [if_neg q, if_neg (by omega)]
      exact fpl_out t fu (k + 1) (i - 1) (by omega)
theorem fpl_cg {t t' : Nat → Bool} : ∀ (fu k i : Nat), (∀ j : Nat, k ≤ j → j < k + fu → t j = t' j) → fpl t fu k i = fpl t' fu k i
  | 0, _, _, _ => rfl
  | fu + 1, k, i, h => by
    show (if t k = true then fpl t fu (k + 1) i else if i = 0 then k else fpl t fu (k + 1) (i - 1)) = (if t' k = true then fpl t' fu (k + 1) i else if i = 0 then k else fpl t' fu (k + 1) (i - 1))
    rw [h k (Nat.le_refl k) (by omega), fpl_cg fu (k + 1) i (fun j a b => h j (by omega) (by omega)), fpl_cg fu (k + 1) (i - 1) (fun j a b => h j (by omega) (by omega))]
/-- the free place of equation i: in range, and free -/
theorem fpl_w {w : Nat} {t : Nat → Bool} (hw : 0 < w) {i : Nat} (hi : i < w - cntT t w) : fpl t (w - 1) 1 i < w ∧ t (fpl t (w - 1) 1 i) = false := by
  have h1 := cntF_T t (w - 1) 1
  rw [show 1 + (w - 1) = w by omega] at h1
  have h2 : cntT t 1 = 0 + (if t 0 = true then 1 else 0) := rfl
  have h3 := cntT_le t w
  rcases Nat.lt_or_ge i (cntF t (w - 1) 1) with q | q
  · obtain ⟨a, b, c⟩ := fpl_in t (w - 1) 1 i q
    exact ⟨by omega, c⟩
  · rw [fpl_out t (w - 1) 1 i q]
    refine ⟨hw, ?_⟩
    cases q2 : t 0
    · rfl
    · rw [q2, if_pos rfl] at h2
      omega
theorem eqv_one {w : Nat} {t t' : Nat → Bool} {kp kp' : Nat → Nat → FF} {S : (Nat → FF) → Prop} (hw : 0 < w) (hL : Lin w S) (h : RRf w t kp S) (h' : RRf w t' kp' S) {i : Nat} (hi : i < w - cntT t w) : eqv w t kp i = eqv w t' kp' i := by
  obtain ⟨e1, e2⟩ := h.one h' hL
  obtain ⟨f1, f2⟩ := fpl_w hw hi
  have e3 : fpl t (w - 1) 1 i = fpl t' (w - 1) 1 i := fpl_cg (w - 1) 1 i (fun j a b => e1 j (by omega))
  funext k
  unfold eqv
  by_cases hk : k < w
  · rw [if_pos hk, if_pos hk, ← e3]
    unfold van
    by_cases q : k = fpl t (w - 1) 1 i
    · rw [if_pos q, if_pos q]
    · rw [if_neg q, if_neg q, ← e1 k hk]
      by_cases q2 : t k = true
      · rw [if_pos q2, if_pos q2, e2 k hk q2 _ f1]
      · rw [if_neg q2, if_neg q2]
  · rw [if_neg hk, if_neg hk]
/-- THE equations of some rows -/
noncomputable def eqF (w : Nat) (rows : Nat → Nat → FF) (m : Nat) : Nat → Nat → FF := @dite _ (∃ q : (Nat → Bool) × (Nat → Nat → FF), RRf w q.1 q.2 (InSp w rows m)) (Classical.propDecidable _) (fun h => eqv w (Classical.choose h).1 (Classical.choose h).2) (fun _ _ _ => 0)
theorem eqF_of {w : Nat} {t : Nat → Bool} {kp rows : Nat → Nat → FF} {m i : Nat} (hw : 0 < w) (h : RRf w t kp (InSp w rows m)) (hi : i < w - cntT t w) : eqv w t kp i = eqF w rows m i := by
  have hex : ∃ q : (Nat → Bool) × (Nat → Nat → FF), RRf w q.1 q.2 (InSp w rows m) := ⟨(t, kp), h⟩
  have e : eqF w rows m = eqv w (Classical.choose hex).1 (Classical.choose hex).2 := dif_pos hex
  rw [e]
  exact eqv_one hw (InSp.lin w rows m) h (Classical.choose_spec hex) hi
theorem eqF_z (w : Nat) (rows : Nat → Nat → FF) (m i : Nat) : Zb w (eqF w rows m i) := by
  unfold eqF
  split
  · exact eqv_z w _ _ i
  · exact fun _ _ => rfl
/-- the notes' cells -/
def XN (G : cx_G) (ad : Nat → Nat) (g : Nat → va_E) (V : Nat) (nn : Nat → Nat) (ng : Nat → Nat → FF) : Prop :=
  (∀ i : Nat, i < 24 → g (400 + 2 * i) = .inr (2, [.int (nI (nn i)), .ref (ad (401 + 2 * i))])) ∧ ∀ i : Nat, i < 24 → g (401 + 2 * i) = nA G (V + 1) (vN (ng i))
theorem XN.kept {G : cx_G} {ad : Nat → Nat} {g g1 : Nat → va_E} {V : Nat} {nn : Nat → Nat} {ng : Nat → Nat → FF} (h : XN G ad g V nn ng) (hk : ∀ j : Nat, 400 ≤ j → j < 448 → g1 j = g j) : XN G ad g1 V nn ng :=
  ⟨fun i hi => (hk _ (by omega) (by omega)).trans (h.1 i hi), fun i hi => (hk _ (by omega) (by omega)).trans (h.2 i hi)⟩
theorem XN.set {G : cx_G} {ad : Nat → Nat} {g u : Nat → va_E} {V k nd : Nat} {nn : Nat → Nat} {ng : Nat → Nat → FF} {v : Nat → FF} (h : XN G ad g V nn ng) (hk : ∀ j : Nat, (j ≠ 400 + 2 * k ∧ j ≠ 401 + 2 * k) → u j = g j) (h1 : u (400 + 2 * k) = .inr (2, [.int (nI nd), .ref (ad (401 + 2 * k))])) (h2 : u (401 + 2 * k) = nA G (V + 1) (vN v)) : XN G ad u V (nu nn k nd) (nu ng k v) := by
  refine ⟨fun i hi => ?_, fun i hi => ?_⟩
  · by_cases e : i = k
    · subst e; rw [nu_s]; exact h1
    · rw [nu_n e]; exact (hk _ (by omega)).trans (h.1 i hi)
  · by_cases e : i = k
    · subst e; rw [nu_s]; exact h2
    · rw [nu_n e]; exact (hk _ (by omega)).trans (h.2 i hi)
/-- a node's equations become notes -/
def eqnN (node : Nat) (nc : Nat) (nn : Nat → Nat) : Nat → (Nat → Nat)
  | 0 => nn
  | i + 1 => nu (eqnN node nc nn i) (nc + i) node
def eqnG (q : Nat → Nat → FF) (nc : Nat) (ng : Nat → Nat → FF) : Nat → (Nat → Nat → FF)
  | 0 => ng
  | i + 1 => nu (eqnG q nc ng i) (nc + i) (q i)
theorem eqnG_z {w nc : Nat} {q ng : Nat → Nat → FF} (hq : ∀ i : Nat, Zb w (q i)) (hg : ∀ i : Nat, Zb w (ng i)) : ∀ k i : Nat, Zb w (eqnG q nc ng k i)
  | 0, i => hg i
  | k + 1, i => by
    show Zb w (nu (eqnG q nc ng k) (nc + k) (q k) i)
    by_cases e : i = nc + k
    · rw [e, nu_s]; exact hq k
    · rw [nu_n e]; exact eqnG_z hq hg k i
/-- the span of notes at a node, and an edge's form -/
def S00 (w : Nat) : (Nat → FF) → Prop := fun v => ∀ j : Nat, j < w → v j = 0
theorem S00.lin (w : Nat) : Lin w (S00 w) := ⟨fun u v e hu j hj => (e j hj).symm.trans (hu j hj), fun _ _ => rfl, fun u v a hu hv j hj => by show u j + a * v j = 0; rw [hu j hj, hv j hj]; grind⟩
theorem RRf.S00 {w : Nat} {t : Nat → Bool} {kp : Nat → Nat → FF} (h : ∀ k : Nat, k < w → t k = false) : RRf w t kp (S00 w) := ⟨fun k hk ht => (by rw [h k hk] at ht; cases ht), fun v hv _ => hv⟩
def nsF (w : Nat) (nn : Nat → Nat) (ng : Nat → Nat → FF) (node : Nat) : Nat → ((Nat → FF) → Prop)
  | 0 => S00 w
  | k + 1 => if nn k = node then Sad (nsF w nn ng node k) (ng k) else nsF w nn ng node k
theorem nsF.lin {w : Nat} {nn : Nat → Nat} {ng : Nat → Nat → FF} {node : Nat} : ∀ k : Nat, Lin w (nsF w nn ng node k)
  | 0 => S00.lin w
  | k + 1 => by
    show Lin w (if nn k = node then Sad (nsF w nn ng node k) (ng k) else nsF w nn ng node k)
    split
    · exact Lin.sad (nsF.lin k) _
    · exact nsF.lin k
def sbF (w nc : Nat) (nn : Nat → Nat) (ng : Nat → Nat → FF) (node kd : Nat) (f : Nat → FF) : (Nat → FF) → Prop := if kd = 3 then Sad (nsF w nn ng node nc) f else nsF w nn ng node nc
theorem sbF.lin {w nc : Nat} {nn : Nat → Nat} {ng : Nat → Nat → FF} {node kd : Nat} {f : Nat → FF} : Lin w (sbF w nc nn ng node kd f) := by
  unfold sbF
  split
  · exact Lin.sad (nsF.lin nc) _
  · exact nsF.lin nc
theorem Sad_in {n : Nat} {S : (Nat → FF) → Prop} (hL : Lin n S) {v u : Nat → FF} (h : S v) : Sad S v u ↔ S u := by
  constructor
  · rintro ⟨a, ha⟩
    exact hL.ad a ha h (fun j _ => by grind)
  · exact fun hu => Sad.old hL v hu
theorem AddR.rrf {n : Nat} {t t2 : Nat → Bool} {kp kp2 : Nat → Nat → FF} {S : (Nat → FF) → Prop} {v v2 : Nat → FF} {rb : Bool} (hL : Lin n S) (h : RRf n t kp S) (he : ∀ j : Nat, j < n → v2 j = v j) (hadd : AddR n t kp (sp_red n t kp n v2) rb t2 kp2) : RRf n t2 kp2 (Sad S v) := by
  rcases hadd with ⟨-, hz, rfl, rfl⟩ | ⟨k0, hl, -, rfl, rfl⟩
  · have hv : S v := hL.cg ((red_S hL h v2).mp hz) he
    exact h.ex (fun u => (Sad_in hL hv).symm)
  · exact (RRf.add hL h v2 hl finv_ok).ex (fun u => Sad_cg hL he)
/-- an edge keeps the notes -/
def keepP (w nc : Nat) (nn : Nat → Nat) (ng : Nat → Nat → FF) (fr to kd vr : Nat) (f : Nat → FF) (k : Nat) : Prop :=
  ∀ i : Nat, i < k → nn i = to → sbF w nc nn ng fr kd f (backF w kd vr f (ff 0) (ng i)) ∧ (kd = 2 → sbF w nc nn ng fr kd f (backF w kd vr f (ff 1) (ng i)))
def soundP (w nc en ec : Nat) (nn : Nat → Nat) (ng : Nat → Nat → FF) (ef et ek ev : Nat → Nat) (eg : Nat → Nat → FF) : Prop :=
  (∀ i : Nat, i < nc → nn i ≠ en) ∧ ∀ e : Nat, e < ec → keepP w nc nn ng (ef e) (et e) (ek e) (ev e) (eg e) nc
def tr (r : Int32) (p : Prop) : Prop := (r = nI 1 ∧ p) ∨ (r = nI 0 ∧ ¬ p)
theorem backF_z {n kd vr : Nat} {f w : Nat → FF} {x : FF} (h : Zb n w) (hn : 0 < n) (hv : kd = 1 ∨ kd = 2 → vr < n) : Zb n (backF n kd vr f x w) := by
  unfold backF
  by_cases h1 : kd = 1
  · rw [if_pos h1]
    intro j hj
    unfold am
    rw [if_neg (by omega)]
    exact h.nu (hv (Or.inl h1)) 0 j hj
  · rw [if_neg h1]
    by_cases h2 : kd = 2
    · rw [if_pos h2]; exact (h.nu (hv (Or.inr h2)) _).nu hn _
    · rw [if_neg h2]; exact h
end
