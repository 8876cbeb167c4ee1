/-! linear algebra over the numbers: spans, reduced rows, and that they are determined by the span -/
/-- a set of rows of n places that is closed under sums of multiples -/
def Lin (n : Nat) (S : (Nat → FF) → Prop) : Prop :=
  (∀ u v : Nat → FF, (∀ j : Nat, j < n → u j = v j) → S u → S v) ∧ S (fun _ => 0) ∧ ∀ (u v : Nat → FF) (a : FF), S u → S v → S (fun j => u j + a * v j)
theorem Lin.cg {n : Nat} {S : (Nat → FF) → Prop} (h : Lin n S) {u v : Nat → FF} (hu : S u) (e : ∀ j : Nat, j < n → u j = v j) : S v := h.1 u v e hu
theorem Lin.ad {n : Nat} {S : (Nat → FF) → Prop} (h : Lin n S) {u v z : Nat → FF} (a : FF) (hu : S u) (hv : S v) (e : ∀ j : Nat, j < n → u j + a * v j = z j) : S z := h.1 _ z e (h.2.2 u v a hu hv)
/-- the order of places: 0, n - 1, .., 1 -/
def bef (j k : Nat) : Prop := k ≠ 0 ∧ (j = 0 ∨ k < j)
theorem isLead_iff {n : Nat} {v : Nat → FF} {k : Nat} : isLead n v k ↔ k < n ∧ v k ≠ 0 ∧ ∀ j : Nat, j < n → bef j k → v j = 0 := by
  constructor
  · rintro ⟨h1, h2, h3⟩
    refine ⟨h1, h2, fun j hj hb => ?_⟩
    obtain ⟨q1, q2⟩ := h3 hb.1
    rcases hb.2 with e | e
    · rw [e]; exact q1
    · exact q2 j e hj
  · rintro ⟨h1, h2, h3⟩
    exact ⟨h1, h2, fun h0 => ⟨h3 0 (by omega) ⟨h0, Or.inl rfl⟩, fun j a b => h3 j b ⟨h0, Or.inr a⟩⟩⟩
/-- reduced rows kp at the taken places t, of the span S -/
def RRf (n : Nat) (t : Nat → Bool) (kp : Nat → Nat → FF) (S : (Nat → FF) → Prop) : Prop :=
  (∀ k : Nat, k < n → t k = true → S (kp k) ∧ kp k k = 1 ∧ (∀ j : Nat, j < n → t j = true → j ≠ k → kp k j = 0) ∧ ∀ j : Nat, j < n → bef j k → kp k j = 0) ∧
  ∀ v : Nat → FF, S v → (∀ k : Nat, k < n → t k = true → v k = 0) → ∀ j : Nat, j < n → v j = 0
theorem red_steps {n : Nat} {t : Nat → Bool} {kp : Nat → Nat → FF} {S : (Nat → FF) → Prop} (hL : Lin n S) (h : RRf n t kp S) (v : Nat → FF) : ∀ k : Nat, k ≤ n → (∀ i : Nat, i < k → t i = true → sp_red n t kp k v i = 0) ∧ S (fun j => v j - sp_red n t kp k v j) := by
  intro k
  induction k with
  | zero =>
    intro _
    refine ⟨fun i hi => absurd hi (Nat.not_lt_zero i), hL.cg hL.2.1 (fun j _ => ?_)⟩
    show (0 : FF) = v j - v j
    grind
  | succ k ih =>
    intro hk
    obtain ⟨h1, h2⟩ := ih (by omega)
    by_cases ht : t k = true
    · have e : sp_red n t kp (k + 1) v = am n (sp_red n t kp k v) (- (sp_red n t kp k v k)) (kp k) := if_pos ht
      rw [e]
      obtain ⟨q1, q2, q3, q4⟩ := h.1 k (by omega) ht
      constructor
      · intro i hi hti
        unfold am
        rw [if_pos (by omega)]
        by_cases ei : i = k
        · subst ei
          rw [q2]
          grind
        · rw [h1 i (by omega) hti, q3 i (by omega) hti ei]
          grind
      · refine hL.ad (sp_red n t kp k v k) h2 q1 (fun j hj => ?_)
        unfold am
        rw [if_pos hj]
        grind
    · have e : sp_red n t kp (k + 1) v = sp_red n t kp k v := if_neg ht
      rw [e]
      refine ⟨fun i hi hti => ?_, h2⟩
      by_cases ei : i = k
      · rw [ei] at hti
        exact absurd hti ht
      · exact h1 i (by omega) hti
theorem red_zero {n : Nat} {t : Nat → Bool} {kp : Nat → Nat → FF} {S : (Nat → FF) → Prop} (hL : Lin n S) (h : RRf n t kp S) (v : Nat → FF) {i : Nat} (hi : i < n) (ht : t i = true) : sp_red n t kp n v i = 0 := (red_steps hL h v n (Nat.le_refl n)).1 i hi ht
theorem red_nt {n : Nat} {t : Nat → Bool} {kp : Nat → Nat → FF} {S : (Nat → FF) → Prop} (hL : Lin n S) (h : RRf n t kp S) (v : Nat → FF) : ∀ j : Nat, j < n → sp_red n t kp n v j ≠ 0 → t j = false := by
  intro j hj hn
  cases ht : t j
  · rfl
  · exact absurd (red_zero hL h v hj ht) hn
theorem red_S {n : Nat} {t : Nat → Bool} {kp : Nat → Nat → FF} {S : (Nat → FF) → Prop} (hL : Lin n S) (h : RRf n t kp S) (v : Nat → FF) : (∀ j : Nat, j < n → sp_red n t kp n v j = 0) ↔ S v := by
  have h2 := (red_steps hL h v n (Nat.le_refl n)).2
  constructor
  · intro hz
    refine hL.cg h2 (fun j hj => ?_)
    rw [hz j hj]
    grind
  · intro hv
    refine h.2 _ (hL.ad (-1) hv h2 (fun j hj => ?_)) (fun k hk ht => red_zero hL h v hk ht)
    grind
/-- S and one row more -/
def Sad (S : (Nat → FF) → Prop) (v : Nat → FF) : (Nat → FF) → Prop := fun u => ∃ a : FF, S (fun j => u j - a * v j)
theorem Lin.sad {n : Nat} {S : (Nat → FF) → Prop} (h : Lin n S) (v : Nat → FF) : Lin n (Sad S v) := by
  refine ⟨fun u z e hu => ?_, ⟨0, h.cg h.2.1 (fun j _ => by grind)⟩, fun u z a hu hz => ?_⟩
  · obtain ⟨a, ha⟩ := hu
    exact ⟨a, h.cg ha (fun j hj => by rw [e j hj])⟩
  · obtain ⟨b, hb⟩ := hu
    obtain ⟨c, hc⟩ := hz
    exact ⟨b + a * c, h.ad a hb hc (fun j _ => by grind)⟩
theorem Sad.old {n : Nat} {S : (Nat → FF) → Prop} (h : Lin n S) (v : Nat → FF) {u : Nat → FF} (hu : S u) : Sad S v u := ⟨0, h.cg hu (fun j _ => by grind)⟩
theorem Sad.new {n : Nat} {S : (Nat → FF) → Prop} (h : Lin n S) (v : Nat → FF) : Sad S v v := ⟨1, h.cg h.2.1 (fun j _ => by grind)⟩
theorem fr_at {n : Nat} {kp : Nat → Nat → FF} {r : Nat → FF} {k0 j : Nat} (hj : j < n) : sp_fresh n kp r k0 j = finv (r k0) * r j := by
  unfold sp_fresh am fl0
  rw [if_pos hj, if_pos hj]
  grind
theorem RRf.add {n : Nat} {t : Nat → Bool} {kp : Nat → Nat → FF} {S : (Nat → FF) → Prop} (hL : Lin n S) (h : RRf n t kp S) (v : Nat → FF) {k0 : Nat} (hl : isLead n (sp_red n t kp n v) k0) (hinv : ∀ a : FF, a ≠ 0 → a * finv a = 1) :
    RRf n (nu t k0 true) (sp_kp n t kp (sp_red n t kp n v) k0) (Sad S v) := by
  have hz := fun (i : Nat) (hi : i < n) (ht : t i = true) => red_zero hL h v hi ht
  have hS := (red_steps hL h v n (Nat.le_refl n)).2
  generalize sp_red n t kp n v = r at hl hz hS ⊢
  obtain ⟨hk0, hr0, hb0⟩ := isLead_iff.mp hl
  have ht0 : t k0 = false := by
    cases q : t k0
    · rfl
    · exact absurd (hz k0 hk0 q) hr0
  have hLs := hL.sad v
  have hi := hinv _ hr0
  have hrS : Sad S v r := ⟨1, hL.ad (-1) hL.2.1 hS (fun j _ => by grind)⟩
  have hfr : Sad S v (sp_fresh n kp r k0) := hLs.ad (finv (r k0)) hLs.2.1 hrS (fun j hj => by rw [fr_at hj]; grind)
  have hf0 : sp_fresh n kp r k0 k0 = 1 := by rw [fr_at hk0]; exact (Fin.mul_comm _ _).trans hi
  have hft : ∀ i : Nat, i < n → t i = true → sp_fresh n kp r k0 i = 0 := fun i hi ht => by rw [fr_at hi, hz i hi ht]; grind
  have hfb : ∀ j : Nat, j < n → bef j k0 → sp_fresh n kp r k0 j = 0 := fun j hj hb => by rw [fr_at hj, hb0 j hj hb]; grind
  have hold : ∀ k : Nat, k < n → t k = true → sp_kp n t kp r k0 k = am n (kp k) (- (kp k k0)) (sp_fresh n kp r k0) := by
    intro k hk ht
    unfold sp_kp
    rw [if_neg (fun e => by rw [e, ht0] at ht; cases ht), if_pos ⟨hk, ht⟩]
  have hnew : sp_kp n t kp r k0 k0 = sp_fresh n kp r k0 := if_pos rfl
  have tt : ∀ k : Nat, nu t k0 true k = true → k = k0 ∨ t k = true := by
    intro k hk
    by_cases e : k = k0
    · exact Or.inl e
    · rw [nu_n e] at hk
      exact Or.inr hk
  constructor
  · intro k hk hk2
    rcases tt k hk2 with e | ht
    · subst e
      rw [hnew]
      refine ⟨hfr, hf0, fun j hj htj hne => ?_, hfb⟩
      rcases tt j htj with e | q
      · exact absurd e hne
      · exact hft j hj q
    · obtain ⟨q1, q2, q3, q4⟩ := h.1 k hk ht
      have hne0 : k ≠ k0 := fun e => by rw [e, ht0] at ht; cases ht
      rw [hold k hk ht]
      refine ⟨hLs.ad (- (kp k k0)) (Sad.old hL v q1) hfr (fun j hj => by unfold am; rw [if_pos hj]), ?_, fun j hj htj hne => ?_, fun j hj hb => ?_⟩
      · unfold am
        rw [if_pos hk, hft k hk ht, q2]
        grind
      · unfold am
        rw [if_pos hj]
        rcases tt j htj with e | q
        · subst e
          rw [hf0]
          grind
        · rw [q3 j hj q hne, hft j hj q]
          grind
      · unfold am
        rw [if_pos hj, q4 j hj hb]
        by_cases e : bef j k0
        · rw [hfb j hj e]
          grind
        · have hb2 : bef k0 k := by
            unfold bef at hb e ⊢
            refine ⟨hb.1, ?_⟩
            omega
          rw [q4 k0 hk0 hb2]
          grind
  · intro u hu hzu
    obtain ⟨a, ha⟩ := hu
    have h1 : S (fun j => u j - a * r j) := hL.ad a ha hS (fun j _ => by grind)
    have h2 := h.2 _ h1 (fun k hk ht => by
      have hne0 : k ≠ k0 := fun e => by rw [e, ht0] at ht; cases ht
      have q := hzu k hk (by rw [nu_n hne0]; exact ht)
      show u k - a * r k = 0
      rw [q, hz k hk ht]
      grind)
    have h3 := h2 k0 hk0
    have h4 := hzu k0 hk0 (nu_s _ _ _)
    have ha0 : a = 0 := by
      have h5 : a * r k0 = 0 := by grind
      have h6 : a * r k0 * finv (r k0) = 0 := by rw [h5]; grind
      grind
    intro j hj
    have h7 := h2 j hj
    rw [ha0] at h7
    grind
/-- two reduced forms of one span are the same -/
theorem RRf.lead {n : Nat} {t : Nat → Bool} {kp : Nat → Nat → FF} {S : (Nat → FF) → Prop} (h : RRf n t kp S) (hL : Lin n S) {k : Nat} (hk : k < n) : t k = true ↔ ∃ v : Nat → FF, S v ∧ isLead n v k := by
  constructor
  · intro ht
    obtain ⟨q1, q2, q3, q4⟩ := h.1 k hk ht
    exact ⟨kp k, q1, isLead_iff.mpr ⟨hk, by rw [q2]; decide, q4⟩⟩
  · rintro ⟨v, hv, hl⟩
    obtain ⟨-, hv0, hb⟩ := isLead_iff.mp hl
    cases ht : t k
    · exfalso
      -- take away what the taken places have, in their order: what comes is 0 before k, v k at k
      have key : ∀ m : Nat, m ≤ n → (∀ i : Nat, i < m → bef i k ∨ i = k → sp_red n t kp m v i = v i) ∧ (∀ i : Nat, i < n → bef i k ∨ i = k → sp_red n t kp m v i = v i) := by
        intro m
        induction m with
        | zero => intro _; exact ⟨fun i _ _ => rfl, fun i _ _ => rfl⟩
        | succ m ih =>
          intro hm
          obtain ⟨-, h2⟩ := ih (by omega)
          have h3 : ∀ i : Nat, i < n → bef i k ∨ i = k → sp_red n t kp (m + 1) v i = v i := by
            intro i hi hbi
            by_cases htm : t m = true
            · have e : sp_red n t kp (m + 1) v = am n (sp_red n t kp m v) (- (sp_red n t kp m v m)) (kp m) := if_pos htm
              rw [e]
              unfold am
              rw [if_pos hi, h2 i hi hbi]
              obtain ⟨q1, q2, q3, q4⟩ := h.1 m (by omega) htm
              have hmk : m ≠ k := fun z => by rw [z, ht] at htm; cases htm
              by_cases hbm : bef m k
              · rw [h2 m (by omega) (Or.inl hbm), hb m (by omega) hbm]
                grind
              · have hb2 : bef i m := by
                  unfold bef at hbm hbi ⊢
                  omega
                rw [q4 i hi hb2]
                grind
            · have e : sp_red n t kp (m + 1) v = sp_red n t kp m v := if_neg htm
              rw [e]
              exact h2 i hi hbi
          exact ⟨fun i hi hbi => h3 i (by omega) hbi, h3⟩
      have h4 := (key n (Nat.le_refl n)).2 k hk (Or.inr rfl)
      rw [(red_S hL h v).mpr hv k hk] at h4
      exact hv0 h4.symm
    · rfl
theorem RRf.one {n : Nat} {t t' : Nat → Bool} {kp kp' : Nat → Nat → FF} {S : (Nat → FF) → Prop} (h : RRf n t kp S) (h' : RRf n t' kp' S) (hL : Lin n S) : (∀ k : Nat, k < n → t k = t' k) ∧ ∀ k : Nat, k < n → t k = true → ∀ j : Nat, j < n → kp k j = kp' k j := by
  have ht : ∀ k : Nat, k < n → t k = t' k := by
    intro k hk
    have a := h.lead hL hk
    have b := h'.lead hL hk
    have c := a.trans b.symm
    cases q : t k <;> cases q' : t' k
    · rfl
    · rw [q, q'] at c
      exact absurd (c.mpr rfl) (by decide)
    · rw [q, q'] at c
      exact absurd (c.mp rfl) (by decide)
    · rfl
  refine ⟨ht, fun k hk hk2 j hj => ?_⟩
  obtain ⟨q1, q2, q3, -⟩ := h.1 k hk hk2
  obtain ⟨p1, p2, p3, -⟩ := h'.1 k hk (by rw [← ht k hk]; exact hk2)
  have hd : S (fun i => kp k i + (-1) * kp' k i) := hL.2.2 _ _ _ q1 p1
  have hz := h.2 _ hd (fun i hi hti => by
    by_cases e : i = k
    · subst e
      show kp i i + (-1) * kp' i i = 0
      rw [q2, p2]
      decide
    · show kp k i + (-1) * kp' k i = 0
      rw [q3 i hi hti e, p3 i hi (by rw [← ht i hi]; exact hti) e]
      decide) j hj
  have hz2 : kp k j + (-1) * kp' k j = 0 := hz
  grind
/-- the number of taken places -/
def cntT (t : Nat → Bool) : Nat → Nat
  | 0 => 0
  | k + 1 => cntT t k + (if t k = true then 1 else 0)
theorem cntT_le (t : Nat → Bool) : ∀ n : Nat, cntT t n ≤ n
  | 0 => Nat.le_refl 0
  | n + 1 => by
    have h := cntT_le t n
    show cntT t n + (if t n = true then 1 else 0) ≤ n + 1
    split <;> omega
theorem cntT_cg {t t' : Nat → Bool} : ∀ {n : Nat}, (∀ k : Nat, k < n → t k = t' k) → cntT t n = cntT t' n
  | 0, _ => rfl
  | n + 1, h => by
    show cntT t n + (if t n = true then 1 else 0) = cntT t' n + (if t' n = true then 1 else 0)
    rw [cntT_cg (n := n) (fun k hk => h k (by omega)), h n (by omega)]
theorem cntT_add {t : Nat → Bool} {k0 : Nat} (h0 : t k0 = false) : ∀ {n : Nat}, cntT (nu t k0 true) n = cntT t n + (if k0 < n then 1 else 0)
  | 0 => rfl
  | n + 1 => by
    show cntT (nu t k0 true) n + (if nu t k0 true n = true then 1 else 0) = cntT t n + (if t n = true then 1 else 0) + (if k0 < n + 1 then 1 else 0)
    rw [cntT_add h0 (n := n)]
    by_cases e : n = k0
    · subst e
      rw [nu_s, h0, if_neg (Nat.lt_irrefl n), if_pos rfl, if_neg (by decide), if_pos (Nat.lt_succ_self n)]
    · rw [nu_n e]
      by_cases e2 : k0 < n
      · have q1 : (if k0 < n then 1 else 0) = 1 := if_pos e2
        have q2 : (if k0 < n + 1 then 1 else 0) = 1 := if_pos (by omega)
        omega
      · have q1 : (if k0 < n then 1 else 0) = 0 := if_neg e2
        have q2 : (if k0 < n + 1 then 1 else 0) = 0 := if_neg (by omega)
        omega
theorem cntT_0 {t : Nat → Bool} : ∀ {n : Nat}, (∀ k : Nat, k < n → t k = false) → cntT t n = 0
  | 0, _ => rfl
  | n + 1, h => by
    show cntT t n + (if t n = true then 1 else 0) = 0
    rw [cntT_0 (n := n) (fun k hk => h k (by omega)), h n (by omega)]
    rfl
theorem cntT_full {t : Nat → Bool} : ∀ {n : Nat}, cntT t n = n → ∀ k : Nat, k < n → t k = true
  | 0, _, k, hk => absurd hk (Nat.not_lt_zero k)
  | n + 1, h, k, hk => by
    have h1 := cntT_le t n
    have h2 : cntT t n + (if t n = true then 1 else 0) = n + 1 := h
    by_cases q : t n = true
    · by_cases e : k = n
      · rw [e]; exact q
      · rw [if_pos q] at h2
        exact cntT_full (n := n) (by omega) k (by omega)
    · rw [if_neg q] at h2
      omega
/-- sums of multiples of rows -/
def lsum (c : Nat → FF) (rows : Nat → Nat → FF) : Nat → Nat → FF
  | 0, _ => 0
  | m + 1, j => lsum c rows m j + c m * rows m j
def InSp (n : Nat) (rows : Nat → Nat → FF) (m : Nat) (v : Nat → FF) : Prop := ∃ c : Nat → FF, ∀ j : Nat, j < n → v j = lsum c rows m j
theorem lsum_lin (c d : Nat → FF) (a : FF) (rows : Nat → Nat → FF) (j : Nat) : ∀ m : Nat, lsum (fun i => c i + a * d i) rows m j = lsum c rows m j + a * lsum d rows m j
  | 0 => by show (0 : FF) = 0 + a * 0; grind
  | m + 1 => by
    show lsum (fun i => c i + a * d i) rows m j + (c m + a * d m) * rows m j = lsum c rows m j + c m * rows m j + a * (lsum d rows m j + d m * rows m j)
    rw [lsum_lin c d a rows j m]
    grind
theorem lsum_0 (rows : Nat → Nat → FF) (j : Nat) : ∀ m : Nat, lsum (fun _ => 0) rows m j = 0
  | 0 => rfl
  | m + 1 => by
    show lsum (fun _ => 0) rows m j + 0 * rows m j = 0
    rw [lsum_0 rows j m]
    grind
theorem lsum_cg {c d : Nat → FF} {rows rows' : Nat → Nat → FF} {j : Nat} : ∀ {m : Nat}, (∀ i : Nat, i < m → c i = d i) → (∀ i : Nat, i < m → rows i j = rows' i j) → lsum c rows m j = lsum d rows' m j
  | 0, _, _ => rfl
  | m + 1, h, h2 => by
    show lsum c rows m j + c m * rows m j = lsum d rows' m j + d m * rows' m j
    rw [lsum_cg (m := m) (fun i hi => h i (by omega)) (fun i hi => h2 i (by omega)), h m (by omega), h2 m (by omega)]
theorem InSp.lin (n : Nat) (rows : Nat → Nat → FF) (m : Nat) : Lin n (InSp n rows m) := by
  refine ⟨fun u v e hu => ?_, ⟨fun _ => 0, fun j _ => (lsum_0 rows j m).symm⟩, fun u v a hu hv => ?_⟩
  · obtain ⟨c, hc⟩ := hu
    exact ⟨c, fun j hj => (e j hj).symm.trans (hc j hj)⟩
  · obtain ⟨c, hc⟩ := hu
    obtain ⟨d, hd⟩ := hv
    exact ⟨fun i => c i + a * d i, fun j hj => by show u j + a * v j = _; rw [lsum_lin, hc j hj, hd j hj]⟩
theorem InSp.cg {n m : Nat} {rows rows' : Nat → Nat → FF} {v : Nat → FF} (h : ∀ i : Nat, i < m → ∀ j : Nat, j < n → rows i j = rows' i j) (hv : InSp n rows m v) : InSp n rows' m v := by
  obtain ⟨c, hc⟩ := hv
  exact ⟨c, fun j hj => (hc j hj).trans (lsum_cg (fun _ _ => rfl) (fun i hi => h i hi j hj))⟩
theorem InSp.add {n m : Nat} {rows : Nat → Nat → FF} {u : Nat → FF} : InSp n rows (m + 1) u ↔ Sad (InSp n rows m) (rows m) u := by
  constructor
  · rintro ⟨c, hc⟩
    refine ⟨c m, c, fun j hj => ?_⟩
    have h : u j = lsum c rows m j + c m * rows m j := hc j hj
    grind
  · rintro ⟨a, c, hc⟩
    refine ⟨nu c m a, fun j hj => ?_⟩
    show u j = lsum (nu c m a) rows m j + nu c m a m * rows m j
    rw [nu_s, lsum_cg (d := c) (rows' := rows) (fun i hi => nu_n (by omega)) (fun _ _ => rfl)]
    have h := hc j hj
    grind
theorem InSp.self {n m : Nat} {rows : Nat → Nat → FF} {i : Nat} (hi : i < m) : InSp n rows m (rows i) := by
  induction m with
  | zero => exact absurd hi (Nat.not_lt_zero i)
  | succ m ih =>
    by_cases e : i = m
    · subst e
      exact InSp.add.mpr (Sad.new (InSp.lin n rows i) (rows i))
    · exact InSp.add.mpr (Sad.old (InSp.lin n rows m) _ (ih (by omega)))
/-- the least span: what rows make lies in every closed set that holds them -/
theorem InSp.le {n m : Nat} {rows : Nat → Nat → FF} {S : (Nat → FF) → Prop} (hL : Lin n S) (h : ∀ i : Nat, i < m → S (rows i)) {v : Nat → FF} (hv : InSp n rows m v) : S v := by
  induction m generalizing v with
  | zero =>
    obtain ⟨c, hc⟩ := hv
    exact hL.cg hL.2.1 (fun j hj => (hc j hj).symm)
  | succ m ih =>
    obtain ⟨a, ha⟩ := InSp.add.mp hv
    have h1 := ih (fun i hi => h i (by omega)) ha
    exact hL.ad a h1 (h m (by omega)) (fun j _ => by grind)
theorem RRf.ex {n : Nat} {t : Nat → Bool} {kp : Nat → Nat → FF} {S S' : (Nat → FF) → Prop} (h : RRf n t kp S) (e : ∀ v : Nat → FF, S v ↔ S' v) : RRf n t kp S' :=
  ⟨fun k hk ht => ⟨(e _).mp (h.1 k hk ht).1, (h.1 k hk ht).2⟩, fun v hv => h.2 v ((e v).mpr hv)⟩
theorem RRf.empty {n : Nat} {t : Nat → Bool} {kp rows : Nat → Nat → FF} (h : ∀ k : Nat, k < n → t k = false) : RRf n t kp (InSp n rows 0) := by
  refine ⟨fun k hk ht => (by rw [h k hk] at ht; cases ht), fun v hv _ j hj => ?_⟩
  obtain ⟨c, hc⟩ := hv
  exact hc j hj
/-- every number but 0 has its inverse: each is tried -/
def fe_row : Nat → Nat → Bool
  | 0, _ => true
  | k + 1, lo => Nat.beq (((lo + k) ^ 240 % 65521) ^ 273 % 65521) 1 && fe_row k lo
def fe_all : Nat → Bool
  | 0 => true
  | k + 1 => fe_row 240 (240 * k + 1) && fe_all k
set_option maxRecDepth 100000 in
theorem fe_ok : fe_all 273 = true := by decide +kernel
theorem fe_row_at : ∀ (k lo : Nat), fe_row k lo = true → ∀ i : Nat, i < k → ((lo + i) ^ 240 % 65521) ^ 273 % 65521 = 1
  | 0, _, _, i, h => absurd h (Nat.not_lt_zero i)
  | k + 1, lo, h, i, hi => by
    have h2 : (Nat.beq (((lo + k) ^ 240 % 65521) ^ 273 % 65521) 1 && fe_row k lo) = true := h
    rw [Bool.and_eq_true] at h2
    by_cases e : i = k
    · rw [e]
      exact Nat.eq_of_beq_eq_true h2.1
    · exact fe_row_at k lo h2.2 i (by omega)
theorem fe_all_s (k : Nat) : fe_all (k + 1) = (fe_row 240 (240 * k + 1) && fe_all k) := by rw [fe_all]
theorem fe_all_at (k : Nat) (h : fe_all k = true) (q : Nat) (hq : q < k) : fe_row 240 (240 * q + 1) = true := by
  induction k with
  | zero => omega
  | succ k ih =>
    rw [fe_all_s, Bool.and_eq_true] at h
    by_cases e : q = k
    · subst e
      exact h.1
    · exact ih h.2 (by omega)
theorem ff_pow_val (a : FF) : ∀ k : Nat, (ff_pow a k).val = a.val ^ k % 65521
  | 0 => rfl
  | k + 1 => by
    show (ff_pow a k * a).val = _
    rw [Fin.val_mul, ff_pow_val a k, Nat.pow_succ, Nat.mul_mod (a.val ^ k) a.val, Nat.mod_eq_of_lt a.isLt]
theorem finv_ok (a : FF) (h : a ≠ 0) : a * finv a = 1 := by
  have h0 : a.val ≠ 0 := fun z => h (Fin.ext z)
  have h1 := a.isLt
  have h2 := fe_row_at 240 _ (fe_all_at 273 fe_ok ((a.val - 1) / 240) (by omega)) ((a.val - 1) % 240) (Nat.mod_lt _ (by decide))
  rw [show 240 * ((a.val - 1) / 240) + 1 + (a.val - 1) % 240 = a.val by omega] at h2
  rw [← Nat.pow_mod, ← Nat.pow_mul] at h2
  have h3 : ff_pow a (240 * 273) = 1 := Fin.ext (by rw [ff_pow_val]; exact h2)
  have h4 : ff_pow a (240 * 273) = ff_pow a 65519 * a := rfl
  rw [Fin.mul_comm]
  exact h4.symm.trans h3
