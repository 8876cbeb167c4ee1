/-! THE LAW: the loop -/
theorem and15 (x : Int32) : ∃ k : Nat, k < 16 ∧ x &&& nI 15 = nI k := by
  refine ⟨(x &&& nI 15).toBitVec.toNat, ?_, ?_⟩
  · rw [Int32.toBitVec_and, BitVec.toNat_and]
    exact Nat.lt_of_le_of_lt Nat.and_le_right (by decide)
  · apply Int32.toBitVec_inj.mp
    rw [show (nI (x &&& nI 15).toBitVec.toNat).toBitVec = BitVec.ofNat 32 (x &&& nI 15).toBitVec.toNat from rfl, BitVec.ofNat_toNat, BitVec.setWidth_eq]
theorem le_len {q n : Nat} (hq : q ≤ 3000) (hn : n ≤ 2562) (h : ¬ nI n - nI 5 < nI q) : q + 5 ≤ n := by
  rw [Int32.lt_iff_toInt_lt, Int32.toInt_sub, nI_toInt (by omega), nI_toInt (by omega), nI_toInt (by omega), Int.bmod_eq_of_le (by omega) (by omega)] at h
  omega
section LAWL
variable {p : Program} {l : Launch} {e : Env} {s : State} {m : MethodId} {below : List Frame} {meth : Method} {c : Code} {Q : State → Prop}
variable {G : cx_G} {L : List Nat} {ad : Nat → Nat} {b Ln N V M : Nat} {xs : Nat → Int32}
set_option maxHeartbeats 4000000 in
set_option maxRecDepth 100000 in
theorem lw_loop (K : LK p l s m c G L ad b Ln xs N V M)
    (kend : ∀ (g : Nat → va_E) (H : Heap) (locs : List Loc) (ls : Array Slot) (ce sl : Nat), va_P G.1 vwCl (wl L ad g) H → va_S (cx_A L ad s.heap.size) s.heap H locs → ce ≤ 634768 ∧ sl ≤ 7191766 → W p l e room_1 s m #[Value.ref b] below meth c H locs ce sl Q (F0 m 971 ls [])) :
    ∀ (fu q : Nat) (g : Nat → va_E) (T : TA) (th : Nat) (o : Nat → Int64) (H : Heap) (locs : List Loc) (ls : Array Slot) (cells slots : Nat), Ln + 1 ≤ q + fu → q ≤ 3000 → JJ G ad g N V M th T o → va_P G.1 vwCl (wl L ad g) H → va_S (cx_A L ad s.heap.size) s.heap H locs → lv_has ls 7 (lwl b ad q) → cells + 4 * fu ≤ 634768 → slots + 24 * fu ≤ 7191766 → W p l e room_1 s m #[Value.ref b] below meth c H locs cells slots Q (F0 m 43 ls []) := by
  intro fu
  induction fu with
  | zero =>
    intro q g T th o H locs ls cells slots hfu hq hJ hP hS hl hc1 hc2
    have hLn := K.Ln
    refine lv_iload K.hx K.hb dL_law_43 (lv_at hl 0 rfl) ?_
    refine lv_aload_n K.hx K.hb dL_law_45 rfl (lv_at hl 1 rfl) ?_
    refine va_slen K.hx K.hb K.xX K.bl K.bA hS dL_law_46 ?_
    refine lv_iconst (v := nI 5) K.hx K.hb dL_law_47 (by decide) ?_
    refine lv_isub K.hx K.hb dL_law_48 ?_
    refine lv_icmp_gt (x := nI q) (y := nI Ln - nI 5) (tgt := 971) K.hx K.hb dL_law_49 (by decide) (fun _ => ?_) (fun h => ?_)
    · exact kend g H locs ls _ _ hP hS ⟨by omega, by omega⟩
    · have h9 := le_len hq hLn h
      omega
  | succ fu ih =>
    intro q g T th o H locs ls cells slots hfu hq hJ hP hS hl hc1 hc2
    have hLn := K.Ln
    refine lv_iload K.hx K.hb dL_law_43 (lv_at hl 0 rfl) ?_
    refine lv_aload_n K.hx K.hb dL_law_45 rfl (lv_at hl 1 rfl) ?_
    refine va_slen K.hx K.hb K.xX K.bl K.bA hS dL_law_46 ?_
    refine lv_iconst (v := nI 5) K.hx K.hb dL_law_47 (by decide) ?_
    refine lv_isub K.hx K.hb dL_law_48 ?_
    refine lv_icmp_gt (x := nI q) (y := nI Ln - nI 5) (tgt := 971) K.hx K.hb dL_law_49 (by decide) (fun _ => ?_) (fun h => ?_)
    · exact kend g H locs ls _ _ hP hS ⟨by omega, by omega⟩
    have h9 := le_len hq hLn h
    have hq5 : q + 4 < Ln := by omega
    have hc : cells + 4 ≤ 634768 ∧ slots + 24 ≤ 7191766 := ⟨by omega, by omega⟩
    have hz : LZ p l e s m below meth c Q G L ad b N V M q cells slots := by
      intro g T th o H locs ls ce sl hJ hP hS hl h1 h2
      refine lv_iinc (k := 0) (v := nI (q + 5)) (lv' := lwl b ad (q + 5)) K.hx K.hb dL_law_965 hl rfl (nI_add q 5) (by decide) rfl (fun ls hl => ?_)
      refine lv_goto (tgt := 43) K.hx K.hb dL_law_968 (by decide) ?_
      exact ih (q + 5) g T th o H locs ls ce sl (by omega) (by omega) hJ hP hS hl (by omega) (by omega)
    refine lv_aload_n K.hx K.hb dL_law_52 rfl (lv_at hl 1 rfl) ?_
    refine lv_iload K.hx K.hb dL_law_53 (lv_at hl 0 rfl) ?_
    refine va_sld K.hx K.hb K.xX K.bl K.bA hS (vp_in_nI (by omega) (by omega)) dL_law_55 ?_
    refine lv_bipush (v := nI 15) K.hx K.hb dL_law_56 (by decide) ?_
    refine lv_iand K.hx K.hb dL_law_58 ?_
    obtain ⟨k, hk, ek⟩ := and15 (xs (nI q).toNatClampNeg)
    rw [ek]
    clear ek
    have hk : k = 0 ∨ k = 1 ∨ k = 2 ∨ k = 3 ∨ k = 4 ∨ k = 5 ∨ k = 6 ∨ k = 7 ∨ k = 8 ∨ k = 9 ∨ k = 10 ∨ k = 11 ∨ k = 12 ∨ k = 13 ∨ k = 14 ∨ k = 15 := by omega
    rcases hk with rfl | rfl | rfl | rfl | rfl | rfl | rfl | rfl | rfl | rfl | rfl | rfl | rfl | rfl | rfl | rfl
    · exact lv_tableIn (off := 77) (tgt := 136) K.hx K.hb dL_law_59 (by decide) (by decide) rfl (by decide) (k_term K hJ hP hS hl hq5 hc hz)
    · exact lv_tableIn (off := 125) (tgt := 184) K.hx K.hb dL_law_59 (by decide) (by decide) rfl (by decide) (k_edge K hJ hP hS hl hq5 hc hz)
    · exact lv_tableIn (off := 217) (tgt := 276) K.hx K.hb dL_law_59 (by decide) (by decide) rfl (by decide) (k_entry K hJ hP hS hl hq5 hc hz)
    · exact lv_tableIn (off := 253) (tgt := 312) K.hx K.hb dL_law_59 (by decide) (by decide) rfl (by decide) (k_analyse K hJ hP hS hl hq5 hc hz)
    · exact lv_tableIn (off := 266) (tgt := 325) K.hx K.hb dL_law_59 (by decide) (by decide) rfl (by decide) (k_points K hJ hP hS hl hq5 hc hz)
    · exact lv_tableIn (off := 322) (tgt := 381) K.hx K.hb dL_law_59 (by decide) (by decide) rfl (by decide) (k_point K hJ hP hS hl hq5 hc hz)
    · exact lv_tableIn (off := 402) (tgt := 461) K.hx K.hb dL_law_59 (by decide) (by decide) rfl (by decide) (k_equations K hJ hP hS hl hq5 hc hz)
    · exact lv_tableIn (off := 458) (tgt := 517) K.hx K.hb dL_law_59 (by decide) (by decide) rfl (by decide) (k_coefficient K hJ hP hS hl hq5 hc hz)
    · exact lv_tableIn (off := 538) (tgt := 597) K.hx K.hb dL_law_59 (by decide) (by decide) rfl (by decide) (k_holds K hJ hP hS hl hq5 hc hz)
    · exact lv_tableIn (off := 601) (tgt := 660) K.hx K.hb dL_law_59 (by decide) (by decide) rfl (by decide) (k_begin K hJ hP hS hl hq5 hc hz)
    · exact lv_tableIn (off := 649) (tgt := 708) K.hx K.hb dL_law_59 (by decide) (by decide) rfl (by decide) (k_go K hJ hP hS hl hq5 hc hz)
    · exact lv_tableIn (off := 724) (tgt := 783) K.hx K.hb dL_law_59 (by decide) (by decide) rfl (by decide) (k_at K hJ hP hS hl hq5 hc hz)
    · exact lv_tableIn (off := 780) (tgt := 839) K.hx K.hb dL_law_59 (by decide) (by decide) rfl (by decide) (k_note K hJ hP hS hl hq5 hc hz)
    · exact lv_tableIn (off := 836) (tgt := 895) K.hx K.hb dL_law_59 (by decide) (by decide) rfl (by decide) (k_noteAll K hJ hP hS hl hq5 hc hz)
    · exact lv_tableIn (off := 880) (tgt := 939) K.hx K.hb dL_law_59 (by decide) (by decide) rfl (by decide) (k_forget K hJ hP hS hl hq5 hc hz)
    · exact lv_tableIn (off := 893) (tgt := 952) K.hx K.hb dL_law_59 (by decide) (by decide) rfl (by decide) (k_sound K hJ hP hS hl hq5 hc hz)
end LAWL
