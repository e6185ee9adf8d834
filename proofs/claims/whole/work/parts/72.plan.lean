/-! The plan; the reference's findPlan. -/
/-- the first of two that f takes -/
def fwG (f : Nat → Nat → Bool) (s : Nat) : Nat := ((List.range 256).find? (f s)).getD 0
def fsG (f : Nat → Nat → Bool) : Nat := ((List.range 8).find? (fun s => f s (fwG f s))).getD 0
theorem find_sp {p : Nat → Bool} {N : Nat} (h : ∃ i, i < N ∧ p i = true) : ((List.range N).find? p).getD 0 < N ∧ p (((List.range N).find? p).getD 0) = true ∧ ∀ j, j < ((List.range N).find? p).getD 0 → p j = false := by
  obtain ⟨i, hi, hp⟩ := h
  cases e : (List.range N).find? p with
  | none =>
    rw [List.find?_eq_none] at e
    exact absurd hp (by simpa using e i (List.mem_range.mpr hi))
  | some k =>
    rw [List.find?_range_eq_some] at e
    obtain ⟨e1, e2, e3⟩ := e
    refine ⟨List.mem_range.mp e2, e1, fun j hj => by simpa using e3 j hj⟩
theorem fw_sp {f : Nat → Nat → Bool} {s : Nat} (h : ∃ W, W < 256 ∧ f s W = true) : fwG f s < 256 ∧ f s (fwG f s) = true ∧ ∀ W, W < fwG f s → f s W = false := find_sp h
theorem fs_sp {f : Nat → Nat → Bool} (h : ∃ s W, s < 8 ∧ W < 256 ∧ f s W = true) : fsG f < 8 ∧ fwG f (fsG f) < 256 ∧ f (fsG f) (fwG f (fsG f)) = true ∧ (∀ s, s < fsG f → ∀ W, W < 256 → f s W = false) ∧ ∀ W, W < fwG f (fsG f) → f (fsG f) W = false := by
  obtain ⟨s, W, hs, hW, hf⟩ := h
  have h1 := find_sp (p := fun s => f s (fwG f s)) (N := 8) ⟨s, hs, (fw_sp ⟨W, hW, hf⟩).2.1⟩
  obtain ⟨a1, a2, a3⟩ := h1
  have hex : ∃ W, W < 256 ∧ f (fsG f) W = true := by
    refine ⟨fwG f (fsG f), ?_, a2⟩
    unfold fwG
    cases e : (List.range 256).find? (f (fsG f)) with
    | none => show (0 : Nat) < 256; decide
    | some k =>
      rw [List.find?_range_eq_some] at e
      exact List.mem_range.mp e.2.1
  obtain ⟨b1, b2, b3⟩ := fw_sp hex
  refine ⟨a1, b1, b2, fun t ht W hW => ?_, b3⟩
  cases c : f t W with
  | false => rfl
  | true =>
    have := a3 t ht
    rw [(fw_sp ⟨W, hW, c⟩).2.1] at this
    cases this
/-- a best song with fewest songs behind it -/
def fB (ln : Nat → Nat) (sg : Nat → Nat → Bool) (M S : Nat → Nat) (A s W : Nat) : Bool := bsB ln sg M A s W && decide (S (sd A W) + 1 = S A)
theorem fB_iff {ln : Nat → Nat} {sg : Nat → Nat → Bool} {M S : Nat → Nat} {A s W : Nat} : fB ln sg M S A s W = true ↔ bsB ln sg M A s W = true ∧ S (sd A W) + 1 = S A := by
  unfold fB
  rw [Bool.and_eq_true, decide_eq_true_eq]
/-- who is awake behind k songs of the plan -/
def ps (f : Nat → Nat → Nat → Bool) (A : Nat) : Nat → Nat
  | 0 => A
  | k + 1 => sd (ps f A k) (fwG (f (ps f A k)) (fsG (f (ps f A k))))
theorem ps_ok {ln : Nat → Nat} {sg : Nat → Nat → Bool} {M S : Nat → Nat} {U A : Nat} (hU : U < 256) (h : ChS ln sg M S U) (hA : sub A U) (hM : M A < 1000000) : ∀ k, k ≤ S A → sub (ps (fB ln sg M S) A k) A ∧ M (ps (fB ln sg M S) A k) < 1000000 ∧ S (ps (fB ln sg M S) A k) + k = S A ∧ (0 < A → 0 < ps (fB ln sg M S) A k) ∧ (k < S A → 2 ≤ pc (ps (fB ln sg M S) A k) ∧ ∃ s W, s < 8 ∧ W < 256 ∧ fB ln sg M S (ps (fB ln sg M S) A k) s W = true) ∧ (k = S A → pc (ps (fB ln sg M S) A k) < 2) := by
  have base : ∀ B, sub B A → M B < 1000000 → (0 < S B → 2 ≤ pc B ∧ ∃ s W, s < 8 ∧ W < 256 ∧ fB ln sg M S B s W = true) ∧ (S B = 0 → pc B < 2) := fun B hB hMB => by
    have hBU := sub_tr hB hA
    have hB8 : B < 256 := by have := sub_le hBU; omega
    obtain ⟨a1, a2⟩ := h B hBU hMB
    constructor
    · intro hs
      have hp : 2 ≤ pc B := by
        by_cases c : pc B < 2
        · have := a1 c; omega
        · omega
      obtain ⟨-, s, W, q, e⟩ := a2 hp
      obtain ⟨c1, c2, c3, c4, -⟩ := cd_iff.mp (bs_iff.mp q).1
      exact ⟨hp, s, W, bitlt (n := 8) hB8 c1, by have := sub_le c4; omega, fB_iff.mpr ⟨q, e.symm⟩⟩
    · intro hs
      by_cases c : pc B < 2
      · exact c
      · obtain ⟨-, s, W, q, e⟩ := a2 (by omega)
        omega
  intro k
  induction k with
  | zero =>
    intro _
    refine ⟨sub_rfl A, hM, rfl, fun h0 => h0, fun hk => (base A (sub_rfl A) hM).1 hk, fun hk => (base A (sub_rfl A) hM).2 hk.symm⟩
  | succ k ih =>
    intro hk
    obtain ⟨i1, i2, i3, i4, i5, -⟩ := ih (by omega)
    obtain ⟨j1, j2⟩ := i5 (by omega)
    obtain ⟨-, -, f3, -⟩ := fs_sp (f := fB ln sg M S (ps (fB ln sg M S) A k)) j2
    obtain ⟨g1, g2⟩ := fB_iff.mp f3
    obtain ⟨c1, c2, c3, c4, -⟩ := cd_iff.mp (bs_iff.mp g1).1
    have e : ps (fB ln sg M S) A (k + 1) = sd (ps (fB ln sg M S) A k) (fwG (fB ln sg M S (ps (fB ln sg M S) A k)) (fsG (fB ln sg M S (ps (fB ln sg M S) A k)))) := rfl
    have hsub : sub (ps (fB ln sg M S) A (k + 1)) A := by rw [e]; exact sub_tr (sd_sub _ _) i1
    have hM2 : M (ps (fB ln sg M S) A (k + 1)) < 1000000 := by rw [e]; exact (bs_sub g1).2
    have hS2 : S (ps (fB ln sg M S) A (k + 1)) + (k + 1) = S A := by rw [e]; omega
    have hpos : 0 < ps (fB ln sg M S) A (k + 1) := by
      rw [e]
      refine Nat.pos_of_ne_zero (fun z => ?_)
      have := sd_bit_t.mpr ⟨c1, c2⟩
      rw [z, Nat.zero_testBit] at this
      cases this
    exact ⟨hsub, hM2, hS2, fun _ => hpos, fun hk2 => (base _ hsub hM2).1 (by omega), fun hk2 => (base _ hsub hM2).2 (by omega)⟩
theorem ps_congr {f g : Nat → Nat → Nat → Bool} {A : Nat} (h : ∀ B, sub B A → ∀ s W, f B s W = g B s W) : ∀ k, ps f A k = ps g A k ∧ sub (ps f A k) A := by
  intro k
  induction k with
  | zero => exact ⟨rfl, sub_rfl A⟩
  | succ k ih =>
    obtain ⟨i1, i2⟩ := ih
    have e : f (ps f A k) = g (ps g A k) := by rw [← i1]; exact funext fun s => funext fun W => h _ i2 s W
    refine ⟨?_, sub_tr (sd_sub _ _) i2⟩
    show sd _ _ = sd _ _
    rw [e, i1]
theorem d_isFirst {σ : pm_H} (hS : Sh σ) {n A s W : Nat} {M S Bt R : Nat → Nat} (hm : mOk (cur σ) n) (hR : RT σ (cur σ) n M S Bt R) (hA : A < 2 ^ n) (hs : s < n) (hAs : A.testBit s = true) (hWs : ¬ W.testBit s = true) (h0 : 0 < W) (hWA : sub W A) : D_X12_isFirst [.ref 35, .int (nI A), .int (nI s), .int (nI W)] σ = some (some (.int (b32 (fB (lnR (cur σ) n) (sgR (cur σ) n (-1)) M S A s W = true))), σ) := by
  have h8 := hm.1.1
  have hA8 := Nat.lt_of_lt_of_le hA (p2n h8)
  obtain ⟨r1, r2, r3, -⟩ := hR
  have hb := d_isBest hS hm hA r1 r2 hs hAs hWs h0 hWA
  have hs8 := sd_lt256 (W := W) hA8
  have hsl := sub_le (sd_sub A W)
  have hib := ib_nI hs8 (show (256 : Nat) ≤ 1000000 by decide)
  have hcl := nI_cl (show sd A W < 2147483648 by omega)
  have hib2 := ib_nI hA8 (show (256 : Nat) ≤ 1000000 by decide)
  have hcl2 := nI_cl (show A < 2147483648 by omega)
  obtain ⟨⟨t1, t2⟩, -⟩ := r3 (sd A W) (by omega)
  obtain ⟨⟨u1, u2⟩, -⟩ := r3 A hA
  have e1 : (1 : Int32) + nI (S (sd A W)) = nI (1 + S (sd A W)) := nI_ad 1 _
  have heq : (nI (1 + S (sd A W)) = nI (S A)) = (S (sd A W) + 1 = S A) := by rw [nI_inj (by omega) (by omega)]; apply propext; omega
  refine rD_un.trans ?_
  by_cases c1 : bsB (lnR (cur σ) n) (sgR (cur σ) n (-1)) M A s W = true
  · have hb1 : (b32 (bsB (lnR (cur σ) n) (sgR (cur σ) n (-1)) M A s W = true) = 0) = False := eq_false (by rw [b32_t c1]; decide)
    by_cases c2 : S (sd A W) + 1 = S A
    · rw [b32_t (fB_iff.mpr ⟨c1, c2⟩)]
      have heq' : (nI (1 + S (sd A W)) = nI (S A)) = True := by rw [heq]; exact eq_true c2
      simp only [D_X12_isFirst, B_X12_isFirst, ↓rE_eK, ↓rE_eLi, ↓rE_eLj, ↓rE_eLa, ↓rE_eU, ↓rE_eB, ↓rE_eG, ↓rE_eIF, ↓rE_eAI, ↓rE_eAX, ↓rE_eAJ, ↓rE_eAR, ↓rE_eLen, ↓rE_eSI, ↓rE_eC, ↓rE_eCall, ↓rE_eNew, ↓rE_eNewA, ↓rE_eInst, ↓rC_cI, ↓rC_cZ0, ↓rC_cN, ↓rC_cNot, ↓rC_cAnd, ↓rC_cOr, ↓rA_aN, ↓rA_aC, ↓rS_sP, ↓rS_sUF, ↓rS_sAI, ↓rS_sAJ, ↓rS_sAR, ↓rS_sUA, ↓rS_sCall, ↓rS_sObj, ↓rS_sSi, ↓rS_sSa, ↓rS_sSj, ↓rS_sInc, ↓rS_sSkip, ↓rS_sSeq, ↓rS_sIf, ↓rS_sRetI, ↓rS_sRetJ, ↓rS_sRetA, ↓rS_sRetV, ↓rS_sSw, ↓rD_meth, ↓rD_on, ↓kR_ref, ↓kI_int, ↓kJ_long, ↓kN_null, ↓kN_ref, ↓kN_rf, ↓kQ_ref, ↓kQ_null, ↓kQ_rf, o1_i, o1ij_i, o1ji_i, o2_i, o2d_i, o2j_i, o2ji_i, o2c_i, fv_0, fv_1, fv_2, fv_3, pf_0, pf_2, pf_3, pf_4, rf_s, rf_n, is_self, ge_0, ge_s, ge_n, gd_s, gd_n, se_0, se_s, ag_0, ex_n, ex_i, ex_r, ex_0, ex_j, ex_q, ap_c, ap_n, List.append_nil, ln_c, ln_n, rp_0, rp_s, rt_0, rt_1, rt_20, rt_21, rt_2, rt_3, rt_4, rt_4n, rt_4q, nl_0, nl_1, nl_2, nl_3, nl_4, nl_5, nl_6, nl_7, nl_8, nl_9, nlB_i, nlB_r, nlB_n, nlB_f, nlB_q, ↓reduceIte, reduceCtorEq, Nat.reduceAdd, Nat.reduceSub, Nat.reduceEqDiff, Nat.reduceLeDiff, Nat.reduceBEq, ite_true, ite_false, dt_t, Bool.not_true, Bool.not_false, Bool.false_eq_true, Nat.le_refl, true_and, and_true, true_or, or_true, false_or, or_false, false_and, and_false, qEq, qNe, qLt, qGe, qGt, qLe, sT_35 hS, sT_36 hS, sT_37 hS, sT_38 hS, sT_39 hS, sT_40 hS, sT_41 hS, sT_42 hS, sT_43 hS, sT_44 hS, sT_45 hS, sT_46 hS, sT_47 hS, sT_48 hS, sT_49 hS, sT_50 hS, sT_51 hS, sT_52 hS, sT_53 hS, sT_54 hS, sT_55 hS, sT_56 hS, sT_57 hS, sT_58 hS, sT_59 hS, sT_60 hS, sT_61 hS, sT_62 hS, sT_63 hS, sT_64 hS, sT_65 hS, sL_36 hS, sL_37 hS, sL_38 hS, sL_39 hS, sL_40 hS, sL_41 hS, sL_42 hS, sL_43 hS, sL_44 hS, sL_45 hS, sL_46 hS, sL_47 hS, sL_48 hS, sL_49 hS, sL_50 hS, sL_51 hS, sL_52 hS, sL_53 hS, sL_54 hS, sL_55 hS, sL_56 hS, sL_57 hS, sL_58 hS, sL_59 hS, sL_60 hS, sL_61 hS, sL_62 hS, sL_63 hS, sL_64 hS, sL_65 hS, sR_35_1 hS, sR_35_2 hS, sR_35_3 hS, sR_35_4 hS, sR_35_5 hS, sR_35_6 hS, sR_35_7 hS, sR_35_11 hS, sR_35_21 hS, sR_35_22 hS, sR_35_23 hS, sR_35_24 hS, sR_35_25 hS, sR_35_26 hS, sR_35_27 hS, sR_35_28 hS, sR_35_29 hS, sR_35_30 hS, sR_35_31 hS, sR_35_32 hS, sR_35_35 hS, sR_35_37 hS, sR_35_38 hS, sR_35_39 hS, sR_35_40 hS, sR_35_41 hS, sR_35_42 hS, sR_35_46 hS, sR_35_50 hS, sR_35_52 hS, rD_tb1, rD_of hb, hb1, not_false_eq_true, nI_sdx, hib, hcl, hib2, hcl2, t1, u1, e1, heq']
    · rw [b32_f (fun q => c2 (fB_iff.mp q).2)]
      simp only [D_X12_isFirst, B_X12_isFirst, ↓rE_eK, ↓rE_eLi, ↓rE_eLj, ↓rE_eLa, ↓rE_eU, ↓rE_eB, ↓rE_eG, ↓rE_eIF, ↓rE_eAI, ↓rE_eAX, ↓rE_eAJ, ↓rE_eAR, ↓rE_eLen, ↓rE_eSI, ↓rE_eC, ↓rE_eCall, ↓rE_eNew, ↓rE_eNewA, ↓rE_eInst, ↓rC_cI, ↓rC_cZ0, ↓rC_cN, ↓rC_cNot, ↓rC_cAnd, ↓rC_cOr, ↓rA_aN, ↓rA_aC, ↓rS_sP, ↓rS_sUF, ↓rS_sAI, ↓rS_sAJ, ↓rS_sAR, ↓rS_sUA, ↓rS_sCall, ↓rS_sObj, ↓rS_sSi, ↓rS_sSa, ↓rS_sSj, ↓rS_sInc, ↓rS_sSkip, ↓rS_sSeq, ↓rS_sIf, ↓rS_sRetI, ↓rS_sRetJ, ↓rS_sRetA, ↓rS_sRetV, ↓rS_sSw, ↓rD_meth, ↓rD_on, ↓kR_ref, ↓kI_int, ↓kJ_long, ↓kN_null, ↓kN_ref, ↓kN_rf, ↓kQ_ref, ↓kQ_null, ↓kQ_rf, o1_i, o1ij_i, o1ji_i, o2_i, o2d_i, o2j_i, o2ji_i, o2c_i, fv_0, fv_1, fv_2, fv_3, pf_0, pf_2, pf_3, pf_4, rf_s, rf_n, is_self, ge_0, ge_s, ge_n, gd_s, gd_n, se_0, se_s, ag_0, ex_n, ex_i, ex_r, ex_0, ex_j, ex_q, ap_c, ap_n, List.append_nil, ln_c, ln_n, rp_0, rp_s, rt_0, rt_1, rt_20, rt_21, rt_2, rt_3, rt_4, rt_4n, rt_4q, nl_0, nl_1, nl_2, nl_3, nl_4, nl_5, nl_6, nl_7, nl_8, nl_9, nlB_i, nlB_r, nlB_n, nlB_f, nlB_q, ↓reduceIte, reduceCtorEq, Nat.reduceAdd, Nat.reduceSub, Nat.reduceEqDiff, Nat.reduceLeDiff, Nat.reduceBEq, ite_true, ite_false, dt_t, Bool.not_true, Bool.not_false, Bool.false_eq_true, Nat.le_refl, true_and, and_true, true_or, or_true, false_or, or_false, false_and, and_false, qEq, qNe, qLt, qGe, qGt, qLe, sT_35 hS, sT_36 hS, sT_37 hS, sT_38 hS, sT_39 hS, sT_40 hS, sT_41 hS, sT_42 hS, sT_43 hS, sT_44 hS, sT_45 hS, sT_46 hS, sT_47 hS, sT_48 hS, sT_49 hS, sT_50 hS, sT_51 hS, sT_52 hS, sT_53 hS, sT_54 hS, sT_55 hS, sT_56 hS, sT_57 hS, sT_58 hS, sT_59 hS, sT_60 hS, sT_61 hS, sT_62 hS, sT_63 hS, sT_64 hS, sT_65 hS, sL_36 hS, sL_37 hS, sL_38 hS, sL_39 hS, sL_40 hS, sL_41 hS, sL_42 hS, sL_43 hS, sL_44 hS, sL_45 hS, sL_46 hS, sL_47 hS, sL_48 hS, sL_49 hS, sL_50 hS, sL_51 hS, sL_52 hS, sL_53 hS, sL_54 hS, sL_55 hS, sL_56 hS, sL_57 hS, sL_58 hS, sL_59 hS, sL_60 hS, sL_61 hS, sL_62 hS, sL_63 hS, sL_64 hS, sL_65 hS, sR_35_1 hS, sR_35_2 hS, sR_35_3 hS, sR_35_4 hS, sR_35_5 hS, sR_35_6 hS, sR_35_7 hS, sR_35_11 hS, sR_35_21 hS, sR_35_22 hS, sR_35_23 hS, sR_35_24 hS, sR_35_25 hS, sR_35_26 hS, sR_35_27 hS, sR_35_28 hS, sR_35_29 hS, sR_35_30 hS, sR_35_31 hS, sR_35_32 hS, sR_35_35 hS, sR_35_37 hS, sR_35_38 hS, sR_35_39 hS, sR_35_40 hS, sR_35_41 hS, sR_35_42 hS, sR_35_46 hS, sR_35_50 hS, sR_35_52 hS, rD_tb1, rD_of hb, hb1, not_false_eq_true, nI_sdx, hib, hcl, hib2, hcl2, t1, u1, e1, heq, c2]
  · have hb0 : (b32 (bsB (lnR (cur σ) n) (sgR (cur σ) n (-1)) M A s W = true) = 0) = True := eq_true (b32_f c1)
    rw [b32_f (fun q => c1 (fB_iff.mp q).1)]
    simp only [D_X12_isFirst, B_X12_isFirst, ↓rE_eK, ↓rE_eLi, ↓rE_eLj, ↓rE_eLa, ↓rE_eU, ↓rE_eB, ↓rE_eG, ↓rE_eIF, ↓rE_eAI, ↓rE_eAX, ↓rE_eAJ, ↓rE_eAR, ↓rE_eLen, ↓rE_eSI, ↓rE_eC, ↓rE_eCall, ↓rE_eNew, ↓rE_eNewA, ↓rE_eInst, ↓rC_cI, ↓rC_cZ0, ↓rC_cN, ↓rC_cNot, ↓rC_cAnd, ↓rC_cOr, ↓rA_aN, ↓rA_aC, ↓rS_sP, ↓rS_sUF, ↓rS_sAI, ↓rS_sAJ, ↓rS_sAR, ↓rS_sUA, ↓rS_sCall, ↓rS_sObj, ↓rS_sSi, ↓rS_sSa, ↓rS_sSj, ↓rS_sInc, ↓rS_sSkip, ↓rS_sSeq, ↓rS_sIf, ↓rS_sRetI, ↓rS_sRetJ, ↓rS_sRetA, ↓rS_sRetV, ↓rS_sSw, ↓rD_meth, ↓rD_on, ↓kR_ref, ↓kI_int, ↓kJ_long, ↓kN_null, ↓kN_ref, ↓kN_rf, ↓kQ_ref, ↓kQ_null, ↓kQ_rf, o1_i, o1ij_i, o1ji_i, o2_i, o2d_i, o2j_i, o2ji_i, o2c_i, fv_0, fv_1, fv_2, fv_3, pf_0, pf_2, pf_3, pf_4, rf_s, rf_n, is_self, ge_0, ge_s, ge_n, gd_s, gd_n, se_0, se_s, ag_0, ex_n, ex_i, ex_r, ex_0, ex_j, ex_q, ap_c, ap_n, List.append_nil, ln_c, ln_n, rp_0, rp_s, rt_0, rt_1, rt_20, rt_21, rt_2, rt_3, rt_4, rt_4n, rt_4q, nl_0, nl_1, nl_2, nl_3, nl_4, nl_5, nl_6, nl_7, nl_8, nl_9, nlB_i, nlB_r, nlB_n, nlB_f, nlB_q, ↓reduceIte, reduceCtorEq, Nat.reduceAdd, Nat.reduceSub, Nat.reduceEqDiff, Nat.reduceLeDiff, Nat.reduceBEq, ite_true, ite_false, dt_t, Bool.not_true, Bool.not_false, Bool.false_eq_true, Nat.le_refl, true_and, and_true, true_or, or_true, false_or, or_false, false_and, and_false, qEq, qNe, qLt, qGe, qGt, qLe, sT_35 hS, sT_36 hS, sT_37 hS, sT_38 hS, sT_39 hS, sT_40 hS, sT_41 hS, sT_42 hS, sT_43 hS, sT_44 hS, sT_45 hS, sT_46 hS, sT_47 hS, sT_48 hS, sT_49 hS, sT_50 hS, sT_51 hS, sT_52 hS, sT_53 hS, sT_54 hS, sT_55 hS, sT_56 hS, sT_57 hS, sT_58 hS, sT_59 hS, sT_60 hS, sT_61 hS, sT_62 hS, sT_63 hS, sT_64 hS, sT_65 hS, sL_36 hS, sL_37 hS, sL_38 hS, sL_39 hS, sL_40 hS, sL_41 hS, sL_42 hS, sL_43 hS, sL_44 hS, sL_45 hS, sL_46 hS, sL_47 hS, sL_48 hS, sL_49 hS, sL_50 hS, sL_51 hS, sL_52 hS, sL_53 hS, sL_54 hS, sL_55 hS, sL_56 hS, sL_57 hS, sL_58 hS, sL_59 hS, sL_60 hS, sL_61 hS, sL_62 hS, sL_63 hS, sL_64 hS, sL_65 hS, sR_35_1 hS, sR_35_2 hS, sR_35_3 hS, sR_35_4 hS, sR_35_5 hS, sR_35_6 hS, sR_35_7 hS, sR_35_11 hS, sR_35_21 hS, sR_35_22 hS, sR_35_23 hS, sR_35_24 hS, sR_35_25 hS, sR_35_26 hS, sR_35_27 hS, sR_35_28 hS, sR_35_29 hS, sR_35_30 hS, sR_35_31 hS, sR_35_32 hS, sR_35_35 hS, sR_35_37 hS, sR_35_38 hS, sR_35_39 hS, sR_35_40 hS, sR_35_41 hS, sR_35_42 hS, sR_35_46 hS, sR_35_50 hS, sR_35_52 hS, rD_tb1, rD_of hb, hb0, not_true]
/-- a song of the plan is noted -/
def nt (σ : pm_H) (k s W : Nat) : pm_H := uI (uI (uI σ 54 k (nI s)) 55 k (nI W)) 35 33 (nI (k + 1))
theorem sub0 {W r : Nat} (hW : W < 256) (hr : r < 256) : (nI W &&& (nI r ^^^ (-1)) = 0) = sub W r := by
  rw [nI_sdx]
  have : (nI (sd W r) = nI 0) = (sd W r = 0) := nI_inj (by have := sd_lt256 (W := r) hW; omega) (by decide)
  rw [nI_0] at this
  rw [this]; exact propext sub_sd
theorem d_noteFirst {σ : pm_H} (hS : Sh σ) {n A k : Nat} {M S Bt R : Nat → Nat} (hn : pI σ 35 0 = nI n) (hm : mOk (cur σ) n) (hR : RT σ (cur σ) n M S Bt R) (hA : A < 2 ^ n) (hk : k < 8) (h33 : pI σ 35 33 = nI k) (hex : ∃ s W, s < 8 ∧ W < 256 ∧ fB (lnR (cur σ) n) (sgR (cur σ) n (-1)) M S A s W = true) : D_X12_noteFirst [.ref 35, .int (nI A)] σ = some (none, nt σ k (fsG (fB (lnR (cur σ) n) (sgR (cur σ) n (-1)) M S A)) (fwG (fB (lnR (cur σ) n) (sgR (cur σ) n (-1)) M S A) (fsG (fB (lnR (cur σ) n) (sgR (cur σ) n (-1)) M S A)))) := by
  have h8 := hm.1.1
  have hA8 := Nat.lt_of_lt_of_le hA (p2n h8)
  obtain ⟨f, ef⟩ : ∃ f, f = fB (lnR (cur σ) n) (sgR (cur σ) n (-1)) M S A := ⟨_, rfl⟩
  rw [← ef] at hex ⊢
  obtain ⟨x1, x2, x3, x4, x5⟩ := fs_sp hex
  obtain ⟨s0, es0⟩ : ∃ s0, fsG f = s0 := ⟨_, rfl⟩
  obtain ⟨w0, ew0⟩ : ∃ w0, fwG f s0 = w0 := ⟨_, rfl⟩
  rw [es0] at x1 x2 x3 x4 x5 ⊢
  rw [ew0] at x2 x3 x5 ⊢
  have fu : ∀ s W, f s W = true → A.testBit s = true ∧ ¬ W.testBit s = true ∧ 0 < W ∧ sub W A := fun s W q => by
    rw [ef] at q
    obtain ⟨c1, c2, c3, c4, -⟩ := cd_iff.mp (bs_iff.mp (fB_iff.mp q).1).1
    exact ⟨c1, c2, c3, c4⟩
  have hs0n : s0 < n := bitlt hA (fu _ _ x3).1
  -- one turn of the inner loop that notes nothing
  have turn : ∀ s r W, s < n → r < 256 → W ≤ r → (∀ w, 0 < w → sub w r → A.testBit s = true ∧ ¬ w.testBit s = true ∧ sub w A) → 0 < W → f s W = false → lpStep (cI qLe (eLi 4) (eLi 3)) (sSeq (sIf (cAnd (cZ0 qEq (eB f_iand (eLi 4) (eB f_ixor (eLi 3) (eK (.int (-1)))))) (cZ0 qNe (eCall (pm_disp (tb1 12 D_X12_isFirst)) (aC (eLa 0) (aC (eLi 1) (aC (eLi 2) (aC (eLi 4) (aN)))))))) (sSeq (sAI (eG (is 12) 3 31 (eLa 0)) (eG (is 12) 0 33 (eLa 0)) (eLi 2)) (sSeq (sAI (eG (is 12) 3 32 (eLa 0)) (eG (is 12) 0 33 (eLa 0)) (eLi 4)) (sSeq (sUF (is 12) 0 33 f_iadd (eLa 0) (eK (.int 1))) (sRetV)))) sSkip) (sInc 4 1)) [.ref 35, .int (nI A), .int (nI s), .int (nI r), .int (nI W)] σ = some (.inl [.ref 35, .int (nI A), .int (nI s), .int (nI r), .int (nI (W + 1))], σ) := by
    intro s r W hs hr hWr hwr h0 hf
    have hle : nI W ≤ nI r := by rw [nI_le' (by omega) (by omega)]; exact hWr
    have hsb := sub0 (show W < 256 by omega) hr
    by_cases c : sub W r
    · obtain ⟨c1, c2, c3⟩ := hwr W h0 c
      have hfi := d_isFirst hS hm hR hA hs c1 c2 h0 c3
      have hb0 : (b32 (fB (lnR (cur σ) n) (sgR (cur σ) n (-1)) M S A s W = true) = 0) = True := eq_true (b32_f (by rw [← ef, hf]; decide))
      have hsb' : (nI W &&& (nI r ^^^ (-1)) = 0) = True := by rw [hsb]; exact eq_true c
      simp only [lpStep, ↓rE_eK, ↓rE_eLi, ↓rE_eLj, ↓rE_eLa, ↓rE_eU, ↓rE_eB, ↓rE_eG, ↓rE_eIF, ↓rE_eAI, ↓rE_eAX, ↓rE_eAJ, ↓rE_eAR, ↓rE_eLen, ↓rE_eSI, ↓rE_eC, ↓rE_eCall, ↓rE_eNew, ↓rE_eNewA, ↓rE_eInst, ↓rC_cI, ↓rC_cZ0, ↓rC_cN, ↓rC_cNot, ↓rC_cAnd, ↓rC_cOr, ↓rA_aN, ↓rA_aC, ↓rS_sP, ↓rS_sUF, ↓rS_sAI, ↓rS_sAJ, ↓rS_sAR, ↓rS_sUA, ↓rS_sCall, ↓rS_sObj, ↓rS_sSi, ↓rS_sSa, ↓rS_sSj, ↓rS_sInc, ↓rS_sSkip, ↓rS_sSeq, ↓rS_sIf, ↓rS_sRetI, ↓rS_sRetJ, ↓rS_sRetA, ↓rS_sRetV, ↓rS_sSw, ↓rD_meth, ↓rD_on, ↓kR_ref, ↓kI_int, ↓kJ_long, ↓kN_null, ↓kN_ref, ↓kN_rf, ↓kQ_ref, ↓kQ_null, ↓kQ_rf, o1_i, o1ij_i, o1ji_i, o2_i, o2d_i, o2j_i, o2ji_i, o2c_i, fv_0, fv_1, fv_2, fv_3, pf_0, pf_2, pf_3, pf_4, rf_s, rf_n, is_self, ge_0, ge_s, ge_n, gd_s, gd_n, se_0, se_s, ag_0, ex_n, ex_i, ex_r, ex_0, ex_j, ex_q, ap_c, ap_n, List.append_nil, ln_c, ln_n, rp_0, rp_s, rt_0, rt_1, rt_20, rt_21, rt_2, rt_3, rt_4, rt_4n, rt_4q, nl_0, nl_1, nl_2, nl_3, nl_4, nl_5, nl_6, nl_7, nl_8, nl_9, nlB_i, nlB_r, nlB_n, nlB_f, nlB_q, ↓reduceIte, reduceCtorEq, Nat.reduceAdd, Nat.reduceSub, Nat.reduceEqDiff, Nat.reduceLeDiff, Nat.reduceBEq, ite_true, ite_false, dt_t, Bool.not_true, Bool.not_false, Bool.false_eq_true, Nat.le_refl, true_and, and_true, true_or, or_true, false_or, or_false, false_and, and_false, qEq, qNe, qLt, qGe, qGt, qLe, hle, hsb', rD_tb1 (sT_35 hS), rD_of hfi, hb0, not_true, nI_1]
    · have hsb' : ¬ nI W &&& (nI r ^^^ (-1)) = 0 := by rw [hsb]; exact c
      simp only [lpStep, ↓rE_eK, ↓rE_eLi, ↓rE_eLj, ↓rE_eLa, ↓rE_eU, ↓rE_eB, ↓rE_eG, ↓rE_eIF, ↓rE_eAI, ↓rE_eAX, ↓rE_eAJ, ↓rE_eAR, ↓rE_eLen, ↓rE_eSI, ↓rE_eC, ↓rE_eCall, ↓rE_eNew, ↓rE_eNewA, ↓rE_eInst, ↓rC_cI, ↓rC_cZ0, ↓rC_cN, ↓rC_cNot, ↓rC_cAnd, ↓rC_cOr, ↓rA_aN, ↓rA_aC, ↓rS_sP, ↓rS_sUF, ↓rS_sAI, ↓rS_sAJ, ↓rS_sAR, ↓rS_sUA, ↓rS_sCall, ↓rS_sObj, ↓rS_sSi, ↓rS_sSa, ↓rS_sSj, ↓rS_sInc, ↓rS_sSkip, ↓rS_sSeq, ↓rS_sIf, ↓rS_sRetI, ↓rS_sRetJ, ↓rS_sRetA, ↓rS_sRetV, ↓rS_sSw, ↓rD_meth, ↓rD_on, ↓kR_ref, ↓kI_int, ↓kJ_long, ↓kN_null, ↓kN_ref, ↓kN_rf, ↓kQ_ref, ↓kQ_null, ↓kQ_rf, o1_i, o1ij_i, o1ji_i, o2_i, o2d_i, o2j_i, o2ji_i, o2c_i, fv_0, fv_1, fv_2, fv_3, pf_0, pf_2, pf_3, pf_4, rf_s, rf_n, is_self, ge_0, ge_s, ge_n, gd_s, gd_n, se_0, se_s, ag_0, ex_n, ex_i, ex_r, ex_0, ex_j, ex_q, ap_c, ap_n, List.append_nil, ln_c, ln_n, rp_0, rp_s, rt_0, rt_1, rt_20, rt_21, rt_2, rt_3, rt_4, rt_4n, rt_4q, nl_0, nl_1, nl_2, nl_3, nl_4, nl_5, nl_6, nl_7, nl_8, nl_9, nlB_i, nlB_r, nlB_n, nlB_f, nlB_q, ↓reduceIte, reduceCtorEq, Nat.reduceAdd, Nat.reduceSub, Nat.reduceEqDiff, Nat.reduceLeDiff, Nat.reduceBEq, ite_true, ite_false, dt_t, Bool.not_true, Bool.not_false, Bool.false_eq_true, Nat.le_refl, true_and, and_true, true_or, or_true, false_or, or_false, false_and, and_false, qEq, qNe, qLt, qGe, qGt, qLe, hle, hsb', nI_1]
  have hrow : ∀ s r, s < n → r < 256 → (∀ w, 0 < w → sub w r → A.testBit s = true ∧ ¬ w.testBit s = true ∧ sub w A) → (∀ W, f s W = false) → ∃ q t, sLoop (cI qLe (eLi 4) (eLi 3)) (sSeq (sIf (cAnd (cZ0 qEq (eB f_iand (eLi 4) (eB f_ixor (eLi 3) (eK (.int (-1)))))) (cZ0 qNe (eCall (pm_disp (tb1 12 D_X12_isFirst)) (aC (eLa 0) (aC (eLi 1) (aC (eLi 2) (aC (eLi 4) (aN)))))))) (sSeq (sAI (eG (is 12) 3 31 (eLa 0)) (eG (is 12) 0 33 (eLa 0)) (eLi 2)) (sSeq (sAI (eG (is 12) 3 32 (eLa 0)) (eG (is 12) 0 33 (eLa 0)) (eLi 4)) (sSeq (sUF (is 12) 0 33 f_iadd (eLa 0) (eK (.int 1))) (sRetV)))) sSkip) (sInc 4 1)) [.ref 35, .int (nI A), .int (nI s), .int (nI r), .int 1] σ = some (q, t) ∧ (t = σ ∧ q = .inl [.ref 35, .int (nI A), .int (nI s), .int (nI r), .int (nI (r + 1))]) := by
    intro s r hs hr hwr hf
    refine loop_gen (fun i env t => t = σ ∧ env = [.ref 35, .int (nI A), .int (nI s), .int (nI r), .int (nI (i + 1))]) _ r (by omega) ⟨rfl, rfl⟩ ?_
    rintro i env t hi ⟨rfl, rfl⟩
    by_cases e : i < r
    · exact Or.inl ⟨_, _, turn s r (i + 1) hs hr (by omega) hwr (by omega) (hf _), e, rfl, rfl⟩
    · right
      have : i = r := by omega
      subst this
      have hle : ¬ nI (i + 1) ≤ nI i := by rw [nI_le' (by omega) (by omega)]; omega
      refine ⟨_, _, ?_, rfl, rfl⟩
      simp only [lpStep, ↓rE_eK, ↓rE_eLi, ↓rE_eLj, ↓rE_eLa, ↓rE_eU, ↓rE_eB, ↓rE_eG, ↓rE_eIF, ↓rE_eAI, ↓rE_eAX, ↓rE_eAJ, ↓rE_eAR, ↓rE_eLen, ↓rE_eSI, ↓rE_eC, ↓rE_eCall, ↓rE_eNew, ↓rE_eNewA, ↓rE_eInst, ↓rC_cI, ↓rC_cZ0, ↓rC_cN, ↓rC_cNot, ↓rC_cAnd, ↓rC_cOr, ↓rA_aN, ↓rA_aC, ↓rS_sP, ↓rS_sUF, ↓rS_sAI, ↓rS_sAJ, ↓rS_sAR, ↓rS_sUA, ↓rS_sCall, ↓rS_sObj, ↓rS_sSi, ↓rS_sSa, ↓rS_sSj, ↓rS_sInc, ↓rS_sSkip, ↓rS_sSeq, ↓rS_sIf, ↓rS_sRetI, ↓rS_sRetJ, ↓rS_sRetA, ↓rS_sRetV, ↓rS_sSw, ↓rD_meth, ↓rD_on, ↓kR_ref, ↓kI_int, ↓kJ_long, ↓kN_null, ↓kN_ref, ↓kN_rf, ↓kQ_ref, ↓kQ_null, ↓kQ_rf, o1_i, o1ij_i, o1ji_i, o2_i, o2d_i, o2j_i, o2ji_i, o2c_i, fv_0, fv_1, fv_2, fv_3, pf_0, pf_2, pf_3, pf_4, rf_s, rf_n, is_self, ge_0, ge_s, ge_n, gd_s, gd_n, se_0, se_s, ag_0, ex_n, ex_i, ex_r, ex_0, ex_j, ex_q, ap_c, ap_n, List.append_nil, ln_c, ln_n, rp_0, rp_s, rt_0, rt_1, rt_20, rt_21, rt_2, rt_3, rt_4, rt_4n, rt_4q, nl_0, nl_1, nl_2, nl_3, nl_4, nl_5, nl_6, nl_7, nl_8, nl_9, nlB_i, nlB_r, nlB_n, nlB_f, nlB_q, ↓reduceIte, reduceCtorEq, Nat.reduceAdd, Nat.reduceSub, Nat.reduceEqDiff, Nat.reduceLeDiff, Nat.reduceBEq, ite_true, ite_false, dt_t, Bool.not_true, Bool.not_false, Bool.false_eq_true, Nat.le_refl, true_and, and_true, true_or, or_true, false_or, or_false, false_and, and_false, qEq, qNe, qLt, qGe, qGt, qLe, hle]
  have hwr : ∀ s, A.testBit s = true → ∀ w, 0 < w → sub w (sd A (2 ^ s)) → A.testBit s = true ∧ ¬ w.testBit s = true ∧ sub w A := fun s hAs w _ hw => by
    obtain ⟨c1, c2⟩ := sub_sd_pow.mp hw
    exact ⟨hAs, c2, c1⟩
  obtain ⟨y1, y2, y3, y4⟩ := fu _ _ x3
  have hlast : ∃ q t, sLoop (cI qLe (eLi 4) (eLi 3)) (sSeq (sIf (cAnd (cZ0 qEq (eB f_iand (eLi 4) (eB f_ixor (eLi 3) (eK (.int (-1)))))) (cZ0 qNe (eCall (pm_disp (tb1 12 D_X12_isFirst)) (aC (eLa 0) (aC (eLi 1) (aC (eLi 2) (aC (eLi 4) (aN)))))))) (sSeq (sAI (eG (is 12) 3 31 (eLa 0)) (eG (is 12) 0 33 (eLa 0)) (eLi 2)) (sSeq (sAI (eG (is 12) 3 32 (eLa 0)) (eG (is 12) 0 33 (eLa 0)) (eLi 4)) (sSeq (sUF (is 12) 0 33 f_iadd (eLa 0) (eK (.int 1))) (sRetV)))) sSkip) (sInc 4 1)) [.ref 35, .int (nI A), .int (nI s0), .int (nI (sd A (2 ^ s0))), .int 1] σ = some (q, t) ∧ (t = nt σ k s0 w0 ∧ q = .inr none) := by
    have hr8 := sd_lt256 (W := 2 ^ s0) hA8
    have hwsub := sub_sd_pow.mpr ⟨y4, y2⟩
    have hwle := sub_le hwsub
    refine loop_gen (fun i env t => t = σ ∧ env = [.ref 35, .int (nI A), .int (nI s0), .int (nI (sd A (2 ^ s0))), .int (nI (i + 1))]) _ (w0 - 1) (by omega) ⟨rfl, rfl⟩ ?_
    rintro i env t hi ⟨rfl, rfl⟩
    by_cases e : i < w0 - 1
    · exact Or.inl ⟨_, _, turn s0 _ (i + 1) hs0n hr8 (by omega) (hwr s0 y1) (by omega) (x5 _ (by omega)), e, rfl, rfl⟩
    · right
      have ei : i + 1 = w0 := by omega
      rw [ei]
      have hle : nI w0 ≤ nI (sd A (2 ^ s0)) := by rw [nI_le' (by omega) (by omega)]; exact hwle
      have hsb' : (nI w0 &&& (nI (sd A (2 ^ s0)) ^^^ (-1)) = 0) = True := by rw [sub0 (by omega) hr8]; exact eq_true hwsub
      have hfi := d_isFirst hS hm hR hA hs0n y1 y2 y3 y4
      have hb1 : (b32 (fB (lnR (cur t) n) (sgR (cur t) n (-1)) M S A s0 w0 = true) = 0) = False := eq_false (by rw [b32_t (by rw [← ef]; exact x3)]; decide)
      have hib := ib_nI hk (show (8 : Nat) ≤ 1000000 by decide)
      have hcl := nI_cl (show k < 2147483648 by omega)
      have z1 : pI (uI t 54 k (nI s0)) 35 33 = nI k := by rw [pI_uI_ne _ _ _ (by decide)]; exact h33
      have z2 : pI (uI (uI t 54 k (nI s0)) 55 k (nI w0)) 35 33 = nI k := by rw [pI_uI_ne _ _ _ (by decide)]; exact z1
      refine ⟨_, _, ?_, rfl, rfl⟩
      simp only [lpStep, ↓rE_eK, ↓rE_eLi, ↓rE_eLj, ↓rE_eLa, ↓rE_eU, ↓rE_eB, ↓rE_eG, ↓rE_eIF, ↓rE_eAI, ↓rE_eAX, ↓rE_eAJ, ↓rE_eAR, ↓rE_eLen, ↓rE_eSI, ↓rE_eC, ↓rE_eCall, ↓rE_eNew, ↓rE_eNewA, ↓rE_eInst, ↓rC_cI, ↓rC_cZ0, ↓rC_cN, ↓rC_cNot, ↓rC_cAnd, ↓rC_cOr, ↓rA_aN, ↓rA_aC, ↓rS_sP, ↓rS_sUF, ↓rS_sAI, ↓rS_sAJ, ↓rS_sAR, ↓rS_sUA, ↓rS_sCall, ↓rS_sObj, ↓rS_sSi, ↓rS_sSa, ↓rS_sSj, ↓rS_sInc, ↓rS_sSkip, ↓rS_sSeq, ↓rS_sIf, ↓rS_sRetI, ↓rS_sRetJ, ↓rS_sRetA, ↓rS_sRetV, ↓rS_sSw, ↓rD_meth, ↓rD_on, ↓kR_ref, ↓kI_int, ↓kJ_long, ↓kN_null, ↓kN_ref, ↓kN_rf, ↓kQ_ref, ↓kQ_null, ↓kQ_rf, o1_i, o1ij_i, o1ji_i, o2_i, o2d_i, o2j_i, o2ji_i, o2c_i, fv_0, fv_1, fv_2, fv_3, pf_0, pf_2, pf_3, pf_4, rf_s, rf_n, is_self, ge_0, ge_s, ge_n, gd_s, gd_n, se_0, se_s, ag_0, ex_n, ex_i, ex_r, ex_0, ex_j, ex_q, ap_c, ap_n, List.append_nil, ln_c, ln_n, rp_0, rp_s, rt_0, rt_1, rt_20, rt_21, rt_2, rt_3, rt_4, rt_4n, rt_4q, nl_0, nl_1, nl_2, nl_3, nl_4, nl_5, nl_6, nl_7, nl_8, nl_9, nlB_i, nlB_r, nlB_n, nlB_f, nlB_q, ↓reduceIte, reduceCtorEq, Nat.reduceAdd, Nat.reduceSub, Nat.reduceEqDiff, Nat.reduceLeDiff, Nat.reduceBEq, ite_true, ite_false, dt_t, Bool.not_true, Bool.not_false, Bool.false_eq_true, Nat.le_refl, true_and, and_true, true_or, or_true, false_or, or_false, false_and, and_false, qEq, qNe, qLt, qGe, qGt, qLe, hle, hsb', rD_tb1 (sT_35 hS), rD_of hfi, hb1, not_false_eq_true, sT_35 hS, sT_36 hS, sT_37 hS, sT_38 hS, sT_39 hS, sT_40 hS, sT_41 hS, sT_42 hS, sT_43 hS, sT_44 hS, sT_45 hS, sT_46 hS, sT_47 hS, sT_48 hS, sT_49 hS, sT_50 hS, sT_51 hS, sT_52 hS, sT_53 hS, sT_54 hS, sT_55 hS, sT_56 hS, sT_57 hS, sT_58 hS, sT_59 hS, sT_60 hS, sT_61 hS, sT_62 hS, sT_63 hS, sT_64 hS, sT_65 hS, sL_36 hS, sL_37 hS, sL_38 hS, sL_39 hS, sL_40 hS, sL_41 hS, sL_42 hS, sL_43 hS, sL_44 hS, sL_45 hS, sL_46 hS, sL_47 hS, sL_48 hS, sL_49 hS, sL_50 hS, sL_51 hS, sL_52 hS, sL_53 hS, sL_54 hS, sL_55 hS, sL_56 hS, sL_57 hS, sL_58 hS, sL_59 hS, sL_60 hS, sL_61 hS, sL_62 hS, sL_63 hS, sL_64 hS, sL_65 hS, sR_35_1 hS, sR_35_2 hS, sR_35_3 hS, sR_35_4 hS, sR_35_5 hS, sR_35_6 hS, sR_35_7 hS, sR_35_11 hS, sR_35_21 hS, sR_35_22 hS, sR_35_23 hS, sR_35_24 hS, sR_35_25 hS, sR_35_26 hS, sR_35_27 hS, sR_35_28 hS, sR_35_29 hS, sR_35_30 hS, sR_35_31 hS, sR_35_32 hS, sR_35_35 hS, sR_35_37 hS, sR_35_38 hS, sR_35_39 hS, sR_35_40 hS, sR_35_41 hS, sR_35_42 hS, sR_35_46 hS, sR_35_50 hS, sR_35_52 hS, h33, hib, hcl, pT_uI, pL_uI, pR_uI, z1, z2, nI_1, nt]
  have hl : ∃ q t, sLoop (cI qLt (eLi 2) (eG (is 12) 0 0 (eLa 0))) (sSeq (sSeq (sSi 3 (eC (cZ0 qNe (eCall D_X12_has (aC (eLi 1) (aC (eLi 2) (aN))))) (eB f_iand (eLi 1) (eB f_ixor (eB f_ishl (eK (.int 1)) (eLi 2)) (eK (.int (-1))))) (eK (.int 0)))) (sSeq (sSi 4 (eK (.int 1))) (sLoop (cI qLe (eLi 4) (eLi 3)) (sSeq (sIf (cAnd (cZ0 qEq (eB f_iand (eLi 4) (eB f_ixor (eLi 3) (eK (.int (-1)))))) (cZ0 qNe (eCall (pm_disp (tb1 12 D_X12_isFirst)) (aC (eLa 0) (aC (eLi 1) (aC (eLi 2) (aC (eLi 4) (aN)))))))) (sSeq (sAI (eG (is 12) 3 31 (eLa 0)) (eG (is 12) 0 33 (eLa 0)) (eLi 2)) (sSeq (sAI (eG (is 12) 3 32 (eLa 0)) (eG (is 12) 0 33 (eLa 0)) (eLi 4)) (sSeq (sUF (is 12) 0 33 f_iadd (eLa 0) (eK (.int 1))) (sRetV)))) sSkip) (sInc 4 1))))) (sInc 2 1)) [.ref 35, .int (nI A), .int 0, .float 0, .float 0] σ = some (q, t) ∧ (t = nt σ k s0 w0 ∧ q = .inr none) := by
    refine loop_gen (fun s env t => t = σ ∧ ∃ w3 w4, nlB (some w3) = true ∧ nlB (some w4) = true ∧ env = [.ref 35, .int (nI A), .int (nI s), w3, w4]) _ s0 (by omega) ⟨rfl, .float 0, .float 0, rfl, rfl, by rw [nI_0]⟩ ?_
    rintro s env t hs ⟨rfl, w3, w4, hw3, hw4, rfl⟩
    have hlt : nI s < nI n := by rw [nI_lt' (by omega) (by omega)]; omega
    have hb := bt_nI hA8 (show s < 8 by omega)
    have h01 : ¬ (0 : Int32) = 1 := by decide
    by_cases e : s < s0
    · left
      have hfs : ∀ W, f s W = false := fun W => by
        by_cases c : W < 256
        · exact x4 s e W c
        · cases q : f s W with
          | false => rfl
          | true => have := sub_le (fu s W q).2.2.2; omega
      by_cases hAs : A.testBit s = true
      · rw [if_pos hAs] at hb
        obtain ⟨q, t', q1, rfl, rfl⟩ := hrow s (sd A (2 ^ s)) (by omega) (sd_lt256 hA8) (hwr s hAs) hfs
        refine ⟨[.ref 35, .int (nI A), .int (nI (s + 1)), .int (nI (sd A (2 ^ s))), .int (nI (sd A (2 ^ s) + 1))], t', ?_, e, rfl, _, _, nlB_i, nlB_i, rfl⟩
        simp only [lpStep, ↓rE_eK, ↓rE_eLi, ↓rE_eLj, ↓rE_eLa, ↓rE_eU, ↓rE_eB, ↓rE_eG, ↓rE_eIF, ↓rE_eAI, ↓rE_eAX, ↓rE_eAJ, ↓rE_eAR, ↓rE_eLen, ↓rE_eSI, ↓rE_eC, ↓rE_eCall, ↓rE_eNew, ↓rE_eNewA, ↓rE_eInst, ↓rC_cI, ↓rC_cZ0, ↓rC_cN, ↓rC_cNot, ↓rC_cAnd, ↓rC_cOr, ↓rA_aN, ↓rA_aC, ↓rS_sP, ↓rS_sUF, ↓rS_sAI, ↓rS_sAJ, ↓rS_sAR, ↓rS_sUA, ↓rS_sCall, ↓rS_sObj, ↓rS_sSi, ↓rS_sSa, ↓rS_sSj, ↓rS_sInc, ↓rS_sSkip, ↓rS_sSeq, ↓rS_sIf, ↓rS_sRetI, ↓rS_sRetJ, ↓rS_sRetA, ↓rS_sRetV, ↓rS_sSw, ↓rD_meth, ↓rD_on, ↓kR_ref, ↓kI_int, ↓kJ_long, ↓kN_null, ↓kN_ref, ↓kN_rf, ↓kQ_ref, ↓kQ_null, ↓kQ_rf, o1_i, o1ij_i, o1ji_i, o2_i, o2d_i, o2j_i, o2ji_i, o2c_i, fv_0, fv_1, fv_2, fv_3, pf_0, pf_2, pf_3, pf_4, rf_s, rf_n, is_self, ge_0, ge_s, ge_n, gd_s, gd_n, se_0, se_s, ag_0, ex_n, ex_i, ex_r, ex_0, ex_j, ex_q, ap_c, ap_n, List.append_nil, ln_c, ln_n, rp_0, rp_s, rt_0, rt_1, rt_20, rt_21, rt_2, rt_3, rt_4, rt_4n, rt_4q, nl_0, nl_1, nl_2, nl_3, nl_4, nl_5, nl_6, nl_7, nl_8, nl_9, nlB_i, nlB_r, nlB_n, nlB_f, nlB_q, ↓reduceIte, reduceCtorEq, Nat.reduceAdd, Nat.reduceSub, Nat.reduceEqDiff, Nat.reduceLeDiff, Nat.reduceBEq, ite_true, ite_false, dt_t, Bool.not_true, Bool.not_false, Bool.false_eq_true, Nat.le_refl, true_and, and_true, true_or, or_true, false_or, or_false, false_and, and_false, qEq, qNe, qLt, qGe, qGt, qLe, sT_35 hS, sT_36 hS, sT_37 hS, sT_38 hS, sT_39 hS, sT_40 hS, sT_41 hS, sT_42 hS, sT_43 hS, sT_44 hS, sT_45 hS, sT_46 hS, sT_47 hS, sT_48 hS, sT_49 hS, sT_50 hS, sT_51 hS, sT_52 hS, sT_53 hS, sT_54 hS, sT_55 hS, sT_56 hS, sT_57 hS, sT_58 hS, sT_59 hS, sT_60 hS, sT_61 hS, sT_62 hS, sT_63 hS, sT_64 hS, sT_65 hS, sL_36 hS, sL_37 hS, sL_38 hS, sL_39 hS, sL_40 hS, sL_41 hS, sL_42 hS, sL_43 hS, sL_44 hS, sL_45 hS, sL_46 hS, sL_47 hS, sL_48 hS, sL_49 hS, sL_50 hS, sL_51 hS, sL_52 hS, sL_53 hS, sL_54 hS, sL_55 hS, sL_56 hS, sL_57 hS, sL_58 hS, sL_59 hS, sL_60 hS, sL_61 hS, sL_62 hS, sL_63 hS, sL_64 hS, sL_65 hS, sR_35_1 hS, sR_35_2 hS, sR_35_3 hS, sR_35_4 hS, sR_35_5 hS, sR_35_6 hS, sR_35_7 hS, sR_35_11 hS, sR_35_21 hS, sR_35_22 hS, sR_35_23 hS, sR_35_24 hS, sR_35_25 hS, sR_35_26 hS, sR_35_27 hS, sR_35_28 hS, sR_35_29 hS, sR_35_30 hS, sR_35_31 hS, sR_35_32 hS, sR_35_35 hS, sR_35_37 hS, sR_35_38 hS, sR_35_39 hS, sR_35_40 hS, sR_35_41 hS, sR_35_42 hS, sR_35_46 hS, sR_35_50 hS, sR_35_52 hS, hn, hlt, rD_of (d_has _ _ _), b32_ne, hb, nI_shl (show s < 8 by omega), nI_sdx, hw3, rS_inl q1, nI_1]
      · rw [if_neg hAs] at hb
        obtain ⟨q, t', q1, rfl, rfl⟩ := hrow s 0 (by omega) (by decide) (fun w h0 hw => by have := sub_le hw; omega) hfs
        rw [nI_0] at q1
        refine ⟨[.ref 35, .int (nI A), .int (nI (s + 1)), .int 0, .int (nI (0 + 1))], t', ?_, e, rfl, _, _, nlB_i, nlB_i, rfl⟩
        simp only [lpStep, ↓rE_eK, ↓rE_eLi, ↓rE_eLj, ↓rE_eLa, ↓rE_eU, ↓rE_eB, ↓rE_eG, ↓rE_eIF, ↓rE_eAI, ↓rE_eAX, ↓rE_eAJ, ↓rE_eAR, ↓rE_eLen, ↓rE_eSI, ↓rE_eC, ↓rE_eCall, ↓rE_eNew, ↓rE_eNewA, ↓rE_eInst, ↓rC_cI, ↓rC_cZ0, ↓rC_cN, ↓rC_cNot, ↓rC_cAnd, ↓rC_cOr, ↓rA_aN, ↓rA_aC, ↓rS_sP, ↓rS_sUF, ↓rS_sAI, ↓rS_sAJ, ↓rS_sAR, ↓rS_sUA, ↓rS_sCall, ↓rS_sObj, ↓rS_sSi, ↓rS_sSa, ↓rS_sSj, ↓rS_sInc, ↓rS_sSkip, ↓rS_sSeq, ↓rS_sIf, ↓rS_sRetI, ↓rS_sRetJ, ↓rS_sRetA, ↓rS_sRetV, ↓rS_sSw, ↓rD_meth, ↓rD_on, ↓kR_ref, ↓kI_int, ↓kJ_long, ↓kN_null, ↓kN_ref, ↓kN_rf, ↓kQ_ref, ↓kQ_null, ↓kQ_rf, o1_i, o1ij_i, o1ji_i, o2_i, o2d_i, o2j_i, o2ji_i, o2c_i, fv_0, fv_1, fv_2, fv_3, pf_0, pf_2, pf_3, pf_4, rf_s, rf_n, is_self, ge_0, ge_s, ge_n, gd_s, gd_n, se_0, se_s, ag_0, ex_n, ex_i, ex_r, ex_0, ex_j, ex_q, ap_c, ap_n, List.append_nil, ln_c, ln_n, rp_0, rp_s, rt_0, rt_1, rt_20, rt_21, rt_2, rt_3, rt_4, rt_4n, rt_4q, nl_0, nl_1, nl_2, nl_3, nl_4, nl_5, nl_6, nl_7, nl_8, nl_9, nlB_i, nlB_r, nlB_n, nlB_f, nlB_q, ↓reduceIte, reduceCtorEq, Nat.reduceAdd, Nat.reduceSub, Nat.reduceEqDiff, Nat.reduceLeDiff, Nat.reduceBEq, ite_true, ite_false, dt_t, Bool.not_true, Bool.not_false, Bool.false_eq_true, Nat.le_refl, true_and, and_true, true_or, or_true, false_or, or_false, false_and, and_false, qEq, qNe, qLt, qGe, qGt, qLe, sT_35 hS, sT_36 hS, sT_37 hS, sT_38 hS, sT_39 hS, sT_40 hS, sT_41 hS, sT_42 hS, sT_43 hS, sT_44 hS, sT_45 hS, sT_46 hS, sT_47 hS, sT_48 hS, sT_49 hS, sT_50 hS, sT_51 hS, sT_52 hS, sT_53 hS, sT_54 hS, sT_55 hS, sT_56 hS, sT_57 hS, sT_58 hS, sT_59 hS, sT_60 hS, sT_61 hS, sT_62 hS, sT_63 hS, sT_64 hS, sT_65 hS, sL_36 hS, sL_37 hS, sL_38 hS, sL_39 hS, sL_40 hS, sL_41 hS, sL_42 hS, sL_43 hS, sL_44 hS, sL_45 hS, sL_46 hS, sL_47 hS, sL_48 hS, sL_49 hS, sL_50 hS, sL_51 hS, sL_52 hS, sL_53 hS, sL_54 hS, sL_55 hS, sL_56 hS, sL_57 hS, sL_58 hS, sL_59 hS, sL_60 hS, sL_61 hS, sL_62 hS, sL_63 hS, sL_64 hS, sL_65 hS, sR_35_1 hS, sR_35_2 hS, sR_35_3 hS, sR_35_4 hS, sR_35_5 hS, sR_35_6 hS, sR_35_7 hS, sR_35_11 hS, sR_35_21 hS, sR_35_22 hS, sR_35_23 hS, sR_35_24 hS, sR_35_25 hS, sR_35_26 hS, sR_35_27 hS, sR_35_28 hS, sR_35_29 hS, sR_35_30 hS, sR_35_31 hS, sR_35_32 hS, sR_35_35 hS, sR_35_37 hS, sR_35_38 hS, sR_35_39 hS, sR_35_40 hS, sR_35_41 hS, sR_35_42 hS, sR_35_46 hS, sR_35_50 hS, sR_35_52 hS, hn, hlt, rD_of (d_has _ _ _), b32_ne, hb, h01, hw3, rS_inl q1, nI_1]
    · right
      have : s = s0 := by omega
      subst this
      rw [if_pos y1] at hb
      obtain ⟨q, t', q1, rfl, rfl⟩ := hlast
      refine ⟨_, _, ?_, rfl, rfl⟩
      simp only [lpStep, ↓rE_eK, ↓rE_eLi, ↓rE_eLj, ↓rE_eLa, ↓rE_eU, ↓rE_eB, ↓rE_eG, ↓rE_eIF, ↓rE_eAI, ↓rE_eAX, ↓rE_eAJ, ↓rE_eAR, ↓rE_eLen, ↓rE_eSI, ↓rE_eC, ↓rE_eCall, ↓rE_eNew, ↓rE_eNewA, ↓rE_eInst, ↓rC_cI, ↓rC_cZ0, ↓rC_cN, ↓rC_cNot, ↓rC_cAnd, ↓rC_cOr, ↓rA_aN, ↓rA_aC, ↓rS_sP, ↓rS_sUF, ↓rS_sAI, ↓rS_sAJ, ↓rS_sAR, ↓rS_sUA, ↓rS_sCall, ↓rS_sObj, ↓rS_sSi, ↓rS_sSa, ↓rS_sSj, ↓rS_sInc, ↓rS_sSkip, ↓rS_sSeq, ↓rS_sIf, ↓rS_sRetI, ↓rS_sRetJ, ↓rS_sRetA, ↓rS_sRetV, ↓rS_sSw, ↓rD_meth, ↓rD_on, ↓kR_ref, ↓kI_int, ↓kJ_long, ↓kN_null, ↓kN_ref, ↓kN_rf, ↓kQ_ref, ↓kQ_null, ↓kQ_rf, o1_i, o1ij_i, o1ji_i, o2_i, o2d_i, o2j_i, o2ji_i, o2c_i, fv_0, fv_1, fv_2, fv_3, pf_0, pf_2, pf_3, pf_4, rf_s, rf_n, is_self, ge_0, ge_s, ge_n, gd_s, gd_n, se_0, se_s, ag_0, ex_n, ex_i, ex_r, ex_0, ex_j, ex_q, ap_c, ap_n, List.append_nil, ln_c, ln_n, rp_0, rp_s, rt_0, rt_1, rt_20, rt_21, rt_2, rt_3, rt_4, rt_4n, rt_4q, nl_0, nl_1, nl_2, nl_3, nl_4, nl_5, nl_6, nl_7, nl_8, nl_9, nlB_i, nlB_r, nlB_n, nlB_f, nlB_q, ↓reduceIte, reduceCtorEq, Nat.reduceAdd, Nat.reduceSub, Nat.reduceEqDiff, Nat.reduceLeDiff, Nat.reduceBEq, ite_true, ite_false, dt_t, Bool.not_true, Bool.not_false, Bool.false_eq_true, Nat.le_refl, true_and, and_true, true_or, or_true, false_or, or_false, false_and, and_false, qEq, qNe, qLt, qGe, qGt, qLe, sT_35 hS, sT_36 hS, sT_37 hS, sT_38 hS, sT_39 hS, sT_40 hS, sT_41 hS, sT_42 hS, sT_43 hS, sT_44 hS, sT_45 hS, sT_46 hS, sT_47 hS, sT_48 hS, sT_49 hS, sT_50 hS, sT_51 hS, sT_52 hS, sT_53 hS, sT_54 hS, sT_55 hS, sT_56 hS, sT_57 hS, sT_58 hS, sT_59 hS, sT_60 hS, sT_61 hS, sT_62 hS, sT_63 hS, sT_64 hS, sT_65 hS, sL_36 hS, sL_37 hS, sL_38 hS, sL_39 hS, sL_40 hS, sL_41 hS, sL_42 hS, sL_43 hS, sL_44 hS, sL_45 hS, sL_46 hS, sL_47 hS, sL_48 hS, sL_49 hS, sL_50 hS, sL_51 hS, sL_52 hS, sL_53 hS, sL_54 hS, sL_55 hS, sL_56 hS, sL_57 hS, sL_58 hS, sL_59 hS, sL_60 hS, sL_61 hS, sL_62 hS, sL_63 hS, sL_64 hS, sL_65 hS, sR_35_1 hS, sR_35_2 hS, sR_35_3 hS, sR_35_4 hS, sR_35_5 hS, sR_35_6 hS, sR_35_7 hS, sR_35_11 hS, sR_35_21 hS, sR_35_22 hS, sR_35_23 hS, sR_35_24 hS, sR_35_25 hS, sR_35_26 hS, sR_35_27 hS, sR_35_28 hS, sR_35_29 hS, sR_35_30 hS, sR_35_31 hS, sR_35_32 hS, sR_35_35 hS, sR_35_37 hS, sR_35_38 hS, sR_35_39 hS, sR_35_40 hS, sR_35_41 hS, sR_35_42 hS, sR_35_46 hS, sR_35_50 hS, sR_35_52 hS, hn, hlt, rD_of (d_has _ _ _), b32_ne, hb, nI_shl (show s < 8 by omega), nI_sdx, hw3, rS_inr q1]
  obtain ⟨q, t, l1, rfl, rfl⟩ := hl
  refine rD_un.trans ?_
  simp only [D_X12_noteFirst, B_X12_noteFirst, ↓rE_eK, ↓rE_eLi, ↓rE_eLj, ↓rE_eLa, ↓rE_eU, ↓rE_eB, ↓rE_eG, ↓rE_eIF, ↓rE_eAI, ↓rE_eAX, ↓rE_eAJ, ↓rE_eAR, ↓rE_eLen, ↓rE_eSI, ↓rE_eC, ↓rE_eCall, ↓rE_eNew, ↓rE_eNewA, ↓rE_eInst, ↓rC_cI, ↓rC_cZ0, ↓rC_cN, ↓rC_cNot, ↓rC_cAnd, ↓rC_cOr, ↓rA_aN, ↓rA_aC, ↓rS_sP, ↓rS_sUF, ↓rS_sAI, ↓rS_sAJ, ↓rS_sAR, ↓rS_sUA, ↓rS_sCall, ↓rS_sObj, ↓rS_sSi, ↓rS_sSa, ↓rS_sSj, ↓rS_sInc, ↓rS_sSkip, ↓rS_sSeq, ↓rS_sIf, ↓rS_sRetI, ↓rS_sRetJ, ↓rS_sRetA, ↓rS_sRetV, ↓rS_sSw, ↓rD_meth, ↓rD_on, ↓kR_ref, ↓kI_int, ↓kJ_long, ↓kN_null, ↓kN_ref, ↓kN_rf, ↓kQ_ref, ↓kQ_null, ↓kQ_rf, o1_i, o1ij_i, o1ji_i, o2_i, o2d_i, o2j_i, o2ji_i, o2c_i, fv_0, fv_1, fv_2, fv_3, pf_0, pf_2, pf_3, pf_4, rf_s, rf_n, is_self, ge_0, ge_s, ge_n, gd_s, gd_n, se_0, se_s, ag_0, ex_n, ex_i, ex_r, ex_0, ex_j, ex_q, ap_c, ap_n, List.append_nil, ln_c, ln_n, rp_0, rp_s, rt_0, rt_1, rt_20, rt_21, rt_2, rt_3, rt_4, rt_4n, rt_4q, nl_0, nl_1, nl_2, nl_3, nl_4, nl_5, nl_6, nl_7, nl_8, nl_9, nlB_i, nlB_r, nlB_n, nlB_f, nlB_q, ↓reduceIte, reduceCtorEq, Nat.reduceAdd, Nat.reduceSub, Nat.reduceEqDiff, Nat.reduceLeDiff, Nat.reduceBEq, ite_true, ite_false, dt_t, Bool.not_true, Bool.not_false, Bool.false_eq_true, Nat.le_refl, true_and, and_true, true_or, or_true, false_or, or_false, false_and, and_false, qEq, qNe, qLt, qGe, qGt, qLe, rS_inr l1]
