/-! act: what is told, and the reference's side. -/
theorem c_sings_b {σ : pm_H} (hs : Sh σ) (hb : pI σ 29 2 = 1) {q : Nat} (x : Int32) : D_X6_sings [.ref q, .ref 29, .int x] σ = some (some (.int 0), σ) := by
  refine rD_un.trans ?_
  simp only [D_X6_sings, B_X6_sings, ↓rE_eK, ↓rE_eLi, ↓rE_eLj, ↓rE_eLa, ↓rE_eU, ↓rE_eB, ↓rE_eG, ↓rE_eIF, ↓rE_eAI, ↓rE_eAX, ↓rE_eAJ, ↓rE_eAR, ↓rE_eLen, ↓rE_eSI, ↓rE_eC, ↓rE_eCall, ↓rE_eNew, ↓rE_eNewA, ↓rE_eInst, ↓rC_cI, ↓rC_cZ0, ↓rC_cN, ↓rC_cNot, ↓rC_cAnd, ↓rC_cOr, ↓rA_aN, ↓rA_aC, ↓rS_sP, ↓rS_sUF, ↓rS_sAI, ↓rS_sAJ, ↓rS_sAR, ↓rS_sUA, ↓rS_sCall, ↓rS_sObj, ↓rS_sSi, ↓rS_sSa, ↓rS_sSj, ↓rS_sInc, ↓rS_sSkip, ↓rS_sSeq, ↓rS_sIf, ↓rS_sRetI, ↓rS_sRetJ, ↓rS_sRetA, ↓rS_sRetV, ↓rS_sSw, ↓rD_meth, ↓rD_on, ↓kR_ref, ↓kI_int, ↓kJ_long, ↓kN_null, ↓kN_ref, ↓kN_rf, ↓kQ_ref, ↓kQ_null, ↓kQ_rf, o1_i, o1ij_i, o1ji_i, o2_i, o2d_i, o2j_i, o2ji_i, o2c_i, fv_0, fv_1, fv_2, fv_3, pf_0, pf_2, pf_3, pf_4, rf_s, rf_n, is_self, ge_0, ge_s, ge_n, gd_s, gd_n, se_0, se_s, ag_0, ex_n, ex_i, ex_r, ex_0, ex_j, ex_q, ap_c, ap_n, List.append_nil, ln_c, ln_n, rp_0, rp_s, rt_0, rt_1, rt_20, rt_21, rt_2, rt_3, rt_4, rt_4n, rt_4q, nl_0, nl_1, nl_2, nl_3, nl_4, nl_5, nl_6, nl_7, nl_8, nl_9, nlB_i, nlB_r, nlB_n, nlB_f, nlB_q, ↓reduceIte, reduceCtorEq, Nat.reduceAdd, Nat.reduceSub, Nat.reduceEqDiff, Nat.reduceLeDiff, Nat.reduceBEq, ite_true, ite_false, dt_t, Bool.not_true, Bool.not_false, Bool.false_eq_true, Nat.le_refl, true_and, and_true, true_or, or_true, false_or, or_false, false_and, and_false, qEq, qNe, qLt, qGe, qGt, qLe, sT_11 hs, sT_12 hs, sT_13 hs, sT_14 hs, sT_15 hs, sT_16 hs, sT_17 hs, sT_18 hs, sT_19 hs, sT_20 hs, sT_21 hs, sT_22 hs, sT_23 hs, sT_24 hs, sT_25 hs, sT_26 hs, sT_27 hs, sT_28 hs, sT_29 hs, sT_30 hs, sT_31 hs, sT_32 hs, sT_33 hs, sT_34 hs, sL_13 hs, sL_14 hs, sL_16 hs, sL_17 hs, sL_18 hs, sL_19 hs, sL_20 hs, sL_21 hs, sL_22 hs, sL_23 hs, sL_24 hs, sL_25 hs, sL_26 hs, sL_28 hs, sL_30 hs, sL_31 hs, sL_32 hs, sL_33 hs, sL_34 hs, sR_11_2 hs, sR_11_3 hs, sR_11_4 hs, sR_11_5 hs, sR_11_7 hs, sR_11_8 hs, sR_11_9 hs, sR_27_0 hs, sR_29_0 hs, sR_15_0 hs, sR_15_3 hs, sR_15_5 hs, sR_15_6 hs, sR_15_7 hs, sR_15_8 hs, sR_15_9 hs, sR_15_10 hs, sR_15_11 hs, sR_15_12 hs, sR_15_13 hs, hb, one_ne0, not_false_eq_true]
theorem bk_T (σ : pm_H) : pT (bk σ) = pT σ := rfl
theorem bk_q (σ : pm_H) {q : Nat} (h : 66 ≤ q) : pI (bk σ) q = pI σ q := pI_uI_ne _ _ _ (by omega)
theorem bk_2 (σ : pm_H) : pI (bk σ) 29 2 = 1 := pI_uI_at _ _ _ _
abbrev T_shares : pm_D := pm_disp (tb6 D_X6_shares D_X6_shares D_X6_shares D_X4_shares D_X6_shares D_X9_shares)
def shX (k : Nat) (x N G : Int32) : Int32 := if k = 3 then ((x + 2) / (G - N)) ^^^ 1 else if k = 5 then x / (G - N) + sgX k G N else x / (G - N)
def shL (k : Nat) : List Int32 := if k = 3 then [50, 12] else if k = 5 then [61, 12, 10] else [12]
def shB (k : Nat) : List Int32 := if k = 3 then [50, 12] else if k = 5 then [61, 12] else [12]
theorem t_shares {σ : pm_H} (h : CR σ) {q k : Nat} (hk : k < 6) (hT : pT σ q = kTag k) (h66 : 66 ≤ q) (x : Int32) : (pI σ q 1 = pI σ q 0 → ∃ v, T_shares [.ref q, .ref 29, .int x] σ = some (some (.int v), bk (cbs σ (shB k)))) ∧ (¬ pI σ q 1 = pI σ q 0 → T_shares [.ref q, .ref 29, .int x] σ = some (some (.int (shX k x (pI σ q 0) (pI σ q 1))), cbs σ (shL k))) := by
  have hq : pm_slp (pT σ q) = true := by rw [hT]; exact kTag_slp k
  have hs := h.1
  have h6 := c_shares6 h hq h66 x
  rcases k6 hk with rfl | rfl | rfl | rfl | rfl | rfl
  · refine ⟨fun e => ⟨0, ?_⟩, fun e => ?_⟩
    · have e1 : shB 0 = [12] := rfl
      rw [e1]
      refine rD_un.trans ?_
      simp only [T_shares, rD_disp, hT, kTag_0, tb6, ↓rE_eK, ↓rE_eLi, ↓rE_eLj, ↓rE_eLa, ↓rE_eU, ↓rE_eB, ↓rE_eG, ↓rE_eIF, ↓rE_eAI, ↓rE_eAX, ↓rE_eAJ, ↓rE_eAR, ↓rE_eLen, ↓rE_eSI, ↓rE_eC, ↓rE_eCall, ↓rE_eNew, ↓rE_eNewA, ↓rE_eInst, ↓rC_cI, ↓rC_cZ0, ↓rC_cN, ↓rC_cNot, ↓rC_cAnd, ↓rC_cOr, ↓rA_aN, ↓rA_aC, ↓rS_sP, ↓rS_sUF, ↓rS_sAI, ↓rS_sAJ, ↓rS_sAR, ↓rS_sUA, ↓rS_sCall, ↓rS_sObj, ↓rS_sSi, ↓rS_sSa, ↓rS_sSj, ↓rS_sInc, ↓rS_sSkip, ↓rS_sSeq, ↓rS_sIf, ↓rS_sRetI, ↓rS_sRetJ, ↓rS_sRetA, ↓rS_sRetV, ↓rS_sSw, ↓rD_meth, ↓rD_on, ↓kR_ref, ↓kI_int, ↓kJ_long, ↓kN_null, ↓kN_ref, ↓kN_rf, ↓kQ_ref, ↓kQ_null, ↓kQ_rf, o1_i, o1ij_i, o1ji_i, o2_i, o2d_i, o2j_i, o2ji_i, o2c_i, fv_0, fv_1, fv_2, fv_3, pf_0, pf_2, pf_3, pf_4, rf_s, rf_n, is_self, ge_0, ge_s, ge_n, gd_s, gd_n, se_0, se_s, ag_0, ex_n, ex_i, ex_r, ex_0, ex_j, ex_q, ap_c, ap_n, List.append_nil, ln_c, ln_n, rp_0, rp_s, rt_0, rt_1, rt_20, rt_21, rt_2, rt_3, rt_4, rt_4n, rt_4q, nl_0, nl_1, nl_2, nl_3, nl_4, nl_5, nl_6, nl_7, nl_8, nl_9, nlB_i, nlB_r, nlB_n, nlB_f, nlB_q, ↓reduceIte, reduceCtorEq, Nat.reduceAdd, Nat.reduceSub, Nat.reduceEqDiff, Nat.reduceLeDiff, Nat.reduceBEq, ite_true, ite_false, dt_t, Bool.not_true, Bool.not_false, Bool.false_eq_true, Nat.le_refl, true_and, and_true, true_or, or_true, false_or, or_false, false_and, and_false, qEq, qNe, qLt, qGe, qGt, qLe, rD_of (h6.1 e), cbs_c, cbs_n]
    · have e1 : shL 0 = [12] := rfl
      have e2 : shX 0 x (pI σ q 0) (pI σ q 1) = x / (pI σ q 1 - pI σ q 0) := rfl
      rw [e1, e2]
      refine rD_un.trans ?_
      simp only [T_shares, rD_disp, hT, kTag_0, tb6, ↓rE_eK, ↓rE_eLi, ↓rE_eLj, ↓rE_eLa, ↓rE_eU, ↓rE_eB, ↓rE_eG, ↓rE_eIF, ↓rE_eAI, ↓rE_eAX, ↓rE_eAJ, ↓rE_eAR, ↓rE_eLen, ↓rE_eSI, ↓rE_eC, ↓rE_eCall, ↓rE_eNew, ↓rE_eNewA, ↓rE_eInst, ↓rC_cI, ↓rC_cZ0, ↓rC_cN, ↓rC_cNot, ↓rC_cAnd, ↓rC_cOr, ↓rA_aN, ↓rA_aC, ↓rS_sP, ↓rS_sUF, ↓rS_sAI, ↓rS_sAJ, ↓rS_sAR, ↓rS_sUA, ↓rS_sCall, ↓rS_sObj, ↓rS_sSi, ↓rS_sSa, ↓rS_sSj, ↓rS_sInc, ↓rS_sSkip, ↓rS_sSeq, ↓rS_sIf, ↓rS_sRetI, ↓rS_sRetJ, ↓rS_sRetA, ↓rS_sRetV, ↓rS_sSw, ↓rD_meth, ↓rD_on, ↓kR_ref, ↓kI_int, ↓kJ_long, ↓kN_null, ↓kN_ref, ↓kN_rf, ↓kQ_ref, ↓kQ_null, ↓kQ_rf, o1_i, o1ij_i, o1ji_i, o2_i, o2d_i, o2j_i, o2ji_i, o2c_i, fv_0, fv_1, fv_2, fv_3, pf_0, pf_2, pf_3, pf_4, rf_s, rf_n, is_self, ge_0, ge_s, ge_n, gd_s, gd_n, se_0, se_s, ag_0, ex_n, ex_i, ex_r, ex_0, ex_j, ex_q, ap_c, ap_n, List.append_nil, ln_c, ln_n, rp_0, rp_s, rt_0, rt_1, rt_20, rt_21, rt_2, rt_3, rt_4, rt_4n, rt_4q, nl_0, nl_1, nl_2, nl_3, nl_4, nl_5, nl_6, nl_7, nl_8, nl_9, nlB_i, nlB_r, nlB_n, nlB_f, nlB_q, ↓reduceIte, reduceCtorEq, Nat.reduceAdd, Nat.reduceSub, Nat.reduceEqDiff, Nat.reduceLeDiff, Nat.reduceBEq, ite_true, ite_false, dt_t, Bool.not_true, Bool.not_false, Bool.false_eq_true, Nat.le_refl, true_and, and_true, true_or, or_true, false_or, or_false, false_and, and_false, qEq, qNe, qLt, qGe, qGt, qLe, rD_of (h6.2 e), cbs_c, cbs_n]
  · refine ⟨fun e => ⟨0, ?_⟩, fun e => ?_⟩
    · have e1 : shB 1 = [12] := rfl
      rw [e1]
      refine rD_un.trans ?_
      simp only [T_shares, rD_disp, hT, kTag_1, tb6, ↓rE_eK, ↓rE_eLi, ↓rE_eLj, ↓rE_eLa, ↓rE_eU, ↓rE_eB, ↓rE_eG, ↓rE_eIF, ↓rE_eAI, ↓rE_eAX, ↓rE_eAJ, ↓rE_eAR, ↓rE_eLen, ↓rE_eSI, ↓rE_eC, ↓rE_eCall, ↓rE_eNew, ↓rE_eNewA, ↓rE_eInst, ↓rC_cI, ↓rC_cZ0, ↓rC_cN, ↓rC_cNot, ↓rC_cAnd, ↓rC_cOr, ↓rA_aN, ↓rA_aC, ↓rS_sP, ↓rS_sUF, ↓rS_sAI, ↓rS_sAJ, ↓rS_sAR, ↓rS_sUA, ↓rS_sCall, ↓rS_sObj, ↓rS_sSi, ↓rS_sSa, ↓rS_sSj, ↓rS_sInc, ↓rS_sSkip, ↓rS_sSeq, ↓rS_sIf, ↓rS_sRetI, ↓rS_sRetJ, ↓rS_sRetA, ↓rS_sRetV, ↓rS_sSw, ↓rD_meth, ↓rD_on, ↓kR_ref, ↓kI_int, ↓kJ_long, ↓kN_null, ↓kN_ref, ↓kN_rf, ↓kQ_ref, ↓kQ_null, ↓kQ_rf, o1_i, o1ij_i, o1ji_i, o2_i, o2d_i, o2j_i, o2ji_i, o2c_i, fv_0, fv_1, fv_2, fv_3, pf_0, pf_2, pf_3, pf_4, rf_s, rf_n, is_self, ge_0, ge_s, ge_n, gd_s, gd_n, se_0, se_s, ag_0, ex_n, ex_i, ex_r, ex_0, ex_j, ex_q, ap_c, ap_n, List.append_nil, ln_c, ln_n, rp_0, rp_s, rt_0, rt_1, rt_20, rt_21, rt_2, rt_3, rt_4, rt_4n, rt_4q, nl_0, nl_1, nl_2, nl_3, nl_4, nl_5, nl_6, nl_7, nl_8, nl_9, nlB_i, nlB_r, nlB_n, nlB_f, nlB_q, ↓reduceIte, reduceCtorEq, Nat.reduceAdd, Nat.reduceSub, Nat.reduceEqDiff, Nat.reduceLeDiff, Nat.reduceBEq, ite_true, ite_false, dt_t, Bool.not_true, Bool.not_false, Bool.false_eq_true, Nat.le_refl, true_and, and_true, true_or, or_true, false_or, or_false, false_and, and_false, qEq, qNe, qLt, qGe, qGt, qLe, rD_of (h6.1 e), cbs_c, cbs_n]
    · have e1 : shL 1 = [12] := rfl
      have e2 : shX 1 x (pI σ q 0) (pI σ q 1) = x / (pI σ q 1 - pI σ q 0) := rfl
      rw [e1, e2]
      refine rD_un.trans ?_
      simp only [T_shares, rD_disp, hT, kTag_1, tb6, ↓rE_eK, ↓rE_eLi, ↓rE_eLj, ↓rE_eLa, ↓rE_eU, ↓rE_eB, ↓rE_eG, ↓rE_eIF, ↓rE_eAI, ↓rE_eAX, ↓rE_eAJ, ↓rE_eAR, ↓rE_eLen, ↓rE_eSI, ↓rE_eC, ↓rE_eCall, ↓rE_eNew, ↓rE_eNewA, ↓rE_eInst, ↓rC_cI, ↓rC_cZ0, ↓rC_cN, ↓rC_cNot, ↓rC_cAnd, ↓rC_cOr, ↓rA_aN, ↓rA_aC, ↓rS_sP, ↓rS_sUF, ↓rS_sAI, ↓rS_sAJ, ↓rS_sAR, ↓rS_sUA, ↓rS_sCall, ↓rS_sObj, ↓rS_sSi, ↓rS_sSa, ↓rS_sSj, ↓rS_sInc, ↓rS_sSkip, ↓rS_sSeq, ↓rS_sIf, ↓rS_sRetI, ↓rS_sRetJ, ↓rS_sRetA, ↓rS_sRetV, ↓rS_sSw, ↓rD_meth, ↓rD_on, ↓kR_ref, ↓kI_int, ↓kJ_long, ↓kN_null, ↓kN_ref, ↓kN_rf, ↓kQ_ref, ↓kQ_null, ↓kQ_rf, o1_i, o1ij_i, o1ji_i, o2_i, o2d_i, o2j_i, o2ji_i, o2c_i, fv_0, fv_1, fv_2, fv_3, pf_0, pf_2, pf_3, pf_4, rf_s, rf_n, is_self, ge_0, ge_s, ge_n, gd_s, gd_n, se_0, se_s, ag_0, ex_n, ex_i, ex_r, ex_0, ex_j, ex_q, ap_c, ap_n, List.append_nil, ln_c, ln_n, rp_0, rp_s, rt_0, rt_1, rt_20, rt_21, rt_2, rt_3, rt_4, rt_4n, rt_4q, nl_0, nl_1, nl_2, nl_3, nl_4, nl_5, nl_6, nl_7, nl_8, nl_9, nlB_i, nlB_r, nlB_n, nlB_f, nlB_q, ↓reduceIte, reduceCtorEq, Nat.reduceAdd, Nat.reduceSub, Nat.reduceEqDiff, Nat.reduceLeDiff, Nat.reduceBEq, ite_true, ite_false, dt_t, Bool.not_true, Bool.not_false, Bool.false_eq_true, Nat.le_refl, true_and, and_true, true_or, or_true, false_or, or_false, false_and, and_false, qEq, qNe, qLt, qGe, qGt, qLe, rD_of (h6.2 e), cbs_c, cbs_n]
  · refine ⟨fun e => ⟨0, ?_⟩, fun e => ?_⟩
    · have e1 : shB 2 = [12] := rfl
      rw [e1]
      refine rD_un.trans ?_
      simp only [T_shares, rD_disp, hT, kTag_2, tb6, ↓rE_eK, ↓rE_eLi, ↓rE_eLj, ↓rE_eLa, ↓rE_eU, ↓rE_eB, ↓rE_eG, ↓rE_eIF, ↓rE_eAI, ↓rE_eAX, ↓rE_eAJ, ↓rE_eAR, ↓rE_eLen, ↓rE_eSI, ↓rE_eC, ↓rE_eCall, ↓rE_eNew, ↓rE_eNewA, ↓rE_eInst, ↓rC_cI, ↓rC_cZ0, ↓rC_cN, ↓rC_cNot, ↓rC_cAnd, ↓rC_cOr, ↓rA_aN, ↓rA_aC, ↓rS_sP, ↓rS_sUF, ↓rS_sAI, ↓rS_sAJ, ↓rS_sAR, ↓rS_sUA, ↓rS_sCall, ↓rS_sObj, ↓rS_sSi, ↓rS_sSa, ↓rS_sSj, ↓rS_sInc, ↓rS_sSkip, ↓rS_sSeq, ↓rS_sIf, ↓rS_sRetI, ↓rS_sRetJ, ↓rS_sRetA, ↓rS_sRetV, ↓rS_sSw, ↓rD_meth, ↓rD_on, ↓kR_ref, ↓kI_int, ↓kJ_long, ↓kN_null, ↓kN_ref, ↓kN_rf, ↓kQ_ref, ↓kQ_null, ↓kQ_rf, o1_i, o1ij_i, o1ji_i, o2_i, o2d_i, o2j_i, o2ji_i, o2c_i, fv_0, fv_1, fv_2, fv_3, pf_0, pf_2, pf_3, pf_4, rf_s, rf_n, is_self, ge_0, ge_s, ge_n, gd_s, gd_n, se_0, se_s, ag_0, ex_n, ex_i, ex_r, ex_0, ex_j, ex_q, ap_c, ap_n, List.append_nil, ln_c, ln_n, rp_0, rp_s, rt_0, rt_1, rt_20, rt_21, rt_2, rt_3, rt_4, rt_4n, rt_4q, nl_0, nl_1, nl_2, nl_3, nl_4, nl_5, nl_6, nl_7, nl_8, nl_9, nlB_i, nlB_r, nlB_n, nlB_f, nlB_q, ↓reduceIte, reduceCtorEq, Nat.reduceAdd, Nat.reduceSub, Nat.reduceEqDiff, Nat.reduceLeDiff, Nat.reduceBEq, ite_true, ite_false, dt_t, Bool.not_true, Bool.not_false, Bool.false_eq_true, Nat.le_refl, true_and, and_true, true_or, or_true, false_or, or_false, false_and, and_false, qEq, qNe, qLt, qGe, qGt, qLe, rD_of (h6.1 e), cbs_c, cbs_n]
    · have e1 : shL 2 = [12] := rfl
      have e2 : shX 2 x (pI σ q 0) (pI σ q 1) = x / (pI σ q 1 - pI σ q 0) := rfl
      rw [e1, e2]
      refine rD_un.trans ?_
      simp only [T_shares, rD_disp, hT, kTag_2, tb6, ↓rE_eK, ↓rE_eLi, ↓rE_eLj, ↓rE_eLa, ↓rE_eU, ↓rE_eB, ↓rE_eG, ↓rE_eIF, ↓rE_eAI, ↓rE_eAX, ↓rE_eAJ, ↓rE_eAR, ↓rE_eLen, ↓rE_eSI, ↓rE_eC, ↓rE_eCall, ↓rE_eNew, ↓rE_eNewA, ↓rE_eInst, ↓rC_cI, ↓rC_cZ0, ↓rC_cN, ↓rC_cNot, ↓rC_cAnd, ↓rC_cOr, ↓rA_aN, ↓rA_aC, ↓rS_sP, ↓rS_sUF, ↓rS_sAI, ↓rS_sAJ, ↓rS_sAR, ↓rS_sUA, ↓rS_sCall, ↓rS_sObj, ↓rS_sSi, ↓rS_sSa, ↓rS_sSj, ↓rS_sInc, ↓rS_sSkip, ↓rS_sSeq, ↓rS_sIf, ↓rS_sRetI, ↓rS_sRetJ, ↓rS_sRetA, ↓rS_sRetV, ↓rS_sSw, ↓rD_meth, ↓rD_on, ↓kR_ref, ↓kI_int, ↓kJ_long, ↓kN_null, ↓kN_ref, ↓kN_rf, ↓kQ_ref, ↓kQ_null, ↓kQ_rf, o1_i, o1ij_i, o1ji_i, o2_i, o2d_i, o2j_i, o2ji_i, o2c_i, fv_0, fv_1, fv_2, fv_3, pf_0, pf_2, pf_3, pf_4, rf_s, rf_n, is_self, ge_0, ge_s, ge_n, gd_s, gd_n, se_0, se_s, ag_0, ex_n, ex_i, ex_r, ex_0, ex_j, ex_q, ap_c, ap_n, List.append_nil, ln_c, ln_n, rp_0, rp_s, rt_0, rt_1, rt_20, rt_21, rt_2, rt_3, rt_4, rt_4n, rt_4q, nl_0, nl_1, nl_2, nl_3, nl_4, nl_5, nl_6, nl_7, nl_8, nl_9, nlB_i, nlB_r, nlB_n, nlB_f, nlB_q, ↓reduceIte, reduceCtorEq, Nat.reduceAdd, Nat.reduceSub, Nat.reduceEqDiff, Nat.reduceLeDiff, Nat.reduceBEq, ite_true, ite_false, dt_t, Bool.not_true, Bool.not_false, Bool.false_eq_true, Nat.le_refl, true_and, and_true, true_or, or_true, false_or, or_false, false_and, and_false, qEq, qNe, qLt, qGe, qGt, qLe, rD_of (h6.2 e), cbs_c, cbs_n]
  · have hq' : pm_slp (pT (cb σ 50) q) = true := by rw [cb_T]; exact hq
    have h6' := c_shares6 (cb_CR h 50) hq' h66 (x + 2)
    rw [cb_q _ _ h66] at h6'
    refine ⟨fun e => ⟨(0 : Int32) ^^^ 1, ?_⟩, fun e => ?_⟩
    · have e1 : shB 3 = [50, 12] := rfl
      rw [e1]
      refine rD_un.trans ?_
      simp only [T_shares, rD_disp, hT, kTag_3, tb6, D_X4_shares, B_X4_shares, ↓rE_eK, ↓rE_eLi, ↓rE_eLj, ↓rE_eLa, ↓rE_eU, ↓rE_eB, ↓rE_eG, ↓rE_eIF, ↓rE_eAI, ↓rE_eAX, ↓rE_eAJ, ↓rE_eAR, ↓rE_eLen, ↓rE_eSI, ↓rE_eC, ↓rE_eCall, ↓rE_eNew, ↓rE_eNewA, ↓rE_eInst, ↓rC_cI, ↓rC_cZ0, ↓rC_cN, ↓rC_cNot, ↓rC_cAnd, ↓rC_cOr, ↓rA_aN, ↓rA_aC, ↓rS_sP, ↓rS_sUF, ↓rS_sAI, ↓rS_sAJ, ↓rS_sAR, ↓rS_sUA, ↓rS_sCall, ↓rS_sObj, ↓rS_sSi, ↓rS_sSa, ↓rS_sSj, ↓rS_sInc, ↓rS_sSkip, ↓rS_sSeq, ↓rS_sIf, ↓rS_sRetI, ↓rS_sRetJ, ↓rS_sRetA, ↓rS_sRetV, ↓rS_sSw, ↓rD_meth, ↓rD_on, ↓kR_ref, ↓kI_int, ↓kJ_long, ↓kN_null, ↓kN_ref, ↓kN_rf, ↓kQ_ref, ↓kQ_null, ↓kQ_rf, o1_i, o1ij_i, o1ji_i, o2_i, o2d_i, o2j_i, o2ji_i, o2c_i, fv_0, fv_1, fv_2, fv_3, pf_0, pf_2, pf_3, pf_4, rf_s, rf_n, is_self, ge_0, ge_s, ge_n, gd_s, gd_n, se_0, se_s, ag_0, ex_n, ex_i, ex_r, ex_0, ex_j, ex_q, ap_c, ap_n, List.append_nil, ln_c, ln_n, rp_0, rp_s, rt_0, rt_1, rt_20, rt_21, rt_2, rt_3, rt_4, rt_4n, rt_4q, nl_0, nl_1, nl_2, nl_3, nl_4, nl_5, nl_6, nl_7, nl_8, nl_9, nlB_i, nlB_r, nlB_n, nlB_f, nlB_q, ↓reduceIte, reduceCtorEq, Nat.reduceAdd, Nat.reduceSub, Nat.reduceEqDiff, Nat.reduceLeDiff, Nat.reduceBEq, ite_true, ite_false, dt_t, Bool.not_true, Bool.not_false, Bool.false_eq_true, Nat.le_refl, true_and, and_true, true_or, or_true, false_or, or_false, false_and, and_false, qEq, qNe, qLt, qGe, qGt, qLe, rD_tb1 (sT_29 hs), rD_of (c_begins h _), one_ne0, not_false_eq_true, hq', rD_of (h6'.1 e), cbs_c, cbs_n]
    · have e1 : shL 3 = [50, 12] := rfl
      have e2 : shX 3 x (pI σ q 0) (pI σ q 1) = ((x + 2) / (pI σ q 1 - pI σ q 0)) ^^^ 1 := rfl
      rw [e1, e2]
      refine rD_un.trans ?_
      simp only [T_shares, rD_disp, hT, kTag_3, tb6, D_X4_shares, B_X4_shares, ↓rE_eK, ↓rE_eLi, ↓rE_eLj, ↓rE_eLa, ↓rE_eU, ↓rE_eB, ↓rE_eG, ↓rE_eIF, ↓rE_eAI, ↓rE_eAX, ↓rE_eAJ, ↓rE_eAR, ↓rE_eLen, ↓rE_eSI, ↓rE_eC, ↓rE_eCall, ↓rE_eNew, ↓rE_eNewA, ↓rE_eInst, ↓rC_cI, ↓rC_cZ0, ↓rC_cN, ↓rC_cNot, ↓rC_cAnd, ↓rC_cOr, ↓rA_aN, ↓rA_aC, ↓rS_sP, ↓rS_sUF, ↓rS_sAI, ↓rS_sAJ, ↓rS_sAR, ↓rS_sUA, ↓rS_sCall, ↓rS_sObj, ↓rS_sSi, ↓rS_sSa, ↓rS_sSj, ↓rS_sInc, ↓rS_sSkip, ↓rS_sSeq, ↓rS_sIf, ↓rS_sRetI, ↓rS_sRetJ, ↓rS_sRetA, ↓rS_sRetV, ↓rS_sSw, ↓rD_meth, ↓rD_on, ↓kR_ref, ↓kI_int, ↓kJ_long, ↓kN_null, ↓kN_ref, ↓kN_rf, ↓kQ_ref, ↓kQ_null, ↓kQ_rf, o1_i, o1ij_i, o1ji_i, o2_i, o2d_i, o2j_i, o2ji_i, o2c_i, fv_0, fv_1, fv_2, fv_3, pf_0, pf_2, pf_3, pf_4, rf_s, rf_n, is_self, ge_0, ge_s, ge_n, gd_s, gd_n, se_0, se_s, ag_0, ex_n, ex_i, ex_r, ex_0, ex_j, ex_q, ap_c, ap_n, List.append_nil, ln_c, ln_n, rp_0, rp_s, rt_0, rt_1, rt_20, rt_21, rt_2, rt_3, rt_4, rt_4n, rt_4q, nl_0, nl_1, nl_2, nl_3, nl_4, nl_5, nl_6, nl_7, nl_8, nl_9, nlB_i, nlB_r, nlB_n, nlB_f, nlB_q, ↓reduceIte, reduceCtorEq, Nat.reduceAdd, Nat.reduceSub, Nat.reduceEqDiff, Nat.reduceLeDiff, Nat.reduceBEq, ite_true, ite_false, dt_t, Bool.not_true, Bool.not_false, Bool.false_eq_true, Nat.le_refl, true_and, and_true, true_or, or_true, false_or, or_false, false_and, and_false, qEq, qNe, qLt, qGe, qGt, qLe, rD_tb1 (sT_29 hs), rD_of (c_begins h _), one_ne0, not_false_eq_true, hq', rD_of (h6'.2 e), cbs_c, cbs_n]
  · refine ⟨fun e => ⟨0, ?_⟩, fun e => ?_⟩
    · have e1 : shB 4 = [12] := rfl
      rw [e1]
      refine rD_un.trans ?_
      simp only [T_shares, rD_disp, hT, kTag_4, tb6, ↓rE_eK, ↓rE_eLi, ↓rE_eLj, ↓rE_eLa, ↓rE_eU, ↓rE_eB, ↓rE_eG, ↓rE_eIF, ↓rE_eAI, ↓rE_eAX, ↓rE_eAJ, ↓rE_eAR, ↓rE_eLen, ↓rE_eSI, ↓rE_eC, ↓rE_eCall, ↓rE_eNew, ↓rE_eNewA, ↓rE_eInst, ↓rC_cI, ↓rC_cZ0, ↓rC_cN, ↓rC_cNot, ↓rC_cAnd, ↓rC_cOr, ↓rA_aN, ↓rA_aC, ↓rS_sP, ↓rS_sUF, ↓rS_sAI, ↓rS_sAJ, ↓rS_sAR, ↓rS_sUA, ↓rS_sCall, ↓rS_sObj, ↓rS_sSi, ↓rS_sSa, ↓rS_sSj, ↓rS_sInc, ↓rS_sSkip, ↓rS_sSeq, ↓rS_sIf, ↓rS_sRetI, ↓rS_sRetJ, ↓rS_sRetA, ↓rS_sRetV, ↓rS_sSw, ↓rD_meth, ↓rD_on, ↓kR_ref, ↓kI_int, ↓kJ_long, ↓kN_null, ↓kN_ref, ↓kN_rf, ↓kQ_ref, ↓kQ_null, ↓kQ_rf, o1_i, o1ij_i, o1ji_i, o2_i, o2d_i, o2j_i, o2ji_i, o2c_i, fv_0, fv_1, fv_2, fv_3, pf_0, pf_2, pf_3, pf_4, rf_s, rf_n, is_self, ge_0, ge_s, ge_n, gd_s, gd_n, se_0, se_s, ag_0, ex_n, ex_i, ex_r, ex_0, ex_j, ex_q, ap_c, ap_n, List.append_nil, ln_c, ln_n, rp_0, rp_s, rt_0, rt_1, rt_20, rt_21, rt_2, rt_3, rt_4, rt_4n, rt_4q, nl_0, nl_1, nl_2, nl_3, nl_4, nl_5, nl_6, nl_7, nl_8, nl_9, nlB_i, nlB_r, nlB_n, nlB_f, nlB_q, ↓reduceIte, reduceCtorEq, Nat.reduceAdd, Nat.reduceSub, Nat.reduceEqDiff, Nat.reduceLeDiff, Nat.reduceBEq, ite_true, ite_false, dt_t, Bool.not_true, Bool.not_false, Bool.false_eq_true, Nat.le_refl, true_and, and_true, true_or, or_true, false_or, or_false, false_and, and_false, qEq, qNe, qLt, qGe, qGt, qLe, rD_of (h6.1 e), cbs_c, cbs_n]
    · have e1 : shL 4 = [12] := rfl
      have e2 : shX 4 x (pI σ q 0) (pI σ q 1) = x / (pI σ q 1 - pI σ q 0) := rfl
      rw [e1, e2]
      refine rD_un.trans ?_
      simp only [T_shares, rD_disp, hT, kTag_4, tb6, ↓rE_eK, ↓rE_eLi, ↓rE_eLj, ↓rE_eLa, ↓rE_eU, ↓rE_eB, ↓rE_eG, ↓rE_eIF, ↓rE_eAI, ↓rE_eAX, ↓rE_eAJ, ↓rE_eAR, ↓rE_eLen, ↓rE_eSI, ↓rE_eC, ↓rE_eCall, ↓rE_eNew, ↓rE_eNewA, ↓rE_eInst, ↓rC_cI, ↓rC_cZ0, ↓rC_cN, ↓rC_cNot, ↓rC_cAnd, ↓rC_cOr, ↓rA_aN, ↓rA_aC, ↓rS_sP, ↓rS_sUF, ↓rS_sAI, ↓rS_sAJ, ↓rS_sAR, ↓rS_sUA, ↓rS_sCall, ↓rS_sObj, ↓rS_sSi, ↓rS_sSa, ↓rS_sSj, ↓rS_sInc, ↓rS_sSkip, ↓rS_sSeq, ↓rS_sIf, ↓rS_sRetI, ↓rS_sRetJ, ↓rS_sRetA, ↓rS_sRetV, ↓rS_sSw, ↓rD_meth, ↓rD_on, ↓kR_ref, ↓kI_int, ↓kJ_long, ↓kN_null, ↓kN_ref, ↓kN_rf, ↓kQ_ref, ↓kQ_null, ↓kQ_rf, o1_i, o1ij_i, o1ji_i, o2_i, o2d_i, o2j_i, o2ji_i, o2c_i, fv_0, fv_1, fv_2, fv_3, pf_0, pf_2, pf_3, pf_4, rf_s, rf_n, is_self, ge_0, ge_s, ge_n, gd_s, gd_n, se_0, se_s, ag_0, ex_n, ex_i, ex_r, ex_0, ex_j, ex_q, ap_c, ap_n, List.append_nil, ln_c, ln_n, rp_0, rp_s, rt_0, rt_1, rt_20, rt_21, rt_2, rt_3, rt_4, rt_4n, rt_4q, nl_0, nl_1, nl_2, nl_3, nl_4, nl_5, nl_6, nl_7, nl_8, nl_9, nlB_i, nlB_r, nlB_n, nlB_f, nlB_q, ↓reduceIte, reduceCtorEq, Nat.reduceAdd, Nat.reduceSub, Nat.reduceEqDiff, Nat.reduceLeDiff, Nat.reduceBEq, ite_true, ite_false, dt_t, Bool.not_true, Bool.not_false, Bool.false_eq_true, Nat.le_refl, true_and, and_true, true_or, or_true, false_or, or_false, false_and, and_false, qEq, qNe, qLt, qGe, qGt, qLe, rD_of (h6.2 e), cbs_c, cbs_n]
  · have hq' : pm_slp (pT (cb σ 61) q) = true := by rw [cb_T]; exact hq
    have h6' := c_shares6 (cb_CR h 61) hq' h66 x
    rw [cb_q _ _ h66] at h6'
    have hD : T_shares [.ref q, .ref 29, .int x] σ = D_X9_shares [.ref q, .ref 29, .int x] σ := by
      refine rD_un.trans ?_
      rw [rD_disp, hT]
      exact rD_un.symm
    rw [hD]
    refine ⟨fun e => ⟨0 + 0, ?_⟩, fun e => ?_⟩
    · have e1 : shB 5 = [61, 12] := rfl
      rw [e1]
      have hT9 : pT (bk (cb (cb σ 61) 12)) q = 9 := by rw [bk_T, cb_T, cb_T]; exact hT
      have hq9 : pm_slp (pT (bk (cb (cb σ 61) 12)) q) = true := by rw [bk_T, cb_T]; exact hq'
      have hsb : Sh (bk (cb (cb σ 61) 12)) := (cb_CR (cb_CR h 61) 12).1
      refine rD_un.trans ?_
      simp only [D_X9_shares, B_X9_shares, ↓rE_eK, ↓rE_eLi, ↓rE_eLj, ↓rE_eLa, ↓rE_eU, ↓rE_eB, ↓rE_eG, ↓rE_eIF, ↓rE_eAI, ↓rE_eAX, ↓rE_eAJ, ↓rE_eAR, ↓rE_eLen, ↓rE_eSI, ↓rE_eC, ↓rE_eCall, ↓rE_eNew, ↓rE_eNewA, ↓rE_eInst, ↓rC_cI, ↓rC_cZ0, ↓rC_cN, ↓rC_cNot, ↓rC_cAnd, ↓rC_cOr, ↓rA_aN, ↓rA_aC, ↓rS_sP, ↓rS_sUF, ↓rS_sAI, ↓rS_sAJ, ↓rS_sAR, ↓rS_sUA, ↓rS_sCall, ↓rS_sObj, ↓rS_sSi, ↓rS_sSa, ↓rS_sSj, ↓rS_sInc, ↓rS_sSkip, ↓rS_sSeq, ↓rS_sIf, ↓rS_sRetI, ↓rS_sRetJ, ↓rS_sRetA, ↓rS_sRetV, ↓rS_sSw, ↓rD_meth, ↓rD_on, ↓kR_ref, ↓kI_int, ↓kJ_long, ↓kN_null, ↓kN_ref, ↓kN_rf, ↓kQ_ref, ↓kQ_null, ↓kQ_rf, o1_i, o1ij_i, o1ji_i, o2_i, o2d_i, o2j_i, o2ji_i, o2c_i, fv_0, fv_1, fv_2, fv_3, pf_0, pf_2, pf_3, pf_4, rf_s, rf_n, is_self, ge_0, ge_s, ge_n, gd_s, gd_n, se_0, se_s, ag_0, ex_n, ex_i, ex_r, ex_0, ex_j, ex_q, ap_c, ap_n, List.append_nil, ln_c, ln_n, rp_0, rp_s, rt_0, rt_1, rt_20, rt_21, rt_2, rt_3, rt_4, rt_4n, rt_4q, nl_0, nl_1, nl_2, nl_3, nl_4, nl_5, nl_6, nl_7, nl_8, nl_9, nlB_i, nlB_r, nlB_n, nlB_f, nlB_q, ↓reduceIte, reduceCtorEq, Nat.reduceAdd, Nat.reduceSub, Nat.reduceEqDiff, Nat.reduceLeDiff, Nat.reduceBEq, ite_true, ite_false, dt_t, Bool.not_true, Bool.not_false, Bool.false_eq_true, Nat.le_refl, true_and, and_true, true_or, or_true, false_or, or_false, false_and, and_false, qEq, qNe, qLt, qGe, qGt, qLe, rD_tb1 (sT_29 hs), rD_of (c_begins h _), one_ne0, not_false_eq_true, hq', rD_of (h6'.1 e), hq9, rD_tb1 hT9, rD_of (c_sings_b hsb (bk_2 _) _), cbs_c, cbs_n]
    · have e1 : shL 5 = [61, 12, 10] := rfl
      have e2 : shX 5 x (pI σ q 0) (pI σ q 1) = x / (pI σ q 1 - pI σ q 0) + (pI σ q 1 + pI σ q 0) := rfl
      rw [e1, e2]
      have hT9 : pT (cb (cb σ 61) 12) q = 9 := by rw [cb_T, cb_T]; exact hT
      have hq9 : pm_slp (pT (cb (cb σ 61) 12) q) = true := by rw [cb_T]; exact hq'
      have hsg := c_sings6 (cb_CR (cb_CR h 61) 12) hq9 h66 (pI σ q 1)
      rw [cb_q _ _ h66, cb_q _ _ h66] at hsg
      refine rD_un.trans ?_
      simp only [D_X9_shares, B_X9_shares, ↓rE_eK, ↓rE_eLi, ↓rE_eLj, ↓rE_eLa, ↓rE_eU, ↓rE_eB, ↓rE_eG, ↓rE_eIF, ↓rE_eAI, ↓rE_eAX, ↓rE_eAJ, ↓rE_eAR, ↓rE_eLen, ↓rE_eSI, ↓rE_eC, ↓rE_eCall, ↓rE_eNew, ↓rE_eNewA, ↓rE_eInst, ↓rC_cI, ↓rC_cZ0, ↓rC_cN, ↓rC_cNot, ↓rC_cAnd, ↓rC_cOr, ↓rA_aN, ↓rA_aC, ↓rS_sP, ↓rS_sUF, ↓rS_sAI, ↓rS_sAJ, ↓rS_sAR, ↓rS_sUA, ↓rS_sCall, ↓rS_sObj, ↓rS_sSi, ↓rS_sSa, ↓rS_sSj, ↓rS_sInc, ↓rS_sSkip, ↓rS_sSeq, ↓rS_sIf, ↓rS_sRetI, ↓rS_sRetJ, ↓rS_sRetA, ↓rS_sRetV, ↓rS_sSw, ↓rD_meth, ↓rD_on, ↓kR_ref, ↓kI_int, ↓kJ_long, ↓kN_null, ↓kN_ref, ↓kN_rf, ↓kQ_ref, ↓kQ_null, ↓kQ_rf, o1_i, o1ij_i, o1ji_i, o2_i, o2d_i, o2j_i, o2ji_i, o2c_i, fv_0, fv_1, fv_2, fv_3, pf_0, pf_2, pf_3, pf_4, rf_s, rf_n, is_self, ge_0, ge_s, ge_n, gd_s, gd_n, se_0, se_s, ag_0, ex_n, ex_i, ex_r, ex_0, ex_j, ex_q, ap_c, ap_n, List.append_nil, ln_c, ln_n, rp_0, rp_s, rt_0, rt_1, rt_20, rt_21, rt_2, rt_3, rt_4, rt_4n, rt_4q, nl_0, nl_1, nl_2, nl_3, nl_4, nl_5, nl_6, nl_7, nl_8, nl_9, nlB_i, nlB_r, nlB_n, nlB_f, nlB_q, ↓reduceIte, reduceCtorEq, Nat.reduceAdd, Nat.reduceSub, Nat.reduceEqDiff, Nat.reduceLeDiff, Nat.reduceBEq, ite_true, ite_false, dt_t, Bool.not_true, Bool.not_false, Bool.false_eq_true, Nat.le_refl, true_and, and_true, true_or, or_true, false_or, or_false, false_and, and_false, qEq, qNe, qLt, qGe, qGt, qLe, rD_tb1 (sT_29 hs), rD_of (c_begins h _), one_ne0, not_false_eq_true, hq', rD_of (h6'.2 e), hq9, cb_q _ _ h66, rD_tb1 hT9, rD_of hsg, cbs_c, cbs_n]
-- tells
abbrev T_tells : pm_D := pm_disp (tb6 D_X6_tells D_X2_tells D_X2_tells D_X6_tells D_X6_tells D_X9_tells)
theorem c_tells6 {σ : pm_H} (h : CR σ) {q k : Nat} (hk : k < 6) (hT : pT σ q = kTag k) (h66 : 66 ≤ q) (x : Int32) : D_X6_tells [.ref q, .ref 29, .int x] σ = some (some (.int (ndX k x (pI σ q 0) (pI σ q 1) ^^^ pI σ q 1)), cbs σ (13 :: ndL k)) := by
  have hs := h.1
  have hT' : pT (cb σ 13) q = kTag k := by rw [cb_T]; exact hT
  have hq' : pm_slp (pT (cb σ 13) q) = true := by rw [hT']; exact kTag_slp k
  have ht := t_needs (cb_CR h 13) hk hT' h66 x
  rw [cb_q _ _ h66] at ht
  have hq2 : pm_slp (pT (cbs (cb σ 13) (ndL k)) q) = true := by rw [cbs_T]; exact hq'
  have hg : pI (cbs (cb σ 13) (ndL k)) q 1 = pI σ q 1 := by rw [cbs_q _ _ h66, cb_q _ _ h66]
  refine rD_un.trans ?_
  simp only [D_X6_tells, B_X6_tells, ↓rE_eK, ↓rE_eLi, ↓rE_eLj, ↓rE_eLa, ↓rE_eU, ↓rE_eB, ↓rE_eG, ↓rE_eIF, ↓rE_eAI, ↓rE_eAX, ↓rE_eAJ, ↓rE_eAR, ↓rE_eLen, ↓rE_eSI, ↓rE_eC, ↓rE_eCall, ↓rE_eNew, ↓rE_eNewA, ↓rE_eInst, ↓rC_cI, ↓rC_cZ0, ↓rC_cN, ↓rC_cNot, ↓rC_cAnd, ↓rC_cOr, ↓rA_aN, ↓rA_aC, ↓rS_sP, ↓rS_sUF, ↓rS_sAI, ↓rS_sAJ, ↓rS_sAR, ↓rS_sUA, ↓rS_sCall, ↓rS_sObj, ↓rS_sSi, ↓rS_sSa, ↓rS_sSj, ↓rS_sInc, ↓rS_sSkip, ↓rS_sSeq, ↓rS_sIf, ↓rS_sRetI, ↓rS_sRetJ, ↓rS_sRetA, ↓rS_sRetV, ↓rS_sSw, ↓rD_meth, ↓rD_on, ↓kR_ref, ↓kI_int, ↓kJ_long, ↓kN_null, ↓kN_ref, ↓kN_rf, ↓kQ_ref, ↓kQ_null, ↓kQ_rf, o1_i, o1ij_i, o1ji_i, o2_i, o2d_i, o2j_i, o2ji_i, o2c_i, fv_0, fv_1, fv_2, fv_3, pf_0, pf_2, pf_3, pf_4, rf_s, rf_n, is_self, ge_0, ge_s, ge_n, gd_s, gd_n, se_0, se_s, ag_0, ex_n, ex_i, ex_r, ex_0, ex_j, ex_q, ap_c, ap_n, List.append_nil, ln_c, ln_n, rp_0, rp_s, rt_0, rt_1, rt_20, rt_21, rt_2, rt_3, rt_4, rt_4n, rt_4q, nl_0, nl_1, nl_2, nl_3, nl_4, nl_5, nl_6, nl_7, nl_8, nl_9, nlB_i, nlB_r, nlB_n, nlB_f, nlB_q, ↓reduceIte, reduceCtorEq, Nat.reduceAdd, Nat.reduceSub, Nat.reduceEqDiff, Nat.reduceLeDiff, Nat.reduceBEq, ite_true, ite_false, dt_t, Bool.not_true, Bool.not_false, Bool.false_eq_true, Nat.le_refl, true_and, and_true, true_or, or_true, false_or, or_false, false_and, and_false, qEq, qNe, qLt, qGe, qGt, qLe, rD_tb1 (sT_29 hs), rD_of (c_begins h _), one_ne0, not_false_eq_true, rD_of ht, hq2, hg, cbs_c]
theorem rD_tb2 {α : Type} {σ : pm_H} {KD : Option Value → pm_H → Option α} {c1 c2 : Nat} {D : pm_D} {b : Nat} {vs : List Value} (h : pT σ b = c1 ∨ pT σ b = c2) : rD (pm_disp (tb2 c1 c2 D D)) (.ref b :: vs) σ KD = rD D (.ref b :: vs) σ KD := by
  rw [rD_disp]
  unfold tb2
  rcases h with e | e
  · rw [e, if_pos rfl]
  · rw [e]
    by_cases c : c2 = c1
    · rw [if_pos c]
    · rw [if_neg c, if_pos rfl]
theorem c_tells2 {σ : pm_H} (h : CR σ) {q k : Nat} (hk : k = 2 ∨ k = 4) (hT : pT σ q = kTag k) (h66 : 66 ≤ q) (x : Int32) : (pI σ q 1 = pI σ q 0 → ∃ v, D_X2_tells [.ref q, .ref 29, .int x] σ = some (some (.int v), bk (cbs σ (31 :: 13 :: (ndL k ++ [12]))))) ∧ (¬ pI σ q 1 = pI σ q 0 → D_X2_tells [.ref q, .ref 29, .int x] σ = some (some (.int ((ndX k x (pI σ q 0) (pI σ q 1) ^^^ pI σ q 1) + pI σ q 0 / (pI σ q 1 - pI σ q 0))), cbs σ (31 :: 13 :: (ndL k ++ [12])))) := by
  have hs := h.1
  have hk6 : k < 6 := by omega
  have hT' : pT (cb σ 31) q = kTag k := by rw [cb_T]; exact hT
  have hq' : pm_slp (pT (cb σ 31) q) = true := by rw [hT']; exact kTag_slp k
  have ht := c_tells6 (cb_CR h 31) hk6 hT' h66 x
  rw [cb_q _ _ h66] at ht
  have hC2 := cbs_CR (13 :: ndL k) (cb_CR h 31)
  have hq2 : pm_slp (pT (cbs (cb σ 31) (13 :: ndL k)) q) = true := by rw [cbs_T]; exact hq'
  have hT2 : pT (cbs (cb σ 31) (13 :: ndL k)) q = 1 ∨ pT (cbs (cb σ 31) (13 :: ndL k)) q = 2 := by
    rw [cbs_T, hT']
    rcases hk with rfl | rfl
    · exact Or.inr rfl
    · exact Or.inl rfl
  have hg : pI (cbs (cb σ 31) (13 :: ndL k)) q = pI σ q := by rw [cbs_q _ _ h66, cb_q _ _ h66]
  have h6 := c_shares6 hC2 hq2 h66 (pI σ q 0)
  rw [hg] at h6
  have e : cbs σ (31 :: 13 :: (ndL k ++ [12])) = cb (cbs (cb σ 31) (13 :: ndL k)) 12 := by
    rw [cbs_c, show (13 : Int32) :: (ndL k ++ [12]) = (13 :: ndL k) ++ [12] from rfl, cbs_a, cbs_c, cbs_n]
  rw [e]
  refine ⟨fun c => ⟨(ndX k x (pI σ q 0) (pI σ q 1) ^^^ pI σ q 1) + 0, ?_⟩, fun c => ?_⟩
  · refine rD_un.trans ?_
    simp only [D_X2_tells, B_X2_tells, ↓rE_eK, ↓rE_eLi, ↓rE_eLj, ↓rE_eLa, ↓rE_eU, ↓rE_eB, ↓rE_eG, ↓rE_eIF, ↓rE_eAI, ↓rE_eAX, ↓rE_eAJ, ↓rE_eAR, ↓rE_eLen, ↓rE_eSI, ↓rE_eC, ↓rE_eCall, ↓rE_eNew, ↓rE_eNewA, ↓rE_eInst, ↓rC_cI, ↓rC_cZ0, ↓rC_cN, ↓rC_cNot, ↓rC_cAnd, ↓rC_cOr, ↓rA_aN, ↓rA_aC, ↓rS_sP, ↓rS_sUF, ↓rS_sAI, ↓rS_sAJ, ↓rS_sAR, ↓rS_sUA, ↓rS_sCall, ↓rS_sObj, ↓rS_sSi, ↓rS_sSa, ↓rS_sSj, ↓rS_sInc, ↓rS_sSkip, ↓rS_sSeq, ↓rS_sIf, ↓rS_sRetI, ↓rS_sRetJ, ↓rS_sRetA, ↓rS_sRetV, ↓rS_sSw, ↓rD_meth, ↓rD_on, ↓kR_ref, ↓kI_int, ↓kJ_long, ↓kN_null, ↓kN_ref, ↓kN_rf, ↓kQ_ref, ↓kQ_null, ↓kQ_rf, o1_i, o1ij_i, o1ji_i, o2_i, o2d_i, o2j_i, o2ji_i, o2c_i, fv_0, fv_1, fv_2, fv_3, pf_0, pf_2, pf_3, pf_4, rf_s, rf_n, is_self, ge_0, ge_s, ge_n, gd_s, gd_n, se_0, se_s, ag_0, ex_n, ex_i, ex_r, ex_0, ex_j, ex_q, ap_c, ap_n, List.append_nil, ln_c, ln_n, rp_0, rp_s, rt_0, rt_1, rt_20, rt_21, rt_2, rt_3, rt_4, rt_4n, rt_4q, nl_0, nl_1, nl_2, nl_3, nl_4, nl_5, nl_6, nl_7, nl_8, nl_9, nlB_i, nlB_r, nlB_n, nlB_f, nlB_q, ↓reduceIte, reduceCtorEq, Nat.reduceAdd, Nat.reduceSub, Nat.reduceEqDiff, Nat.reduceLeDiff, Nat.reduceBEq, ite_true, ite_false, dt_t, Bool.not_true, Bool.not_false, Bool.false_eq_true, Nat.le_refl, true_and, and_true, true_or, or_true, false_or, or_false, false_and, and_false, qEq, qNe, qLt, qGe, qGt, qLe, rD_tb1 (sT_29 hs), rD_of (c_begins h _), one_ne0, not_false_eq_true, hq', rD_of ht, hq2, hg, rD_tb2 hT2, rD_of (h6.1 c)]
  · refine rD_un.trans ?_
    simp only [D_X2_tells, B_X2_tells, ↓rE_eK, ↓rE_eLi, ↓rE_eLj, ↓rE_eLa, ↓rE_eU, ↓rE_eB, ↓rE_eG, ↓rE_eIF, ↓rE_eAI, ↓rE_eAX, ↓rE_eAJ, ↓rE_eAR, ↓rE_eLen, ↓rE_eSI, ↓rE_eC, ↓rE_eCall, ↓rE_eNew, ↓rE_eNewA, ↓rE_eInst, ↓rC_cI, ↓rC_cZ0, ↓rC_cN, ↓rC_cNot, ↓rC_cAnd, ↓rC_cOr, ↓rA_aN, ↓rA_aC, ↓rS_sP, ↓rS_sUF, ↓rS_sAI, ↓rS_sAJ, ↓rS_sAR, ↓rS_sUA, ↓rS_sCall, ↓rS_sObj, ↓rS_sSi, ↓rS_sSa, ↓rS_sSj, ↓rS_sInc, ↓rS_sSkip, ↓rS_sSeq, ↓rS_sIf, ↓rS_sRetI, ↓rS_sRetJ, ↓rS_sRetA, ↓rS_sRetV, ↓rS_sSw, ↓rD_meth, ↓rD_on, ↓kR_ref, ↓kI_int, ↓kJ_long, ↓kN_null, ↓kN_ref, ↓kN_rf, ↓kQ_ref, ↓kQ_null, ↓kQ_rf, o1_i, o1ij_i, o1ji_i, o2_i, o2d_i, o2j_i, o2ji_i, o2c_i, fv_0, fv_1, fv_2, fv_3, pf_0, pf_2, pf_3, pf_4, rf_s, rf_n, is_self, ge_0, ge_s, ge_n, gd_s, gd_n, se_0, se_s, ag_0, ex_n, ex_i, ex_r, ex_0, ex_j, ex_q, ap_c, ap_n, List.append_nil, ln_c, ln_n, rp_0, rp_s, rt_0, rt_1, rt_20, rt_21, rt_2, rt_3, rt_4, rt_4n, rt_4q, nl_0, nl_1, nl_2, nl_3, nl_4, nl_5, nl_6, nl_7, nl_8, nl_9, nlB_i, nlB_r, nlB_n, nlB_f, nlB_q, ↓reduceIte, reduceCtorEq, Nat.reduceAdd, Nat.reduceSub, Nat.reduceEqDiff, Nat.reduceLeDiff, Nat.reduceBEq, ite_true, ite_false, dt_t, Bool.not_true, Bool.not_false, Bool.false_eq_true, Nat.le_refl, true_and, and_true, true_or, or_true, false_or, or_false, false_and, and_false, qEq, qNe, qLt, qGe, qGt, qLe, rD_tb1 (sT_29 hs), rD_of (c_begins h _), one_ne0, not_false_eq_true, hq', rD_of ht, hq2, hg, rD_tb2 hT2, rD_of (h6.2 c)]
theorem c_tells9 {σ : pm_H} (h : CR σ) {q : Nat} (hT : pT σ q = kTag 5) (h66 : 66 ≤ q) (x : Int32) : D_X9_tells [.ref q, .ref 29, .int x] σ = some (some (.int ((ndX 5 x (pI σ q 0) (pI σ q 1) ^^^ pI σ q 1) * 2)), cbs σ (60 :: 13 :: ndL 5)) := by
  have hs := h.1
  have hT' : pT (cb σ 60) q = kTag 5 := by rw [cb_T]; exact hT
  have hq' : pm_slp (pT (cb σ 60) q) = true := by rw [hT']; exact kTag_slp 5
  have ht := c_tells6 (cb_CR h 60) (by decide) hT' h66 x
  rw [cb_q _ _ h66] at ht
  refine rD_un.trans ?_
  rw [cbs_c]
  simp only [D_X9_tells, B_X9_tells, ↓rE_eK, ↓rE_eLi, ↓rE_eLj, ↓rE_eLa, ↓rE_eU, ↓rE_eB, ↓rE_eG, ↓rE_eIF, ↓rE_eAI, ↓rE_eAX, ↓rE_eAJ, ↓rE_eAR, ↓rE_eLen, ↓rE_eSI, ↓rE_eC, ↓rE_eCall, ↓rE_eNew, ↓rE_eNewA, ↓rE_eInst, ↓rC_cI, ↓rC_cZ0, ↓rC_cN, ↓rC_cNot, ↓rC_cAnd, ↓rC_cOr, ↓rA_aN, ↓rA_aC, ↓rS_sP, ↓rS_sUF, ↓rS_sAI, ↓rS_sAJ, ↓rS_sAR, ↓rS_sUA, ↓rS_sCall, ↓rS_sObj, ↓rS_sSi, ↓rS_sSa, ↓rS_sSj, ↓rS_sInc, ↓rS_sSkip, ↓rS_sSeq, ↓rS_sIf, ↓rS_sRetI, ↓rS_sRetJ, ↓rS_sRetA, ↓rS_sRetV, ↓rS_sSw, ↓rD_meth, ↓rD_on, ↓kR_ref, ↓kI_int, ↓kJ_long, ↓kN_null, ↓kN_ref, ↓kN_rf, ↓kQ_ref, ↓kQ_null, ↓kQ_rf, o1_i, o1ij_i, o1ji_i, o2_i, o2d_i, o2j_i, o2ji_i, o2c_i, fv_0, fv_1, fv_2, fv_3, pf_0, pf_2, pf_3, pf_4, rf_s, rf_n, is_self, ge_0, ge_s, ge_n, gd_s, gd_n, se_0, se_s, ag_0, ex_n, ex_i, ex_r, ex_0, ex_j, ex_q, ap_c, ap_n, List.append_nil, ln_c, ln_n, rp_0, rp_s, rt_0, rt_1, rt_20, rt_21, rt_2, rt_3, rt_4, rt_4n, rt_4q, nl_0, nl_1, nl_2, nl_3, nl_4, nl_5, nl_6, nl_7, nl_8, nl_9, nlB_i, nlB_r, nlB_n, nlB_f, nlB_q, ↓reduceIte, reduceCtorEq, Nat.reduceAdd, Nat.reduceSub, Nat.reduceEqDiff, Nat.reduceLeDiff, Nat.reduceBEq, ite_true, ite_false, dt_t, Bool.not_true, Bool.not_false, Bool.false_eq_true, Nat.le_refl, true_and, and_true, true_or, or_true, false_or, or_false, false_and, and_false, qEq, qNe, qLt, qGe, qGt, qLe, rD_tb1 (sT_29 hs), rD_of (c_begins h _), one_ne0, not_false_eq_true, hq', rD_of ht]
/-- what an act of one of a kind answers, which bodies begin, whether it parts by 0 -/
def aX (a k : Nat) (x N G : Int32) : Int32 := if a = 0 then sgX k x N else if a = 1 then ndX k x N G else if a = 2 then shX k x N G else if k = 2 ∨ k = 4 then (ndX k x N G ^^^ G) + N / (G - N) else if k = 5 then (ndX k x N G ^^^ G) * 2 else ndX k x N G ^^^ G
def aL (a k : Nat) : List Int32 := if a = 0 then sgL k else if a = 1 then ndL k else if a = 2 then shL k else if k = 2 ∨ k = 4 then 31 :: 13 :: (ndL k ++ [12]) else if k = 5 then 60 :: 13 :: ndL k else 13 :: ndL k
def aLB (a k : Nat) : List Int32 := if a = 2 then shB k else 31 :: 13 :: (ndL k ++ [12])
def aB (a k : Nat) (N G : Int32) : Prop := G = N ∧ (a = 2 ∨ (a = 3 ∧ (k = 2 ∨ k = 4)))
def T_act (a : Nat) : pm_D := if a = 0 then T_sings else if a = 1 then T_needs else if a = 2 then T_shares else T_tells
theorem c_act {σ : pm_H} (h : CR σ) {q k a : Nat} (ha : a < 4) (hk : k < 6) (hT : pT σ q = kTag k) (h66 : 66 ≤ q) (x : Int32) : (aB a k (pI σ q 0) (pI σ q 1) → ∃ v, T_act a [.ref q, .ref 29, .int x] σ = some (some (.int v), bk (cbs σ (aLB a k)))) ∧ (¬ aB a k (pI σ q 0) (pI σ q 1) → T_act a [.ref q, .ref 29, .int x] σ = some (some (.int (aX a k x (pI σ q 0) (pI σ q 1))), cbs σ (aL a k))) := by
  rcases lt4 ha with rfl | rfl | rfl | rfl
  · exact ⟨fun q => absurd q.2 (by omega), fun _ => t_sings h hk hT h66 x⟩
  · exact ⟨fun q => absurd q.2 (by omega), fun _ => t_needs h hk hT h66 x⟩
  · exact ⟨fun c => (t_shares h hk hT h66 x).1 c.1, fun c => (t_shares h hk hT h66 x).2 (fun e => c ⟨e, Or.inl rfl⟩)⟩
  · by_cases c : k = 2 ∨ k = 4
    · have ht := c_tells2 h c hT h66 x
      have hD : T_act 3 [.ref q, .ref 29, .int x] σ = D_X2_tells [.ref q, .ref 29, .int x] σ := by
        rw [show T_act 3 = T_tells from rfl]
        refine rD_un.trans ?_
        rw [rD_disp, hT]
        rcases c with rfl | rfl
        · exact rD_un.symm
        · exact rD_un.symm
      have e1 : aL 3 k = 31 :: 13 :: (ndL k ++ [12]) := by unfold aL; rw [if_neg (by decide), if_neg (by decide), if_neg (by decide), if_pos c]
      have e2 : ∀ N G, aX 3 k x N G = (ndX k x N G ^^^ G) + N / (G - N) := fun N G => by unfold aX; rw [if_neg (by decide), if_neg (by decide), if_neg (by decide), if_pos c]
      rw [hD, e1, e2]
      exact ⟨fun c' => ht.1 c'.1, fun c' => ht.2 (fun e => c' ⟨e, Or.inr ⟨rfl, c⟩⟩)⟩
    · refine ⟨fun c' => absurd c'.2 (by omega), fun _ => ?_⟩
      by_cases c5 : k = 5
      · subst c5
        have hD : T_act 3 [.ref q, .ref 29, .int x] σ = D_X9_tells [.ref q, .ref 29, .int x] σ := by
          rw [show T_act 3 = T_tells from rfl]
          refine rD_un.trans ?_
          rw [rD_disp, hT]
          exact rD_un.symm
        rw [hD]; exact c_tells9 h hT h66 x
      · have hD : T_act 3 [.ref q, .ref 29, .int x] σ = D_X6_tells [.ref q, .ref 29, .int x] σ := by
          rw [show T_act 3 = T_tells from rfl]
          refine rD_un.trans ?_
          rw [rD_disp, hT]
          have : k = 0 ∨ k = 1 ∨ k = 3 := by omega
          rcases this with rfl | rfl | rfl
          · exact rD_un.symm
          · exact rD_un.symm
          · exact rD_un.symm
        have e1 : aL 3 k = 13 :: ndL k := by unfold aL; rw [if_neg (by decide), if_neg (by decide), if_neg (by decide), if_neg c, if_neg c5]
        have e2 : ∀ N G, aX 3 k x N G = ndX k x N G ^^^ G := fun N G => by unfold aX; rw [if_neg (by decide), if_neg (by decide), if_neg (by decide), if_neg c, if_neg c5]
        rw [hD, e1, e2]
        exact c_tells6 h hk hT h66 x
