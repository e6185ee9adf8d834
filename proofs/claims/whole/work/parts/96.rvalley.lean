/-! a valley told in a text: the whole, as the reference reads it. -/
variable {T : Nat} {c : Nat → Nat}
def vA (σ : pm_H) : pm_H := uI (uI (uI (uI σ 35 15 0) 35 18 1) 35 19 0) 35 20 0
theorem m_vread {σ1 : pm_H} {wd : Nat → Int32} (h : MB σ1 T c) (hw : vOk wd 0) (hw1 : wd 1 = 0) (hwd : ∀ k, k < 64 → wd (52 + k) = 0) : ∃ σb σc σd, sLoop (cI qLt (eLi 1) (eK (.int 64))) (sSeq (sAI (eG (is 12) 3 25 (eLa 0)) (eLi 1) (eK (.int 0))) (sInc 1 1)) [.ref 35, .int 0] (vA σ1) = some (.inl [.ref 35, .int (nI 64)], σb) ∧ pT σb 35 = 12 ∧ D_X12_advance [.ref 35] σb = some (none, σc) ∧ sLoop (cAnd (cZ0 qNe (eG (is 12) 1 18 (eLa 0))) (cZ0 qNe (eG (is 12) 0 13 (eLa 0)))) (sCall (pm_disp (tb1 12 D_X12_wantClause)) (aC (eLa 0) (aN))) [.ref 35, .int (nI 64)] σc = some (.inl [.ref 35, .int (nI 64)], σd) ∧ ((∃ q, prs T c 200 (skE T c 0) 0 wd = .inl q ∧ Bd σ1 q σd) ∨ ∃ p n wd', prs T c 200 (skE T c 0) 0 wd = .inr (n, wd') ∧ Gd σ1 T c p n wd' σd) := by
  have hT := h.2.1
  have hSa : Sh (vA σ1) := h.1
  have hl : ∃ r t, sLoop (cI qLt (eLi 1) (eK (.int 64))) (sSeq (sAI (eG (is 12) 3 25 (eLa 0)) (eLi 1) (eK (.int 0))) (sInc 1 1)) [.ref 35, .int 0] (vA σ1) = some (r, t) ∧ ((Pl (vA σ1) t ∧ ∀ a j, pI t a j = if a = 48 ∧ j < 64 then 0 else pI (vA σ1) a j) ∧ r = .inl [.ref 35, .int (nI 64)]) := by
    refine loop_gen (fun k env t => (Pl (vA σ1) t ∧ ∀ a j, pI t a j = if a = 48 ∧ j < k then 0 else pI (vA σ1) a j) ∧ env = [.ref 35, .int (nI k)]) _ 64 (by omega) ⟨⟨⟨rfl, rfl, rfl, rfl, rfl, rfl⟩, fun a j => by rw [if_neg (by omega)]⟩, by rw [nI_0]⟩ ?_
    rintro k env t hk ⟨⟨hP, hI⟩, rfl⟩
    have hSt := Pl_Sh hP hSa
    have hlt : (nI k < 64) = (k < 64) := nI_lt' (b := 64) (by omega) (by decide)
    by_cases e : k < 64
    · left
      refine ⟨[.ref 35, .int (nI (k + 1))], uI t 48 k 0, ?_, e, ⟨hP, fun a j => ?_⟩, rfl⟩
      · simp only [lpStep, ↓rE_eK, ↓rE_eLi, ↓rE_eLj, ↓rE_eLa, ↓rE_eU, ↓rE_eB, ↓rE_eG, ↓rE_eIF, ↓rE_eAI, ↓rE_eAX, ↓rE_eAJ, ↓rE_eAR, ↓rE_eLen, ↓rE_eSI, ↓rE_eC, ↓rE_eCall, ↓rE_eNew, ↓rE_eNewA, ↓rE_eInst, ↓rC_cI, ↓rC_cZ0, ↓rC_cN, ↓rC_cNot, ↓rC_cAnd, ↓rC_cOr, ↓rA_aN, ↓rA_aC, ↓rS_sP, ↓rS_sUF, ↓rS_sAI, ↓rS_sAJ, ↓rS_sAR, ↓rS_sUA, ↓rS_sCall, ↓rS_sObj, ↓rS_sSi, ↓rS_sSa, ↓rS_sSj, ↓rS_sInc, ↓rS_sSkip, ↓rS_sSeq, ↓rS_sIf, ↓rS_sRetI, ↓rS_sRetJ, ↓rS_sRetA, ↓rS_sRetV, ↓rS_sSw, ↓rD_meth, ↓rD_on, ↓kR_ref, ↓kI_int, ↓kJ_long, ↓kN_null, ↓kN_ref, ↓kN_rf, ↓kQ_ref, ↓kQ_null, ↓kQ_rf, o1_i, o1ij_i, o1ji_i, o2_i, o2d_i, o2j_i, o2ji_i, o2c_i, fv_0, fv_1, fv_2, fv_3, pf_0, pf_2, pf_3, pf_4, rf_s, rf_n, is_self, ge_0, ge_s, ge_n, gd_s, gd_n, se_0, se_s, ag_0, ex_n, ex_i, ex_r, ex_0, ex_j, ex_q, ap_c, ap_n, List.append_nil, ln_c, ln_n, rp_0, rp_s, rt_0, rt_1, rt_20, rt_21, rt_2, rt_3, rt_4, rt_4n, rt_4q, nl_0, nl_1, nl_2, nl_3, nl_4, nl_5, nl_6, nl_7, nl_8, nl_9, nlB_i, nlB_r, nlB_n, nlB_f, nlB_q, ↓reduceIte, reduceCtorEq, Nat.reduceAdd, Nat.reduceSub, Nat.reduceEqDiff, Nat.reduceLeDiff, Nat.reduceBEq, ite_true, ite_false, dt_t, Bool.not_true, Bool.not_false, Bool.false_eq_true, Nat.le_refl, true_and, and_true, true_or, or_true, false_or, or_false, false_and, and_false, qEq, qNe, qLt, qGe, qGt, qLe, sT_35 hSt, sT_36 hSt, sT_37 hSt, sT_38 hSt, sT_39 hSt, sT_40 hSt, sT_41 hSt, sT_42 hSt, sT_43 hSt, sT_44 hSt, sT_45 hSt, sT_46 hSt, sT_47 hSt, sT_48 hSt, sT_49 hSt, sT_50 hSt, sT_51 hSt, sT_52 hSt, sT_53 hSt, sT_54 hSt, sT_55 hSt, sT_56 hSt, sT_57 hSt, sT_58 hSt, sT_59 hSt, sT_60 hSt, sT_61 hSt, sT_62 hSt, sT_63 hSt, sT_64 hSt, sT_65 hSt, sL_36 hSt, sL_37 hSt, sL_38 hSt, sL_39 hSt, sL_40 hSt, sL_41 hSt, sL_42 hSt, sL_43 hSt, sL_44 hSt, sL_45 hSt, sL_46 hSt, sL_47 hSt, sL_48 hSt, sL_49 hSt, sL_50 hSt, sL_51 hSt, sL_52 hSt, sL_53 hSt, sL_54 hSt, sL_55 hSt, sL_56 hSt, sL_57 hSt, sL_58 hSt, sL_59 hSt, sL_60 hSt, sL_61 hSt, sL_62 hSt, sL_63 hSt, sL_64 hSt, sL_65 hSt, sR_35_1 hSt, sR_35_2 hSt, sR_35_3 hSt, sR_35_4 hSt, sR_35_5 hSt, sR_35_6 hSt, sR_35_7 hSt, sR_35_11 hSt, sR_35_21 hSt, sR_35_22 hSt, sR_35_23 hSt, sR_35_24 hSt, sR_35_25 hSt, sR_35_26 hSt, sR_35_27 hSt, sR_35_28 hSt, sR_35_29 hSt, sR_35_30 hSt, sR_35_31 hSt, sR_35_32 hSt, sR_35_35 hSt, sR_35_37 hSt, sR_35_38 hSt, sR_35_39 hSt, sR_35_40 hSt, sR_35_41 hSt, sR_35_42 hSt, sR_35_46 hSt, sR_35_50 hSt, sR_35_52 hSt, hlt, e, ib_nI (show k < 64 by omega) (by decide), nI_cl (show k < 2147483648 by omega), nI_1]
      · rw [pI_uI, hI]
        by_cases q : a = 48 ∧ j = k
        · rw [if_pos q, if_pos (by omega)]
        · rw [if_neg q]
          by_cases q2 : a = 48 ∧ j < k
          · rw [if_pos q2, if_pos (by omega)]
          · rw [if_neg q2, if_neg (by omega)]
    · right
      have : k = 64 := by omega
      subst this
      refine ⟨_, _, ?_, ⟨hP, hI⟩, rfl⟩
      simp only [lpStep, ↓rE_eK, ↓rE_eLi, ↓rE_eLj, ↓rE_eLa, ↓rE_eU, ↓rE_eB, ↓rE_eG, ↓rE_eIF, ↓rE_eAI, ↓rE_eAX, ↓rE_eAJ, ↓rE_eAR, ↓rE_eLen, ↓rE_eSI, ↓rE_eC, ↓rE_eCall, ↓rE_eNew, ↓rE_eNewA, ↓rE_eInst, ↓rC_cI, ↓rC_cZ0, ↓rC_cN, ↓rC_cNot, ↓rC_cAnd, ↓rC_cOr, ↓rA_aN, ↓rA_aC, ↓rS_sP, ↓rS_sUF, ↓rS_sAI, ↓rS_sAJ, ↓rS_sAR, ↓rS_sUA, ↓rS_sCall, ↓rS_sObj, ↓rS_sSi, ↓rS_sSa, ↓rS_sSj, ↓rS_sInc, ↓rS_sSkip, ↓rS_sSeq, ↓rS_sIf, ↓rS_sRetI, ↓rS_sRetJ, ↓rS_sRetA, ↓rS_sRetV, ↓rS_sSw, ↓rD_meth, ↓rD_on, ↓kR_ref, ↓kI_int, ↓kJ_long, ↓kN_null, ↓kN_ref, ↓kN_rf, ↓kQ_ref, ↓kQ_null, ↓kQ_rf, o1_i, o1ij_i, o1ji_i, o2_i, o2d_i, o2j_i, o2ji_i, o2c_i, fv_0, fv_1, fv_2, fv_3, pf_0, pf_2, pf_3, pf_4, rf_s, rf_n, is_self, ge_0, ge_s, ge_n, gd_s, gd_n, se_0, se_s, ag_0, ex_n, ex_i, ex_r, ex_0, ex_j, ex_q, ap_c, ap_n, List.append_nil, ln_c, ln_n, rp_0, rp_s, rt_0, rt_1, rt_20, rt_21, rt_2, rt_3, rt_4, rt_4n, rt_4q, nl_0, nl_1, nl_2, nl_3, nl_4, nl_5, nl_6, nl_7, nl_8, nl_9, nlB_i, nlB_r, nlB_n, nlB_f, nlB_q, ↓reduceIte, reduceCtorEq, Nat.reduceAdd, Nat.reduceSub, Nat.reduceEqDiff, Nat.reduceLeDiff, Nat.reduceBEq, ite_true, ite_false, dt_t, Bool.not_true, Bool.not_false, Bool.false_eq_true, Nat.le_refl, true_and, and_true, true_or, or_true, false_or, or_false, false_and, and_false, qEq, qNe, qLt, qGe, qGt, qLe, hlt, e]
  obtain ⟨r, σb, l0, ⟨hP, hI⟩, rfl⟩ := hl
  have hSb := Pl_Sh hP hSa
  have hsc : ∀ a j, ¬ sc2 a j → pI σb a j = pI σ1 a j := fun a j q => by
    unfold sc2 at q
    rw [hI, if_neg (by omega)]
    unfold vA
    rw [pI_uI, if_neg (by omega), pI_uI, if_neg (by omega), pI_uI, if_neg (by omega), pI_uI, if_neg (by omega)]
  have hF : Fs σ1 σb := ⟨hP.1, hP.2.1, hP.2.2.1, hP.2.2.2.1, hP.2.2.2.2.1, fun a _ => by rw [hP.2.2.2.2.2]; rfl, hsc⟩
  have hB : MB σb T c := ⟨hSb, hT, by rw [hsc 35 12 (by unfold sc2; omega)]; exact h.2.2.1, fun j hj => by rw [hsc 43 j (by unfold sc2; omega)]; exact h.2.2.2 j hj⟩
  have i15 : pI σb 35 15 = nI 0 := by rw [hI, if_neg (by omega)]; unfold vA; rw [pI_uI_nek _ _ _ _ (by decide), pI_uI_nek _ _ _ _ (by decide), pI_uI_nek _ _ _ _ (by decide), pI_uI_at]; rfl
  have i18 : pI σb 35 18 = 1 := by rw [hI, if_neg (by omega)]; unfold vA; rw [pI_uI_nek _ _ _ _ (by decide), pI_uI_nek _ _ _ _ (by decide), pI_uI_at]
  have i19 : pI σb 35 19 = nI 0 := by rw [hI, if_neg (by omega)]; unfold vA; rw [pI_uI_nek _ _ _ _ (by decide), pI_uI_at]; rfl
  have i20 : pI σb 35 20 = wd 1 := by rw [hI, if_neg (by omega), hw1]; unfold vA; rw [pI_uI_at]
  have hFR : FRr σb 0 wd := ⟨i19, i20, fun i hi => by omega, fun k hk => by rw [hI, if_pos ⟨rfl, hk⟩, hwd k hk]⟩
  obtain ⟨σc, d1, d2, d3⟩ := m_advance hB (Nat.zero_le _) i15
  have hG : Gd σ1 T c (skE T c 0) 0 wd σc := ⟨Mf_MB d2 hB, Fs_tr hF (Mf_Fs d2), d3, by rw [d2.2.2 35 18 (by omega)]; exact i18, Mf_FR d2 hFR, hw⟩
  have hl2 : ∃ r σd, sLoop (cAnd (cZ0 qNe (eG (is 12) 1 18 (eLa 0))) (cZ0 qNe (eG (is 12) 0 13 (eLa 0)))) (sCall (pm_disp (tb1 12 D_X12_wantClause)) (aC (eLa 0) (aN))) [.ref 35, .int (nI 64)] σc = some (r, σd) ∧ (((∃ q, prs T c 200 (skE T c 0) 0 wd = .inl q ∧ Bd σ1 q σd) ∨ ∃ p n wd', prs T c 200 (skE T c 0) 0 wd = .inr (n, wd') ∧ Gd σ1 T c p n wd' σd) ∧ r = .inl [.ref 35, .int (nI 64)]) := by
    refine loop_gen (fun i env t => ((∃ q, prs T c 200 (skE T c 0) 0 wd = .inl q ∧ Bd σ1 q t) ∨ ∃ p n wd', (i ≤ p ∧ prs T c (200 - i) p n wd' = prs T c 200 (skE T c 0) 0 wd) ∧ Gd σ1 T c p n wd' t) ∧ env = [.ref 35, .int (nI 64)]) _ 200 (by omega) ⟨Or.inr ⟨_, _, _, ⟨Nat.zero_le _, rfl⟩, hG⟩, rfl⟩ ?_
    rintro i env t hi ⟨⟨q, q1, q2⟩ | ⟨p, n, wd', ⟨q1, q2⟩, q3⟩, rfl⟩
    · right
      refine ⟨.inl [.ref 35, .int (nI 64)], t, ?_, Or.inl ⟨q, q1, q2⟩, rfl⟩
      simp only [lpStep, ↓rE_eK, ↓rE_eLi, ↓rE_eLj, ↓rE_eLa, ↓rE_eU, ↓rE_eB, ↓rE_eG, ↓rE_eIF, ↓rE_eAI, ↓rE_eAX, ↓rE_eAJ, ↓rE_eAR, ↓rE_eLen, ↓rE_eSI, ↓rE_eC, ↓rE_eCall, ↓rE_eNew, ↓rE_eNewA, ↓rE_eInst, ↓rC_cI, ↓rC_cZ0, ↓rC_cN, ↓rC_cNot, ↓rC_cAnd, ↓rC_cOr, ↓rA_aN, ↓rA_aC, ↓rS_sP, ↓rS_sUF, ↓rS_sAI, ↓rS_sAJ, ↓rS_sAR, ↓rS_sUA, ↓rS_sCall, ↓rS_sObj, ↓rS_sSi, ↓rS_sSa, ↓rS_sSj, ↓rS_sInc, ↓rS_sSkip, ↓rS_sSeq, ↓rS_sIf, ↓rS_sRetI, ↓rS_sRetJ, ↓rS_sRetA, ↓rS_sRetV, ↓rS_sSw, ↓rD_meth, ↓rD_on, ↓kR_ref, ↓kI_int, ↓kJ_long, ↓kN_null, ↓kN_ref, ↓kN_rf, ↓kQ_ref, ↓kQ_null, ↓kQ_rf, o1_i, o1ij_i, o1ji_i, o2_i, o2d_i, o2j_i, o2ji_i, o2c_i, fv_0, fv_1, fv_2, fv_3, pf_0, pf_2, pf_3, pf_4, rf_s, rf_n, is_self, ge_0, ge_s, ge_n, gd_s, gd_n, se_0, se_s, ag_0, ex_n, ex_i, ex_r, ex_0, ex_j, ex_q, ap_c, ap_n, List.append_nil, ln_c, ln_n, rp_0, rp_s, rt_0, rt_1, rt_20, rt_21, rt_2, rt_3, rt_4, rt_4n, rt_4q, nl_0, nl_1, nl_2, nl_3, nl_4, nl_5, nl_6, nl_7, nl_8, nl_9, nlB_i, nlB_r, nlB_n, nlB_f, nlB_q, ↓reduceIte, reduceCtorEq, Nat.reduceAdd, Nat.reduceSub, Nat.reduceEqDiff, Nat.reduceLeDiff, Nat.reduceBEq, ite_true, ite_false, dt_t, Bool.not_true, Bool.not_false, Bool.false_eq_true, Nat.le_refl, true_and, and_true, true_or, or_true, false_or, or_false, false_and, and_false, qEq, qNe, qLt, qGe, qGt, qLe, Bd_T q2, q2.2.2.1, not_true]
    · have hpT := q3.2.2.1.1.2
      have f13 := q3.2.2.1.2.1
      have hs := tS_lt (T := T) (c := c) p
      by_cases e : p < T
      · left
        have x1 : (nI (tS T c p) = 0) = False := (nI_inj (b := 0) (by omega) (by decide)).trans (eq_false (fun q => tS_0.mp q e))
        obtain ⟨t2, g1, g2⟩ := g_clause q3
        refine ⟨[.ref 35, .int (nI 64)], t2, ?_, by omega, ?_, rfl⟩
        · simp only [lpStep, ↓rE_eK, ↓rE_eLi, ↓rE_eLj, ↓rE_eLa, ↓rE_eU, ↓rE_eB, ↓rE_eG, ↓rE_eIF, ↓rE_eAI, ↓rE_eAX, ↓rE_eAJ, ↓rE_eAR, ↓rE_eLen, ↓rE_eSI, ↓rE_eC, ↓rE_eCall, ↓rE_eNew, ↓rE_eNewA, ↓rE_eInst, ↓rC_cI, ↓rC_cZ0, ↓rC_cN, ↓rC_cNot, ↓rC_cAnd, ↓rC_cOr, ↓rA_aN, ↓rA_aC, ↓rS_sP, ↓rS_sUF, ↓rS_sAI, ↓rS_sAJ, ↓rS_sAR, ↓rS_sUA, ↓rS_sCall, ↓rS_sObj, ↓rS_sSi, ↓rS_sSa, ↓rS_sSj, ↓rS_sInc, ↓rS_sSkip, ↓rS_sSeq, ↓rS_sIf, ↓rS_sRetI, ↓rS_sRetJ, ↓rS_sRetA, ↓rS_sRetV, ↓rS_sSw, ↓rD_meth, ↓rD_on, ↓kR_ref, ↓kI_int, ↓kJ_long, ↓kN_null, ↓kN_ref, ↓kN_rf, ↓kQ_ref, ↓kQ_null, ↓kQ_rf, o1_i, o1ij_i, o1ji_i, o2_i, o2d_i, o2j_i, o2ji_i, o2c_i, fv_0, fv_1, fv_2, fv_3, pf_0, pf_2, pf_3, pf_4, rf_s, rf_n, is_self, ge_0, ge_s, ge_n, gd_s, gd_n, se_0, se_s, ag_0, ex_n, ex_i, ex_r, ex_0, ex_j, ex_q, ap_c, ap_n, List.append_nil, ln_c, ln_n, rp_0, rp_s, rt_0, rt_1, rt_20, rt_21, rt_2, rt_3, rt_4, rt_4n, rt_4q, nl_0, nl_1, nl_2, nl_3, nl_4, nl_5, nl_6, nl_7, nl_8, nl_9, nlB_i, nlB_r, nlB_n, nlB_f, nlB_q, ↓reduceIte, reduceCtorEq, Nat.reduceAdd, Nat.reduceSub, Nat.reduceEqDiff, Nat.reduceLeDiff, Nat.reduceBEq, ite_true, ite_false, dt_t, Bool.not_true, Bool.not_false, Bool.false_eq_true, Nat.le_refl, true_and, and_true, true_or, or_true, false_or, or_false, false_and, and_false, qEq, qNe, qLt, qGe, qGt, qLe, Gd_T q3, q3.2.2.2.1, one_ne0, not_false_eq_true, f13, x1, rD_tb1 (Gd_T q3), rD_of g1]
        · cases ecl : clause T c p n wd' with
          | inl q =>
            left
            exact ⟨q, q2.symm.trans (pr_l (by omega) e ecl), g2.1 q ecl⟩
          | inr z =>
            right
            obtain ⟨p', n', wd2⟩ := z
            have := cl_pr hT ecl
            exact ⟨p', n', wd2, ⟨by omega, (pr_r (by omega) e ecl).symm.trans q2⟩, g2.2 p' n' wd2 ecl⟩
      · right
        have x1 : (nI (tS T c p) = 0) = True := (nI_inj (b := 0) (by omega) (by decide)).trans (eq_true (tS_0.mpr e))
        refine ⟨.inl [.ref 35, .int (nI 64)], t, ?_, Or.inr ⟨p, n, wd', q2.symm.trans (pr_e e), q3⟩, rfl⟩
        simp only [lpStep, ↓rE_eK, ↓rE_eLi, ↓rE_eLj, ↓rE_eLa, ↓rE_eU, ↓rE_eB, ↓rE_eG, ↓rE_eIF, ↓rE_eAI, ↓rE_eAX, ↓rE_eAJ, ↓rE_eAR, ↓rE_eLen, ↓rE_eSI, ↓rE_eC, ↓rE_eCall, ↓rE_eNew, ↓rE_eNewA, ↓rE_eInst, ↓rC_cI, ↓rC_cZ0, ↓rC_cN, ↓rC_cNot, ↓rC_cAnd, ↓rC_cOr, ↓rA_aN, ↓rA_aC, ↓rS_sP, ↓rS_sUF, ↓rS_sAI, ↓rS_sAJ, ↓rS_sAR, ↓rS_sUA, ↓rS_sCall, ↓rS_sObj, ↓rS_sSi, ↓rS_sSa, ↓rS_sSj, ↓rS_sInc, ↓rS_sSkip, ↓rS_sSeq, ↓rS_sIf, ↓rS_sRetI, ↓rS_sRetJ, ↓rS_sRetA, ↓rS_sRetV, ↓rS_sSw, ↓rD_meth, ↓rD_on, ↓kR_ref, ↓kI_int, ↓kJ_long, ↓kN_null, ↓kN_ref, ↓kN_rf, ↓kQ_ref, ↓kQ_null, ↓kQ_rf, o1_i, o1ij_i, o1ji_i, o2_i, o2d_i, o2j_i, o2ji_i, o2c_i, fv_0, fv_1, fv_2, fv_3, pf_0, pf_2, pf_3, pf_4, rf_s, rf_n, is_self, ge_0, ge_s, ge_n, gd_s, gd_n, se_0, se_s, ag_0, ex_n, ex_i, ex_r, ex_0, ex_j, ex_q, ap_c, ap_n, List.append_nil, ln_c, ln_n, rp_0, rp_s, rt_0, rt_1, rt_20, rt_21, rt_2, rt_3, rt_4, rt_4n, rt_4q, nl_0, nl_1, nl_2, nl_3, nl_4, nl_5, nl_6, nl_7, nl_8, nl_9, nlB_i, nlB_r, nlB_n, nlB_f, nlB_q, ↓reduceIte, reduceCtorEq, Nat.reduceAdd, Nat.reduceSub, Nat.reduceEqDiff, Nat.reduceLeDiff, Nat.reduceBEq, ite_true, ite_false, dt_t, Bool.not_true, Bool.not_false, Bool.false_eq_true, Nat.le_refl, true_and, and_true, true_or, or_true, false_or, or_false, false_and, and_false, qEq, qNe, qLt, qGe, qGt, qLe, Gd_T q3, q3.2.2.2.1, one_ne0, not_false_eq_true, f13, x1, not_true]
  obtain ⟨r, σd, l1, hR, rfl⟩ := hl2
  exact ⟨σb, σc, σd, l0, sT_35 hSb, d1, l1, hR⟩
theorem m_vbad {σ1 : pm_H} {wd : Nat → Int32} (h : MB σ1 T c) (hw : vOk wd 0) (hw1 : wd 1 = 0) (hwd : ∀ k, k < 64 → wd (52 + k) = 0) {q : Nat} (e : prs T c 200 (skE T c 0) 0 wd = .inl q) : ∃ σd, D_X12_valley [.ref 35] σ1 = some (some (.int (-100 - nI q)), uI σd 35 12 0) ∧ Fs σ1 σd := by
  obtain ⟨σb, σc, σd, l0, tb, d1, l1, hR⟩ := m_vread h hw hw1 hwd
  have t0 := sT_35 h.1
  rcases hR with ⟨q', r1, hB⟩ | ⟨p, n, wd', r1, -⟩
  · rw [r1] at e
    cases e
    refine ⟨σd, ?_, hB.2.1⟩
    refine rD_un.trans ?_
    have g18 : pI (uI σd 35 12 0) 35 18 = 0 := by rw [pI_uI_nek _ _ _ _ (by decide)]; exact hB.2.2.1
    have g14 : pI (uI σd 35 12 0) 35 14 = nI q := by rw [pI_uI_nek _ _ _ _ (by decide)]; exact hB.2.2.2
    have l0 : sLoop (cI qLt (eLi 1) (eK (.int 64))) (sSeq (sAI (eG (is 12) 3 25 (eLa 0)) (eLi 1) (eK (.int 0))) (sInc 1 1)) [.ref 35, .int 0] (uI (uI (uI (uI σ1 35 15 0) 35 18 1) 35 19 0) 35 20 0) = _ := l0
    simp only [D_X12_valley, B_X12_valley, nt_t, not_true, not_false_eq_true, pf_1 (Or.inr rfl), ↓rE_eK, ↓rE_eLi, ↓rE_eLj, ↓rE_eLa, ↓rE_eU, ↓rE_eB, ↓rE_eG, ↓rE_eIF, ↓rE_eAI, ↓rE_eAX, ↓rE_eAJ, ↓rE_eAR, ↓rE_eLen, ↓rE_eSI, ↓rE_eC, ↓rE_eCall, ↓rE_eNew, ↓rE_eNewA, ↓rE_eInst, ↓rC_cI, ↓rC_cZ0, ↓rC_cN, ↓rC_cNot, ↓rC_cAnd, ↓rC_cOr, ↓rA_aN, ↓rA_aC, ↓rS_sP, ↓rS_sUF, ↓rS_sAI, ↓rS_sAJ, ↓rS_sAR, ↓rS_sUA, ↓rS_sCall, ↓rS_sObj, ↓rS_sSi, ↓rS_sSa, ↓rS_sSj, ↓rS_sInc, ↓rS_sSkip, ↓rS_sSeq, ↓rS_sIf, ↓rS_sRetI, ↓rS_sRetJ, ↓rS_sRetA, ↓rS_sRetV, ↓rS_sSw, ↓rD_meth, ↓rD_on, ↓kR_ref, ↓kI_int, ↓kJ_long, ↓kN_null, ↓kN_ref, ↓kN_rf, ↓kQ_ref, ↓kQ_null, ↓kQ_rf, o1_i, o1ij_i, o1ji_i, o2_i, o2d_i, o2j_i, o2ji_i, o2c_i, fv_0, fv_1, fv_2, fv_3, pf_0, pf_2, pf_3, pf_4, rf_s, rf_n, is_self, ge_0, ge_s, ge_n, gd_s, gd_n, se_0, se_s, ag_0, ex_n, ex_i, ex_r, ex_0, ex_j, ex_q, ap_c, ap_n, List.append_nil, ln_c, ln_n, rp_0, rp_s, rt_0, rt_1, rt_20, rt_21, rt_2, rt_3, rt_4, rt_4n, rt_4q, nl_0, nl_1, nl_2, nl_3, nl_4, nl_5, nl_6, nl_7, nl_8, nl_9, nlB_i, nlB_r, nlB_n, nlB_f, nlB_q, ↓reduceIte, reduceCtorEq, Nat.reduceAdd, Nat.reduceSub, Nat.reduceEqDiff, Nat.reduceLeDiff, Nat.reduceBEq, ite_true, ite_false, dt_t, Bool.not_true, Bool.not_false, Bool.false_eq_true, Nat.le_refl, true_and, and_true, true_or, or_true, false_or, or_false, false_and, and_false, qEq, qNe, qLt, qGe, qGt, qLe, t0, pT_uI, rS_inl l0, rD_tb1 tb, rD_of d1, rS_inl l1, Bd_T hB, g18, g14]
  · rw [r1] at e; cases e
def CP (s : pm_H) (k : Nat) (t : pm_H) : Prop := Pl s t ∧ ∀ a j, pI t a j = if 36 ≤ a ∧ a ≤ 39 ∧ j < k then pI s (a + 8) j else if (a = 40 ∨ a = 41) ∧ j < k then 0 else pI s a j
theorem CP_s {s t : pm_H} {k : Nat} (h : CP s k t) : CP s (k + 1) (uI (uI (uI (uI (uI (uI t 36 k (pI s 44 k)) 37 k (pI s 45 k)) 38 k (pI s 46 k)) 39 k (pI s 47 k)) 40 k 0) 41 k 0) := by
  refine ⟨h.1, fun a j => ?_⟩
  rw [pI_uI, pI_uI, pI_uI, pI_uI, pI_uI, pI_uI, h.2 a j]
  by_cases hj : j = k
  · subst hj
    by_cases a1 : a = 41
    · subst a1; simp
    · by_cases a2 : a = 40
      · subst a2; simp
      · by_cases a3 : a = 39
        · subst a3; simp
        · by_cases a4 : a = 38
          · subst a4; simp
          · by_cases a5 : a = 37
            · subst a5; simp
            · by_cases a6 : a = 36
              · subst a6; simp
              · rw [if_neg (by omega), if_neg (by omega), if_neg (by omega), if_neg (by omega), if_neg (by omega), if_neg (by omega), if_neg (by omega), if_neg (by omega), if_neg (by omega), if_neg (by omega)]
  · rw [if_neg (by omega), if_neg (by omega), if_neg (by omega), if_neg (by omega), if_neg (by omega), if_neg (by omega)]
    by_cases b1 : 36 ≤ a ∧ a ≤ 39 ∧ j < k
    · rw [if_pos b1, if_pos (by omega)]
    · rw [if_neg b1, if_neg (show ¬ (36 ≤ a ∧ a ≤ 39 ∧ j < k + 1) by omega)]
      by_cases b2 : (a = 40 ∨ a = 41) ∧ j < k
      · rw [if_pos b2, if_pos (show (a = 40 ∨ a = 41) ∧ j < k + 1 by omega)]
      · rw [if_neg b2, if_neg (show ¬ ((a = 40 ∨ a = 41) ∧ j < k + 1) by omega)]
theorem m_vcp {s : pm_H} (hS : Sh s) : ∃ t, sLoop (cI qLt (eLi 1) (eK (.int 8))) (sSeq (sSeq (sAI (eG (is 12) 3 1 (eLa 0)) (eLi 1) (eAI (eG (is 12) 3 21 (eLa 0)) (eLi 1))) (sSeq (sAI (eG (is 12) 3 2 (eLa 0)) (eLi 1) (eAI (eG (is 12) 3 22 (eLa 0)) (eLi 1))) (sSeq (sAI (eG (is 12) 3 3 (eLa 0)) (eLi 1) (eAI (eG (is 12) 3 23 (eLa 0)) (eLi 1))) (sSeq (sAI (eG (is 12) 3 4 (eLa 0)) (eLi 1) (eAI (eG (is 12) 3 24 (eLa 0)) (eLi 1))) (sSeq (sAI (eG (is 12) 3 5 (eLa 0)) (eLi 1) (eK (.int 0))) (sAI (eG (is 12) 3 6 (eLa 0)) (eLi 1) (eK (.int 0)))))))) (sInc 1 1)) [.ref 35, .int 0] s = some (.inl [.ref 35, .int (nI 8)], t) ∧ CP s 8 t := by
  have hl : ∃ r t, sLoop (cI qLt (eLi 1) (eK (.int 8))) (sSeq (sSeq (sAI (eG (is 12) 3 1 (eLa 0)) (eLi 1) (eAI (eG (is 12) 3 21 (eLa 0)) (eLi 1))) (sSeq (sAI (eG (is 12) 3 2 (eLa 0)) (eLi 1) (eAI (eG (is 12) 3 22 (eLa 0)) (eLi 1))) (sSeq (sAI (eG (is 12) 3 3 (eLa 0)) (eLi 1) (eAI (eG (is 12) 3 23 (eLa 0)) (eLi 1))) (sSeq (sAI (eG (is 12) 3 4 (eLa 0)) (eLi 1) (eAI (eG (is 12) 3 24 (eLa 0)) (eLi 1))) (sSeq (sAI (eG (is 12) 3 5 (eLa 0)) (eLi 1) (eK (.int 0))) (sAI (eG (is 12) 3 6 (eLa 0)) (eLi 1) (eK (.int 0)))))))) (sInc 1 1)) [.ref 35, .int 0] s = some (r, t) ∧ (CP s 8 t ∧ r = .inl [.ref 35, .int (nI 8)]) := by
    refine loop_gen (fun k env t => CP s k t ∧ env = [.ref 35, .int (nI k)]) _ 8 (by omega) ⟨⟨⟨rfl, rfl, rfl, rfl, rfl, rfl⟩, fun a j => by rw [if_neg (by omega), if_neg (by omega)]⟩, by rw [nI_0]⟩ ?_
    rintro k env t hk ⟨hC, rfl⟩
    have hSt := Pl_Sh hC.1 hS
    have hlt : (nI k < 8) = (k < 8) := nI_lt' (b := 8) (by omega) (by decide)
    by_cases e : k < 8
    · left
      refine ⟨[.ref 35, .int (nI (k + 1))], _, ?_, e, CP_s hC, rfl⟩
      have g : ∀ a, 44 ≤ a → a ≤ 47 → pI t a k = pI s a k := fun a q1 q2 => by rw [hC.2, if_neg (by omega), if_neg (by omega)]
      have n1 : ∀ (s : pm_H) (i : Nat) (x : Int32), pI (uI s 36 i x) 45 = pI s 45 := fun s i x => pI_uI_ne _ _ _ (by decide)
      have n2 : ∀ (s : pm_H) (i : Nat) (x : Int32), pI (uI s 36 i x) 46 = pI s 46 := fun s i x => pI_uI_ne _ _ _ (by decide)
      have n3 : ∀ (s : pm_H) (i : Nat) (x : Int32), pI (uI s 36 i x) 47 = pI s 47 := fun s i x => pI_uI_ne _ _ _ (by decide)
      have n4 : ∀ (s : pm_H) (i : Nat) (x : Int32), pI (uI s 37 i x) 46 = pI s 46 := fun s i x => pI_uI_ne _ _ _ (by decide)
      have n5 : ∀ (s : pm_H) (i : Nat) (x : Int32), pI (uI s 37 i x) 47 = pI s 47 := fun s i x => pI_uI_ne _ _ _ (by decide)
      have n6 : ∀ (s : pm_H) (i : Nat) (x : Int32), pI (uI s 38 i x) 47 = pI s 47 := fun s i x => pI_uI_ne _ _ _ (by decide)
      simp only [lpStep, ↓rE_eK, ↓rE_eLi, ↓rE_eLj, ↓rE_eLa, ↓rE_eU, ↓rE_eB, ↓rE_eG, ↓rE_eIF, ↓rE_eAI, ↓rE_eAX, ↓rE_eAJ, ↓rE_eAR, ↓rE_eLen, ↓rE_eSI, ↓rE_eC, ↓rE_eCall, ↓rE_eNew, ↓rE_eNewA, ↓rE_eInst, ↓rC_cI, ↓rC_cZ0, ↓rC_cN, ↓rC_cNot, ↓rC_cAnd, ↓rC_cOr, ↓rA_aN, ↓rA_aC, ↓rS_sP, ↓rS_sUF, ↓rS_sAI, ↓rS_sAJ, ↓rS_sAR, ↓rS_sUA, ↓rS_sCall, ↓rS_sObj, ↓rS_sSi, ↓rS_sSa, ↓rS_sSj, ↓rS_sInc, ↓rS_sSkip, ↓rS_sSeq, ↓rS_sIf, ↓rS_sRetI, ↓rS_sRetJ, ↓rS_sRetA, ↓rS_sRetV, ↓rS_sSw, ↓rD_meth, ↓rD_on, ↓kR_ref, ↓kI_int, ↓kJ_long, ↓kN_null, ↓kN_ref, ↓kN_rf, ↓kQ_ref, ↓kQ_null, ↓kQ_rf, o1_i, o1ij_i, o1ji_i, o2_i, o2d_i, o2j_i, o2ji_i, o2c_i, fv_0, fv_1, fv_2, fv_3, pf_0, pf_2, pf_3, pf_4, rf_s, rf_n, is_self, ge_0, ge_s, ge_n, gd_s, gd_n, se_0, se_s, ag_0, ex_n, ex_i, ex_r, ex_0, ex_j, ex_q, ap_c, ap_n, List.append_nil, ln_c, ln_n, rp_0, rp_s, rt_0, rt_1, rt_20, rt_21, rt_2, rt_3, rt_4, rt_4n, rt_4q, nl_0, nl_1, nl_2, nl_3, nl_4, nl_5, nl_6, nl_7, nl_8, nl_9, nlB_i, nlB_r, nlB_n, nlB_f, nlB_q, ↓reduceIte, reduceCtorEq, Nat.reduceAdd, Nat.reduceSub, Nat.reduceEqDiff, Nat.reduceLeDiff, Nat.reduceBEq, ite_true, ite_false, dt_t, Bool.not_true, Bool.not_false, Bool.false_eq_true, Nat.le_refl, true_and, and_true, true_or, or_true, false_or, or_false, false_and, and_false, qEq, qNe, qLt, qGe, qGt, qLe, sT_35 hSt, sT_36 hSt, sT_37 hSt, sT_38 hSt, sT_39 hSt, sT_40 hSt, sT_41 hSt, sT_42 hSt, sT_43 hSt, sT_44 hSt, sT_45 hSt, sT_46 hSt, sT_47 hSt, sT_48 hSt, sT_49 hSt, sT_50 hSt, sT_51 hSt, sT_52 hSt, sT_53 hSt, sT_54 hSt, sT_55 hSt, sT_56 hSt, sT_57 hSt, sT_58 hSt, sT_59 hSt, sT_60 hSt, sT_61 hSt, sT_62 hSt, sT_63 hSt, sT_64 hSt, sT_65 hSt, sL_36 hSt, sL_37 hSt, sL_38 hSt, sL_39 hSt, sL_40 hSt, sL_41 hSt, sL_42 hSt, sL_43 hSt, sL_44 hSt, sL_45 hSt, sL_46 hSt, sL_47 hSt, sL_48 hSt, sL_49 hSt, sL_50 hSt, sL_51 hSt, sL_52 hSt, sL_53 hSt, sL_54 hSt, sL_55 hSt, sL_56 hSt, sL_57 hSt, sL_58 hSt, sL_59 hSt, sL_60 hSt, sL_61 hSt, sL_62 hSt, sL_63 hSt, sL_64 hSt, sL_65 hSt, sR_35_1 hSt, sR_35_2 hSt, sR_35_3 hSt, sR_35_4 hSt, sR_35_5 hSt, sR_35_6 hSt, sR_35_7 hSt, sR_35_11 hSt, sR_35_21 hSt, sR_35_22 hSt, sR_35_23 hSt, sR_35_24 hSt, sR_35_25 hSt, sR_35_26 hSt, sR_35_27 hSt, sR_35_28 hSt, sR_35_29 hSt, sR_35_30 hSt, sR_35_31 hSt, sR_35_32 hSt, sR_35_35 hSt, sR_35_37 hSt, sR_35_38 hSt, sR_35_39 hSt, sR_35_40 hSt, sR_35_41 hSt, sR_35_42 hSt, sR_35_46 hSt, sR_35_50 hSt, sR_35_52 hSt, hlt, e, ib_nI e (show (8 : Nat) ≤ 1000000 by decide), nI_cl (show k < 2147483648 by omega), pT_uI, pL_uI, pR_uI, n1, n2, n3, n4, n5, n6, g 44 (by decide) (by decide), g 45 (by decide) (by decide), g 46 (by decide) (by decide), g 47 (by decide) (by decide), nI_1]
    · right
      have : k = 8 := by omega
      subst this
      refine ⟨_, _, ?_, hC, rfl⟩
      simp only [lpStep, ↓rE_eK, ↓rE_eLi, ↓rE_eLj, ↓rE_eLa, ↓rE_eU, ↓rE_eB, ↓rE_eG, ↓rE_eIF, ↓rE_eAI, ↓rE_eAX, ↓rE_eAJ, ↓rE_eAR, ↓rE_eLen, ↓rE_eSI, ↓rE_eC, ↓rE_eCall, ↓rE_eNew, ↓rE_eNewA, ↓rE_eInst, ↓rC_cI, ↓rC_cZ0, ↓rC_cN, ↓rC_cNot, ↓rC_cAnd, ↓rC_cOr, ↓rA_aN, ↓rA_aC, ↓rS_sP, ↓rS_sUF, ↓rS_sAI, ↓rS_sAJ, ↓rS_sAR, ↓rS_sUA, ↓rS_sCall, ↓rS_sObj, ↓rS_sSi, ↓rS_sSa, ↓rS_sSj, ↓rS_sInc, ↓rS_sSkip, ↓rS_sSeq, ↓rS_sIf, ↓rS_sRetI, ↓rS_sRetJ, ↓rS_sRetA, ↓rS_sRetV, ↓rS_sSw, ↓rD_meth, ↓rD_on, ↓kR_ref, ↓kI_int, ↓kJ_long, ↓kN_null, ↓kN_ref, ↓kN_rf, ↓kQ_ref, ↓kQ_null, ↓kQ_rf, o1_i, o1ij_i, o1ji_i, o2_i, o2d_i, o2j_i, o2ji_i, o2c_i, fv_0, fv_1, fv_2, fv_3, pf_0, pf_2, pf_3, pf_4, rf_s, rf_n, is_self, ge_0, ge_s, ge_n, gd_s, gd_n, se_0, se_s, ag_0, ex_n, ex_i, ex_r, ex_0, ex_j, ex_q, ap_c, ap_n, List.append_nil, ln_c, ln_n, rp_0, rp_s, rt_0, rt_1, rt_20, rt_21, rt_2, rt_3, rt_4, rt_4n, rt_4q, nl_0, nl_1, nl_2, nl_3, nl_4, nl_5, nl_6, nl_7, nl_8, nl_9, nlB_i, nlB_r, nlB_n, nlB_f, nlB_q, ↓reduceIte, reduceCtorEq, Nat.reduceAdd, Nat.reduceSub, Nat.reduceEqDiff, Nat.reduceLeDiff, Nat.reduceBEq, ite_true, ite_false, dt_t, Bool.not_true, Bool.not_false, Bool.false_eq_true, Nat.le_refl, true_and, and_true, true_or, or_true, false_or, or_false, false_and, and_false, qEq, qNe, qLt, qGe, qGt, qLe, hlt, e]
  obtain ⟨r, t, l, hC, rfl⟩ := hl
  exact ⟨t, l, hC⟩
def CQ (s : pm_H) (k : Nat) (t : pm_H) : Prop := Pl s t ∧ ∀ a j, pI t a j = if a = 42 ∧ j < k then pI s 48 j else pI s a j
theorem m_vcq {s : pm_H} (hS : Sh s) : ∃ t, sLoop (cI qLt (eLi 1) (eK (.int 64))) (sSeq (sAI (eG (is 12) 3 7 (eLa 0)) (eLi 1) (eAI (eG (is 12) 3 25 (eLa 0)) (eLi 1))) (sInc 1 1)) [.ref 35, .int 0] s = some (.inl [.ref 35, .int (nI 64)], t) ∧ CQ s 64 t := by
  have hl : ∃ r t, sLoop (cI qLt (eLi 1) (eK (.int 64))) (sSeq (sAI (eG (is 12) 3 7 (eLa 0)) (eLi 1) (eAI (eG (is 12) 3 25 (eLa 0)) (eLi 1))) (sInc 1 1)) [.ref 35, .int 0] s = some (r, t) ∧ (CQ s 64 t ∧ r = .inl [.ref 35, .int (nI 64)]) := by
    refine loop_gen (fun k env t => CQ s k t ∧ env = [.ref 35, .int (nI k)]) _ 64 (by omega) ⟨⟨⟨rfl, rfl, rfl, rfl, rfl, rfl⟩, fun a j => by rw [if_neg (by omega)]⟩, by rw [nI_0]⟩ ?_
    rintro k env t hk ⟨hC, rfl⟩
    have hSt := Pl_Sh hC.1 hS
    have hlt : (nI k < 64) = (k < 64) := nI_lt' (b := 64) (by omega) (by decide)
    by_cases e : k < 64
    · left
      refine ⟨[.ref 35, .int (nI (k + 1))], uI t 42 k (pI s 48 k), ?_, e, ⟨hC.1, fun a j => ?_⟩, rfl⟩
      · have g : pI t 48 k = pI s 48 k := by rw [hC.2, if_neg (by omega)]
        simp only [lpStep, ↓rE_eK, ↓rE_eLi, ↓rE_eLj, ↓rE_eLa, ↓rE_eU, ↓rE_eB, ↓rE_eG, ↓rE_eIF, ↓rE_eAI, ↓rE_eAX, ↓rE_eAJ, ↓rE_eAR, ↓rE_eLen, ↓rE_eSI, ↓rE_eC, ↓rE_eCall, ↓rE_eNew, ↓rE_eNewA, ↓rE_eInst, ↓rC_cI, ↓rC_cZ0, ↓rC_cN, ↓rC_cNot, ↓rC_cAnd, ↓rC_cOr, ↓rA_aN, ↓rA_aC, ↓rS_sP, ↓rS_sUF, ↓rS_sAI, ↓rS_sAJ, ↓rS_sAR, ↓rS_sUA, ↓rS_sCall, ↓rS_sObj, ↓rS_sSi, ↓rS_sSa, ↓rS_sSj, ↓rS_sInc, ↓rS_sSkip, ↓rS_sSeq, ↓rS_sIf, ↓rS_sRetI, ↓rS_sRetJ, ↓rS_sRetA, ↓rS_sRetV, ↓rS_sSw, ↓rD_meth, ↓rD_on, ↓kR_ref, ↓kI_int, ↓kJ_long, ↓kN_null, ↓kN_ref, ↓kN_rf, ↓kQ_ref, ↓kQ_null, ↓kQ_rf, o1_i, o1ij_i, o1ji_i, o2_i, o2d_i, o2j_i, o2ji_i, o2c_i, fv_0, fv_1, fv_2, fv_3, pf_0, pf_2, pf_3, pf_4, rf_s, rf_n, is_self, ge_0, ge_s, ge_n, gd_s, gd_n, se_0, se_s, ag_0, ex_n, ex_i, ex_r, ex_0, ex_j, ex_q, ap_c, ap_n, List.append_nil, ln_c, ln_n, rp_0, rp_s, rt_0, rt_1, rt_20, rt_21, rt_2, rt_3, rt_4, rt_4n, rt_4q, nl_0, nl_1, nl_2, nl_3, nl_4, nl_5, nl_6, nl_7, nl_8, nl_9, nlB_i, nlB_r, nlB_n, nlB_f, nlB_q, ↓reduceIte, reduceCtorEq, Nat.reduceAdd, Nat.reduceSub, Nat.reduceEqDiff, Nat.reduceLeDiff, Nat.reduceBEq, ite_true, ite_false, dt_t, Bool.not_true, Bool.not_false, Bool.false_eq_true, Nat.le_refl, true_and, and_true, true_or, or_true, false_or, or_false, false_and, and_false, qEq, qNe, qLt, qGe, qGt, qLe, sT_35 hSt, sT_36 hSt, sT_37 hSt, sT_38 hSt, sT_39 hSt, sT_40 hSt, sT_41 hSt, sT_42 hSt, sT_43 hSt, sT_44 hSt, sT_45 hSt, sT_46 hSt, sT_47 hSt, sT_48 hSt, sT_49 hSt, sT_50 hSt, sT_51 hSt, sT_52 hSt, sT_53 hSt, sT_54 hSt, sT_55 hSt, sT_56 hSt, sT_57 hSt, sT_58 hSt, sT_59 hSt, sT_60 hSt, sT_61 hSt, sT_62 hSt, sT_63 hSt, sT_64 hSt, sT_65 hSt, sL_36 hSt, sL_37 hSt, sL_38 hSt, sL_39 hSt, sL_40 hSt, sL_41 hSt, sL_42 hSt, sL_43 hSt, sL_44 hSt, sL_45 hSt, sL_46 hSt, sL_47 hSt, sL_48 hSt, sL_49 hSt, sL_50 hSt, sL_51 hSt, sL_52 hSt, sL_53 hSt, sL_54 hSt, sL_55 hSt, sL_56 hSt, sL_57 hSt, sL_58 hSt, sL_59 hSt, sL_60 hSt, sL_61 hSt, sL_62 hSt, sL_63 hSt, sL_64 hSt, sL_65 hSt, sR_35_1 hSt, sR_35_2 hSt, sR_35_3 hSt, sR_35_4 hSt, sR_35_5 hSt, sR_35_6 hSt, sR_35_7 hSt, sR_35_11 hSt, sR_35_21 hSt, sR_35_22 hSt, sR_35_23 hSt, sR_35_24 hSt, sR_35_25 hSt, sR_35_26 hSt, sR_35_27 hSt, sR_35_28 hSt, sR_35_29 hSt, sR_35_30 hSt, sR_35_31 hSt, sR_35_32 hSt, sR_35_35 hSt, sR_35_37 hSt, sR_35_38 hSt, sR_35_39 hSt, sR_35_40 hSt, sR_35_41 hSt, sR_35_42 hSt, sR_35_46 hSt, sR_35_50 hSt, sR_35_52 hSt, hlt, e, ib_nI e (show (64 : Nat) ≤ 1000000 by decide), nI_cl (show k < 2147483648 by omega), g, nI_1]
      · rw [pI_uI, hC.2]
        by_cases q : a = 42 ∧ j = k
        · rw [if_pos q, if_pos (by omega), q.2]
        · rw [if_neg q]
          by_cases q2 : a = 42 ∧ j < k
          · rw [if_pos q2, if_pos (by omega)]
          · rw [if_neg q2, if_neg (by omega)]
    · right
      have : k = 64 := by omega
      subst this
      refine ⟨_, _, ?_, hC, rfl⟩
      simp only [lpStep, ↓rE_eK, ↓rE_eLi, ↓rE_eLj, ↓rE_eLa, ↓rE_eU, ↓rE_eB, ↓rE_eG, ↓rE_eIF, ↓rE_eAI, ↓rE_eAX, ↓rE_eAJ, ↓rE_eAR, ↓rE_eLen, ↓rE_eSI, ↓rE_eC, ↓rE_eCall, ↓rE_eNew, ↓rE_eNewA, ↓rE_eInst, ↓rC_cI, ↓rC_cZ0, ↓rC_cN, ↓rC_cNot, ↓rC_cAnd, ↓rC_cOr, ↓rA_aN, ↓rA_aC, ↓rS_sP, ↓rS_sUF, ↓rS_sAI, ↓rS_sAJ, ↓rS_sAR, ↓rS_sUA, ↓rS_sCall, ↓rS_sObj, ↓rS_sSi, ↓rS_sSa, ↓rS_sSj, ↓rS_sInc, ↓rS_sSkip, ↓rS_sSeq, ↓rS_sIf, ↓rS_sRetI, ↓rS_sRetJ, ↓rS_sRetA, ↓rS_sRetV, ↓rS_sSw, ↓rD_meth, ↓rD_on, ↓kR_ref, ↓kI_int, ↓kJ_long, ↓kN_null, ↓kN_ref, ↓kN_rf, ↓kQ_ref, ↓kQ_null, ↓kQ_rf, o1_i, o1ij_i, o1ji_i, o2_i, o2d_i, o2j_i, o2ji_i, o2c_i, fv_0, fv_1, fv_2, fv_3, pf_0, pf_2, pf_3, pf_4, rf_s, rf_n, is_self, ge_0, ge_s, ge_n, gd_s, gd_n, se_0, se_s, ag_0, ex_n, ex_i, ex_r, ex_0, ex_j, ex_q, ap_c, ap_n, List.append_nil, ln_c, ln_n, rp_0, rp_s, rt_0, rt_1, rt_20, rt_21, rt_2, rt_3, rt_4, rt_4n, rt_4q, nl_0, nl_1, nl_2, nl_3, nl_4, nl_5, nl_6, nl_7, nl_8, nl_9, nlB_i, nlB_r, nlB_n, nlB_f, nlB_q, ↓reduceIte, reduceCtorEq, Nat.reduceAdd, Nat.reduceSub, Nat.reduceEqDiff, Nat.reduceLeDiff, Nat.reduceBEq, ite_true, ite_false, dt_t, Bool.not_true, Bool.not_false, Bool.false_eq_true, Nat.le_refl, true_and, and_true, true_or, or_true, false_or, or_false, false_and, and_false, qEq, qNe, qLt, qGe, qGt, qLe, hlt, e]
  obtain ⟨r, t, l, hC, rfl⟩ := hl
  exact ⟨t, l, hC⟩
def vE (σd : pm_H) (n : Nat) (A : Int32) : pm_H := uI (uI (uI (uI σd 35 12 0) 35 0 (nI n)) 35 8 A) 35 9 0
theorem m_vgood {σ1 : pm_H} {wd : Nat → Int32} (h : MB σ1 T c) (hw : vOk wd 0) (hw1 : wd 1 = 0) (hwd : ∀ k, k < 64 → wd (52 + k) = 0) {n : Nat} {wd' : Nat → Int32} (e : prs T c 200 (skE T c 0) 0 wd = .inr (n, wd')) : ∃ p σd t, D_X12_valley [.ref 35] σ1 = some (some (.int (nI n)), t) ∧ Gd σ1 T c p n wd' σd ∧ Pl σd t ∧ ∀ a j, pI t a j = if a = 35 ∧ j = 36 then 0 else if a = 42 ∧ j < 64 then pI σd 48 j else if 36 ≤ a ∧ a ≤ 39 ∧ j < 8 then pI σd (a + 8) j else if (a = 40 ∨ a = 41) ∧ j < 8 then 0 else pI (vE σd n (wd' 1)) a j := by
  obtain ⟨σb, σc, σd, l0, tb, d1, l1, hR⟩ := m_vread h hw hw1 hwd
  have t0 := sT_35 h.1
  rcases hR with ⟨q', r1, -⟩ | ⟨p, n', wd2, r1, hG⟩
  · rw [r1] at e; cases e
  · rw [r1] at e
    cases e
    have hSe : Sh (vE σd n (wd' 1)) := hG.1.1
    obtain ⟨f, l2, hP⟩ := m_vcp hSe
    have hSf := Pl_Sh hP.1 hSe
    obtain ⟨g, l3, hQ⟩ := m_vcq hSf
    have hSg := Pl_Sh hQ.1 hSf
    have hv : ∀ a j, a ≠ 35 → pI (vE σd n (wd' 1)) a j = pI σd a j := fun a j q => by
      unfold vE
      rw [pI_uI_ne _ _ _ q, pI_uI_ne _ _ _ q, pI_uI_ne _ _ _ q, pI_uI_ne _ _ _ q]
    refine ⟨p, σd, uI g 35 36 0, ?_, hG, Pl_tr hP.1 hQ.1, fun a j => ?_⟩
    · refine rD_un.trans ?_
      have g18 : pI (uI σd 35 12 0) 35 18 = 1 := by rw [pI_uI_nek _ _ _ _ (by decide)]; exact hG.2.2.2.1
      have g19 : pI (uI σd 35 12 0) 35 19 = nI n := by rw [pI_uI_nek _ _ _ _ (by decide)]; exact hG.2.2.2.2.1.1
      have g20 : pI (uI (uI σd 35 12 0) 35 0 (nI n)) 35 20 = wd' 1 := by rw [pI_uI_nek _ _ _ _ (by decide), pI_uI_nek _ _ _ _ (by decide)]; exact hG.2.2.2.2.1.2.1
      have g0 : pI (uI g 35 36 0) 35 0 = nI n := by
        rw [pI_uI_nek _ _ _ _ (by decide), hQ.2, if_neg (by omega), hP.2, if_neg (by omega), if_neg (by omega)]
        unfold vE
        rw [pI_uI_nek _ _ _ _ (by decide), pI_uI_nek _ _ _ _ (by decide), pI_uI_at]
      have l0 : sLoop (cI qLt (eLi 1) (eK (.int 64))) (sSeq (sAI (eG (is 12) 3 25 (eLa 0)) (eLi 1) (eK (.int 0))) (sInc 1 1)) [.ref 35, .int 0] (uI (uI (uI (uI σ1 35 15 0) 35 18 1) 35 19 0) 35 20 0) = _ := l0
      have l2 : sLoop (cI qLt (eLi 1) (eK (.int 8))) (sSeq (sSeq (sAI (eG (is 12) 3 1 (eLa 0)) (eLi 1) (eAI (eG (is 12) 3 21 (eLa 0)) (eLi 1))) (sSeq (sAI (eG (is 12) 3 2 (eLa 0)) (eLi 1) (eAI (eG (is 12) 3 22 (eLa 0)) (eLi 1))) (sSeq (sAI (eG (is 12) 3 3 (eLa 0)) (eLi 1) (eAI (eG (is 12) 3 23 (eLa 0)) (eLi 1))) (sSeq (sAI (eG (is 12) 3 4 (eLa 0)) (eLi 1) (eAI (eG (is 12) 3 24 (eLa 0)) (eLi 1))) (sSeq (sAI (eG (is 12) 3 5 (eLa 0)) (eLi 1) (eK (.int 0))) (sAI (eG (is 12) 3 6 (eLa 0)) (eLi 1) (eK (.int 0)))))))) (sInc 1 1)) [.ref 35, .int 0] (uI (uI (uI (uI σd 35 12 0) 35 0 (nI n)) 35 8 (wd' 1)) 35 9 0) = _ := l2
      simp only [D_X12_valley, B_X12_valley, nt_t, not_true, not_false_eq_true, one_ne0, pf_1 (Or.inr rfl), ↓rE_eK, ↓rE_eLi, ↓rE_eLj, ↓rE_eLa, ↓rE_eU, ↓rE_eB, ↓rE_eG, ↓rE_eIF, ↓rE_eAI, ↓rE_eAX, ↓rE_eAJ, ↓rE_eAR, ↓rE_eLen, ↓rE_eSI, ↓rE_eC, ↓rE_eCall, ↓rE_eNew, ↓rE_eNewA, ↓rE_eInst, ↓rC_cI, ↓rC_cZ0, ↓rC_cN, ↓rC_cNot, ↓rC_cAnd, ↓rC_cOr, ↓rA_aN, ↓rA_aC, ↓rS_sP, ↓rS_sUF, ↓rS_sAI, ↓rS_sAJ, ↓rS_sAR, ↓rS_sUA, ↓rS_sCall, ↓rS_sObj, ↓rS_sSi, ↓rS_sSa, ↓rS_sSj, ↓rS_sInc, ↓rS_sSkip, ↓rS_sSeq, ↓rS_sIf, ↓rS_sRetI, ↓rS_sRetJ, ↓rS_sRetA, ↓rS_sRetV, ↓rS_sSw, ↓rD_meth, ↓rD_on, ↓kR_ref, ↓kI_int, ↓kJ_long, ↓kN_null, ↓kN_ref, ↓kN_rf, ↓kQ_ref, ↓kQ_null, ↓kQ_rf, o1_i, o1ij_i, o1ji_i, o2_i, o2d_i, o2j_i, o2ji_i, o2c_i, fv_0, fv_1, fv_2, fv_3, pf_0, pf_2, pf_3, pf_4, rf_s, rf_n, is_self, ge_0, ge_s, ge_n, gd_s, gd_n, se_0, se_s, ag_0, ex_n, ex_i, ex_r, ex_0, ex_j, ex_q, ap_c, ap_n, List.append_nil, ln_c, ln_n, rp_0, rp_s, rt_0, rt_1, rt_20, rt_21, rt_2, rt_3, rt_4, rt_4n, rt_4q, nl_0, nl_1, nl_2, nl_3, nl_4, nl_5, nl_6, nl_7, nl_8, nl_9, nlB_i, nlB_r, nlB_n, nlB_f, nlB_q, ↓reduceIte, reduceCtorEq, Nat.reduceAdd, Nat.reduceSub, Nat.reduceEqDiff, Nat.reduceLeDiff, Nat.reduceBEq, ite_true, ite_false, dt_t, Bool.not_true, Bool.not_false, Bool.false_eq_true, Nat.le_refl, true_and, and_true, true_or, or_true, false_or, or_false, false_and, and_false, qEq, qNe, qLt, qGe, qGt, qLe, t0, pT_uI, rS_inl l0, rD_tb1 tb, rD_of d1, rS_inl l1, Gd_T hG, g18, g19, g20, rS_inl l2, rS_inl l3, sT_35 hSg, g0]
    · rw [pI_uI, hQ.2]
      by_cases q1 : a = 35 ∧ j = 36
      · rw [if_pos q1, if_pos q1]
      · rw [if_neg q1, if_neg q1]
        by_cases q2 : a = 42 ∧ j < 64
        · rw [if_pos q2, if_pos q2, hP.2, if_neg (by omega), if_neg (by omega), hv _ _ (by decide)]
        · rw [if_neg q2, if_neg q2, hP.2]
          by_cases q3 : 36 ≤ a ∧ a ≤ 39 ∧ j < 8
          · rw [if_pos q3, if_pos q3, hv _ _ (by omega)]
          · rw [if_neg q3, if_neg q3]
