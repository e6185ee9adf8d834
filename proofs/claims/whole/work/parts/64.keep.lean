/-! keep, again. -/
def Pl (σ s : pm_H) : Prop := pT s = pT σ ∧ pL s = pL σ ∧ pR s = pR σ ∧ pN s = pN σ ∧ pS s = pS σ ∧ pJ s = pJ σ
theorem Pl_Sh {σ s : pm_H} (h : Pl σ s) (hS : Sh σ) : Sh s := ⟨by rw [h.1]; exact hS.1, by rw [h.2.1]; exact hS.2.1, by rw [h.2.2.1]; exact hS.2.2.1, by rw [h.2.2.2.1]; exact hS.2.2.2⟩
theorem Pl_tr {σ s t : pm_H} (h : Pl σ s) (h' : Pl s t) : Pl σ t := ⟨h'.1.trans h.1, h'.2.1.trans h.2.1, h'.2.2.1.trans h.2.2.1, h'.2.2.2.1.trans h.2.2.2.1, h'.2.2.2.2.1.trans h.2.2.2.2.1, h'.2.2.2.2.2.trans h.2.2.2.2.2⟩
theorem Pl_Gr {σ s : pm_H} (h : Pl σ s) (hI : ∀ a k, grc a k ∨ 66 ≤ a → pI s a k = pI σ a k) : Gr σ s := by
  obtain ⟨b1, b2, b3, b4, b5, b6⟩ := h
  exact ⟨⟨by rw [b4]; exact Nat.le_refl _, fun a _ => by rw [b1], fun a _ => by rw [b2]⟩, fun a _ _ => by rw [b6], fun a k q => hI a k (Or.inl q), fun a q1 q2 q3 => ⟨funext fun k => hI a k (Or.inr q1), by rw [b3]⟩, fun a k _ _ _ _ _ => by rw [b3]⟩
theorem m_moveT {σ : pm_H} (hS : Sh σ) {F len L m : Nat} (hF : F ≠ 64 ∧ F ≠ 35) (tF : pT σ F = 13) (lF : pL σ F = L) (hL : len ≤ L) (hL2 : L ≤ 200) (hm : m + len ≤ 120) (g : pI σ 35 51 = nI m) : ∃ s, D_X12_moveRow [.ref 35, .ref F, .int (nI len), .int 1] σ = some (none, s) ∧ Wr σ 64 m len 35 51 (pI σ F) s := by
  have hl : ∃ r s, sLoop (cI qLt (eLi 4) (eLi 2)) (sSeq (sSeq (sIf (cZ0 qNe (eLi 3)) (sAI (eG (is 12) 3 50 (eLa 0)) (eG (is 12) 0 51 (eLa 0)) (eAI (eLa 1) (eLi 4))) (sAI (eLa 1) (eLi 4) (eAI (eG (is 12) 3 50 (eLa 0)) (eG (is 12) 0 51 (eLa 0))))) (sUF (is 12) 0 51 f_iadd (eLa 0) (eK (.int 1)))) (sInc 4 1)) [.ref 35, .ref F, .int (nI len), .int 1, .int 0] σ = some (r, s) ∧ (Wr σ 64 m len 35 51 (pI σ F) s ∧ r = .inl [.ref 35, .ref F, .int (nI len), .int 1, .int (nI len)]) := by
    refine loop_gen (fun k env s => Wr σ 64 m k 35 51 (pI σ F) s ∧ env = [.ref 35, .ref F, .int (nI len), .int 1, .int (nI k)]) _ len (by omega) ⟨Wr_0 g, by rw [nI_0]⟩ ?_
    rintro k env s hk ⟨hW, rfl⟩
    have hss := Wr_Sh hW hS
    by_cases e : k < len
    · left
      have hlt : nI k < nI len := by rw [nI_lt' (by omega) (by omega)]; exact e
      have h51 : pI s 35 51 = nI (m + k) := by rw [hW.2.2.2.2.2.2, if_neg (by omega), if_pos ⟨rfl, rfl⟩]
      have hFk : pI s F k = pI σ F k := by rw [hW.2.2.2.2.2.2, if_neg (by omega), if_neg (by omega)]
      have b1 := ib_nI (show m + k < 120 by omega) (by decide)
      have c1 := nI_cl (show m + k < 2147483648 by omega)
      have b2 := ib_nI (show k < L by omega) (by omega)
      have c2 := nI_cl (show k < 2147483648 by omega)
      have tF' : pT s F = 13 := by rw [hW.1]; exact tF
      have lF' : pL s F = L := by rw [hW.2.1]; exact lF
      have h51' : pI (uI s 64 (m + k) (pI σ F k)) 35 51 = nI (m + k) := by rw [pI_uI_ne _ _ _ (by decide)]; exact h51
      refine ⟨[.ref 35, .ref F, .int (nI len), .int 1, .int (nI (k + 1))], uI (uI s 64 (m + k) (pI σ F k)) 35 51 (nI (m + k + 1)), ?_, e, Wr_s hW (by decide), rfl⟩
      simp only [lpStep, ↓rE_eK, ↓rE_eLi, ↓rE_eLj, ↓rE_eLa, ↓rE_eU, ↓rE_eB, ↓rE_eG, ↓rE_eIF, ↓rE_eAI, ↓rE_eAX, ↓rE_eAJ, ↓rE_eAR, ↓rE_eLen, ↓rE_eSI, ↓rE_eC, ↓rE_eCall, ↓rE_eNew, ↓rE_eNewA, ↓rE_eInst, ↓rC_cI, ↓rC_cZ0, ↓rC_cN, ↓rC_cNot, ↓rC_cAnd, ↓rC_cOr, ↓rA_aN, ↓rA_aC, ↓rS_sP, ↓rS_sUF, ↓rS_sAI, ↓rS_sAJ, ↓rS_sAR, ↓rS_sUA, ↓rS_sCall, ↓rS_sObj, ↓rS_sSi, ↓rS_sSa, ↓rS_sSj, ↓rS_sInc, ↓rS_sSkip, ↓rS_sSeq, ↓rS_sIf, ↓rS_sRetI, ↓rS_sRetJ, ↓rS_sRetA, ↓rS_sRetV, ↓rS_sSw, ↓rD_meth, ↓rD_on, ↓kR_ref, ↓kI_int, ↓kJ_long, ↓kN_null, ↓kN_ref, ↓kN_rf, ↓kQ_ref, ↓kQ_null, ↓kQ_rf, o1_i, o1ij_i, o1ji_i, o2_i, o2d_i, o2j_i, o2ji_i, o2c_i, fv_0, fv_1, fv_2, fv_3, pf_0, pf_2, pf_3, pf_4, rf_s, rf_n, is_self, ge_0, ge_s, ge_n, gd_s, gd_n, se_0, se_s, ag_0, ex_n, ex_i, ex_r, ex_0, ex_j, ex_q, ap_c, ap_n, List.append_nil, ln_c, ln_n, rp_0, rp_s, rt_0, rt_1, rt_20, rt_21, rt_2, rt_3, rt_4, rt_4n, rt_4q, nl_0, nl_1, nl_2, nl_3, nl_4, nl_5, nl_6, nl_7, nl_8, nl_9, nlB_i, nlB_r, nlB_n, nlB_f, nlB_q, ↓reduceIte, reduceCtorEq, Nat.reduceAdd, Nat.reduceSub, Nat.reduceEqDiff, Nat.reduceLeDiff, Nat.reduceBEq, ite_true, ite_false, dt_t, Bool.not_true, Bool.not_false, Bool.false_eq_true, Nat.le_refl, true_and, and_true, true_or, or_true, false_or, or_false, false_and, and_false, qEq, qNe, qLt, qGe, qGt, qLe, sT_35 hss, sT_36 hss, sT_37 hss, sT_38 hss, sT_39 hss, sT_40 hss, sT_41 hss, sT_42 hss, sT_43 hss, sT_44 hss, sT_45 hss, sT_46 hss, sT_47 hss, sT_48 hss, sT_49 hss, sT_50 hss, sT_51 hss, sT_52 hss, sT_53 hss, sT_54 hss, sT_55 hss, sT_56 hss, sT_57 hss, sT_58 hss, sT_59 hss, sT_60 hss, sT_61 hss, sT_62 hss, sT_63 hss, sT_64 hss, sT_65 hss, sL_36 hss, sL_37 hss, sL_38 hss, sL_39 hss, sL_40 hss, sL_41 hss, sL_42 hss, sL_43 hss, sL_44 hss, sL_45 hss, sL_46 hss, sL_47 hss, sL_48 hss, sL_49 hss, sL_50 hss, sL_51 hss, sL_52 hss, sL_53 hss, sL_54 hss, sL_55 hss, sL_56 hss, sL_57 hss, sL_58 hss, sL_59 hss, sL_60 hss, sL_61 hss, sL_62 hss, sL_63 hss, sL_64 hss, sL_65 hss, sR_35_1 hss, sR_35_2 hss, sR_35_3 hss, sR_35_4 hss, sR_35_5 hss, sR_35_6 hss, sR_35_7 hss, sR_35_11 hss, sR_35_21 hss, sR_35_22 hss, sR_35_23 hss, sR_35_24 hss, sR_35_25 hss, sR_35_26 hss, sR_35_27 hss, sR_35_28 hss, sR_35_29 hss, sR_35_30 hss, sR_35_31 hss, sR_35_32 hss, sR_35_35 hss, sR_35_37 hss, sR_35_38 hss, sR_35_39 hss, sR_35_40 hss, sR_35_41 hss, sR_35_42 hss, sR_35_46 hss, sR_35_50 hss, sR_35_52 hss, hlt, one_ne0, not_false_eq_true, h51, b1, c1, tF', lF', b2, c2, hFk, pT_uI, pR_uI, h51', nI_1]
    · right
      have : k = len := by omega
      subst this
      have hlt : ¬ nI k < nI k := by rw [nI_lt' (by omega) (by omega)]; omega
      refine ⟨_, _, ?_, hW, rfl⟩
      simp only [lpStep, ↓rE_eK, ↓rE_eLi, ↓rE_eLj, ↓rE_eLa, ↓rE_eU, ↓rE_eB, ↓rE_eG, ↓rE_eIF, ↓rE_eAI, ↓rE_eAX, ↓rE_eAJ, ↓rE_eAR, ↓rE_eLen, ↓rE_eSI, ↓rE_eC, ↓rE_eCall, ↓rE_eNew, ↓rE_eNewA, ↓rE_eInst, ↓rC_cI, ↓rC_cZ0, ↓rC_cN, ↓rC_cNot, ↓rC_cAnd, ↓rC_cOr, ↓rA_aN, ↓rA_aC, ↓rS_sP, ↓rS_sUF, ↓rS_sAI, ↓rS_sAJ, ↓rS_sAR, ↓rS_sUA, ↓rS_sCall, ↓rS_sObj, ↓rS_sSi, ↓rS_sSa, ↓rS_sSj, ↓rS_sInc, ↓rS_sSkip, ↓rS_sSeq, ↓rS_sIf, ↓rS_sRetI, ↓rS_sRetJ, ↓rS_sRetA, ↓rS_sRetV, ↓rS_sSw, ↓rD_meth, ↓rD_on, ↓kR_ref, ↓kI_int, ↓kJ_long, ↓kN_null, ↓kN_ref, ↓kN_rf, ↓kQ_ref, ↓kQ_null, ↓kQ_rf, o1_i, o1ij_i, o1ji_i, o2_i, o2d_i, o2j_i, o2ji_i, o2c_i, fv_0, fv_1, fv_2, fv_3, pf_0, pf_2, pf_3, pf_4, rf_s, rf_n, is_self, ge_0, ge_s, ge_n, gd_s, gd_n, se_0, se_s, ag_0, ex_n, ex_i, ex_r, ex_0, ex_j, ex_q, ap_c, ap_n, List.append_nil, ln_c, ln_n, rp_0, rp_s, rt_0, rt_1, rt_20, rt_21, rt_2, rt_3, rt_4, rt_4n, rt_4q, nl_0, nl_1, nl_2, nl_3, nl_4, nl_5, nl_6, nl_7, nl_8, nl_9, nlB_i, nlB_r, nlB_n, nlB_f, nlB_q, ↓reduceIte, reduceCtorEq, Nat.reduceAdd, Nat.reduceSub, Nat.reduceEqDiff, Nat.reduceLeDiff, Nat.reduceBEq, ite_true, ite_false, dt_t, Bool.not_true, Bool.not_false, Bool.false_eq_true, Nat.le_refl, true_and, and_true, true_or, or_true, false_or, or_false, false_and, and_false, qEq, qNe, qLt, qGe, qGt, qLe, hlt]
  obtain ⟨r, s, l1, hW, rfl⟩ := hl
  refine ⟨s, ?_, hW⟩
  refine rD_un.trans ?_
  simp only [D_X12_moveRow, B_X12_moveRow, ↓rE_eK, ↓rE_eLi, ↓rE_eLj, ↓rE_eLa, ↓rE_eU, ↓rE_eB, ↓rE_eG, ↓rE_eIF, ↓rE_eAI, ↓rE_eAX, ↓rE_eAJ, ↓rE_eAR, ↓rE_eLen, ↓rE_eSI, ↓rE_eC, ↓rE_eCall, ↓rE_eNew, ↓rE_eNewA, ↓rE_eInst, ↓rC_cI, ↓rC_cZ0, ↓rC_cN, ↓rC_cNot, ↓rC_cAnd, ↓rC_cOr, ↓rA_aN, ↓rA_aC, ↓rS_sP, ↓rS_sUF, ↓rS_sAI, ↓rS_sAJ, ↓rS_sAR, ↓rS_sUA, ↓rS_sCall, ↓rS_sObj, ↓rS_sSi, ↓rS_sSa, ↓rS_sSj, ↓rS_sInc, ↓rS_sSkip, ↓rS_sSeq, ↓rS_sIf, ↓rS_sRetI, ↓rS_sRetJ, ↓rS_sRetA, ↓rS_sRetV, ↓rS_sSw, ↓rD_meth, ↓rD_on, ↓kR_ref, ↓kI_int, ↓kJ_long, ↓kN_null, ↓kN_ref, ↓kN_rf, ↓kQ_ref, ↓kQ_null, ↓kQ_rf, o1_i, o1ij_i, o1ji_i, o2_i, o2d_i, o2j_i, o2ji_i, o2c_i, fv_0, fv_1, fv_2, fv_3, pf_0, pf_2, pf_3, pf_4, rf_s, rf_n, is_self, ge_0, ge_s, ge_n, gd_s, gd_n, se_0, se_s, ag_0, ex_n, ex_i, ex_r, ex_0, ex_j, ex_q, ap_c, ap_n, List.append_nil, ln_c, ln_n, rp_0, rp_s, rt_0, rt_1, rt_20, rt_21, rt_2, rt_3, rt_4, rt_4n, rt_4q, nl_0, nl_1, nl_2, nl_3, nl_4, nl_5, nl_6, nl_7, nl_8, nl_9, nlB_i, nlB_r, nlB_n, nlB_f, nlB_q, ↓reduceIte, reduceCtorEq, Nat.reduceAdd, Nat.reduceSub, Nat.reduceEqDiff, Nat.reduceLeDiff, Nat.reduceBEq, ite_true, ite_false, dt_t, Bool.not_true, Bool.not_false, Bool.false_eq_true, Nat.le_refl, true_and, and_true, true_or, or_true, false_or, or_false, false_and, and_false, qEq, qNe, qLt, qGe, qGt, qLe, rS_inl l1]
/-- a row is read back -/
def Wb (σ : pm_H) (F k m : Nat) (s : pm_H) : Prop := Pl σ s ∧ ∀ a j, pI s a j = if a = F ∧ j < k then pI σ 64 (m + j) else if a = 35 ∧ j = 51 then nI (m + k) else pI σ a j
theorem m_moveF {σ : pm_H} (hS : Sh σ) {F len L m : Nat} (hF : F ≠ 64 ∧ F ≠ 35) (tF : pT σ F = 13) (lF : pL σ F = L) (hL : len ≤ L) (hL2 : L ≤ 200) (hm : m + len ≤ 120) (g : pI σ 35 51 = nI m) : ∃ s, D_X12_moveRow [.ref 35, .ref F, .int (nI len), .int 0] σ = some (none, s) ∧ Wb σ F len m s := by
  have hl : ∃ r s, sLoop (cI qLt (eLi 4) (eLi 2)) (sSeq (sSeq (sIf (cZ0 qNe (eLi 3)) (sAI (eG (is 12) 3 50 (eLa 0)) (eG (is 12) 0 51 (eLa 0)) (eAI (eLa 1) (eLi 4))) (sAI (eLa 1) (eLi 4) (eAI (eG (is 12) 3 50 (eLa 0)) (eG (is 12) 0 51 (eLa 0))))) (sUF (is 12) 0 51 f_iadd (eLa 0) (eK (.int 1)))) (sInc 4 1)) [.ref 35, .ref F, .int (nI len), .int 0, .int 0] σ = some (r, s) ∧ (Wb σ F len m s ∧ r = .inl [.ref 35, .ref F, .int (nI len), .int 0, .int (nI len)]) := by
    refine loop_gen (fun k env s => Wb σ F k m s ∧ env = [.ref 35, .ref F, .int (nI len), .int 0, .int (nI k)]) _ len (by omega) ⟨⟨⟨rfl, rfl, rfl, rfl, rfl, rfl⟩, fun a j => ?_⟩, by rw [nI_0]⟩ ?_
    · rw [if_neg (by omega)]
      by_cases c : a = 35 ∧ j = 51
      · rw [if_pos c, c.1, c.2]; exact g
      · rw [if_neg c]
    rintro k env s hk ⟨⟨hP, hW⟩, rfl⟩
    have hss := Pl_Sh hP hS
    by_cases e : k < len
    · left
      have hlt : nI k < nI len := by rw [nI_lt' (by omega) (by omega)]; exact e
      have h51 : pI s 35 51 = nI (m + k) := by rw [hW, if_neg (by omega), if_pos ⟨rfl, rfl⟩]
      have h64 : pI s 64 (m + k) = pI σ 64 (m + k) := by rw [hW, if_neg (by omega), if_neg (by omega)]
      have b1 := ib_nI (show m + k < 120 by omega) (by decide)
      have c1 := nI_cl (show m + k < 2147483648 by omega)
      have b2 := ib_nI (show k < L by omega) (by omega)
      have c2 := nI_cl (show k < 2147483648 by omega)
      have tF' : pT s F = 13 := by rw [hP.1]; exact tF
      have lF' : pL s F = L := by rw [hP.2.1]; exact lF
      have h51' : pI (uI s F k (pI σ 64 (m + k))) 35 51 = nI (m + k) := by rw [pI_uI_ne _ _ _ (by omega)]; exact h51
      refine ⟨[.ref 35, .ref F, .int (nI len), .int 0, .int (nI (k + 1))], uI (uI s F k (pI σ 64 (m + k))) 35 51 (nI (m + k + 1)), ?_, e, ⟨hP, fun a j => ?_⟩, rfl⟩
      · simp only [lpStep, ↓rE_eK, ↓rE_eLi, ↓rE_eLj, ↓rE_eLa, ↓rE_eU, ↓rE_eB, ↓rE_eG, ↓rE_eIF, ↓rE_eAI, ↓rE_eAX, ↓rE_eAJ, ↓rE_eAR, ↓rE_eLen, ↓rE_eSI, ↓rE_eC, ↓rE_eCall, ↓rE_eNew, ↓rE_eNewA, ↓rE_eInst, ↓rC_cI, ↓rC_cZ0, ↓rC_cN, ↓rC_cNot, ↓rC_cAnd, ↓rC_cOr, ↓rA_aN, ↓rA_aC, ↓rS_sP, ↓rS_sUF, ↓rS_sAI, ↓rS_sAJ, ↓rS_sAR, ↓rS_sUA, ↓rS_sCall, ↓rS_sObj, ↓rS_sSi, ↓rS_sSa, ↓rS_sSj, ↓rS_sInc, ↓rS_sSkip, ↓rS_sSeq, ↓rS_sIf, ↓rS_sRetI, ↓rS_sRetJ, ↓rS_sRetA, ↓rS_sRetV, ↓rS_sSw, ↓rD_meth, ↓rD_on, ↓kR_ref, ↓kI_int, ↓kJ_long, ↓kN_null, ↓kN_ref, ↓kN_rf, ↓kQ_ref, ↓kQ_null, ↓kQ_rf, o1_i, o1ij_i, o1ji_i, o2_i, o2d_i, o2j_i, o2ji_i, o2c_i, fv_0, fv_1, fv_2, fv_3, pf_0, pf_2, pf_3, pf_4, rf_s, rf_n, is_self, ge_0, ge_s, ge_n, gd_s, gd_n, se_0, se_s, ag_0, ex_n, ex_i, ex_r, ex_0, ex_j, ex_q, ap_c, ap_n, List.append_nil, ln_c, ln_n, rp_0, rp_s, rt_0, rt_1, rt_20, rt_21, rt_2, rt_3, rt_4, rt_4n, rt_4q, nl_0, nl_1, nl_2, nl_3, nl_4, nl_5, nl_6, nl_7, nl_8, nl_9, nlB_i, nlB_r, nlB_n, nlB_f, nlB_q, ↓reduceIte, reduceCtorEq, Nat.reduceAdd, Nat.reduceSub, Nat.reduceEqDiff, Nat.reduceLeDiff, Nat.reduceBEq, ite_true, ite_false, dt_t, Bool.not_true, Bool.not_false, Bool.false_eq_true, Nat.le_refl, true_and, and_true, true_or, or_true, false_or, or_false, false_and, and_false, qEq, qNe, qLt, qGe, qGt, qLe, sT_35 hss, sT_36 hss, sT_37 hss, sT_38 hss, sT_39 hss, sT_40 hss, sT_41 hss, sT_42 hss, sT_43 hss, sT_44 hss, sT_45 hss, sT_46 hss, sT_47 hss, sT_48 hss, sT_49 hss, sT_50 hss, sT_51 hss, sT_52 hss, sT_53 hss, sT_54 hss, sT_55 hss, sT_56 hss, sT_57 hss, sT_58 hss, sT_59 hss, sT_60 hss, sT_61 hss, sT_62 hss, sT_63 hss, sT_64 hss, sT_65 hss, sL_36 hss, sL_37 hss, sL_38 hss, sL_39 hss, sL_40 hss, sL_41 hss, sL_42 hss, sL_43 hss, sL_44 hss, sL_45 hss, sL_46 hss, sL_47 hss, sL_48 hss, sL_49 hss, sL_50 hss, sL_51 hss, sL_52 hss, sL_53 hss, sL_54 hss, sL_55 hss, sL_56 hss, sL_57 hss, sL_58 hss, sL_59 hss, sL_60 hss, sL_61 hss, sL_62 hss, sL_63 hss, sL_64 hss, sL_65 hss, sR_35_1 hss, sR_35_2 hss, sR_35_3 hss, sR_35_4 hss, sR_35_5 hss, sR_35_6 hss, sR_35_7 hss, sR_35_11 hss, sR_35_21 hss, sR_35_22 hss, sR_35_23 hss, sR_35_24 hss, sR_35_25 hss, sR_35_26 hss, sR_35_27 hss, sR_35_28 hss, sR_35_29 hss, sR_35_30 hss, sR_35_31 hss, sR_35_32 hss, sR_35_35 hss, sR_35_37 hss, sR_35_38 hss, sR_35_39 hss, sR_35_40 hss, sR_35_41 hss, sR_35_42 hss, sR_35_46 hss, sR_35_50 hss, sR_35_52 hss, hlt, not_true, h51, b1, c1, tF', lF', b2, c2, h64, pT_uI, pR_uI, h51', nI_1]
      · rw [pI_uI, pI_uI, hW]
        by_cases d1 : a = 35 ∧ j = 51
        · rw [if_pos d1, if_neg (by omega), if_pos d1]; rfl
        · rw [if_neg d1, if_neg d1, if_neg d1]
          by_cases d2 : a = F ∧ j = k
          · rw [if_pos d2, if_pos (by omega), d2.2]
          · rw [if_neg d2]
            by_cases d3 : a = F ∧ j < k
            · rw [if_pos d3, if_pos (by omega)]
            · rw [if_neg d3, if_neg (by omega)]
    · right
      have : k = len := by omega
      subst this
      have hlt : ¬ nI k < nI k := by rw [nI_lt' (by omega) (by omega)]; omega
      refine ⟨_, _, ?_, ⟨hP, hW⟩, rfl⟩
      simp only [lpStep, ↓rE_eK, ↓rE_eLi, ↓rE_eLj, ↓rE_eLa, ↓rE_eU, ↓rE_eB, ↓rE_eG, ↓rE_eIF, ↓rE_eAI, ↓rE_eAX, ↓rE_eAJ, ↓rE_eAR, ↓rE_eLen, ↓rE_eSI, ↓rE_eC, ↓rE_eCall, ↓rE_eNew, ↓rE_eNewA, ↓rE_eInst, ↓rC_cI, ↓rC_cZ0, ↓rC_cN, ↓rC_cNot, ↓rC_cAnd, ↓rC_cOr, ↓rA_aN, ↓rA_aC, ↓rS_sP, ↓rS_sUF, ↓rS_sAI, ↓rS_sAJ, ↓rS_sAR, ↓rS_sUA, ↓rS_sCall, ↓rS_sObj, ↓rS_sSi, ↓rS_sSa, ↓rS_sSj, ↓rS_sInc, ↓rS_sSkip, ↓rS_sSeq, ↓rS_sIf, ↓rS_sRetI, ↓rS_sRetJ, ↓rS_sRetA, ↓rS_sRetV, ↓rS_sSw, ↓rD_meth, ↓rD_on, ↓kR_ref, ↓kI_int, ↓kJ_long, ↓kN_null, ↓kN_ref, ↓kN_rf, ↓kQ_ref, ↓kQ_null, ↓kQ_rf, o1_i, o1ij_i, o1ji_i, o2_i, o2d_i, o2j_i, o2ji_i, o2c_i, fv_0, fv_1, fv_2, fv_3, pf_0, pf_2, pf_3, pf_4, rf_s, rf_n, is_self, ge_0, ge_s, ge_n, gd_s, gd_n, se_0, se_s, ag_0, ex_n, ex_i, ex_r, ex_0, ex_j, ex_q, ap_c, ap_n, List.append_nil, ln_c, ln_n, rp_0, rp_s, rt_0, rt_1, rt_20, rt_21, rt_2, rt_3, rt_4, rt_4n, rt_4q, nl_0, nl_1, nl_2, nl_3, nl_4, nl_5, nl_6, nl_7, nl_8, nl_9, nlB_i, nlB_r, nlB_n, nlB_f, nlB_q, ↓reduceIte, reduceCtorEq, Nat.reduceAdd, Nat.reduceSub, Nat.reduceEqDiff, Nat.reduceLeDiff, Nat.reduceBEq, ite_true, ite_false, dt_t, Bool.not_true, Bool.not_false, Bool.false_eq_true, Nat.le_refl, true_and, and_true, true_or, or_true, false_or, or_false, false_and, and_false, qEq, qNe, qLt, qGe, qGt, qLe, hlt]
  obtain ⟨r, s, l1, hW, rfl⟩ := hl
  refine ⟨s, ?_, hW⟩
  refine rD_un.trans ?_
  simp only [D_X12_moveRow, B_X12_moveRow, ↓rE_eK, ↓rE_eLi, ↓rE_eLj, ↓rE_eLa, ↓rE_eU, ↓rE_eB, ↓rE_eG, ↓rE_eIF, ↓rE_eAI, ↓rE_eAX, ↓rE_eAJ, ↓rE_eAR, ↓rE_eLen, ↓rE_eSI, ↓rE_eC, ↓rE_eCall, ↓rE_eNew, ↓rE_eNewA, ↓rE_eInst, ↓rC_cI, ↓rC_cZ0, ↓rC_cN, ↓rC_cNot, ↓rC_cAnd, ↓rC_cOr, ↓rA_aN, ↓rA_aC, ↓rS_sP, ↓rS_sUF, ↓rS_sAI, ↓rS_sAJ, ↓rS_sAR, ↓rS_sUA, ↓rS_sCall, ↓rS_sObj, ↓rS_sSi, ↓rS_sSa, ↓rS_sSj, ↓rS_sInc, ↓rS_sSkip, ↓rS_sSeq, ↓rS_sIf, ↓rS_sRetI, ↓rS_sRetJ, ↓rS_sRetA, ↓rS_sRetV, ↓rS_sSw, ↓rD_meth, ↓rD_on, ↓kR_ref, ↓kI_int, ↓kJ_long, ↓kN_null, ↓kN_ref, ↓kN_rf, ↓kQ_ref, ↓kQ_null, ↓kQ_rf, o1_i, o1ij_i, o1ji_i, o2_i, o2d_i, o2j_i, o2ji_i, o2c_i, fv_0, fv_1, fv_2, fv_3, pf_0, pf_2, pf_3, pf_4, rf_s, rf_n, is_self, ge_0, ge_s, ge_n, gd_s, gd_n, se_0, se_s, ag_0, ex_n, ex_i, ex_r, ex_0, ex_j, ex_q, ap_c, ap_n, List.append_nil, ln_c, ln_n, rp_0, rp_s, rt_0, rt_1, rt_20, rt_21, rt_2, rt_3, rt_4, rt_4n, rt_4q, nl_0, nl_1, nl_2, nl_3, nl_4, nl_5, nl_6, nl_7, nl_8, nl_9, nlB_i, nlB_r, nlB_n, nlB_f, nlB_q, ↓reduceIte, reduceCtorEq, Nat.reduceAdd, Nat.reduceSub, Nat.reduceEqDiff, Nat.reduceLeDiff, Nat.reduceBEq, ite_true, ite_false, dt_t, Bool.not_true, Bool.not_false, Bool.false_eq_true, Nat.le_refl, true_and, and_true, true_or, or_true, false_or, or_false, false_and, and_false, qEq, qNe, qLt, qGe, qGt, qLe, rS_inl l1]
theorem cur_f {σ : pm_H} {f i : Nat} (hf : f ≤ 5) (hi : i < 8) : cur σ (4 + 8 * f + i) = pI σ (36 + f) i := by
  have h6 : f = 0 ∨ f = 1 ∨ f = 2 ∨ f = 3 ∨ f = 4 ∨ f = 5 := by omega
  rcases h6 with rfl | rfl | rfl | rfl | rfl | rfl
  · exact cuk hi
  · exact cua hi
  · exact cuv hi
  · exact cup hi
  · exact cul hi
  · exact cus hi
/-- the first m places are kept -/
def KS (σ : pm_H) (m : Nat) (s : pm_H) : Prop := Pl σ s ∧ pI s 35 51 = nI m ∧ (∀ j, j < m → pI s 64 j = cur σ j) ∧ (∀ a j, a ≠ 64 → a ≠ 65 → ¬ (a = 35 ∧ j = 51) → pI s a j = pI σ a j) ∧ ∀ k, k < 4 → pI s 65 k = cur σ k
theorem KS_row {σ s : pm_H} (hS : Sh σ) {F len L m : Nat} (h : KS σ m s) (hF : F ≠ 64 ∧ F ≠ 35) (tF : pT σ F = 13) (lF : pL σ F = L) (hL : len ≤ L) (hL2 : L ≤ 200) (hm : m + len ≤ 120) (hc : ∀ k, k < len → pI s F k = cur σ (m + k)) : ∃ s', D_X12_moveRow [.ref 35, .ref F, .int (nI len), .int 1] s = some (none, s') ∧ KS σ (m + len) s' := by
  obtain ⟨h1, h2, h3, h4, h5⟩ := h
  obtain ⟨s', q1, q2⟩ := m_moveT (Pl_Sh h1 hS) hF (by rw [h1.1]; exact tF) (by rw [h1.2.1]; exact lF) hL hL2 hm h2
  obtain ⟨w1, w2, w3, w4, w5, w6, w7⟩ := q2
  refine ⟨s', q1, Pl_tr h1 ⟨w1, w2, w3, w4, w5, w6⟩, by rw [w7, if_neg (by omega), if_pos ⟨rfl, rfl⟩], fun j hj => ?_, fun a j g1 g2 g3 => ?_, fun k hk => ?_⟩
  · rw [w7]
    by_cases c : m ≤ j
    · rw [if_pos ⟨rfl, c, hj⟩, hc _ (by omega)]; congr 1; omega
    · rw [if_neg (by omega), if_neg (by omega)]; exact h3 j (by omega)
  · rw [w7, if_neg (by omega), if_neg g3]; exact h4 a j g1 g2 g3
  · rw [w7, if_neg (by omega), if_neg (by omega)]; exact h5 k hk
/-- the reference's single row is filled -/
def sng (σ : pm_H) : pm_H := uI (uI (uI (uI (uI σ 35 51 0) 65 0 (cur σ 0)) 65 1 (cur σ 1)) 65 2 (cur σ 2)) 65 3 (cur σ 3)
theorem sng_I (σ : pm_H) (a j : Nat) (h1 : a ≠ 65) (h2 : ¬ (a = 35 ∧ j = 51)) : pI (sng σ) a j = pI σ a j := by
  unfold sng
  rw [pI_uI_ne _ _ _ h1, pI_uI_ne _ _ _ h1, pI_uI_ne _ _ _ h1, pI_uI_ne _ _ _ h1, pI_uI, if_neg h2]
theorem sng_65 (σ : pm_H) {k : Nat} (hk : k < 4) : pI (sng σ) 65 k = cur σ k := by
  unfold sng
  rcases lt4 hk with rfl | rfl | rfl | rfl
  · rw [pI_uI_nek _ _ _ _ (by decide), pI_uI_nek _ _ _ _ (by decide), pI_uI_nek _ _ _ _ (by decide), pI_uI_at]
  · rw [pI_uI_nek _ _ _ _ (by decide), pI_uI_nek _ _ _ _ (by decide), pI_uI_at]
  · rw [pI_uI_nek _ _ _ _ (by decide), pI_uI_at]
  · rw [pI_uI_at]
theorem sng_51 (σ : pm_H) : pI (sng σ) 35 51 = nI 0 := by
  unfold sng
  rw [pI_uI_ne _ _ _ (by decide), pI_uI_ne _ _ _ (by decide), pI_uI_ne _ _ _ (by decide), pI_uI_ne _ _ _ (by decide), pI_uI_at, nI_0]
/-- eight rows moved, one after the other -/
theorem m_moveAll {σ : pm_H} (hS : Sh σ) (kp : Int32) {s1 s2 s3 s4 s5 s6 s7 s8 : pm_H} (h1 : D_X12_moveRow [.ref 35, .ref 65, .int 4, .int kp] (sng σ) = some (none, s1)) (h2 : D_X12_moveRow [.ref 35, .ref 36, .int 8, .int kp] s1 = some (none, s2)) (h3 : D_X12_moveRow [.ref 35, .ref 37, .int 8, .int kp] s2 = some (none, s3)) (h4 : D_X12_moveRow [.ref 35, .ref 38, .int 8, .int kp] s3 = some (none, s4)) (h5 : D_X12_moveRow [.ref 35, .ref 39, .int 8, .int kp] s4 = some (none, s5)) (h6 : D_X12_moveRow [.ref 35, .ref 40, .int 8, .int kp] s5 = some (none, s6)) (h7 : D_X12_moveRow [.ref 35, .ref 41, .int 8, .int kp] s6 = some (none, s7)) (h8 : D_X12_moveRow [.ref 35, .ref 42, .int 64, .int kp] s7 = some (none, s8)) (q1 : Sh s1) (q2 : Sh s2) (q3 : Sh s3) (q4 : Sh s4) (q5 : Sh s5) (q6 : Sh s6) (q7 : Sh s7) : D_X12_moveAll [.ref 35, .int kp] σ = some (none, s8) := by
  have q0 : Sh (sng σ) := hS
  have f0 : ib 0 4 = true := by decide
  have f1 : ib 1 4 = true := by decide
  have f2 : ib 2 4 = true := by decide
  have f3 : ib 3 4 = true := by decide
  have g0 : (0 : Int32).toNatClampNeg = 0 := by decide
  have g1 : (1 : Int32).toNatClampNeg = 1 := by decide
  have g2 : (2 : Int32).toNatClampNeg = 2 := by decide
  have g3 : (3 : Int32).toNatClampNeg = 3 := by decide
  have p0 : pI (uI σ 35 51 0) 35 0 = cur σ 0 := by rw [pI_uI_nek _ _ _ _ (by decide)]; rfl
  have p1 : pI (uI (uI σ 35 51 0) 65 0 (cur σ 0)) 35 8 = cur σ 1 := by rw [pI_uI_ne _ _ _ (by decide), pI_uI_nek _ _ _ _ (by decide)]; rfl
  have p2 : pI (uI (uI (uI σ 35 51 0) 65 0 (cur σ 0)) 65 1 (cur σ 1)) 35 9 = cur σ 2 := by rw [pI_uI_ne _ _ _ (by decide), pI_uI_ne _ _ _ (by decide), pI_uI_nek _ _ _ _ (by decide)]; rfl
  have p3 : pI (uI (uI (uI (uI σ 35 51 0) 65 0 (cur σ 0)) 65 1 (cur σ 1)) 65 2 (cur σ 2)) 35 10 = cur σ 3 := by rw [pI_uI_ne _ _ _ (by decide), pI_uI_ne _ _ _ (by decide), pI_uI_ne _ _ _ (by decide), pI_uI_nek _ _ _ _ (by decide)]; rfl
  have es : uI (uI (uI (uI (uI σ 35 51 0) 65 0 (cur σ 0)) 65 1 (cur σ 1)) 65 2 (cur σ 2)) 65 3 (cur σ 3) = sng σ := rfl
  refine rD_un.trans ?_
  simp only [D_X12_moveAll, B_X12_moveAll, ↓rE_eK, ↓rE_eLi, ↓rE_eLj, ↓rE_eLa, ↓rE_eU, ↓rE_eB, ↓rE_eG, ↓rE_eIF, ↓rE_eAI, ↓rE_eAX, ↓rE_eAJ, ↓rE_eAR, ↓rE_eLen, ↓rE_eSI, ↓rE_eC, ↓rE_eCall, ↓rE_eNew, ↓rE_eNewA, ↓rE_eInst, ↓rC_cI, ↓rC_cZ0, ↓rC_cN, ↓rC_cNot, ↓rC_cAnd, ↓rC_cOr, ↓rA_aN, ↓rA_aC, ↓rS_sP, ↓rS_sUF, ↓rS_sAI, ↓rS_sAJ, ↓rS_sAR, ↓rS_sUA, ↓rS_sCall, ↓rS_sObj, ↓rS_sSi, ↓rS_sSa, ↓rS_sSj, ↓rS_sInc, ↓rS_sSkip, ↓rS_sSeq, ↓rS_sIf, ↓rS_sRetI, ↓rS_sRetJ, ↓rS_sRetA, ↓rS_sRetV, ↓rS_sSw, ↓rD_meth, ↓rD_on, ↓kR_ref, ↓kI_int, ↓kJ_long, ↓kN_null, ↓kN_ref, ↓kN_rf, ↓kQ_ref, ↓kQ_null, ↓kQ_rf, o1_i, o1ij_i, o1ji_i, o2_i, o2d_i, o2j_i, o2ji_i, o2c_i, fv_0, fv_1, fv_2, fv_3, pf_0, pf_2, pf_3, pf_4, rf_s, rf_n, is_self, ge_0, ge_s, ge_n, gd_s, gd_n, se_0, se_s, ag_0, ex_n, ex_i, ex_r, ex_0, ex_j, ex_q, ap_c, ap_n, List.append_nil, ln_c, ln_n, rp_0, rp_s, rt_0, rt_1, rt_20, rt_21, rt_2, rt_3, rt_4, rt_4n, rt_4q, nl_0, nl_1, nl_2, nl_3, nl_4, nl_5, nl_6, nl_7, nl_8, nl_9, nlB_i, nlB_r, nlB_n, nlB_f, nlB_q, ↓reduceIte, reduceCtorEq, Nat.reduceAdd, Nat.reduceSub, Nat.reduceEqDiff, Nat.reduceLeDiff, Nat.reduceBEq, ite_true, ite_false, dt_t, Bool.not_true, Bool.not_false, Bool.false_eq_true, Nat.le_refl, true_and, and_true, true_or, or_true, false_or, or_false, false_and, and_false, qEq, qNe, qLt, qGe, qGt, qLe, sT_35 hS, sT_65 hS, sL_65 hS, sR_35_52 hS, pT_uI, pL_uI, pR_uI, f0, f1, f2, f3, g0, g1, g2, g3, p0, p1, p2, p3, es, sR_35_52 q0, sT_35 q0, rD_tb1 (sT_35 q0), rD_of h1, sR_35_1 q1, sT_35 q1, rD_tb1 (sT_35 q1), rD_of h2, sR_35_2 q2, sT_35 q2, rD_tb1 (sT_35 q2), rD_of h3, sR_35_3 q3, sT_35 q3, rD_tb1 (sT_35 q3), rD_of h4, sR_35_4 q4, sT_35 q4, rD_tb1 (sT_35 q4), rD_of h5, sR_35_5 q5, sT_35 q5, rD_tb1 (sT_35 q5), rD_of h6, sR_35_6 q6, sT_35 q6, rD_tb1 (sT_35 q6), rD_of h7, sR_35_7 q7, sT_35 q7, rD_tb1 (sT_35 q7), rD_of h8]
theorem d_keep_m {σ : pm_H} (hS : Sh σ) : ∃ s, D_X12_keep [.ref 35] σ = some (some (.int 1), uI s 35 49 1) ∧ KS σ 116 s := by
  have k0 : KS σ 0 (sng σ) := ⟨⟨rfl, rfl, rfl, rfl, rfl, rfl⟩, sng_51 σ, fun j hj => by omega, fun a j g1 g2 g3 => sng_I σ a j g2 g3, fun k hk => sng_65 σ hk⟩
  obtain ⟨s1, a1, k1⟩ := KS_row hS (F := 65) (len := 4) k0 (by decide) (sT_65 hS) (sL_65 hS) (by decide) (by decide) (by decide) (fun k hk => by rw [Nat.zero_add]; exact k0.2.2.2.2 k hk)
  have hF : ∀ f, f ≤ 5 → ∀ s, KS σ (4 + 8 * f) s → ∀ k, k < 8 → pI s (36 + f) k = cur σ (4 + 8 * f + k) := fun f hf s hk k q => by rw [hk.2.2.2.1 _ _ (by omega) (by omega) (by omega), cur_f hf q]
  obtain ⟨s2, a2, k2⟩ := KS_row hS (F := 36) (len := 8) k1 (by decide) (sT_36 hS) (sL_36 hS) (by decide) (by decide) (by decide) (hF 0 (by decide) s1 k1)
  obtain ⟨s3, a3, k3⟩ := KS_row hS (F := 37) (len := 8) k2 (by decide) (sT_37 hS) (sL_37 hS) (by decide) (by decide) (by decide) (hF 1 (by decide) s2 k2)
  obtain ⟨s4, a4, k4⟩ := KS_row hS (F := 38) (len := 8) k3 (by decide) (sT_38 hS) (sL_38 hS) (by decide) (by decide) (by decide) (hF 2 (by decide) s3 k3)
  obtain ⟨s5, a5, k5⟩ := KS_row hS (F := 39) (len := 8) k4 (by decide) (sT_39 hS) (sL_39 hS) (by decide) (by decide) (by decide) (hF 3 (by decide) s4 k4)
  obtain ⟨s6, a6, k6⟩ := KS_row hS (F := 40) (len := 8) k5 (by decide) (sT_40 hS) (sL_40 hS) (by decide) (by decide) (by decide) (hF 4 (by decide) s5 k5)
  obtain ⟨s7, a7, k7⟩ := KS_row hS (F := 41) (len := 8) k6 (by decide) (sT_41 hS) (sL_41 hS) (by decide) (by decide) (by decide) (hF 5 (by decide) s6 k6)
  obtain ⟨s8, a8, k8⟩ := KS_row hS (F := 42) (len := 64) k7 (by decide) (sT_42 hS) (sL_42 hS) (by decide) (by decide) (by decide) (fun k hk => by rw [k7.2.2.2.1 _ _ (by decide) (by decide) (by omega)]; exact cuo.symm)
  have hma := m_moveAll hS 1 a1 a2 a3 a4 a5 a6 a7 a8 (Pl_Sh k1.1 hS) (Pl_Sh k2.1 hS) (Pl_Sh k3.1 hS) (Pl_Sh k4.1 hS) (Pl_Sh k5.1 hS) (Pl_Sh k6.1 hS) (Pl_Sh k7.1 hS)
  refine ⟨s8, ?_, k8⟩
  have h8 := Pl_Sh k8.1 hS
  refine rD_un.trans ?_
  simp only [D_X12_keep, B_X12_keep, ↓rE_eK, ↓rE_eLi, ↓rE_eLj, ↓rE_eLa, ↓rE_eU, ↓rE_eB, ↓rE_eG, ↓rE_eIF, ↓rE_eAI, ↓rE_eAX, ↓rE_eAJ, ↓rE_eAR, ↓rE_eLen, ↓rE_eSI, ↓rE_eC, ↓rE_eCall, ↓rE_eNew, ↓rE_eNewA, ↓rE_eInst, ↓rC_cI, ↓rC_cZ0, ↓rC_cN, ↓rC_cNot, ↓rC_cAnd, ↓rC_cOr, ↓rA_aN, ↓rA_aC, ↓rS_sP, ↓rS_sUF, ↓rS_sAI, ↓rS_sAJ, ↓rS_sAR, ↓rS_sUA, ↓rS_sCall, ↓rS_sObj, ↓rS_sSi, ↓rS_sSa, ↓rS_sSj, ↓rS_sInc, ↓rS_sSkip, ↓rS_sSeq, ↓rS_sIf, ↓rS_sRetI, ↓rS_sRetJ, ↓rS_sRetA, ↓rS_sRetV, ↓rS_sSw, ↓rD_meth, ↓rD_on, ↓kR_ref, ↓kI_int, ↓kJ_long, ↓kN_null, ↓kN_ref, ↓kN_rf, ↓kQ_ref, ↓kQ_null, ↓kQ_rf, o1_i, o1ij_i, o1ji_i, o2_i, o2d_i, o2j_i, o2ji_i, o2c_i, fv_0, fv_1, fv_2, fv_3, pf_0, pf_2, pf_3, pf_4, rf_s, rf_n, is_self, ge_0, ge_s, ge_n, gd_s, gd_n, se_0, se_s, ag_0, ex_n, ex_i, ex_r, ex_0, ex_j, ex_q, ap_c, ap_n, List.append_nil, ln_c, ln_n, rp_0, rp_s, rt_0, rt_1, rt_20, rt_21, rt_2, rt_3, rt_4, rt_4n, rt_4q, nl_0, nl_1, nl_2, nl_3, nl_4, nl_5, nl_6, nl_7, nl_8, nl_9, nlB_i, nlB_r, nlB_n, nlB_f, nlB_q, ↓reduceIte, reduceCtorEq, Nat.reduceAdd, Nat.reduceSub, Nat.reduceEqDiff, Nat.reduceLeDiff, Nat.reduceBEq, ite_true, ite_false, dt_t, Bool.not_true, Bool.not_false, Bool.false_eq_true, Nat.le_refl, true_and, and_true, true_or, or_true, false_or, or_false, false_and, and_false, qEq, qNe, qLt, qGe, qGt, qLe, rD_tb1 (sT_35 hS), rD_of hma, sT_35 h8, pf_1 (Or.inr rfl)]
theorem VR_ext {σ : pm_H} {v n : Nat} {vd wd : Nat → Int32} (h : VR σ v vd n) (e : ∀ j, j < 116 → wd j = vd j) : VR σ v wd n := by
  have h8 := VR_8 h
  obtain ⟨⟨o1, o2, ⟨A, o3, o4, o5⟩, o6⟩, ht, ⟨s1, s2, s3⟩, hp, hd, hz⟩ := h
  refine ⟨⟨o1, by rw [e 0 (by decide)]; exact o2, ⟨A, o3, by rw [e 1 (by decide)]; exact o4, o5⟩, fun i hi => by rw [e (12 + i) (by omega), e (20 + i) (by omega)]; exact o6 i hi⟩, ht, ⟨s1, by rw [e 2 (by decide)]; exact s2, by rw [e 3 (by decide)]; exact s3⟩, fun i hi => ?_, fun a b ha hb => by rw [e (52 + (8 * a + b)) (by omega)]; exact hd a b ha hb, hz⟩
  unfold pR1
  rw [e (4 + i) (by omega), e (12 + i) (by omega), e (20 + i) (by omega), e (28 + i) (by omega), e (36 + i) (by omega), e (44 + i) (by omega), e 1 (by decide)]
  exact hp i hi
