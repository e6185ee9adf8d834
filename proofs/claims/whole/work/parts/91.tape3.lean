/-! a valley told in a text: people, and the whole, as the class reads them. -/
variable {T : Nat} {c : Nat → Nat}
theorem vOk_v {wd : Nat → Int32} {n i x : Nat} (h : vOk wd n) (hi : i < n) (hx : x ≤ 200) : vOk (upd wd (20 + i) (nI x)) n := by
  have h8 := h.1
  refine ⟨h.1, by rw [upd_ne _ _ (by omega)]; exact h.2.1, by rw [upd_ne _ _ (by omega)]; exact h.2.2.1, fun j hj => ?_⟩
  rw [upd_ne _ _ (show 12 + j ≠ 20 + i by omega)]
  refine ⟨(h.2.2.2 j hj).1, ?_⟩
  by_cases e : j = i
  · subst e; exact ⟨x, hx, upd_at _ _ _⟩
  · rw [upd_ne _ _ (by omega)]; exact (h.2.2.2 j hj).2
theorem vOk_p {wd : Nat → Int32} {n i : Nat} {x : Int32} (h : vOk wd n) (hi : i < n) : vOk (upd wd (28 + i) x) n := by
  have h8 := h.1
  refine ⟨h.1, by rw [upd_ne _ _ (by omega)]; exact h.2.1, by rw [upd_ne _ _ (by omega)]; exact h.2.2.1, fun j hj => ?_⟩
  rw [upd_ne _ _ (show 12 + j ≠ 28 + i by omega), upd_ne _ _ (show 20 + j ≠ 28 + i by omega)]
  exact h.2.2.2 j hj
theorem c_voice_l {σ0 s : pm_H} {p b m i q : Nat} {wd : Nat → Int32} (h : Cr σ0 T c p b m wd s) (e : optW T c p 6 201 100 = .inl q) : ∃ s' b', D_X7_readsVoice [.ref 27, .ref (vQ s (pN σ0) i)] s = some (some (.int 0), s') ∧ Cr σ0 T c q b' m wd s' := by
  have hT := h.1.2.1
  obtain ⟨s1, a1, h1, -⟩ := Cr_word h
  have t0 := Cr_S h
  have t1 := Cr_S h1
  have w := oW_eq (c := c) hT p (w := 6) (by decide)
  unfold optW at e
  by_cases e1 : wId T c p = 6
  · rw [if_pos e1] at e
    have w' : (oW T c p = 6) = True := w.trans (eq_true e1)
    obtain ⟨s2, a2, h2, -⟩ := Cr_pass h1 (Cr_le h1)
    obtain ⟨s3, a3, h3, -⟩ := Cr_num h2 0 201 200 (by decide) H_200
    rw [nI_0] at a3
    have t2 := Cr_S h2
    cases e2 : numR T c (skE T c (leE T c p)) 0 201 with
    | none =>
      rw [e2] at e a3
      cases e
      refine ⟨s3, _, ?_, h3⟩
      refine rD_un.trans ?_
      simp only [D_X7_readsVoice, B_X7_readsVoice, ↓rE_eK, ↓rE_eLi, ↓rE_eLj, ↓rE_eLa, ↓rE_eU, ↓rE_eB, ↓rE_eG, ↓rE_eIF, ↓rE_eAI, ↓rE_eAX, ↓rE_eAJ, ↓rE_eAR, ↓rE_eLen, ↓rE_eSI, ↓rE_eC, ↓rE_eCall, ↓rE_eNew, ↓rE_eNewA, ↓rE_eInst, ↓rC_cI, ↓rC_cZ0, ↓rC_cN, ↓rC_cNot, ↓rC_cAnd, ↓rC_cOr, ↓rA_aN, ↓rA_aC, ↓rS_sP, ↓rS_sUF, ↓rS_sAI, ↓rS_sAJ, ↓rS_sAR, ↓rS_sUA, ↓rS_sCall, ↓rS_sObj, ↓rS_sSi, ↓rS_sSa, ↓rS_sSj, ↓rS_sInc, ↓rS_sSkip, ↓rS_sSeq, ↓rS_sIf, ↓rS_sRetI, ↓rS_sRetJ, ↓rS_sRetA, ↓rS_sRetV, ↓rS_sSw, ↓rD_meth, ↓rD_on, ↓kR_ref, ↓kI_int, ↓kJ_long, ↓kN_null, ↓kN_ref, ↓kN_rf, ↓kQ_ref, ↓kQ_null, ↓kQ_rf, o1_i, o1ij_i, o1ji_i, o2_i, o2d_i, o2j_i, o2ji_i, o2c_i, fv_0, fv_1, fv_2, fv_3, pf_0, pf_2, pf_3, pf_4, rf_s, rf_n, is_self, ge_0, ge_s, ge_n, gd_s, gd_n, se_0, se_s, ag_0, ex_n, ex_i, ex_r, ex_0, ex_j, ex_q, ap_c, ap_n, List.append_nil, ln_c, ln_n, rp_0, rp_s, rt_0, rt_1, rt_20, rt_21, rt_2, rt_3, rt_4, rt_4n, rt_4q, nl_0, nl_1, nl_2, nl_3, nl_4, nl_5, nl_6, nl_7, nl_8, nl_9, nlB_i, nlB_r, nlB_n, nlB_f, nlB_q, ↓reduceIte, reduceCtorEq, Nat.reduceAdd, Nat.reduceSub, Nat.reduceEqDiff, Nat.reduceLeDiff, Nat.reduceBEq, ite_true, ite_false, dt_t, Bool.not_true, Bool.not_false, Bool.false_eq_true, Nat.le_refl, true_and, and_true, true_or, or_true, false_or, or_false, false_and, and_false, qEq, qNe, qLt, qGe, qGt, qLe, rD_tb1 t0, rD_of a1, w', nt_t, not_true, rD_tb1 t1, rD_of a2, rD_tb1 t2, rD_of a3, oQ_n, m1lt]
    | some x =>
      rw [e2] at e
      cases e
  · rw [if_neg e1] at e; cases e
theorem c_voice_r {σ0 s : pm_H} {p b m i q x : Nat} {wd : Nat → Int32} (h : Cr σ0 T c p b m wd s) (hi : i < m) (hd : wd (20 + i) = 100) (e : optW T c p 6 201 100 = .inr (q, x)) : ∃ s' b', D_X7_readsVoice [.ref 27, .ref (vQ s (pN σ0) i)] s = some (some (.int 1), s') ∧ Cr σ0 T c q b' m (upd wd (20 + i) (nI x)) s' ∧ vQ s' (pN σ0) i = vQ s (pN σ0) i := by
  have hT := h.1.2.1
  obtain ⟨s1, a1, h1, k1⟩ := Cr_word h
  have t0 := Cr_S h
  have t1 := Cr_S h1
  have w := oW_eq (c := c) hT p (w := 6) (by decide)
  unfold optW at e
  by_cases e1 : wId T c p = 6
  · rw [if_pos e1] at e
    have w' : (oW T c p = 6) = True := w.trans (eq_true e1)
    obtain ⟨s2, a2, h2, k2⟩ := Cr_pass h1 (Cr_le h1)
    obtain ⟨s3, a3, h3, k3⟩ := Cr_num h2 0 201 200 (by decide) H_200
    rw [nI_0] at a3
    have t2 := Cr_S h2
    have t3 := Cr_S h3
    cases e2 : numR T c (skE T c (leE T c p)) 0 201 with
    | none =>
      rw [e2] at e
      cases e
    | some y =>
      rw [e2] at e a3
      have hy := (num_some e2).2.2.2
      injection e with e
      injection e with e3 e4
      subst e4
      have l1 := nI_lt0 (show y < 2147483648 by omega)
      have h4 := Cr_set h3 hi (f := 2) (by decide) (x := nI y) (vOk_v h3.2.1.1 hi (by omega))
      obtain ⟨s5, a5, h5, k5⟩ := Cr_pass h4 (Cr_de h4)
      have t4 := Cr_S h4
      have eq : vQ s (pN σ0) i = vQ s3 (pN σ0) i := by rw [k3, k2, k1]
      have p1 := VR_slp h3.2.1 hi
      rw [e3] at h5
      refine ⟨s5, _, ?_, h5, ?_⟩
      · refine rD_un.trans ?_
        rw [eq]
        simp only [D_X7_readsVoice, B_X7_readsVoice, ↓rE_eK, ↓rE_eLi, ↓rE_eLj, ↓rE_eLa, ↓rE_eU, ↓rE_eB, ↓rE_eG, ↓rE_eIF, ↓rE_eAI, ↓rE_eAX, ↓rE_eAJ, ↓rE_eAR, ↓rE_eLen, ↓rE_eSI, ↓rE_eC, ↓rE_eCall, ↓rE_eNew, ↓rE_eNewA, ↓rE_eInst, ↓rC_cI, ↓rC_cZ0, ↓rC_cN, ↓rC_cNot, ↓rC_cAnd, ↓rC_cOr, ↓rA_aN, ↓rA_aC, ↓rS_sP, ↓rS_sUF, ↓rS_sAI, ↓rS_sAJ, ↓rS_sAR, ↓rS_sUA, ↓rS_sCall, ↓rS_sObj, ↓rS_sSi, ↓rS_sSa, ↓rS_sSj, ↓rS_sInc, ↓rS_sSkip, ↓rS_sSeq, ↓rS_sIf, ↓rS_sRetI, ↓rS_sRetJ, ↓rS_sRetA, ↓rS_sRetV, ↓rS_sSw, ↓rD_meth, ↓rD_on, ↓kR_ref, ↓kI_int, ↓kJ_long, ↓kN_null, ↓kN_ref, ↓kN_rf, ↓kQ_ref, ↓kQ_null, ↓kQ_rf, o1_i, o1ij_i, o1ji_i, o2_i, o2d_i, o2j_i, o2ji_i, o2c_i, fv_0, fv_1, fv_2, fv_3, pf_0, pf_2, pf_3, pf_4, rf_s, rf_n, is_self, ge_0, ge_s, ge_n, gd_s, gd_n, se_0, se_s, ag_0, ex_n, ex_i, ex_r, ex_0, ex_j, ex_q, ap_c, ap_n, List.append_nil, ln_c, ln_n, rp_0, rp_s, rt_0, rt_1, rt_20, rt_21, rt_2, rt_3, rt_4, rt_4n, rt_4q, nl_0, nl_1, nl_2, nl_3, nl_4, nl_5, nl_6, nl_7, nl_8, nl_9, nlB_i, nlB_r, nlB_n, nlB_f, nlB_q, ↓reduceIte, reduceCtorEq, Nat.reduceAdd, Nat.reduceSub, Nat.reduceEqDiff, Nat.reduceLeDiff, Nat.reduceBEq, ite_true, ite_false, dt_t, Bool.not_true, Bool.not_false, Bool.false_eq_true, Nat.le_refl, true_and, and_true, true_or, or_true, false_or, or_false, false_and, and_false, qEq, qNe, qLt, qGe, qGt, qLe, rD_tb1 t0, rD_of a1, w', nt_t, not_true, rD_tb1 t1, rD_of a2, rD_tb1 t2, rD_of a3, oQ_s, l1, p1, rD_tb1 t4, rD_of a5]
      · rw [k5, eq]; rfl
  · rw [if_neg e1] at e
    have w' : (oW T c p = 6) = False := w.trans (eq_false e1)
    injection e with e
    injection e with e3 e4
    subst e3
    subst e4
    refine ⟨s1, _, ?_, by rw [upd_self _ (by rw [hd]; rfl)]; exact h1, k1 i⟩
    refine rD_un.trans ?_
    simp only [D_X7_readsVoice, B_X7_readsVoice, ↓rE_eK, ↓rE_eLi, ↓rE_eLj, ↓rE_eLa, ↓rE_eU, ↓rE_eB, ↓rE_eG, ↓rE_eIF, ↓rE_eAI, ↓rE_eAX, ↓rE_eAJ, ↓rE_eAR, ↓rE_eLen, ↓rE_eSI, ↓rE_eC, ↓rE_eCall, ↓rE_eNew, ↓rE_eNewA, ↓rE_eInst, ↓rC_cI, ↓rC_cZ0, ↓rC_cN, ↓rC_cNot, ↓rC_cAnd, ↓rC_cOr, ↓rA_aN, ↓rA_aC, ↓rS_sP, ↓rS_sUF, ↓rS_sAI, ↓rS_sAJ, ↓rS_sAR, ↓rS_sUA, ↓rS_sCall, ↓rS_sObj, ↓rS_sSi, ↓rS_sSa, ↓rS_sSj, ↓rS_sInc, ↓rS_sSkip, ↓rS_sSeq, ↓rS_sIf, ↓rS_sRetI, ↓rS_sRetJ, ↓rS_sRetA, ↓rS_sRetV, ↓rS_sSw, ↓rD_meth, ↓rD_on, ↓kR_ref, ↓kI_int, ↓kJ_long, ↓kN_null, ↓kN_ref, ↓kN_rf, ↓kQ_ref, ↓kQ_null, ↓kQ_rf, o1_i, o1ij_i, o1ji_i, o2_i, o2d_i, o2j_i, o2ji_i, o2c_i, fv_0, fv_1, fv_2, fv_3, pf_0, pf_2, pf_3, pf_4, rf_s, rf_n, is_self, ge_0, ge_s, ge_n, gd_s, gd_n, se_0, se_s, ag_0, ex_n, ex_i, ex_r, ex_0, ex_j, ex_q, ap_c, ap_n, List.append_nil, ln_c, ln_n, rp_0, rp_s, rt_0, rt_1, rt_20, rt_21, rt_2, rt_3, rt_4, rt_4n, rt_4q, nl_0, nl_1, nl_2, nl_3, nl_4, nl_5, nl_6, nl_7, nl_8, nl_9, nlB_i, nlB_r, nlB_n, nlB_f, nlB_q, ↓reduceIte, reduceCtorEq, Nat.reduceAdd, Nat.reduceSub, Nat.reduceEqDiff, Nat.reduceLeDiff, Nat.reduceBEq, ite_true, ite_false, dt_t, Bool.not_true, Bool.not_false, Bool.false_eq_true, Nat.le_refl, true_and, and_true, true_or, or_true, false_or, or_false, false_and, and_false, qEq, qNe, qLt, qGe, qGt, qLe, rD_tb1 t0, rD_of a1, w', nt_t, not_false_eq_true]
theorem c_purse_l {σ0 s : pm_H} {p b m i q : Nat} {wd : Nat → Int32} (h : Cr σ0 T c p b m wd s) (e : optW T c p 7 1000 0 = .inl q) : ∃ s' b', D_X7_readsPurse [.ref 27, .ref (vQ s (pN σ0) i)] s = some (some (.int 0), s') ∧ Cr σ0 T c q b' m wd s' := by
  have hT := h.1.2.1
  obtain ⟨s1, a1, h1, -⟩ := Cr_word h
  have t0 := Cr_S h
  have t1 := Cr_S h1
  have w := oW_eq (c := c) hT p (w := 7) (by decide)
  unfold optW at e
  by_cases e1 : wId T c p = 7
  · rw [if_pos e1] at e
    have w' : (oW T c p = 7) = True := w.trans (eq_true e1)
    obtain ⟨s2, a2, h2, -⟩ := Cr_pass h1 (Cr_le h1)
    obtain ⟨s3, a3, h3, -⟩ := Cr_num h2 0 1000 999 (by decide) H_999
    rw [nI_0] at a3
    have t2 := Cr_S h2
    cases e2 : numR T c (skE T c (leE T c p)) 0 1000 with
    | none =>
      rw [e2] at e a3
      cases e
      refine ⟨s3, _, ?_, h3⟩
      refine rD_un.trans ?_
      simp only [D_X7_readsPurse, B_X7_readsPurse, ↓rE_eK, ↓rE_eLi, ↓rE_eLj, ↓rE_eLa, ↓rE_eU, ↓rE_eB, ↓rE_eG, ↓rE_eIF, ↓rE_eAI, ↓rE_eAX, ↓rE_eAJ, ↓rE_eAR, ↓rE_eLen, ↓rE_eSI, ↓rE_eC, ↓rE_eCall, ↓rE_eNew, ↓rE_eNewA, ↓rE_eInst, ↓rC_cI, ↓rC_cZ0, ↓rC_cN, ↓rC_cNot, ↓rC_cAnd, ↓rC_cOr, ↓rA_aN, ↓rA_aC, ↓rS_sP, ↓rS_sUF, ↓rS_sAI, ↓rS_sAJ, ↓rS_sAR, ↓rS_sUA, ↓rS_sCall, ↓rS_sObj, ↓rS_sSi, ↓rS_sSa, ↓rS_sSj, ↓rS_sInc, ↓rS_sSkip, ↓rS_sSeq, ↓rS_sIf, ↓rS_sRetI, ↓rS_sRetJ, ↓rS_sRetA, ↓rS_sRetV, ↓rS_sSw, ↓rD_meth, ↓rD_on, ↓kR_ref, ↓kI_int, ↓kJ_long, ↓kN_null, ↓kN_ref, ↓kN_rf, ↓kQ_ref, ↓kQ_null, ↓kQ_rf, o1_i, o1ij_i, o1ji_i, o2_i, o2d_i, o2j_i, o2ji_i, o2c_i, fv_0, fv_1, fv_2, fv_3, pf_0, pf_2, pf_3, pf_4, rf_s, rf_n, is_self, ge_0, ge_s, ge_n, gd_s, gd_n, se_0, se_s, ag_0, ex_n, ex_i, ex_r, ex_0, ex_j, ex_q, ap_c, ap_n, List.append_nil, ln_c, ln_n, rp_0, rp_s, rt_0, rt_1, rt_20, rt_21, rt_2, rt_3, rt_4, rt_4n, rt_4q, nl_0, nl_1, nl_2, nl_3, nl_4, nl_5, nl_6, nl_7, nl_8, nl_9, nlB_i, nlB_r, nlB_n, nlB_f, nlB_q, ↓reduceIte, reduceCtorEq, Nat.reduceAdd, Nat.reduceSub, Nat.reduceEqDiff, Nat.reduceLeDiff, Nat.reduceBEq, ite_true, ite_false, dt_t, Bool.not_true, Bool.not_false, Bool.false_eq_true, Nat.le_refl, true_and, and_true, true_or, or_true, false_or, or_false, false_and, and_false, qEq, qNe, qLt, qGe, qGt, qLe, rD_tb1 t0, rD_of a1, w', nt_t, not_true, rD_tb1 t1, rD_of a2, rD_tb1 t2, rD_of a3, oQ_n, m1lt]
    | some x =>
      rw [e2] at e
      cases e
  · rw [if_neg e1] at e; cases e
theorem c_purse_r {σ0 s : pm_H} {p b m i q x : Nat} {wd : Nat → Int32} (h : Cr σ0 T c p b m wd s) (hi : i < m) (hd : wd (28 + i) = 0) (e : optW T c p 7 1000 0 = .inr (q, x)) : ∃ s' b', D_X7_readsPurse [.ref 27, .ref (vQ s (pN σ0) i)] s = some (some (.int 1), s') ∧ Cr σ0 T c q b' m (upd wd (28 + i) (nI x)) s' ∧ vQ s' (pN σ0) i = vQ s (pN σ0) i := by
  have hT := h.1.2.1
  obtain ⟨s1, a1, h1, k1⟩ := Cr_word h
  have t0 := Cr_S h
  have t1 := Cr_S h1
  have w := oW_eq (c := c) hT p (w := 7) (by decide)
  unfold optW at e
  by_cases e1 : wId T c p = 7
  · rw [if_pos e1] at e
    have w' : (oW T c p = 7) = True := w.trans (eq_true e1)
    obtain ⟨s2, a2, h2, k2⟩ := Cr_pass h1 (Cr_le h1)
    obtain ⟨s3, a3, h3, k3⟩ := Cr_num h2 0 1000 999 (by decide) H_999
    rw [nI_0] at a3
    have t2 := Cr_S h2
    have t3 := Cr_S h3
    cases e2 : numR T c (skE T c (leE T c p)) 0 1000 with
    | none =>
      rw [e2] at e
      cases e
    | some y =>
      rw [e2] at e a3
      have hy := (num_some e2).2.2.2
      injection e with e
      injection e with e3 e4
      subst e4
      have l1 := nI_lt0 (show y < 2147483648 by omega)
      have h4 := Cr_set h3 hi (f := 3) (by decide) (x := nI y) (vOk_p h3.2.1.1 hi)
      obtain ⟨s5, a5, h5, k5⟩ := Cr_pass h4 (Cr_de h4)
      have t4 := Cr_S h4
      have eq : vQ s (pN σ0) i = vQ s3 (pN σ0) i := by rw [k3, k2, k1]
      have p1 := VR_slp h3.2.1 hi
      rw [e3] at h5
      refine ⟨s5, _, ?_, h5, ?_⟩
      · refine rD_un.trans ?_
        rw [eq]
        simp only [D_X7_readsPurse, B_X7_readsPurse, ↓rE_eK, ↓rE_eLi, ↓rE_eLj, ↓rE_eLa, ↓rE_eU, ↓rE_eB, ↓rE_eG, ↓rE_eIF, ↓rE_eAI, ↓rE_eAX, ↓rE_eAJ, ↓rE_eAR, ↓rE_eLen, ↓rE_eSI, ↓rE_eC, ↓rE_eCall, ↓rE_eNew, ↓rE_eNewA, ↓rE_eInst, ↓rC_cI, ↓rC_cZ0, ↓rC_cN, ↓rC_cNot, ↓rC_cAnd, ↓rC_cOr, ↓rA_aN, ↓rA_aC, ↓rS_sP, ↓rS_sUF, ↓rS_sAI, ↓rS_sAJ, ↓rS_sAR, ↓rS_sUA, ↓rS_sCall, ↓rS_sObj, ↓rS_sSi, ↓rS_sSa, ↓rS_sSj, ↓rS_sInc, ↓rS_sSkip, ↓rS_sSeq, ↓rS_sIf, ↓rS_sRetI, ↓rS_sRetJ, ↓rS_sRetA, ↓rS_sRetV, ↓rS_sSw, ↓rD_meth, ↓rD_on, ↓kR_ref, ↓kI_int, ↓kJ_long, ↓kN_null, ↓kN_ref, ↓kN_rf, ↓kQ_ref, ↓kQ_null, ↓kQ_rf, o1_i, o1ij_i, o1ji_i, o2_i, o2d_i, o2j_i, o2ji_i, o2c_i, fv_0, fv_1, fv_2, fv_3, pf_0, pf_2, pf_3, pf_4, rf_s, rf_n, is_self, ge_0, ge_s, ge_n, gd_s, gd_n, se_0, se_s, ag_0, ex_n, ex_i, ex_r, ex_0, ex_j, ex_q, ap_c, ap_n, List.append_nil, ln_c, ln_n, rp_0, rp_s, rt_0, rt_1, rt_20, rt_21, rt_2, rt_3, rt_4, rt_4n, rt_4q, nl_0, nl_1, nl_2, nl_3, nl_4, nl_5, nl_6, nl_7, nl_8, nl_9, nlB_i, nlB_r, nlB_n, nlB_f, nlB_q, ↓reduceIte, reduceCtorEq, Nat.reduceAdd, Nat.reduceSub, Nat.reduceEqDiff, Nat.reduceLeDiff, Nat.reduceBEq, ite_true, ite_false, dt_t, Bool.not_true, Bool.not_false, Bool.false_eq_true, Nat.le_refl, true_and, and_true, true_or, or_true, false_or, or_false, false_and, and_false, qEq, qNe, qLt, qGe, qGt, qLe, rD_tb1 t0, rD_of a1, w', nt_t, not_true, rD_tb1 t1, rD_of a2, rD_tb1 t2, rD_of a3, oQ_s, l1, p1, rD_tb1 t4, rD_of a5]
      · rw [k5, eq]; rfl
  · rw [if_neg e1] at e
    have w' : (oW T c p = 7) = False := w.trans (eq_false e1)
    injection e with e
    injection e with e3 e4
    subst e3
    subst e4
    refine ⟨s1, _, ?_, by rw [upd_self _ (by rw [hd]; rfl)]; exact h1, k1 i⟩
    refine rD_un.trans ?_
    simp only [D_X7_readsPurse, B_X7_readsPurse, ↓rE_eK, ↓rE_eLi, ↓rE_eLj, ↓rE_eLa, ↓rE_eU, ↓rE_eB, ↓rE_eG, ↓rE_eIF, ↓rE_eAI, ↓rE_eAX, ↓rE_eAJ, ↓rE_eAR, ↓rE_eLen, ↓rE_eSI, ↓rE_eC, ↓rE_eCall, ↓rE_eNew, ↓rE_eNewA, ↓rE_eInst, ↓rC_cI, ↓rC_cZ0, ↓rC_cN, ↓rC_cNot, ↓rC_cAnd, ↓rC_cOr, ↓rA_aN, ↓rA_aC, ↓rS_sP, ↓rS_sUF, ↓rS_sAI, ↓rS_sAJ, ↓rS_sAR, ↓rS_sUA, ↓rS_sCall, ↓rS_sObj, ↓rS_sSi, ↓rS_sSa, ↓rS_sSj, ↓rS_sInc, ↓rS_sSkip, ↓rS_sSeq, ↓rS_sIf, ↓rS_sRetI, ↓rS_sRetJ, ↓rS_sRetA, ↓rS_sRetV, ↓rS_sSw, ↓rD_meth, ↓rD_on, ↓kR_ref, ↓kI_int, ↓kJ_long, ↓kN_null, ↓kN_ref, ↓kN_rf, ↓kQ_ref, ↓kQ_null, ↓kQ_rf, o1_i, o1ij_i, o1ji_i, o2_i, o2d_i, o2j_i, o2ji_i, o2c_i, fv_0, fv_1, fv_2, fv_3, pf_0, pf_2, pf_3, pf_4, rf_s, rf_n, is_self, ge_0, ge_s, ge_n, gd_s, gd_n, se_0, se_s, ag_0, ex_n, ex_i, ex_r, ex_0, ex_j, ex_q, ap_c, ap_n, List.append_nil, ln_c, ln_n, rp_0, rp_s, rt_0, rt_1, rt_20, rt_21, rt_2, rt_3, rt_4, rt_4n, rt_4q, nl_0, nl_1, nl_2, nl_3, nl_4, nl_5, nl_6, nl_7, nl_8, nl_9, nlB_i, nlB_r, nlB_n, nlB_f, nlB_q, ↓reduceIte, reduceCtorEq, Nat.reduceAdd, Nat.reduceSub, Nat.reduceEqDiff, Nat.reduceLeDiff, Nat.reduceBEq, ite_true, ite_false, dt_t, Bool.not_true, Bool.not_false, Bool.false_eq_true, Nat.le_refl, true_and, and_true, true_or, or_true, false_or, or_false, false_and, and_false, qEq, qNe, qLt, qGe, qGt, qLe, rD_tb1 t0, rD_of a1, w', nt_t, not_false_eq_true]
theorem c_person {σ0 s : pm_H} {p b n kd : Nat} {wd : Nat → Int32} (h : Cr σ0 T c p b n wd s) (hb : b ≤ T) (hk : kd < 6) : Co σ0 T c D_X7_readsPerson [.ref 27, .int (nI kd), .ref (pN σ0)] s (if n < 8 then clPe1 T c (skE T c b) n kd wd else .inl p) := by
  have h8 := h.2.1.1.1
  have t0 := Cr_S h
  have v0 := VR_T h.2.1
  have u0 := VR_s h.2.1
  have hge : (8 ≤ nI n) = (8 ≤ n) := nI_le' (a := 8) (by decide) (by omega)
  by_cases n8 : n < 8
  · rw [if_pos n8]
    have g0 : (8 ≤ n) = False := eq_false (by omega)
    obtain ⟨s1, a1, h1, -⟩ := Cr_pass h hb
    obtain ⟨s2, a2, h2, -⟩ := Cr_num h1 1 91 90 (by decide) H_90
    have t1 := Cr_S h1
    have t2 := Cr_S h2
    have a2 : D_X7_numberHere [.ref 27, .int 1, .int 90] s1 = some (some (.int (oQ (numR T c (skE T c b) 1 91))), s2) := a2
    unfold clPe1
    cases e1 : numR T c (skE T c b) 1 91 with
    | none =>
      rw [e1] at a2
      refine Co_l (s' := s2) ?_ h2
      refine rD_un.trans ?_
      simp only [D_X7_readsPerson, B_X7_readsPerson, ↓rE_eK, ↓rE_eLi, ↓rE_eLj, ↓rE_eLa, ↓rE_eU, ↓rE_eB, ↓rE_eG, ↓rE_eIF, ↓rE_eAI, ↓rE_eAX, ↓rE_eAJ, ↓rE_eAR, ↓rE_eLen, ↓rE_eSI, ↓rE_eC, ↓rE_eCall, ↓rE_eNew, ↓rE_eNewA, ↓rE_eInst, ↓rC_cI, ↓rC_cZ0, ↓rC_cN, ↓rC_cNot, ↓rC_cAnd, ↓rC_cOr, ↓rA_aN, ↓rA_aC, ↓rS_sP, ↓rS_sUF, ↓rS_sAI, ↓rS_sAJ, ↓rS_sAR, ↓rS_sUA, ↓rS_sCall, ↓rS_sObj, ↓rS_sSi, ↓rS_sSa, ↓rS_sSj, ↓rS_sInc, ↓rS_sSkip, ↓rS_sSeq, ↓rS_sIf, ↓rS_sRetI, ↓rS_sRetJ, ↓rS_sRetA, ↓rS_sRetV, ↓rS_sSw, ↓rD_meth, ↓rD_on, ↓kR_ref, ↓kI_int, ↓kJ_long, ↓kN_null, ↓kN_ref, ↓kN_rf, ↓kQ_ref, ↓kQ_null, ↓kQ_rf, o1_i, o1ij_i, o1ji_i, o2_i, o2d_i, o2j_i, o2ji_i, o2c_i, fv_0, fv_1, fv_2, fv_3, pf_0, pf_2, pf_3, pf_4, rf_s, rf_n, is_self, ge_0, ge_s, ge_n, gd_s, gd_n, se_0, se_s, ag_0, ex_n, ex_i, ex_r, ex_0, ex_j, ex_q, ap_c, ap_n, List.append_nil, ln_c, ln_n, rp_0, rp_s, rt_0, rt_1, rt_20, rt_21, rt_2, rt_3, rt_4, rt_4n, rt_4q, nl_0, nl_1, nl_2, nl_3, nl_4, nl_5, nl_6, nl_7, nl_8, nl_9, nlB_i, nlB_r, nlB_n, nlB_f, nlB_q, ↓reduceIte, reduceCtorEq, Nat.reduceAdd, Nat.reduceSub, Nat.reduceEqDiff, Nat.reduceLeDiff, Nat.reduceBEq, ite_true, ite_false, dt_t, Bool.not_true, Bool.not_false, Bool.false_eq_true, Nat.le_refl, true_and, and_true, true_or, or_true, false_or, or_false, false_and, and_false, qEq, qNe, qLt, qGe, qGt, qLe, v0, u0, hge, g0, rD_tb1 t0, rD_of a1, rD_tb1 t1, rD_of a2, oQ_n, m1lt]
    | some g =>
      rw [e1, oQ_s] at a2
      have hg := (num_some e1).2.2
      have l1 := nI_lt0 (show g < 2147483648 by omega)
      obtain ⟨s3, a3, h3, -⟩ := Cr_pass h2 (Cr_de h2)
      have v3 := VR_T h3.2.1
      have u3 := VR_s h3.2.1
      have a4 := d_made hk (nI n) (nI g) (σ := s3)
      have a5 := d_join h3.2.1 n8 hk (G := nI g)
      obtain ⟨h4, k4⟩ := Cr_join (kd := kd) (g := g) h3 n8 hk ⟨hg.1, by omega⟩
      have t4 := Cr_S h4
      have hlt := h3.2.1.2.2.2.2.2.2.2.2.2
      have v4 : pT (mkp s3 kd (nI n) (nI g)) (pN σ0) = 10 := by rw [mk_T, if_neg (by omega)]; exact v3
      show Co _ _ _ _ _ _ (clPe2 T c (skE T c (deE T c (skE T c b))) n (newP wd n kd g))
      unfold clPe2
      cases e2 : optW T c (skE T c (deE T c (skE T c b))) 6 201 100 with
      | inl q =>
        obtain ⟨s5, b5, a6, h5⟩ := c_voice_l h4 e2 (i := n)
        rw [k4] at a6
        refine Co_l (s' := s5) ?_ h5
        refine rD_un.trans ?_
        simp only [D_X7_readsPerson, B_X7_readsPerson, ↓rE_eK, ↓rE_eLi, ↓rE_eLj, ↓rE_eLa, ↓rE_eU, ↓rE_eB, ↓rE_eG, ↓rE_eIF, ↓rE_eAI, ↓rE_eAX, ↓rE_eAJ, ↓rE_eAR, ↓rE_eLen, ↓rE_eSI, ↓rE_eC, ↓rE_eCall, ↓rE_eNew, ↓rE_eNewA, ↓rE_eInst, ↓rC_cI, ↓rC_cZ0, ↓rC_cN, ↓rC_cNot, ↓rC_cAnd, ↓rC_cOr, ↓rA_aN, ↓rA_aC, ↓rS_sP, ↓rS_sUF, ↓rS_sAI, ↓rS_sAJ, ↓rS_sAR, ↓rS_sUA, ↓rS_sCall, ↓rS_sObj, ↓rS_sSi, ↓rS_sSa, ↓rS_sSj, ↓rS_sInc, ↓rS_sSkip, ↓rS_sSeq, ↓rS_sIf, ↓rS_sRetI, ↓rS_sRetJ, ↓rS_sRetA, ↓rS_sRetV, ↓rS_sSw, ↓rD_meth, ↓rD_on, ↓kR_ref, ↓kI_int, ↓kJ_long, ↓kN_null, ↓kN_ref, ↓kN_rf, ↓kQ_ref, ↓kQ_null, ↓kQ_rf, o1_i, o1ij_i, o1ji_i, o2_i, o2d_i, o2j_i, o2ji_i, o2c_i, fv_0, fv_1, fv_2, fv_3, pf_0, pf_2, pf_3, pf_4, rf_s, rf_n, is_self, ge_0, ge_s, ge_n, gd_s, gd_n, se_0, se_s, ag_0, ex_n, ex_i, ex_r, ex_0, ex_j, ex_q, ap_c, ap_n, List.append_nil, ln_c, ln_n, rp_0, rp_s, rt_0, rt_1, rt_20, rt_21, rt_2, rt_3, rt_4, rt_4n, rt_4q, nl_0, nl_1, nl_2, nl_3, nl_4, nl_5, nl_6, nl_7, nl_8, nl_9, nlB_i, nlB_r, nlB_n, nlB_f, nlB_q, ↓reduceIte, reduceCtorEq, Nat.reduceAdd, Nat.reduceSub, Nat.reduceEqDiff, Nat.reduceLeDiff, Nat.reduceBEq, ite_true, ite_false, dt_t, Bool.not_true, Bool.not_false, Bool.false_eq_true, Nat.le_refl, true_and, and_true, true_or, or_true, false_or, or_false, false_and, and_false, qEq, qNe, qLt, qGe, qGt, qLe, v0, u0, hge, g0, rD_tb1 t0, rD_of a1, rD_tb1 t1, rD_of a2, l1, rD_tb1 t2, rD_of a3, v3, u3, rD_of a4, rD_tb1 v4, rD_of a5, rD_tb1 t4, rD_of a6, not_true]
      | inr qx =>
        obtain ⟨q, x⟩ := qx
        obtain ⟨s5, b5, a6, h5, k5⟩ := c_voice_r h4 (by omega) np_v e2
        rw [k4] at a6 k5
        have t5 := Cr_S h5
        show Co _ _ _ _ _ _ (clPe3 T c q n (upd (newP wd n kd g) (20 + n) (nI x)))
        unfold clPe3
        cases e3 : optW T c q 7 1000 0 with
        | inl q2 =>
          obtain ⟨s6, b6, a7, h6⟩ := c_purse_l h5 e3 (i := n)
          rw [k5] at a7
          refine Co_l (s' := s6) ?_ h6
          refine rD_un.trans ?_
          simp only [D_X7_readsPerson, B_X7_readsPerson, ↓rE_eK, ↓rE_eLi, ↓rE_eLj, ↓rE_eLa, ↓rE_eU, ↓rE_eB, ↓rE_eG, ↓rE_eIF, ↓rE_eAI, ↓rE_eAX, ↓rE_eAJ, ↓rE_eAR, ↓rE_eLen, ↓rE_eSI, ↓rE_eC, ↓rE_eCall, ↓rE_eNew, ↓rE_eNewA, ↓rE_eInst, ↓rC_cI, ↓rC_cZ0, ↓rC_cN, ↓rC_cNot, ↓rC_cAnd, ↓rC_cOr, ↓rA_aN, ↓rA_aC, ↓rS_sP, ↓rS_sUF, ↓rS_sAI, ↓rS_sAJ, ↓rS_sAR, ↓rS_sUA, ↓rS_sCall, ↓rS_sObj, ↓rS_sSi, ↓rS_sSa, ↓rS_sSj, ↓rS_sInc, ↓rS_sSkip, ↓rS_sSeq, ↓rS_sIf, ↓rS_sRetI, ↓rS_sRetJ, ↓rS_sRetA, ↓rS_sRetV, ↓rS_sSw, ↓rD_meth, ↓rD_on, ↓kR_ref, ↓kI_int, ↓kJ_long, ↓kN_null, ↓kN_ref, ↓kN_rf, ↓kQ_ref, ↓kQ_null, ↓kQ_rf, o1_i, o1ij_i, o1ji_i, o2_i, o2d_i, o2j_i, o2ji_i, o2c_i, fv_0, fv_1, fv_2, fv_3, pf_0, pf_2, pf_3, pf_4, rf_s, rf_n, is_self, ge_0, ge_s, ge_n, gd_s, gd_n, se_0, se_s, ag_0, ex_n, ex_i, ex_r, ex_0, ex_j, ex_q, ap_c, ap_n, List.append_nil, ln_c, ln_n, rp_0, rp_s, rt_0, rt_1, rt_20, rt_21, rt_2, rt_3, rt_4, rt_4n, rt_4q, nl_0, nl_1, nl_2, nl_3, nl_4, nl_5, nl_6, nl_7, nl_8, nl_9, nlB_i, nlB_r, nlB_n, nlB_f, nlB_q, ↓reduceIte, reduceCtorEq, Nat.reduceAdd, Nat.reduceSub, Nat.reduceEqDiff, Nat.reduceLeDiff, Nat.reduceBEq, ite_true, ite_false, dt_t, Bool.not_true, Bool.not_false, Bool.false_eq_true, Nat.le_refl, true_and, and_true, true_or, or_true, false_or, or_false, false_and, and_false, qEq, qNe, qLt, qGe, qGt, qLe, v0, u0, hge, g0, rD_tb1 t0, rD_of a1, rD_tb1 t1, rD_of a2, l1, rD_tb1 t2, rD_of a3, v3, u3, rD_of a4, rD_tb1 v4, rD_of a5, rD_tb1 t4, rD_of a6, one_ne0, not_false_eq_true, rD_tb1 t5, rD_of a7, not_true]
        | inr qx2 =>
          obtain ⟨q2, x2⟩ := qx2
          obtain ⟨s6, b6, a7, h6, k6⟩ := c_purse_r h5 (show n < n + 1 by omega) (by rw [upd_ne _ _ (by omega)]; exact np_p) e3
          rw [k5] at a7
          have t6 := Cr_S h6
          show Co _ _ _ _ _ _ (cSemi T c q2 (n + 1) (upd (upd (newP wd n kd g) (20 + n) (nI x)) (28 + n) (nI x2)))
          unfold cSemi
          by_cases e5 : q2 < T ∧ c q2 = 59
          · rw [if_pos e5]
            obtain ⟨s9, a9, h9⟩ := Cr_semi h6 e5
            refine Co_r (s' := s9) ?_ h9
            refine rD_un.trans ?_
            simp only [D_X7_readsPerson, B_X7_readsPerson, ↓rE_eK, ↓rE_eLi, ↓rE_eLj, ↓rE_eLa, ↓rE_eU, ↓rE_eB, ↓rE_eG, ↓rE_eIF, ↓rE_eAI, ↓rE_eAX, ↓rE_eAJ, ↓rE_eAR, ↓rE_eLen, ↓rE_eSI, ↓rE_eC, ↓rE_eCall, ↓rE_eNew, ↓rE_eNewA, ↓rE_eInst, ↓rC_cI, ↓rC_cZ0, ↓rC_cN, ↓rC_cNot, ↓rC_cAnd, ↓rC_cOr, ↓rA_aN, ↓rA_aC, ↓rS_sP, ↓rS_sUF, ↓rS_sAI, ↓rS_sAJ, ↓rS_sAR, ↓rS_sUA, ↓rS_sCall, ↓rS_sObj, ↓rS_sSi, ↓rS_sSa, ↓rS_sSj, ↓rS_sInc, ↓rS_sSkip, ↓rS_sSeq, ↓rS_sIf, ↓rS_sRetI, ↓rS_sRetJ, ↓rS_sRetA, ↓rS_sRetV, ↓rS_sSw, ↓rD_meth, ↓rD_on, ↓kR_ref, ↓kI_int, ↓kJ_long, ↓kN_null, ↓kN_ref, ↓kN_rf, ↓kQ_ref, ↓kQ_null, ↓kQ_rf, o1_i, o1ij_i, o1ji_i, o2_i, o2d_i, o2j_i, o2ji_i, o2c_i, fv_0, fv_1, fv_2, fv_3, pf_0, pf_2, pf_3, pf_4, rf_s, rf_n, is_self, ge_0, ge_s, ge_n, gd_s, gd_n, se_0, se_s, ag_0, ex_n, ex_i, ex_r, ex_0, ex_j, ex_q, ap_c, ap_n, List.append_nil, ln_c, ln_n, rp_0, rp_s, rt_0, rt_1, rt_20, rt_21, rt_2, rt_3, rt_4, rt_4n, rt_4q, nl_0, nl_1, nl_2, nl_3, nl_4, nl_5, nl_6, nl_7, nl_8, nl_9, nlB_i, nlB_r, nlB_n, nlB_f, nlB_q, ↓reduceIte, reduceCtorEq, Nat.reduceAdd, Nat.reduceSub, Nat.reduceEqDiff, Nat.reduceLeDiff, Nat.reduceBEq, ite_true, ite_false, dt_t, Bool.not_true, Bool.not_false, Bool.false_eq_true, Nat.le_refl, true_and, and_true, true_or, or_true, false_or, or_false, false_and, and_false, qEq, qNe, qLt, qGe, qGt, qLe, v0, u0, hge, g0, rD_tb1 t0, rD_of a1, rD_tb1 t1, rD_of a2, l1, rD_tb1 t2, rD_of a3, v3, u3, rD_of a4, rD_tb1 v4, rD_of a5, rD_tb1 t4, rD_of a6, one_ne0, not_false_eq_true, rD_tb1 t5, rD_of a7, rD_tb1 t6, rD_of a9]
          · rw [if_neg e5]
            have a9 := d_semi_f h6.1 e5
            refine Co_l (s' := _) ?_ h6
            refine rD_un.trans ?_
            simp only [D_X7_readsPerson, B_X7_readsPerson, ↓rE_eK, ↓rE_eLi, ↓rE_eLj, ↓rE_eLa, ↓rE_eU, ↓rE_eB, ↓rE_eG, ↓rE_eIF, ↓rE_eAI, ↓rE_eAX, ↓rE_eAJ, ↓rE_eAR, ↓rE_eLen, ↓rE_eSI, ↓rE_eC, ↓rE_eCall, ↓rE_eNew, ↓rE_eNewA, ↓rE_eInst, ↓rC_cI, ↓rC_cZ0, ↓rC_cN, ↓rC_cNot, ↓rC_cAnd, ↓rC_cOr, ↓rA_aN, ↓rA_aC, ↓rS_sP, ↓rS_sUF, ↓rS_sAI, ↓rS_sAJ, ↓rS_sAR, ↓rS_sUA, ↓rS_sCall, ↓rS_sObj, ↓rS_sSi, ↓rS_sSa, ↓rS_sSj, ↓rS_sInc, ↓rS_sSkip, ↓rS_sSeq, ↓rS_sIf, ↓rS_sRetI, ↓rS_sRetJ, ↓rS_sRetA, ↓rS_sRetV, ↓rS_sSw, ↓rD_meth, ↓rD_on, ↓kR_ref, ↓kI_int, ↓kJ_long, ↓kN_null, ↓kN_ref, ↓kN_rf, ↓kQ_ref, ↓kQ_null, ↓kQ_rf, o1_i, o1ij_i, o1ji_i, o2_i, o2d_i, o2j_i, o2ji_i, o2c_i, fv_0, fv_1, fv_2, fv_3, pf_0, pf_2, pf_3, pf_4, rf_s, rf_n, is_self, ge_0, ge_s, ge_n, gd_s, gd_n, se_0, se_s, ag_0, ex_n, ex_i, ex_r, ex_0, ex_j, ex_q, ap_c, ap_n, List.append_nil, ln_c, ln_n, rp_0, rp_s, rt_0, rt_1, rt_20, rt_21, rt_2, rt_3, rt_4, rt_4n, rt_4q, nl_0, nl_1, nl_2, nl_3, nl_4, nl_5, nl_6, nl_7, nl_8, nl_9, nlB_i, nlB_r, nlB_n, nlB_f, nlB_q, ↓reduceIte, reduceCtorEq, Nat.reduceAdd, Nat.reduceSub, Nat.reduceEqDiff, Nat.reduceLeDiff, Nat.reduceBEq, ite_true, ite_false, dt_t, Bool.not_true, Bool.not_false, Bool.false_eq_true, Nat.le_refl, true_and, and_true, true_or, or_true, false_or, or_false, false_and, and_false, qEq, qNe, qLt, qGe, qGt, qLe, v0, u0, hge, g0, rD_tb1 t0, rD_of a1, rD_tb1 t1, rD_of a2, l1, rD_tb1 t2, rD_of a3, v3, u3, rD_of a4, rD_tb1 v4, rD_of a5, rD_tb1 t4, rD_of a6, one_ne0, not_false_eq_true, rD_tb1 t5, rD_of a7, rD_tb1 t6, rD_of a9, not_true]
  · rw [if_neg n8]
    have g0 : (8 ≤ n) = True := eq_true (by omega)
    refine Co_l (s' := s) ?_ h
    refine rD_un.trans ?_
    simp only [D_X7_readsPerson, B_X7_readsPerson, ↓rE_eK, ↓rE_eLi, ↓rE_eLj, ↓rE_eLa, ↓rE_eU, ↓rE_eB, ↓rE_eG, ↓rE_eIF, ↓rE_eAI, ↓rE_eAX, ↓rE_eAJ, ↓rE_eAR, ↓rE_eLen, ↓rE_eSI, ↓rE_eC, ↓rE_eCall, ↓rE_eNew, ↓rE_eNewA, ↓rE_eInst, ↓rC_cI, ↓rC_cZ0, ↓rC_cN, ↓rC_cNot, ↓rC_cAnd, ↓rC_cOr, ↓rA_aN, ↓rA_aC, ↓rS_sP, ↓rS_sUF, ↓rS_sAI, ↓rS_sAJ, ↓rS_sAR, ↓rS_sUA, ↓rS_sCall, ↓rS_sObj, ↓rS_sSi, ↓rS_sSa, ↓rS_sSj, ↓rS_sInc, ↓rS_sSkip, ↓rS_sSeq, ↓rS_sIf, ↓rS_sRetI, ↓rS_sRetJ, ↓rS_sRetA, ↓rS_sRetV, ↓rS_sSw, ↓rD_meth, ↓rD_on, ↓kR_ref, ↓kI_int, ↓kJ_long, ↓kN_null, ↓kN_ref, ↓kN_rf, ↓kQ_ref, ↓kQ_null, ↓kQ_rf, o1_i, o1ij_i, o1ji_i, o2_i, o2d_i, o2j_i, o2ji_i, o2c_i, fv_0, fv_1, fv_2, fv_3, pf_0, pf_2, pf_3, pf_4, rf_s, rf_n, is_self, ge_0, ge_s, ge_n, gd_s, gd_n, se_0, se_s, ag_0, ex_n, ex_i, ex_r, ex_0, ex_j, ex_q, ap_c, ap_n, List.append_nil, ln_c, ln_n, rp_0, rp_s, rt_0, rt_1, rt_20, rt_21, rt_2, rt_3, rt_4, rt_4n, rt_4q, nl_0, nl_1, nl_2, nl_3, nl_4, nl_5, nl_6, nl_7, nl_8, nl_9, nlB_i, nlB_r, nlB_n, nlB_f, nlB_q, ↓reduceIte, reduceCtorEq, Nat.reduceAdd, Nat.reduceSub, Nat.reduceEqDiff, Nat.reduceLeDiff, Nat.reduceBEq, ite_true, ite_false, dt_t, Bool.not_true, Bool.not_false, Bool.false_eq_true, Nat.le_refl, true_and, and_true, true_or, or_true, false_or, or_false, false_and, and_false, qEq, qNe, qLt, qGe, qGt, qLe, v0, u0, hge, g0]
theorem pr_l {i p n q : Nat} {wd : Nat → Int32} (hi : i < 200) (hp : p < T) (e : clause T c p n wd = .inl q) : prs T c (200 - i) p n wd = .inl q := by
  rw [show 200 - i = (200 - (i + 1)) + 1 by omega, prs, if_pos hp, e]
theorem pr_r {i p n p' n' : Nat} {wd wd' : Nat → Int32} (hi : i < 200) (hp : p < T) (e : clause T c p n wd = .inr (p', n', wd')) : prs T c (200 - i) p n wd = prs T c (200 - (i + 1)) p' n' wd' := by
  rw [show 200 - i = (200 - (i + 1)) + 1 by omega, prs, if_pos hp, e]
theorem pr_e {k p n : Nat} {wd : Nat → Int32} (hp : ¬ p < T) : prs T c k p n wd = .inr (n, wd) := by
  cases k with
  | zero => rfl
  | succ k => rw [prs, if_neg hp]
theorem d_fault {σ0 s : pm_H} {b : Nat} {wd : Nat → Int32} (hS : Sh s) (h1 : Cr σ0 T c 0 b 0 wd (uI s 27 2 0)) : (∀ q, prs T c 200 (skE T c 0) 0 wd = .inl q → ∃ s' b n wd', D_X7_faultOf [.ref 27, .ref (pN σ0)] s = some (some (.int (nI q)), s') ∧ Cr σ0 T c q b n wd' s') ∧ ∀ n wd', prs T c 200 (skE T c 0) 0 wd = .inr (n, wd') → ∃ s' p b, D_X7_faultOf [.ref 27, .ref (pN σ0)] s = some (some (.int (-1)), s') ∧ Cr σ0 T c p b n wd' s' := by
  have hT := h1.1.2.1
  obtain ⟨s1, a1, b1, c1⟩ := d_skip h1.1
  have h2 := Cr_Tf h1 b1 c1
  have t0 := sT_27 hS
  have t1 := Cr_S h1
  have hl : ∃ r τ, sLoop (cAnd (cI qLt (eLi 2) (eK (.int 200))) (cI qLt (eG (is 7) 0 2 (eLa 0)) (eG (is 7) 0 1 (eLa 0)))) (sSeq (sSeq (sSi 3 (eCall (pm_disp (tb1 7 D_X7_wordHere)) (aC (eLa 0) (aN)))) (sSeq (sIf (cI qEq (eLi 3) (eK (.int 8))) (sSi 4 (eCall (pm_disp (tb1 7 D_X7_readsOwes)) (aC (eLa 0) (aC (eLa 1) (aN))))) (sIf (cI qEq (eLi 3) (eK (.int 9))) (sSi 4 (eCall (pm_disp (tb1 7 D_X7_readsAsleep)) (aC (eLa 0) (aC (eLa 1) (aN))))) (sSi 4 (eC (cAnd (cAnd (cZ0 qGe (eLi 3)) (cI qLt (eLi 3) (eK (.int 6)))) (cZ0 qNe (eCall (pm_disp (tb1 7 D_X7_readsPerson)) (aC (eLa 0) (aC (eLi 3) (aC (eLa 1) (aN))))))) (eK (.int 1)) (eK (.int 0)))))) (sIf (cNot (cZ0 qNe (eLi 4))) (sRetK 1 (eG (is 7) 0 2 (eLa 0))) sSkip))) (sInc 2 1)) [.ref 27, .ref (pN σ0), .int 0, .float 0, .float 0] s1 = some (r, τ) ∧ ((∃ q b n wd', prs T c 200 (skE T c 0) 0 wd = .inl q ∧ r = .inr (some (.int (nI q))) ∧ Cr σ0 T c q b n wd' τ) ∨ (∃ p b n wd' env, prs T c 200 (skE T c 0) 0 wd = .inr (n, wd') ∧ r = .inl env ∧ Cr σ0 T c p b n wd' τ)) := by
    refine loop_gen (fun i env t => ∃ p b n wd' x y, Cr σ0 T c p b n wd' t ∧ prs T c (200 - i) p n wd' = prs T c 200 (skE T c 0) 0 wd ∧ env = [.ref 27, .ref (pN σ0), .int (nI i), x, y]) _ 200 (by omega) ⟨_, _, _, _, .float 0, .float 0, h2, rfl, by rw [nI_0]⟩ ?_
    rintro i env t hi ⟨p, b, n, wd', x, y, hC, hR, rfl⟩
    have hSt := hC.1.1
    have f1 := hC.1.2.2.1
    have f2 := hC.1.2.2.2.2.2.1.1
    have fp := hC.1.2.2.2.2.2.1.2
    have tt := Cr_S hC
    have li : (nI i < 200) = (i < 200) := nI_lt' (b := 200) (by omega) (by decide)
    have lp : (nI p < nI T) = (p < T) := nI_lt' (by omega) (by omega)
    by_cases e1 : i < 200
    · by_cases e2 : p < T
      · obtain ⟨t1, d1, g1, -⟩ := Cr_word hC
        have tt1 := Cr_S g1
        have w8 := oW_eq (c := c) hT p (w := 8) (by decide)
        have w9 := oW_eq (c := c) hT p (w := 9) (by decide)
        have key : ∀ {D : pm_D} {vs : List Value}, Co σ0 T c D vs t1 (clause T c p n wd') → (∀ t2 k, D vs t1 = some (some (.int k), t2) → k = 0 ∨ k = 1 → pT t2 27 = 7 → ∃ x' y', lpStep (cAnd (cI qLt (eLi 2) (eK (.int 200))) (cI qLt (eG (is 7) 0 2 (eLa 0)) (eG (is 7) 0 1 (eLa 0)))) (sSeq (sSeq (sSi 3 (eCall (pm_disp (tb1 7 D_X7_wordHere)) (aC (eLa 0) (aN)))) (sSeq (sIf (cI qEq (eLi 3) (eK (.int 8))) (sSi 4 (eCall (pm_disp (tb1 7 D_X7_readsOwes)) (aC (eLa 0) (aC (eLa 1) (aN))))) (sIf (cI qEq (eLi 3) (eK (.int 9))) (sSi 4 (eCall (pm_disp (tb1 7 D_X7_readsAsleep)) (aC (eLa 0) (aC (eLa 1) (aN))))) (sSi 4 (eC (cAnd (cAnd (cZ0 qGe (eLi 3)) (cI qLt (eLi 3) (eK (.int 6)))) (cZ0 qNe (eCall (pm_disp (tb1 7 D_X7_readsPerson)) (aC (eLa 0) (aC (eLi 3) (aC (eLa 1) (aN))))))) (eK (.int 1)) (eK (.int 0)))))) (sIf (cNot (cZ0 qNe (eLi 4))) (sRetK 1 (eG (is 7) 0 2 (eLa 0))) sSkip))) (sInc 2 1)) [.ref 27, .ref (pN σ0), .int (nI i), x, y] t = if k = 0 then some (.inr (.inr (some (.int (pI t2 27 2)))), t2) else some (.inl [.ref 27, .ref (pN σ0), .int (nI (i + 1)), x', y'], t2)) → (∃ env' σ', lpStep (cAnd (cI qLt (eLi 2) (eK (.int 200))) (cI qLt (eG (is 7) 0 2 (eLa 0)) (eG (is 7) 0 1 (eLa 0)))) (sSeq (sSeq (sSi 3 (eCall (pm_disp (tb1 7 D_X7_wordHere)) (aC (eLa 0) (aN)))) (sSeq (sIf (cI qEq (eLi 3) (eK (.int 8))) (sSi 4 (eCall (pm_disp (tb1 7 D_X7_readsOwes)) (aC (eLa 0) (aC (eLa 1) (aN))))) (sIf (cI qEq (eLi 3) (eK (.int 9))) (sSi 4 (eCall (pm_disp (tb1 7 D_X7_readsAsleep)) (aC (eLa 0) (aC (eLa 1) (aN))))) (sSi 4 (eC (cAnd (cAnd (cZ0 qGe (eLi 3)) (cI qLt (eLi 3) (eK (.int 6)))) (cZ0 qNe (eCall (pm_disp (tb1 7 D_X7_readsPerson)) (aC (eLa 0) (aC (eLi 3) (aC (eLa 1) (aN))))))) (eK (.int 1)) (eK (.int 0)))))) (sIf (cNot (cZ0 qNe (eLi 4))) (sRetK 1 (eG (is 7) 0 2 (eLa 0))) sSkip))) (sInc 2 1)) [.ref 27, .ref (pN σ0), .int (nI i), x, y] t = some (.inl env', σ') ∧ i < 200 ∧ ∃ p b n wd' x y, Cr σ0 T c p b n wd' σ' ∧ prs T c (200 - (i + 1)) p n wd' = prs T c 200 (skE T c 0) 0 wd ∧ env' = [.ref 27, .ref (pN σ0), .int (nI (i + 1)), x, y]) ∨ (∃ r σ', lpStep (cAnd (cI qLt (eLi 2) (eK (.int 200))) (cI qLt (eG (is 7) 0 2 (eLa 0)) (eG (is 7) 0 1 (eLa 0)))) (sSeq (sSeq (sSi 3 (eCall (pm_disp (tb1 7 D_X7_wordHere)) (aC (eLa 0) (aN)))) (sSeq (sIf (cI qEq (eLi 3) (eK (.int 8))) (sSi 4 (eCall (pm_disp (tb1 7 D_X7_readsOwes)) (aC (eLa 0) (aC (eLa 1) (aN))))) (sIf (cI qEq (eLi 3) (eK (.int 9))) (sSi 4 (eCall (pm_disp (tb1 7 D_X7_readsAsleep)) (aC (eLa 0) (aC (eLa 1) (aN))))) (sSi 4 (eC (cAnd (cAnd (cZ0 qGe (eLi 3)) (cI qLt (eLi 3) (eK (.int 6)))) (cZ0 qNe (eCall (pm_disp (tb1 7 D_X7_readsPerson)) (aC (eLa 0) (aC (eLi 3) (aC (eLa 1) (aN))))))) (eK (.int 1)) (eK (.int 0)))))) (sIf (cNot (cZ0 qNe (eLi 4))) (sRetK 1 (eG (is 7) 0 2 (eLa 0))) sSkip))) (sInc 2 1)) [.ref 27, .ref (pN σ0), .int (nI i), x, y] t = some (.inr r, σ') ∧ ((∃ q b n wd', prs T c 200 (skE T c 0) 0 wd = .inl q ∧ r = .inr (some (.int (nI q))) ∧ Cr σ0 T c q b n wd' σ') ∨ (∃ p b n wd' env, prs T c 200 (skE T c 0) 0 wd = .inr (n, wd') ∧ r = .inl env ∧ Cr σ0 T c p b n wd' σ'))) := by
          intro D vs hCo hst
          cases ecl : clause T c p n wd' with
          | inl q =>
            right
            rw [ecl] at hCo
            obtain ⟨t2, b2, n2, wd2, d2, g2⟩ := hCo.1 q rfl
            obtain ⟨x', y', st⟩ := hst t2 0 d2 (Or.inl rfl) (Cr_S g2)
            rw [if_pos rfl, g2.1.2.2.2.2.2.1.1] at st
            exact ⟨_, _, st, Or.inl ⟨q, b2, n2, wd2, hR.symm.trans (pr_l e1 e2 ecl), rfl, g2⟩⟩
          | inr z =>
            left
            obtain ⟨p', n', wd2⟩ := z
            rw [ecl] at hCo
            obtain ⟨t2, b2, d2, g2⟩ := hCo.2 p' n' wd2 rfl
            obtain ⟨x', y', st⟩ := hst t2 1 d2 (Or.inr rfl) (Cr_S g2)
            rw [if_neg one_ne0] at st
            exact ⟨_, _, st, e1, p', b2, n', wd2, x', y', g2, (pr_r e1 e2 ecl).symm.trans hR, rfl⟩
        by_cases c8 : wId T c p = 8
        · have w8' : (oW T c p = 8) = True := w8.trans (eq_true c8)
          refine key (D := D_X7_readsOwes) (vs := [.ref 27, .ref (pN σ0)]) (by unfold clause; rw [if_pos c8]; exact c_owes g1 (Cr_le g1)) ?_
          rintro t2 k d2 (rfl | rfl) tt2
          · refine ⟨x, y, ?_⟩
            rw [if_pos rfl]
            simp only [lpStep, ↓rE_eK, ↓rE_eLi, ↓rE_eLj, ↓rE_eLa, ↓rE_eU, ↓rE_eB, ↓rE_eG, ↓rE_eIF, ↓rE_eAI, ↓rE_eAX, ↓rE_eAJ, ↓rE_eAR, ↓rE_eLen, ↓rE_eSI, ↓rE_eC, ↓rE_eCall, ↓rE_eNew, ↓rE_eNewA, ↓rE_eInst, ↓rC_cI, ↓rC_cZ0, ↓rC_cN, ↓rC_cNot, ↓rC_cAnd, ↓rC_cOr, ↓rA_aN, ↓rA_aC, ↓rS_sP, ↓rS_sUF, ↓rS_sAI, ↓rS_sAJ, ↓rS_sAR, ↓rS_sUA, ↓rS_sCall, ↓rS_sObj, ↓rS_sSi, ↓rS_sSa, ↓rS_sSj, ↓rS_sInc, ↓rS_sSkip, ↓rS_sSeq, ↓rS_sIf, ↓rS_sRetI, ↓rS_sRetJ, ↓rS_sRetA, ↓rS_sRetV, ↓rS_sSw, ↓rD_meth, ↓rD_on, ↓kR_ref, ↓kI_int, ↓kJ_long, ↓kN_null, ↓kN_ref, ↓kN_rf, ↓kQ_ref, ↓kQ_null, ↓kQ_rf, o1_i, o1ij_i, o1ji_i, o2_i, o2d_i, o2j_i, o2ji_i, o2c_i, fv_0, fv_1, fv_2, fv_3, pf_0, pf_2, pf_3, pf_4, rf_s, rf_n, is_self, ge_0, ge_s, ge_n, gd_s, gd_n, se_0, se_s, ag_0, ex_n, ex_i, ex_r, ex_0, ex_j, ex_q, ap_c, ap_n, List.append_nil, ln_c, ln_n, rp_0, rp_s, rt_0, rt_1, rt_20, rt_21, rt_2, rt_3, rt_4, rt_4n, rt_4q, nl_0, nl_1, nl_2, nl_3, nl_4, nl_5, nl_6, nl_7, nl_8, nl_9, nlB_i, nlB_r, nlB_n, nlB_f, nlB_q, ↓reduceIte, reduceCtorEq, Nat.reduceAdd, Nat.reduceSub, Nat.reduceEqDiff, Nat.reduceLeDiff, Nat.reduceBEq, ite_true, ite_false, dt_t, Bool.not_true, Bool.not_false, Bool.false_eq_true, Nat.le_refl, true_and, and_true, true_or, or_true, false_or, or_false, false_and, and_false, qEq, qNe, qLt, qGe, qGt, qLe, li, e1, sT_11 hSt, sT_12 hSt, sT_13 hSt, sT_14 hSt, sT_15 hSt, sT_16 hSt, sT_17 hSt, sT_18 hSt, sT_19 hSt, sT_20 hSt, sT_21 hSt, sT_22 hSt, sT_23 hSt, sT_24 hSt, sT_25 hSt, sT_26 hSt, sT_27 hSt, sT_28 hSt, sT_29 hSt, sT_30 hSt, sT_31 hSt, sT_32 hSt, sT_33 hSt, sT_34 hSt, sL_13 hSt, sL_14 hSt, sL_16 hSt, sL_17 hSt, sL_18 hSt, sL_19 hSt, sL_20 hSt, sL_21 hSt, sL_22 hSt, sL_23 hSt, sL_24 hSt, sL_25 hSt, sL_26 hSt, sL_28 hSt, sL_30 hSt, sL_31 hSt, sL_32 hSt, sL_33 hSt, sL_34 hSt, sR_11_2 hSt, sR_11_3 hSt, sR_11_4 hSt, sR_11_5 hSt, sR_11_7 hSt, sR_11_8 hSt, sR_11_9 hSt, sR_27_0 hSt, sR_29_0 hSt, sR_15_0 hSt, sR_15_3 hSt, sR_15_5 hSt, sR_15_6 hSt, sR_15_7 hSt, sR_15_8 hSt, sR_15_9 hSt, sR_15_10 hSt, sR_15_11 hSt, sR_15_12 hSt, sR_15_13 hSt, f1, f2, lp, e2, rD_tb1 tt, rD_of d1, w8', rD_tb1 tt1, rD_of d2, tt2, not_true, not_false_eq_true, nt_t]
          · refine ⟨.int (oW T c p), .int 1, ?_⟩
            rw [if_neg one_ne0]
            simp only [lpStep, ↓rE_eK, ↓rE_eLi, ↓rE_eLj, ↓rE_eLa, ↓rE_eU, ↓rE_eB, ↓rE_eG, ↓rE_eIF, ↓rE_eAI, ↓rE_eAX, ↓rE_eAJ, ↓rE_eAR, ↓rE_eLen, ↓rE_eSI, ↓rE_eC, ↓rE_eCall, ↓rE_eNew, ↓rE_eNewA, ↓rE_eInst, ↓rC_cI, ↓rC_cZ0, ↓rC_cN, ↓rC_cNot, ↓rC_cAnd, ↓rC_cOr, ↓rA_aN, ↓rA_aC, ↓rS_sP, ↓rS_sUF, ↓rS_sAI, ↓rS_sAJ, ↓rS_sAR, ↓rS_sUA, ↓rS_sCall, ↓rS_sObj, ↓rS_sSi, ↓rS_sSa, ↓rS_sSj, ↓rS_sInc, ↓rS_sSkip, ↓rS_sSeq, ↓rS_sIf, ↓rS_sRetI, ↓rS_sRetJ, ↓rS_sRetA, ↓rS_sRetV, ↓rS_sSw, ↓rD_meth, ↓rD_on, ↓kR_ref, ↓kI_int, ↓kJ_long, ↓kN_null, ↓kN_ref, ↓kN_rf, ↓kQ_ref, ↓kQ_null, ↓kQ_rf, o1_i, o1ij_i, o1ji_i, o2_i, o2d_i, o2j_i, o2ji_i, o2c_i, fv_0, fv_1, fv_2, fv_3, pf_0, pf_2, pf_3, pf_4, rf_s, rf_n, is_self, ge_0, ge_s, ge_n, gd_s, gd_n, se_0, se_s, ag_0, ex_n, ex_i, ex_r, ex_0, ex_j, ex_q, ap_c, ap_n, List.append_nil, ln_c, ln_n, rp_0, rp_s, rt_0, rt_1, rt_20, rt_21, rt_2, rt_3, rt_4, rt_4n, rt_4q, nl_0, nl_1, nl_2, nl_3, nl_4, nl_5, nl_6, nl_7, nl_8, nl_9, nlB_i, nlB_r, nlB_n, nlB_f, nlB_q, ↓reduceIte, reduceCtorEq, Nat.reduceAdd, Nat.reduceSub, Nat.reduceEqDiff, Nat.reduceLeDiff, Nat.reduceBEq, ite_true, ite_false, dt_t, Bool.not_true, Bool.not_false, Bool.false_eq_true, Nat.le_refl, true_and, and_true, true_or, or_true, false_or, or_false, false_and, and_false, qEq, qNe, qLt, qGe, qGt, qLe, li, e1, sT_11 hSt, sT_12 hSt, sT_13 hSt, sT_14 hSt, sT_15 hSt, sT_16 hSt, sT_17 hSt, sT_18 hSt, sT_19 hSt, sT_20 hSt, sT_21 hSt, sT_22 hSt, sT_23 hSt, sT_24 hSt, sT_25 hSt, sT_26 hSt, sT_27 hSt, sT_28 hSt, sT_29 hSt, sT_30 hSt, sT_31 hSt, sT_32 hSt, sT_33 hSt, sT_34 hSt, sL_13 hSt, sL_14 hSt, sL_16 hSt, sL_17 hSt, sL_18 hSt, sL_19 hSt, sL_20 hSt, sL_21 hSt, sL_22 hSt, sL_23 hSt, sL_24 hSt, sL_25 hSt, sL_26 hSt, sL_28 hSt, sL_30 hSt, sL_31 hSt, sL_32 hSt, sL_33 hSt, sL_34 hSt, sR_11_2 hSt, sR_11_3 hSt, sR_11_4 hSt, sR_11_5 hSt, sR_11_7 hSt, sR_11_8 hSt, sR_11_9 hSt, sR_27_0 hSt, sR_29_0 hSt, sR_15_0 hSt, sR_15_3 hSt, sR_15_5 hSt, sR_15_6 hSt, sR_15_7 hSt, sR_15_8 hSt, sR_15_9 hSt, sR_15_10 hSt, sR_15_11 hSt, sR_15_12 hSt, sR_15_13 hSt, f1, f2, lp, e2, rD_tb1 tt, rD_of d1, w8', rD_tb1 tt1, rD_of d2, tt2, one_ne0, not_true, not_false_eq_true, nt_t, nI_1]
        · have w8' : (oW T c p = 8) = False := w8.trans (eq_false c8)
          by_cases c9 : wId T c p = 9
          · have w9' : (oW T c p = 9) = True := w9.trans (eq_true c9)
            refine key (D := D_X7_readsAsleep) (vs := [.ref 27, .ref (pN σ0)]) (by unfold clause; rw [if_neg c8, if_pos c9]; exact c_asleep g1 (Cr_le g1)) ?_
            rintro t2 k d2 (rfl | rfl) tt2
            · refine ⟨x, y, ?_⟩
              rw [if_pos rfl]
              simp only [lpStep, ↓rE_eK, ↓rE_eLi, ↓rE_eLj, ↓rE_eLa, ↓rE_eU, ↓rE_eB, ↓rE_eG, ↓rE_eIF, ↓rE_eAI, ↓rE_eAX, ↓rE_eAJ, ↓rE_eAR, ↓rE_eLen, ↓rE_eSI, ↓rE_eC, ↓rE_eCall, ↓rE_eNew, ↓rE_eNewA, ↓rE_eInst, ↓rC_cI, ↓rC_cZ0, ↓rC_cN, ↓rC_cNot, ↓rC_cAnd, ↓rC_cOr, ↓rA_aN, ↓rA_aC, ↓rS_sP, ↓rS_sUF, ↓rS_sAI, ↓rS_sAJ, ↓rS_sAR, ↓rS_sUA, ↓rS_sCall, ↓rS_sObj, ↓rS_sSi, ↓rS_sSa, ↓rS_sSj, ↓rS_sInc, ↓rS_sSkip, ↓rS_sSeq, ↓rS_sIf, ↓rS_sRetI, ↓rS_sRetJ, ↓rS_sRetA, ↓rS_sRetV, ↓rS_sSw, ↓rD_meth, ↓rD_on, ↓kR_ref, ↓kI_int, ↓kJ_long, ↓kN_null, ↓kN_ref, ↓kN_rf, ↓kQ_ref, ↓kQ_null, ↓kQ_rf, o1_i, o1ij_i, o1ji_i, o2_i, o2d_i, o2j_i, o2ji_i, o2c_i, fv_0, fv_1, fv_2, fv_3, pf_0, pf_2, pf_3, pf_4, rf_s, rf_n, is_self, ge_0, ge_s, ge_n, gd_s, gd_n, se_0, se_s, ag_0, ex_n, ex_i, ex_r, ex_0, ex_j, ex_q, ap_c, ap_n, List.append_nil, ln_c, ln_n, rp_0, rp_s, rt_0, rt_1, rt_20, rt_21, rt_2, rt_3, rt_4, rt_4n, rt_4q, nl_0, nl_1, nl_2, nl_3, nl_4, nl_5, nl_6, nl_7, nl_8, nl_9, nlB_i, nlB_r, nlB_n, nlB_f, nlB_q, ↓reduceIte, reduceCtorEq, Nat.reduceAdd, Nat.reduceSub, Nat.reduceEqDiff, Nat.reduceLeDiff, Nat.reduceBEq, ite_true, ite_false, dt_t, Bool.not_true, Bool.not_false, Bool.false_eq_true, Nat.le_refl, true_and, and_true, true_or, or_true, false_or, or_false, false_and, and_false, qEq, qNe, qLt, qGe, qGt, qLe, li, e1, sT_11 hSt, sT_12 hSt, sT_13 hSt, sT_14 hSt, sT_15 hSt, sT_16 hSt, sT_17 hSt, sT_18 hSt, sT_19 hSt, sT_20 hSt, sT_21 hSt, sT_22 hSt, sT_23 hSt, sT_24 hSt, sT_25 hSt, sT_26 hSt, sT_27 hSt, sT_28 hSt, sT_29 hSt, sT_30 hSt, sT_31 hSt, sT_32 hSt, sT_33 hSt, sT_34 hSt, sL_13 hSt, sL_14 hSt, sL_16 hSt, sL_17 hSt, sL_18 hSt, sL_19 hSt, sL_20 hSt, sL_21 hSt, sL_22 hSt, sL_23 hSt, sL_24 hSt, sL_25 hSt, sL_26 hSt, sL_28 hSt, sL_30 hSt, sL_31 hSt, sL_32 hSt, sL_33 hSt, sL_34 hSt, sR_11_2 hSt, sR_11_3 hSt, sR_11_4 hSt, sR_11_5 hSt, sR_11_7 hSt, sR_11_8 hSt, sR_11_9 hSt, sR_27_0 hSt, sR_29_0 hSt, sR_15_0 hSt, sR_15_3 hSt, sR_15_5 hSt, sR_15_6 hSt, sR_15_7 hSt, sR_15_8 hSt, sR_15_9 hSt, sR_15_10 hSt, sR_15_11 hSt, sR_15_12 hSt, sR_15_13 hSt, f1, f2, lp, e2, rD_tb1 tt, rD_of d1, w8', w9', rD_tb1 tt1, rD_of d2, tt2, not_true, not_false_eq_true, nt_t]
            · refine ⟨.int (oW T c p), .int 1, ?_⟩
              rw [if_neg one_ne0]
              simp only [lpStep, ↓rE_eK, ↓rE_eLi, ↓rE_eLj, ↓rE_eLa, ↓rE_eU, ↓rE_eB, ↓rE_eG, ↓rE_eIF, ↓rE_eAI, ↓rE_eAX, ↓rE_eAJ, ↓rE_eAR, ↓rE_eLen, ↓rE_eSI, ↓rE_eC, ↓rE_eCall, ↓rE_eNew, ↓rE_eNewA, ↓rE_eInst, ↓rC_cI, ↓rC_cZ0, ↓rC_cN, ↓rC_cNot, ↓rC_cAnd, ↓rC_cOr, ↓rA_aN, ↓rA_aC, ↓rS_sP, ↓rS_sUF, ↓rS_sAI, ↓rS_sAJ, ↓rS_sAR, ↓rS_sUA, ↓rS_sCall, ↓rS_sObj, ↓rS_sSi, ↓rS_sSa, ↓rS_sSj, ↓rS_sInc, ↓rS_sSkip, ↓rS_sSeq, ↓rS_sIf, ↓rS_sRetI, ↓rS_sRetJ, ↓rS_sRetA, ↓rS_sRetV, ↓rS_sSw, ↓rD_meth, ↓rD_on, ↓kR_ref, ↓kI_int, ↓kJ_long, ↓kN_null, ↓kN_ref, ↓kN_rf, ↓kQ_ref, ↓kQ_null, ↓kQ_rf, o1_i, o1ij_i, o1ji_i, o2_i, o2d_i, o2j_i, o2ji_i, o2c_i, fv_0, fv_1, fv_2, fv_3, pf_0, pf_2, pf_3, pf_4, rf_s, rf_n, is_self, ge_0, ge_s, ge_n, gd_s, gd_n, se_0, se_s, ag_0, ex_n, ex_i, ex_r, ex_0, ex_j, ex_q, ap_c, ap_n, List.append_nil, ln_c, ln_n, rp_0, rp_s, rt_0, rt_1, rt_20, rt_21, rt_2, rt_3, rt_4, rt_4n, rt_4q, nl_0, nl_1, nl_2, nl_3, nl_4, nl_5, nl_6, nl_7, nl_8, nl_9, nlB_i, nlB_r, nlB_n, nlB_f, nlB_q, ↓reduceIte, reduceCtorEq, Nat.reduceAdd, Nat.reduceSub, Nat.reduceEqDiff, Nat.reduceLeDiff, Nat.reduceBEq, ite_true, ite_false, dt_t, Bool.not_true, Bool.not_false, Bool.false_eq_true, Nat.le_refl, true_and, and_true, true_or, or_true, false_or, or_false, false_and, and_false, qEq, qNe, qLt, qGe, qGt, qLe, li, e1, sT_11 hSt, sT_12 hSt, sT_13 hSt, sT_14 hSt, sT_15 hSt, sT_16 hSt, sT_17 hSt, sT_18 hSt, sT_19 hSt, sT_20 hSt, sT_21 hSt, sT_22 hSt, sT_23 hSt, sT_24 hSt, sT_25 hSt, sT_26 hSt, sT_27 hSt, sT_28 hSt, sT_29 hSt, sT_30 hSt, sT_31 hSt, sT_32 hSt, sT_33 hSt, sT_34 hSt, sL_13 hSt, sL_14 hSt, sL_16 hSt, sL_17 hSt, sL_18 hSt, sL_19 hSt, sL_20 hSt, sL_21 hSt, sL_22 hSt, sL_23 hSt, sL_24 hSt, sL_25 hSt, sL_26 hSt, sL_28 hSt, sL_30 hSt, sL_31 hSt, sL_32 hSt, sL_33 hSt, sL_34 hSt, sR_11_2 hSt, sR_11_3 hSt, sR_11_4 hSt, sR_11_5 hSt, sR_11_7 hSt, sR_11_8 hSt, sR_11_9 hSt, sR_27_0 hSt, sR_29_0 hSt, sR_15_0 hSt, sR_15_3 hSt, sR_15_5 hSt, sR_15_6 hSt, sR_15_7 hSt, sR_15_8 hSt, sR_15_9 hSt, sR_15_10 hSt, sR_15_11 hSt, sR_15_12 hSt, sR_15_13 hSt, f1, f2, lp, e2, rD_tb1 tt, rD_of d1, w8', w9', rD_tb1 tt1, rD_of d2, tt2, one_ne0, not_true, not_false_eq_true, nt_t, nI_1]
          · have w9' : (oW T c p = 9) = False := w9.trans (eq_false c9)
            by_cases c6 : wId T c p < 6
            · have eo : oW T c p = nI (wId T c p) := if_pos (by omega)
              have o1 : (0 ≤ oW T c p) = True := by rw [eo]; exact eq_true (by rw [← Int32.not_lt]; exact nI_nn (by omega))
              have o2 : (oW T c p < 6) = True := by rw [eo]; exact (nI_lt' (b := 6) (by omega) (by decide)).trans (eq_true c6)
              refine key (D := D_X7_readsPerson) (vs := [.ref 27, .int (oW T c p), .ref (pN σ0)]) (by unfold clause; rw [if_neg c8, if_neg c9, if_pos c6, eo]; exact c_person g1 (Cr_le g1) c6) ?_
              rintro t2 k d2 (rfl | rfl) tt2
              · refine ⟨x, y, ?_⟩
                rw [if_pos rfl]
                simp only [lpStep, ↓rE_eK, ↓rE_eLi, ↓rE_eLj, ↓rE_eLa, ↓rE_eU, ↓rE_eB, ↓rE_eG, ↓rE_eIF, ↓rE_eAI, ↓rE_eAX, ↓rE_eAJ, ↓rE_eAR, ↓rE_eLen, ↓rE_eSI, ↓rE_eC, ↓rE_eCall, ↓rE_eNew, ↓rE_eNewA, ↓rE_eInst, ↓rC_cI, ↓rC_cZ0, ↓rC_cN, ↓rC_cNot, ↓rC_cAnd, ↓rC_cOr, ↓rA_aN, ↓rA_aC, ↓rS_sP, ↓rS_sUF, ↓rS_sAI, ↓rS_sAJ, ↓rS_sAR, ↓rS_sUA, ↓rS_sCall, ↓rS_sObj, ↓rS_sSi, ↓rS_sSa, ↓rS_sSj, ↓rS_sInc, ↓rS_sSkip, ↓rS_sSeq, ↓rS_sIf, ↓rS_sRetI, ↓rS_sRetJ, ↓rS_sRetA, ↓rS_sRetV, ↓rS_sSw, ↓rD_meth, ↓rD_on, ↓kR_ref, ↓kI_int, ↓kJ_long, ↓kN_null, ↓kN_ref, ↓kN_rf, ↓kQ_ref, ↓kQ_null, ↓kQ_rf, o1_i, o1ij_i, o1ji_i, o2_i, o2d_i, o2j_i, o2ji_i, o2c_i, fv_0, fv_1, fv_2, fv_3, pf_0, pf_2, pf_3, pf_4, rf_s, rf_n, is_self, ge_0, ge_s, ge_n, gd_s, gd_n, se_0, se_s, ag_0, ex_n, ex_i, ex_r, ex_0, ex_j, ex_q, ap_c, ap_n, List.append_nil, ln_c, ln_n, rp_0, rp_s, rt_0, rt_1, rt_20, rt_21, rt_2, rt_3, rt_4, rt_4n, rt_4q, nl_0, nl_1, nl_2, nl_3, nl_4, nl_5, nl_6, nl_7, nl_8, nl_9, nlB_i, nlB_r, nlB_n, nlB_f, nlB_q, ↓reduceIte, reduceCtorEq, Nat.reduceAdd, Nat.reduceSub, Nat.reduceEqDiff, Nat.reduceLeDiff, Nat.reduceBEq, ite_true, ite_false, dt_t, Bool.not_true, Bool.not_false, Bool.false_eq_true, Nat.le_refl, true_and, and_true, true_or, or_true, false_or, or_false, false_and, and_false, qEq, qNe, qLt, qGe, qGt, qLe, li, e1, sT_11 hSt, sT_12 hSt, sT_13 hSt, sT_14 hSt, sT_15 hSt, sT_16 hSt, sT_17 hSt, sT_18 hSt, sT_19 hSt, sT_20 hSt, sT_21 hSt, sT_22 hSt, sT_23 hSt, sT_24 hSt, sT_25 hSt, sT_26 hSt, sT_27 hSt, sT_28 hSt, sT_29 hSt, sT_30 hSt, sT_31 hSt, sT_32 hSt, sT_33 hSt, sT_34 hSt, sL_13 hSt, sL_14 hSt, sL_16 hSt, sL_17 hSt, sL_18 hSt, sL_19 hSt, sL_20 hSt, sL_21 hSt, sL_22 hSt, sL_23 hSt, sL_24 hSt, sL_25 hSt, sL_26 hSt, sL_28 hSt, sL_30 hSt, sL_31 hSt, sL_32 hSt, sL_33 hSt, sL_34 hSt, sR_11_2 hSt, sR_11_3 hSt, sR_11_4 hSt, sR_11_5 hSt, sR_11_7 hSt, sR_11_8 hSt, sR_11_9 hSt, sR_27_0 hSt, sR_29_0 hSt, sR_15_0 hSt, sR_15_3 hSt, sR_15_5 hSt, sR_15_6 hSt, sR_15_7 hSt, sR_15_8 hSt, sR_15_9 hSt, sR_15_10 hSt, sR_15_11 hSt, sR_15_12 hSt, sR_15_13 hSt, f1, f2, lp, e2, rD_tb1 tt, rD_of d1, w8', w9', o1, o2, rD_tb1 tt1, rD_of d2, tt2, not_true, not_false_eq_true, nt_t]
              · refine ⟨.int (oW T c p), .int 1, ?_⟩
                rw [if_neg one_ne0]
                simp only [lpStep, ↓rE_eK, ↓rE_eLi, ↓rE_eLj, ↓rE_eLa, ↓rE_eU, ↓rE_eB, ↓rE_eG, ↓rE_eIF, ↓rE_eAI, ↓rE_eAX, ↓rE_eAJ, ↓rE_eAR, ↓rE_eLen, ↓rE_eSI, ↓rE_eC, ↓rE_eCall, ↓rE_eNew, ↓rE_eNewA, ↓rE_eInst, ↓rC_cI, ↓rC_cZ0, ↓rC_cN, ↓rC_cNot, ↓rC_cAnd, ↓rC_cOr, ↓rA_aN, ↓rA_aC, ↓rS_sP, ↓rS_sUF, ↓rS_sAI, ↓rS_sAJ, ↓rS_sAR, ↓rS_sUA, ↓rS_sCall, ↓rS_sObj, ↓rS_sSi, ↓rS_sSa, ↓rS_sSj, ↓rS_sInc, ↓rS_sSkip, ↓rS_sSeq, ↓rS_sIf, ↓rS_sRetI, ↓rS_sRetJ, ↓rS_sRetA, ↓rS_sRetV, ↓rS_sSw, ↓rD_meth, ↓rD_on, ↓kR_ref, ↓kI_int, ↓kJ_long, ↓kN_null, ↓kN_ref, ↓kN_rf, ↓kQ_ref, ↓kQ_null, ↓kQ_rf, o1_i, o1ij_i, o1ji_i, o2_i, o2d_i, o2j_i, o2ji_i, o2c_i, fv_0, fv_1, fv_2, fv_3, pf_0, pf_2, pf_3, pf_4, rf_s, rf_n, is_self, ge_0, ge_s, ge_n, gd_s, gd_n, se_0, se_s, ag_0, ex_n, ex_i, ex_r, ex_0, ex_j, ex_q, ap_c, ap_n, List.append_nil, ln_c, ln_n, rp_0, rp_s, rt_0, rt_1, rt_20, rt_21, rt_2, rt_3, rt_4, rt_4n, rt_4q, nl_0, nl_1, nl_2, nl_3, nl_4, nl_5, nl_6, nl_7, nl_8, nl_9, nlB_i, nlB_r, nlB_n, nlB_f, nlB_q, ↓reduceIte, reduceCtorEq, Nat.reduceAdd, Nat.reduceSub, Nat.reduceEqDiff, Nat.reduceLeDiff, Nat.reduceBEq, ite_true, ite_false, dt_t, Bool.not_true, Bool.not_false, Bool.false_eq_true, Nat.le_refl, true_and, and_true, true_or, or_true, false_or, or_false, false_and, and_false, qEq, qNe, qLt, qGe, qGt, qLe, li, e1, sT_11 hSt, sT_12 hSt, sT_13 hSt, sT_14 hSt, sT_15 hSt, sT_16 hSt, sT_17 hSt, sT_18 hSt, sT_19 hSt, sT_20 hSt, sT_21 hSt, sT_22 hSt, sT_23 hSt, sT_24 hSt, sT_25 hSt, sT_26 hSt, sT_27 hSt, sT_28 hSt, sT_29 hSt, sT_30 hSt, sT_31 hSt, sT_32 hSt, sT_33 hSt, sT_34 hSt, sL_13 hSt, sL_14 hSt, sL_16 hSt, sL_17 hSt, sL_18 hSt, sL_19 hSt, sL_20 hSt, sL_21 hSt, sL_22 hSt, sL_23 hSt, sL_24 hSt, sL_25 hSt, sL_26 hSt, sL_28 hSt, sL_30 hSt, sL_31 hSt, sL_32 hSt, sL_33 hSt, sL_34 hSt, sR_11_2 hSt, sR_11_3 hSt, sR_11_4 hSt, sR_11_5 hSt, sR_11_7 hSt, sR_11_8 hSt, sR_11_9 hSt, sR_27_0 hSt, sR_29_0 hSt, sR_15_0 hSt, sR_15_3 hSt, sR_15_5 hSt, sR_15_6 hSt, sR_15_7 hSt, sR_15_8 hSt, sR_15_9 hSt, sR_15_10 hSt, sR_15_11 hSt, sR_15_12 hSt, sR_15_13 hSt, f1, f2, lp, e2, rD_tb1 tt, rD_of d1, w8', w9', o1, o2, rD_tb1 tt1, rD_of d2, tt2, one_ne0, not_true, not_false_eq_true, nt_t, nI_1]
            · have ecl : clause T c p n wd' = .inl p := by unfold clause; rw [if_neg c8, if_neg c9, if_neg c6]
              right
              refine ⟨.inr (some (.int (nI p))), t1, ?_, Or.inl ⟨p, _, n, wd', hR.symm.trans (pr_l e1 e2 ecl), rfl, g1⟩⟩
              have g2 := g1.1.2.2.2.2.2.1.1
              by_cases c10 : wId T c p < 10
              · have eo : oW T c p = nI (wId T c p) := if_pos c10
                have o1 : (0 ≤ oW T c p) = True := by rw [eo]; exact eq_true (by rw [← Int32.not_lt]; exact nI_nn (by omega))
                have o2 : (oW T c p < 6) = False := by rw [eo]; exact (nI_lt' (b := 6) (by omega) (by decide)).trans (eq_false c6)
                simp only [lpStep, ↓rE_eK, ↓rE_eLi, ↓rE_eLj, ↓rE_eLa, ↓rE_eU, ↓rE_eB, ↓rE_eG, ↓rE_eIF, ↓rE_eAI, ↓rE_eAX, ↓rE_eAJ, ↓rE_eAR, ↓rE_eLen, ↓rE_eSI, ↓rE_eC, ↓rE_eCall, ↓rE_eNew, ↓rE_eNewA, ↓rE_eInst, ↓rC_cI, ↓rC_cZ0, ↓rC_cN, ↓rC_cNot, ↓rC_cAnd, ↓rC_cOr, ↓rA_aN, ↓rA_aC, ↓rS_sP, ↓rS_sUF, ↓rS_sAI, ↓rS_sAJ, ↓rS_sAR, ↓rS_sUA, ↓rS_sCall, ↓rS_sObj, ↓rS_sSi, ↓rS_sSa, ↓rS_sSj, ↓rS_sInc, ↓rS_sSkip, ↓rS_sSeq, ↓rS_sIf, ↓rS_sRetI, ↓rS_sRetJ, ↓rS_sRetA, ↓rS_sRetV, ↓rS_sSw, ↓rD_meth, ↓rD_on, ↓kR_ref, ↓kI_int, ↓kJ_long, ↓kN_null, ↓kN_ref, ↓kN_rf, ↓kQ_ref, ↓kQ_null, ↓kQ_rf, o1_i, o1ij_i, o1ji_i, o2_i, o2d_i, o2j_i, o2ji_i, o2c_i, fv_0, fv_1, fv_2, fv_3, pf_0, pf_2, pf_3, pf_4, rf_s, rf_n, is_self, ge_0, ge_s, ge_n, gd_s, gd_n, se_0, se_s, ag_0, ex_n, ex_i, ex_r, ex_0, ex_j, ex_q, ap_c, ap_n, List.append_nil, ln_c, ln_n, rp_0, rp_s, rt_0, rt_1, rt_20, rt_21, rt_2, rt_3, rt_4, rt_4n, rt_4q, nl_0, nl_1, nl_2, nl_3, nl_4, nl_5, nl_6, nl_7, nl_8, nl_9, nlB_i, nlB_r, nlB_n, nlB_f, nlB_q, ↓reduceIte, reduceCtorEq, Nat.reduceAdd, Nat.reduceSub, Nat.reduceEqDiff, Nat.reduceLeDiff, Nat.reduceBEq, ite_true, ite_false, dt_t, Bool.not_true, Bool.not_false, Bool.false_eq_true, Nat.le_refl, true_and, and_true, true_or, or_true, false_or, or_false, false_and, and_false, qEq, qNe, qLt, qGe, qGt, qLe, li, e1, sT_11 hSt, sT_12 hSt, sT_13 hSt, sT_14 hSt, sT_15 hSt, sT_16 hSt, sT_17 hSt, sT_18 hSt, sT_19 hSt, sT_20 hSt, sT_21 hSt, sT_22 hSt, sT_23 hSt, sT_24 hSt, sT_25 hSt, sT_26 hSt, sT_27 hSt, sT_28 hSt, sT_29 hSt, sT_30 hSt, sT_31 hSt, sT_32 hSt, sT_33 hSt, sT_34 hSt, sL_13 hSt, sL_14 hSt, sL_16 hSt, sL_17 hSt, sL_18 hSt, sL_19 hSt, sL_20 hSt, sL_21 hSt, sL_22 hSt, sL_23 hSt, sL_24 hSt, sL_25 hSt, sL_26 hSt, sL_28 hSt, sL_30 hSt, sL_31 hSt, sL_32 hSt, sL_33 hSt, sL_34 hSt, sR_11_2 hSt, sR_11_3 hSt, sR_11_4 hSt, sR_11_5 hSt, sR_11_7 hSt, sR_11_8 hSt, sR_11_9 hSt, sR_27_0 hSt, sR_29_0 hSt, sR_15_0 hSt, sR_15_3 hSt, sR_15_5 hSt, sR_15_6 hSt, sR_15_7 hSt, sR_15_8 hSt, sR_15_9 hSt, sR_15_10 hSt, sR_15_11 hSt, sR_15_12 hSt, sR_15_13 hSt, f1, f2, lp, e2, rD_tb1 tt, rD_of d1, w8', w9', o1, o2, tt1, g2, not_true, not_false_eq_true, nt_t]
              · have eo : oW T c p = -1 := if_neg c10
                have o1 : (0 ≤ oW T c p) = False := by rw [eo]; exact eq_false (by decide)
                simp only [lpStep, ↓rE_eK, ↓rE_eLi, ↓rE_eLj, ↓rE_eLa, ↓rE_eU, ↓rE_eB, ↓rE_eG, ↓rE_eIF, ↓rE_eAI, ↓rE_eAX, ↓rE_eAJ, ↓rE_eAR, ↓rE_eLen, ↓rE_eSI, ↓rE_eC, ↓rE_eCall, ↓rE_eNew, ↓rE_eNewA, ↓rE_eInst, ↓rC_cI, ↓rC_cZ0, ↓rC_cN, ↓rC_cNot, ↓rC_cAnd, ↓rC_cOr, ↓rA_aN, ↓rA_aC, ↓rS_sP, ↓rS_sUF, ↓rS_sAI, ↓rS_sAJ, ↓rS_sAR, ↓rS_sUA, ↓rS_sCall, ↓rS_sObj, ↓rS_sSi, ↓rS_sSa, ↓rS_sSj, ↓rS_sInc, ↓rS_sSkip, ↓rS_sSeq, ↓rS_sIf, ↓rS_sRetI, ↓rS_sRetJ, ↓rS_sRetA, ↓rS_sRetV, ↓rS_sSw, ↓rD_meth, ↓rD_on, ↓kR_ref, ↓kI_int, ↓kJ_long, ↓kN_null, ↓kN_ref, ↓kN_rf, ↓kQ_ref, ↓kQ_null, ↓kQ_rf, o1_i, o1ij_i, o1ji_i, o2_i, o2d_i, o2j_i, o2ji_i, o2c_i, fv_0, fv_1, fv_2, fv_3, pf_0, pf_2, pf_3, pf_4, rf_s, rf_n, is_self, ge_0, ge_s, ge_n, gd_s, gd_n, se_0, se_s, ag_0, ex_n, ex_i, ex_r, ex_0, ex_j, ex_q, ap_c, ap_n, List.append_nil, ln_c, ln_n, rp_0, rp_s, rt_0, rt_1, rt_20, rt_21, rt_2, rt_3, rt_4, rt_4n, rt_4q, nl_0, nl_1, nl_2, nl_3, nl_4, nl_5, nl_6, nl_7, nl_8, nl_9, nlB_i, nlB_r, nlB_n, nlB_f, nlB_q, ↓reduceIte, reduceCtorEq, Nat.reduceAdd, Nat.reduceSub, Nat.reduceEqDiff, Nat.reduceLeDiff, Nat.reduceBEq, ite_true, ite_false, dt_t, Bool.not_true, Bool.not_false, Bool.false_eq_true, Nat.le_refl, true_and, and_true, true_or, or_true, false_or, or_false, false_and, and_false, qEq, qNe, qLt, qGe, qGt, qLe, li, e1, sT_11 hSt, sT_12 hSt, sT_13 hSt, sT_14 hSt, sT_15 hSt, sT_16 hSt, sT_17 hSt, sT_18 hSt, sT_19 hSt, sT_20 hSt, sT_21 hSt, sT_22 hSt, sT_23 hSt, sT_24 hSt, sT_25 hSt, sT_26 hSt, sT_27 hSt, sT_28 hSt, sT_29 hSt, sT_30 hSt, sT_31 hSt, sT_32 hSt, sT_33 hSt, sT_34 hSt, sL_13 hSt, sL_14 hSt, sL_16 hSt, sL_17 hSt, sL_18 hSt, sL_19 hSt, sL_20 hSt, sL_21 hSt, sL_22 hSt, sL_23 hSt, sL_24 hSt, sL_25 hSt, sL_26 hSt, sL_28 hSt, sL_30 hSt, sL_31 hSt, sL_32 hSt, sL_33 hSt, sL_34 hSt, sR_11_2 hSt, sR_11_3 hSt, sR_11_4 hSt, sR_11_5 hSt, sR_11_7 hSt, sR_11_8 hSt, sR_11_9 hSt, sR_27_0 hSt, sR_29_0 hSt, sR_15_0 hSt, sR_15_3 hSt, sR_15_5 hSt, sR_15_6 hSt, sR_15_7 hSt, sR_15_8 hSt, sR_15_9 hSt, sR_15_10 hSt, sR_15_11 hSt, sR_15_12 hSt, sR_15_13 hSt, f1, f2, lp, e2, rD_tb1 tt, rD_of d1, w8', w9', o1, tt1, g2, not_true, not_false_eq_true, nt_t]
      · right
        refine ⟨.inl [.ref 27, .ref (pN σ0), .int (nI i), x, y], t, ?_, Or.inr ⟨p, b, n, wd', _, hR.symm.trans (pr_e e2), rfl, hC⟩⟩
        simp only [lpStep, ↓rE_eK, ↓rE_eLi, ↓rE_eLj, ↓rE_eLa, ↓rE_eU, ↓rE_eB, ↓rE_eG, ↓rE_eIF, ↓rE_eAI, ↓rE_eAX, ↓rE_eAJ, ↓rE_eAR, ↓rE_eLen, ↓rE_eSI, ↓rE_eC, ↓rE_eCall, ↓rE_eNew, ↓rE_eNewA, ↓rE_eInst, ↓rC_cI, ↓rC_cZ0, ↓rC_cN, ↓rC_cNot, ↓rC_cAnd, ↓rC_cOr, ↓rA_aN, ↓rA_aC, ↓rS_sP, ↓rS_sUF, ↓rS_sAI, ↓rS_sAJ, ↓rS_sAR, ↓rS_sUA, ↓rS_sCall, ↓rS_sObj, ↓rS_sSi, ↓rS_sSa, ↓rS_sSj, ↓rS_sInc, ↓rS_sSkip, ↓rS_sSeq, ↓rS_sIf, ↓rS_sRetI, ↓rS_sRetJ, ↓rS_sRetA, ↓rS_sRetV, ↓rS_sSw, ↓rD_meth, ↓rD_on, ↓kR_ref, ↓kI_int, ↓kJ_long, ↓kN_null, ↓kN_ref, ↓kN_rf, ↓kQ_ref, ↓kQ_null, ↓kQ_rf, o1_i, o1ij_i, o1ji_i, o2_i, o2d_i, o2j_i, o2ji_i, o2c_i, fv_0, fv_1, fv_2, fv_3, pf_0, pf_2, pf_3, pf_4, rf_s, rf_n, is_self, ge_0, ge_s, ge_n, gd_s, gd_n, se_0, se_s, ag_0, ex_n, ex_i, ex_r, ex_0, ex_j, ex_q, ap_c, ap_n, List.append_nil, ln_c, ln_n, rp_0, rp_s, rt_0, rt_1, rt_20, rt_21, rt_2, rt_3, rt_4, rt_4n, rt_4q, nl_0, nl_1, nl_2, nl_3, nl_4, nl_5, nl_6, nl_7, nl_8, nl_9, nlB_i, nlB_r, nlB_n, nlB_f, nlB_q, ↓reduceIte, reduceCtorEq, Nat.reduceAdd, Nat.reduceSub, Nat.reduceEqDiff, Nat.reduceLeDiff, Nat.reduceBEq, ite_true, ite_false, dt_t, Bool.not_true, Bool.not_false, Bool.false_eq_true, Nat.le_refl, true_and, and_true, true_or, or_true, false_or, or_false, false_and, and_false, qEq, qNe, qLt, qGe, qGt, qLe, li, e1, sT_11 hSt, sT_12 hSt, sT_13 hSt, sT_14 hSt, sT_15 hSt, sT_16 hSt, sT_17 hSt, sT_18 hSt, sT_19 hSt, sT_20 hSt, sT_21 hSt, sT_22 hSt, sT_23 hSt, sT_24 hSt, sT_25 hSt, sT_26 hSt, sT_27 hSt, sT_28 hSt, sT_29 hSt, sT_30 hSt, sT_31 hSt, sT_32 hSt, sT_33 hSt, sT_34 hSt, sL_13 hSt, sL_14 hSt, sL_16 hSt, sL_17 hSt, sL_18 hSt, sL_19 hSt, sL_20 hSt, sL_21 hSt, sL_22 hSt, sL_23 hSt, sL_24 hSt, sL_25 hSt, sL_26 hSt, sL_28 hSt, sL_30 hSt, sL_31 hSt, sL_32 hSt, sL_33 hSt, sL_34 hSt, sR_11_2 hSt, sR_11_3 hSt, sR_11_4 hSt, sR_11_5 hSt, sR_11_7 hSt, sR_11_8 hSt, sR_11_9 hSt, sR_27_0 hSt, sR_29_0 hSt, sR_15_0 hSt, sR_15_3 hSt, sR_15_5 hSt, sR_15_6 hSt, sR_15_7 hSt, sR_15_8 hSt, sR_15_9 hSt, sR_15_10 hSt, sR_15_11 hSt, sR_15_12 hSt, sR_15_13 hSt, f1, f2, lp, e2]
    · right
      have : i = 200 := by omega
      subst this
      refine ⟨.inl [.ref 27, .ref (pN σ0), .int (nI 200), x, y], t, ?_, Or.inr ⟨p, b, n, wd', _, hR.symm, rfl, hC⟩⟩
      simp only [lpStep, ↓rE_eK, ↓rE_eLi, ↓rE_eLj, ↓rE_eLa, ↓rE_eU, ↓rE_eB, ↓rE_eG, ↓rE_eIF, ↓rE_eAI, ↓rE_eAX, ↓rE_eAJ, ↓rE_eAR, ↓rE_eLen, ↓rE_eSI, ↓rE_eC, ↓rE_eCall, ↓rE_eNew, ↓rE_eNewA, ↓rE_eInst, ↓rC_cI, ↓rC_cZ0, ↓rC_cN, ↓rC_cNot, ↓rC_cAnd, ↓rC_cOr, ↓rA_aN, ↓rA_aC, ↓rS_sP, ↓rS_sUF, ↓rS_sAI, ↓rS_sAJ, ↓rS_sAR, ↓rS_sUA, ↓rS_sCall, ↓rS_sObj, ↓rS_sSi, ↓rS_sSa, ↓rS_sSj, ↓rS_sInc, ↓rS_sSkip, ↓rS_sSeq, ↓rS_sIf, ↓rS_sRetI, ↓rS_sRetJ, ↓rS_sRetA, ↓rS_sRetV, ↓rS_sSw, ↓rD_meth, ↓rD_on, ↓kR_ref, ↓kI_int, ↓kJ_long, ↓kN_null, ↓kN_ref, ↓kN_rf, ↓kQ_ref, ↓kQ_null, ↓kQ_rf, o1_i, o1ij_i, o1ji_i, o2_i, o2d_i, o2j_i, o2ji_i, o2c_i, fv_0, fv_1, fv_2, fv_3, pf_0, pf_2, pf_3, pf_4, rf_s, rf_n, is_self, ge_0, ge_s, ge_n, gd_s, gd_n, se_0, se_s, ag_0, ex_n, ex_i, ex_r, ex_0, ex_j, ex_q, ap_c, ap_n, List.append_nil, ln_c, ln_n, rp_0, rp_s, rt_0, rt_1, rt_20, rt_21, rt_2, rt_3, rt_4, rt_4n, rt_4q, nl_0, nl_1, nl_2, nl_3, nl_4, nl_5, nl_6, nl_7, nl_8, nl_9, nlB_i, nlB_r, nlB_n, nlB_f, nlB_q, ↓reduceIte, reduceCtorEq, Nat.reduceAdd, Nat.reduceSub, Nat.reduceEqDiff, Nat.reduceLeDiff, Nat.reduceBEq, ite_true, ite_false, dt_t, Bool.not_true, Bool.not_false, Bool.false_eq_true, Nat.le_refl, true_and, and_true, true_or, or_true, false_or, or_false, false_and, and_false, qEq, qNe, qLt, qGe, qGt, qLe, li, e1]
  obtain ⟨r, τ, l1, hr⟩ := hl
  constructor
  · intro q eq
    rcases hr with ⟨q', b', n', wd', r1, rfl, r3⟩ | ⟨p', b', n', wd', env, r1, rfl, r3⟩
    · rw [r1] at eq
      cases eq
      refine ⟨τ, b', n', wd', ?_, r3⟩
      refine rD_un.trans ?_
      simp only [D_X7_faultOf, B_X7_faultOf, ↓rE_eK, ↓rE_eLi, ↓rE_eLj, ↓rE_eLa, ↓rE_eU, ↓rE_eB, ↓rE_eG, ↓rE_eIF, ↓rE_eAI, ↓rE_eAX, ↓rE_eAJ, ↓rE_eAR, ↓rE_eLen, ↓rE_eSI, ↓rE_eC, ↓rE_eCall, ↓rE_eNew, ↓rE_eNewA, ↓rE_eInst, ↓rC_cI, ↓rC_cZ0, ↓rC_cN, ↓rC_cNot, ↓rC_cAnd, ↓rC_cOr, ↓rA_aN, ↓rA_aC, ↓rS_sP, ↓rS_sUF, ↓rS_sAI, ↓rS_sAJ, ↓rS_sAR, ↓rS_sUA, ↓rS_sCall, ↓rS_sObj, ↓rS_sSi, ↓rS_sSa, ↓rS_sSj, ↓rS_sInc, ↓rS_sSkip, ↓rS_sSeq, ↓rS_sIf, ↓rS_sRetI, ↓rS_sRetJ, ↓rS_sRetA, ↓rS_sRetV, ↓rS_sSw, ↓rD_meth, ↓rD_on, ↓kR_ref, ↓kI_int, ↓kJ_long, ↓kN_null, ↓kN_ref, ↓kN_rf, ↓kQ_ref, ↓kQ_null, ↓kQ_rf, o1_i, o1ij_i, o1ji_i, o2_i, o2d_i, o2j_i, o2ji_i, o2c_i, fv_0, fv_1, fv_2, fv_3, pf_0, pf_2, pf_3, pf_4, rf_s, rf_n, is_self, ge_0, ge_s, ge_n, gd_s, gd_n, se_0, se_s, ag_0, ex_n, ex_i, ex_r, ex_0, ex_j, ex_q, ap_c, ap_n, List.append_nil, ln_c, ln_n, rp_0, rp_s, rt_0, rt_1, rt_20, rt_21, rt_2, rt_3, rt_4, rt_4n, rt_4q, nl_0, nl_1, nl_2, nl_3, nl_4, nl_5, nl_6, nl_7, nl_8, nl_9, nlB_i, nlB_r, nlB_n, nlB_f, nlB_q, ↓reduceIte, reduceCtorEq, Nat.reduceAdd, Nat.reduceSub, Nat.reduceEqDiff, Nat.reduceLeDiff, Nat.reduceBEq, ite_true, ite_false, dt_t, Bool.not_true, Bool.not_false, Bool.false_eq_true, Nat.le_refl, true_and, and_true, true_or, or_true, false_or, or_false, false_and, and_false, qEq, qNe, qLt, qGe, qGt, qLe, t0, rD_tb1 t1, rD_of a1, rS_inr l1]
    · rw [r1] at eq; cases eq
  · intro n wd2 eq
    rcases hr with ⟨q', b', n', wd', r1, rfl, r3⟩ | ⟨p', b', n', wd', env, r1, rfl, r3⟩
    · rw [r1] at eq; cases eq
    · rw [r1] at eq
      cases eq
      refine ⟨τ, p', b', ?_, r3⟩
      refine rD_un.trans ?_
      simp only [D_X7_faultOf, B_X7_faultOf, ↓rE_eK, ↓rE_eLi, ↓rE_eLj, ↓rE_eLa, ↓rE_eU, ↓rE_eB, ↓rE_eG, ↓rE_eIF, ↓rE_eAI, ↓rE_eAX, ↓rE_eAJ, ↓rE_eAR, ↓rE_eLen, ↓rE_eSI, ↓rE_eC, ↓rE_eCall, ↓rE_eNew, ↓rE_eNewA, ↓rE_eInst, ↓rC_cI, ↓rC_cZ0, ↓rC_cN, ↓rC_cNot, ↓rC_cAnd, ↓rC_cOr, ↓rA_aN, ↓rA_aC, ↓rS_sP, ↓rS_sUF, ↓rS_sAI, ↓rS_sAJ, ↓rS_sAR, ↓rS_sUA, ↓rS_sCall, ↓rS_sObj, ↓rS_sSi, ↓rS_sSa, ↓rS_sSj, ↓rS_sInc, ↓rS_sSkip, ↓rS_sSeq, ↓rS_sIf, ↓rS_sRetI, ↓rS_sRetJ, ↓rS_sRetA, ↓rS_sRetV, ↓rS_sSw, ↓rD_meth, ↓rD_on, ↓kR_ref, ↓kI_int, ↓kJ_long, ↓kN_null, ↓kN_ref, ↓kN_rf, ↓kQ_ref, ↓kQ_null, ↓kQ_rf, o1_i, o1ij_i, o1ji_i, o2_i, o2d_i, o2j_i, o2ji_i, o2c_i, fv_0, fv_1, fv_2, fv_3, pf_0, pf_2, pf_3, pf_4, rf_s, rf_n, is_self, ge_0, ge_s, ge_n, gd_s, gd_n, se_0, se_s, ag_0, ex_n, ex_i, ex_r, ex_0, ex_j, ex_q, ap_c, ap_n, List.append_nil, ln_c, ln_n, rp_0, rp_s, rt_0, rt_1, rt_20, rt_21, rt_2, rt_3, rt_4, rt_4n, rt_4q, nl_0, nl_1, nl_2, nl_3, nl_4, nl_5, nl_6, nl_7, nl_8, nl_9, nlB_i, nlB_r, nlB_n, nlB_f, nlB_q, ↓reduceIte, reduceCtorEq, Nat.reduceAdd, Nat.reduceSub, Nat.reduceEqDiff, Nat.reduceLeDiff, Nat.reduceBEq, ite_true, ite_false, dt_t, Bool.not_true, Bool.not_false, Bool.false_eq_true, Nat.le_refl, true_and, and_true, true_or, or_true, false_or, or_false, false_and, and_false, qEq, qNe, qLt, qGe, qGt, qLe, t0, rD_tb1 t1, rD_of a1, rS_inl l1]
