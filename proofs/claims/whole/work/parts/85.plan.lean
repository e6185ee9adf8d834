/-! plan, prove. -/
theorem ln_vl {vd : Nat → Int32} {n W : Nat} (hm : mOk vd n) (h8 : n ≤ 8) (hW : W < 2 ^ n) (hv : vlA (alS vd n) W = true) : 0 < lnR vd n W := by
  obtain ⟨q1, q2⟩ := vlA_iff.mp hv
  have hW8 := Nat.lt_of_lt_of_le hW (p2n h8)
  have hpc := vl_pc hW8 hv
  unfold lnR
  rw [if_neg]
  · exact mx_p hm q1 hW
  · rintro (c | c | ⟨c, c'⟩)
    · omega
    · omega
    · have := df_al.mp c
      rcases q2 with q2 | q2
      · omega
      · exact this q2.2
theorem mx_vl {vd : Nat → Int32} {N : Nat → Nat} {n A : Nat} (hm : mOk vd n) (h8 : n ≤ 8) (hA : A < 2 ^ n) (t1 : ∀ W, 0 < W → sub W A → lnA N (alS vd n) W = lnR vd n W) : ∀ W, vlU (alS vd n) A W = true → 0 < mxA N W 8 ∧ mxA N W 8 ≤ 200 := fun W hv => by
  obtain ⟨v1, v2⟩ := vlU_iff.mp hv
  have hW : W < 2 ^ n := by have := sub_le v2; omega
  have e := t1 W (vlA_iff.mp v1).1 v2
  unfold lnA at e
  rw [if_pos v1] at e
  rw [e]
  exact ⟨ln_vl hm h8 hW v1, lnR_le hm W⟩
/-- both find the same first songs -/
theorem pl_ref {t : pm_H} {vd : Nat → Int32} {n A : Nat} {N : Nat → Nat} {V : Nat → Int32} {M S R B Y : Nat → Nat} (hS : Sh t) (hn : pI t 35 0 = nI n) (hcu : cur t = vd) (hm : mOk vd n) (hA : A < 2 ^ n) (e8 : pI t 35 8 = nI A) (t1 : ∀ W, 0 < W → sub W A → lnA N (alS vd n) W = lnR vd n W) (t2 : ∀ s W, A.testBit s = true → 0 < W → sub W A → 0 < lnA N (alS vd n) W → sgA N V (alS vd n) s W = sgR vd n (-1) s W) (t5 : ∀ C, sub C A → c5 (lnA N (alS vd n)) (sgA N V (alS vd n)) 255 M S R B Y C) : ∃ τ, OD t τ ∧ (∀ W, W < 2 ^ n → pI τ 49 W = lnI (lnR vd n W)) ∧ (M A = 1000000 → D_X12_findPlan [.ref 35] t = some (some (.int 0), τ)) ∧ (M A < 1000000 → D_X12_findPlan [.ref 35] t = some (some (.int 1), τ) ∧ pI τ 35 33 = nI (S A) ∧ pI τ 35 34 = nI (ps (fB (lnA N (alS vd n)) (sgA N V (alS vd n)) M S) A (S A)) ∧ PlanIn (fB (lnA N (alS vd n)) (sgA N V (alS vd n)) M S) A (S A) 54 55 τ) := by
  have h8 := hm.1.1
  have hA8 := Nat.lt_of_lt_of_le hA (p2n h8)
  obtain ⟨τ, M', S', B', R', d1, d2, d3, d4⟩ := d_findPlan hS hn (by rw [hcu]; exact hm) hA e8
  rw [hcu] at d2 d4
  obtain ⟨f3, f4, f5, f6, f7, f8, f9⟩ := d2
  have hsu := sub_ones.mpr hA
  obtain ⟨u1, u2, u3⟩ := cls_ref hA8 t1 t2 t5 (Ch_sub f6 hsu) (ChS_sub f7 hsu) (ChB_sub f8 hsu) (ChR_sub f9 hsu)
  have hMA := u1 A (sub_rfl A)
  have hff : ∀ C, sub C A → ∀ s W, fR vd n M' S' C s W = fB (lnA N (alS vd n)) (sgA N V (alS vd n)) M S C s W := fun C hC s W => by
    show fB _ _ _ _ C s W = _
    unfold fB
    rw [← u3 C hC s W]
    cases q : bsB (lnA N (alS vd n)) (sgA N V (alS vd n)) M C s W with
    | false => rfl
    | true =>
      have q1 := (bs_iff.mp q).2.2
      have q2 := (bs_sub q).2
      have hr := sub_tr (sd_sub C W) hC
      rw [(u2 C hC q1).1, (u2 _ hr q2).1]
  have hps := ps_congr hff
  refine ⟨τ, d1, f3, fun q => d3 (by rw [← hMA]; exact q), fun q => ?_⟩
  obtain ⟨k1, k2, k3, k4⟩ := d4 (by rw [← hMA]; exact q)
  have hSA := (u2 A (sub_rfl A) q).1
  rw [hSA]
  refine ⟨k1, k2, by rw [← (hps _).1]; exact k3, fun j hj => ?_⟩
  have := k4 j hj
  have ef : fR vd n M' S' (ps (fR vd n M' S') A j) = fB (lnA N (alS vd n)) (sgA N V (alS vd n)) M S (ps (fB (lnA N (alS vd n)) (sgA N V (alS vd n)) M S) A j) := by
    funext s W
    rw [hff _ (hps j).2 s W, (hps j).1]
  rw [ef] at this
  exact this
theorem d_planLast {t : pm_H} (hS : Sh t) {f : Nat → Nat → Nat → Bool} {A K : Nat} (hA : A < 256) (e1 : pI t 15 1 = nI A) (h14 : pI t 15 14 = nI K) (hK : K ≤ 7) (hP : PlanIn f A K 25 26 t) (hlt : ∀ j, j ≤ K → ps f A j < 256) : D_X3_planLast [.ref 15] t = some (some (.int (if ps f A K = 0 then -9 else nI (tz (ps f A K)))), t) := by
  have hl : ∃ q t', sLoop (cI qLt (eLi 2) (eG (is 3) 0 14 (eLa 0))) (sSeq (sSi 1 (eB f_iand (eLi 1) (eB f_ixor (eAI (eG (is 3) 3 13 (eLa 0)) (eLi 2)) (eK (.int (-1)))))) (sInc 2 1)) [.ref 15, .int (nI A), .int 0] t = some (q, t') ∧ (t' = t ∧ q = .inl [.ref 15, .int (nI (ps f A K)), .int (nI K)]) := by
    refine loop_gen (fun k env t' => t' = t ∧ env = [.ref 15, .int (nI (ps f A k)), .int (nI k)]) _ K (by omega) ⟨rfl, by rw [nI_0]; rfl⟩ ?_
    rintro k env t' hk ⟨rfl, rfl⟩
    have hlt' : (nI k < nI K) = (k < K) := nI_lt' (by omega) (by omega)
    by_cases e : k < K
    · left
      have hibk := ib_nI (show k < 8 by omega) (show (8 : Nat) ≤ 1000000 by decide)
      have hclk := nI_cl (show k < 2147483648 by omega)
      refine ⟨[.ref 15, .int (nI (ps f A (k + 1))), .int (nI (k + 1))], t', ?_, e, rfl, rfl⟩
      rw [ps]
      simp only [lpStep, ↓rE_eK, ↓rE_eLi, ↓rE_eLj, ↓rE_eLa, ↓rE_eU, ↓rE_eB, ↓rE_eG, ↓rE_eIF, ↓rE_eAI, ↓rE_eAX, ↓rE_eAJ, ↓rE_eAR, ↓rE_eLen, ↓rE_eSI, ↓rE_eC, ↓rE_eCall, ↓rE_eNew, ↓rE_eNewA, ↓rE_eInst, ↓rC_cI, ↓rC_cZ0, ↓rC_cN, ↓rC_cNot, ↓rC_cAnd, ↓rC_cOr, ↓rA_aN, ↓rA_aC, ↓rS_sP, ↓rS_sUF, ↓rS_sAI, ↓rS_sAJ, ↓rS_sAR, ↓rS_sUA, ↓rS_sCall, ↓rS_sObj, ↓rS_sSi, ↓rS_sSa, ↓rS_sSj, ↓rS_sInc, ↓rS_sSkip, ↓rS_sSeq, ↓rS_sIf, ↓rS_sRetI, ↓rS_sRetJ, ↓rS_sRetA, ↓rS_sRetV, ↓rS_sSw, ↓rD_meth, ↓rD_on, ↓kR_ref, ↓kI_int, ↓kJ_long, ↓kN_null, ↓kN_ref, ↓kN_rf, ↓kQ_ref, ↓kQ_null, ↓kQ_rf, o1_i, o1ij_i, o1ji_i, o2_i, o2d_i, o2j_i, o2ji_i, o2c_i, fv_0, fv_1, fv_2, fv_3, pf_0, pf_2, pf_3, pf_4, rf_s, rf_n, is_self, ge_0, ge_s, ge_n, gd_s, gd_n, se_0, se_s, ag_0, ex_n, ex_i, ex_r, ex_0, ex_j, ex_q, ap_c, ap_n, List.append_nil, ln_c, ln_n, rp_0, rp_s, rt_0, rt_1, rt_20, rt_21, rt_2, rt_3, rt_4, rt_4n, rt_4q, nl_0, nl_1, nl_2, nl_3, nl_4, nl_5, nl_6, nl_7, nl_8, nl_9, nlB_i, nlB_r, nlB_n, nlB_f, nlB_q, ↓reduceIte, reduceCtorEq, Nat.reduceAdd, Nat.reduceSub, Nat.reduceEqDiff, Nat.reduceLeDiff, Nat.reduceBEq, ite_true, ite_false, dt_t, Bool.not_true, Bool.not_false, Bool.false_eq_true, Nat.le_refl, true_and, and_true, true_or, or_true, false_or, or_false, false_and, and_false, qEq, qNe, qLt, qGe, qGt, qLe, sT_11 hS, sT_12 hS, sT_13 hS, sT_14 hS, sT_15 hS, sT_16 hS, sT_17 hS, sT_18 hS, sT_19 hS, sT_20 hS, sT_21 hS, sT_22 hS, sT_23 hS, sT_24 hS, sT_25 hS, sT_26 hS, sT_27 hS, sT_28 hS, sT_29 hS, sT_30 hS, sT_31 hS, sT_32 hS, sT_33 hS, sT_34 hS, sL_13 hS, sL_14 hS, sL_16 hS, sL_17 hS, sL_18 hS, sL_19 hS, sL_20 hS, sL_21 hS, sL_22 hS, sL_23 hS, sL_24 hS, sL_25 hS, sL_26 hS, sL_28 hS, sL_30 hS, sL_31 hS, sL_32 hS, sL_33 hS, sL_34 hS, sR_11_2 hS, sR_11_3 hS, sR_11_4 hS, sR_11_5 hS, sR_11_7 hS, sR_11_8 hS, sR_11_9 hS, sR_27_0 hS, sR_29_0 hS, sR_15_0 hS, sR_15_3 hS, sR_15_5 hS, sR_15_6 hS, sR_15_7 hS, sR_15_8 hS, sR_15_9 hS, sR_15_10 hS, sR_15_11 hS, sR_15_12 hS, sR_15_13 hS, h14, hlt', e, hibk, hclk, (hP k e).2, nI_sdx, nI_1]
    · right
      have ek : k = K := by omega
      subst ek
      refine ⟨_, _, ?_, rfl, rfl⟩
      simp only [lpStep, ↓rE_eK, ↓rE_eLi, ↓rE_eLj, ↓rE_eLa, ↓rE_eU, ↓rE_eB, ↓rE_eG, ↓rE_eIF, ↓rE_eAI, ↓rE_eAX, ↓rE_eAJ, ↓rE_eAR, ↓rE_eLen, ↓rE_eSI, ↓rE_eC, ↓rE_eCall, ↓rE_eNew, ↓rE_eNewA, ↓rE_eInst, ↓rC_cI, ↓rC_cZ0, ↓rC_cN, ↓rC_cNot, ↓rC_cAnd, ↓rC_cOr, ↓rA_aN, ↓rA_aC, ↓rS_sP, ↓rS_sUF, ↓rS_sAI, ↓rS_sAJ, ↓rS_sAR, ↓rS_sUA, ↓rS_sCall, ↓rS_sObj, ↓rS_sSi, ↓rS_sSa, ↓rS_sSj, ↓rS_sInc, ↓rS_sSkip, ↓rS_sSeq, ↓rS_sIf, ↓rS_sRetI, ↓rS_sRetJ, ↓rS_sRetA, ↓rS_sRetV, ↓rS_sSw, ↓rD_meth, ↓rD_on, ↓kR_ref, ↓kI_int, ↓kJ_long, ↓kN_null, ↓kN_ref, ↓kN_rf, ↓kQ_ref, ↓kQ_null, ↓kQ_rf, o1_i, o1ij_i, o1ji_i, o2_i, o2d_i, o2j_i, o2ji_i, o2c_i, fv_0, fv_1, fv_2, fv_3, pf_0, pf_2, pf_3, pf_4, rf_s, rf_n, is_self, ge_0, ge_s, ge_n, gd_s, gd_n, se_0, se_s, ag_0, ex_n, ex_i, ex_r, ex_0, ex_j, ex_q, ap_c, ap_n, List.append_nil, ln_c, ln_n, rp_0, rp_s, rt_0, rt_1, rt_20, rt_21, rt_2, rt_3, rt_4, rt_4n, rt_4q, nl_0, nl_1, nl_2, nl_3, nl_4, nl_5, nl_6, nl_7, nl_8, nl_9, nlB_i, nlB_r, nlB_n, nlB_f, nlB_q, ↓reduceIte, reduceCtorEq, Nat.reduceAdd, Nat.reduceSub, Nat.reduceEqDiff, Nat.reduceLeDiff, Nat.reduceBEq, ite_true, ite_false, dt_t, Bool.not_true, Bool.not_false, Bool.false_eq_true, Nat.le_refl, true_and, and_true, true_or, or_true, false_or, or_false, false_and, and_false, qEq, qNe, qLt, qGe, qGt, qLe, sT_11 hS, sT_12 hS, sT_13 hS, sT_14 hS, sT_15 hS, sT_16 hS, sT_17 hS, sT_18 hS, sT_19 hS, sT_20 hS, sT_21 hS, sT_22 hS, sT_23 hS, sT_24 hS, sT_25 hS, sT_26 hS, sT_27 hS, sT_28 hS, sT_29 hS, sT_30 hS, sT_31 hS, sT_32 hS, sT_33 hS, sT_34 hS, sL_13 hS, sL_14 hS, sL_16 hS, sL_17 hS, sL_18 hS, sL_19 hS, sL_20 hS, sL_21 hS, sL_22 hS, sL_23 hS, sL_24 hS, sL_25 hS, sL_26 hS, sL_28 hS, sL_30 hS, sL_31 hS, sL_32 hS, sL_33 hS, sL_34 hS, sR_11_2 hS, sR_11_3 hS, sR_11_4 hS, sR_11_5 hS, sR_11_7 hS, sR_11_8 hS, sR_11_9 hS, sR_27_0 hS, sR_29_0 hS, sR_15_0 hS, sR_15_3 hS, sR_15_5 hS, sR_15_6 hS, sR_15_7 hS, sR_15_8 hS, sR_15_9 hS, sR_15_10 hS, sR_15_11 hS, sR_15_12 hS, sR_15_13 hS, h14, Int32.lt_irrefl]
  obtain ⟨q, t', l1, rfl, rfl⟩ := hl
  refine rD_un.trans ?_
  have hz := hlt K (Nat.le_refl _)
  have h0 : (nI (ps f A K) = 0) = (ps f A K = 0) := nI_inj (b := 0) (by omega) (by decide)
  by_cases c : ps f A K = 0
  · rw [if_pos c]
    have h0' : (nI (ps f A K) = 0) = True := by rw [h0]; exact eq_true c
    simp only [D_X3_planLast, B_X3_planLast, ↓rE_eK, ↓rE_eLi, ↓rE_eLj, ↓rE_eLa, ↓rE_eU, ↓rE_eB, ↓rE_eG, ↓rE_eIF, ↓rE_eAI, ↓rE_eAX, ↓rE_eAJ, ↓rE_eAR, ↓rE_eLen, ↓rE_eSI, ↓rE_eC, ↓rE_eCall, ↓rE_eNew, ↓rE_eNewA, ↓rE_eInst, ↓rC_cI, ↓rC_cZ0, ↓rC_cN, ↓rC_cNot, ↓rC_cAnd, ↓rC_cOr, ↓rA_aN, ↓rA_aC, ↓rS_sP, ↓rS_sUF, ↓rS_sAI, ↓rS_sAJ, ↓rS_sAR, ↓rS_sUA, ↓rS_sCall, ↓rS_sObj, ↓rS_sSi, ↓rS_sSa, ↓rS_sSj, ↓rS_sInc, ↓rS_sSkip, ↓rS_sSeq, ↓rS_sIf, ↓rS_sRetI, ↓rS_sRetJ, ↓rS_sRetA, ↓rS_sRetV, ↓rS_sSw, ↓rD_meth, ↓rD_on, ↓kR_ref, ↓kI_int, ↓kJ_long, ↓kN_null, ↓kN_ref, ↓kN_rf, ↓kQ_ref, ↓kQ_null, ↓kQ_rf, o1_i, o1ij_i, o1ji_i, o2_i, o2d_i, o2j_i, o2ji_i, o2c_i, fv_0, fv_1, fv_2, fv_3, pf_0, pf_2, pf_3, pf_4, rf_s, rf_n, is_self, ge_0, ge_s, ge_n, gd_s, gd_n, se_0, se_s, ag_0, ex_n, ex_i, ex_r, ex_0, ex_j, ex_q, ap_c, ap_n, List.append_nil, ln_c, ln_n, rp_0, rp_s, rt_0, rt_1, rt_20, rt_21, rt_2, rt_3, rt_4, rt_4n, rt_4q, nl_0, nl_1, nl_2, nl_3, nl_4, nl_5, nl_6, nl_7, nl_8, nl_9, nlB_i, nlB_r, nlB_n, nlB_f, nlB_q, ↓reduceIte, reduceCtorEq, Nat.reduceAdd, Nat.reduceSub, Nat.reduceEqDiff, Nat.reduceLeDiff, Nat.reduceBEq, ite_true, ite_false, dt_t, Bool.not_true, Bool.not_false, Bool.false_eq_true, Nat.le_refl, true_and, and_true, true_or, or_true, false_or, or_false, false_and, and_false, qEq, qNe, qLt, qGe, qGt, qLe, sT_11 hS, sT_12 hS, sT_13 hS, sT_14 hS, sT_15 hS, sT_16 hS, sT_17 hS, sT_18 hS, sT_19 hS, sT_20 hS, sT_21 hS, sT_22 hS, sT_23 hS, sT_24 hS, sT_25 hS, sT_26 hS, sT_27 hS, sT_28 hS, sT_29 hS, sT_30 hS, sT_31 hS, sT_32 hS, sT_33 hS, sT_34 hS, sL_13 hS, sL_14 hS, sL_16 hS, sL_17 hS, sL_18 hS, sL_19 hS, sL_20 hS, sL_21 hS, sL_22 hS, sL_23 hS, sL_24 hS, sL_25 hS, sL_26 hS, sL_28 hS, sL_30 hS, sL_31 hS, sL_32 hS, sL_33 hS, sL_34 hS, sR_11_2 hS, sR_11_3 hS, sR_11_4 hS, sR_11_5 hS, sR_11_7 hS, sR_11_8 hS, sR_11_9 hS, sR_27_0 hS, sR_29_0 hS, sR_15_0 hS, sR_15_3 hS, sR_15_5 hS, sR_15_6 hS, sR_15_7 hS, sR_15_8 hS, sR_15_9 hS, sR_15_10 hS, sR_15_11 hS, sR_15_12 hS, sR_15_13 hS, e1, rS_inl l1, h0']
  · rw [if_neg c]
    simp only [D_X3_planLast, B_X3_planLast, ↓rE_eK, ↓rE_eLi, ↓rE_eLj, ↓rE_eLa, ↓rE_eU, ↓rE_eB, ↓rE_eG, ↓rE_eIF, ↓rE_eAI, ↓rE_eAX, ↓rE_eAJ, ↓rE_eAR, ↓rE_eLen, ↓rE_eSI, ↓rE_eC, ↓rE_eCall, ↓rE_eNew, ↓rE_eNewA, ↓rE_eInst, ↓rC_cI, ↓rC_cZ0, ↓rC_cN, ↓rC_cNot, ↓rC_cAnd, ↓rC_cOr, ↓rA_aN, ↓rA_aC, ↓rS_sP, ↓rS_sUF, ↓rS_sAI, ↓rS_sAJ, ↓rS_sAR, ↓rS_sUA, ↓rS_sCall, ↓rS_sObj, ↓rS_sSi, ↓rS_sSa, ↓rS_sSj, ↓rS_sInc, ↓rS_sSkip, ↓rS_sSeq, ↓rS_sIf, ↓rS_sRetI, ↓rS_sRetJ, ↓rS_sRetA, ↓rS_sRetV, ↓rS_sSw, ↓rD_meth, ↓rD_on, ↓kR_ref, ↓kI_int, ↓kJ_long, ↓kN_null, ↓kN_ref, ↓kN_rf, ↓kQ_ref, ↓kQ_null, ↓kQ_rf, o1_i, o1ij_i, o1ji_i, o2_i, o2d_i, o2j_i, o2ji_i, o2c_i, fv_0, fv_1, fv_2, fv_3, pf_0, pf_2, pf_3, pf_4, rf_s, rf_n, is_self, ge_0, ge_s, ge_n, gd_s, gd_n, se_0, se_s, ag_0, ex_n, ex_i, ex_r, ex_0, ex_j, ex_q, ap_c, ap_n, List.append_nil, ln_c, ln_n, rp_0, rp_s, rt_0, rt_1, rt_20, rt_21, rt_2, rt_3, rt_4, rt_4n, rt_4q, nl_0, nl_1, nl_2, nl_3, nl_4, nl_5, nl_6, nl_7, nl_8, nl_9, nlB_i, nlB_r, nlB_n, nlB_f, nlB_q, ↓reduceIte, reduceCtorEq, Nat.reduceAdd, Nat.reduceSub, Nat.reduceEqDiff, Nat.reduceLeDiff, Nat.reduceBEq, ite_true, ite_false, dt_t, Bool.not_true, Bool.not_false, Bool.false_eq_true, Nat.le_refl, true_and, and_true, true_or, or_true, false_or, or_false, false_and, and_false, qEq, qNe, qLt, qGe, qGt, qLe, sT_11 hS, sT_12 hS, sT_13 hS, sT_14 hS, sT_15 hS, sT_16 hS, sT_17 hS, sT_18 hS, sT_19 hS, sT_20 hS, sT_21 hS, sT_22 hS, sT_23 hS, sT_24 hS, sT_25 hS, sT_26 hS, sT_27 hS, sT_28 hS, sT_29 hS, sT_30 hS, sT_31 hS, sT_32 hS, sT_33 hS, sT_34 hS, sL_13 hS, sL_14 hS, sL_16 hS, sL_17 hS, sL_18 hS, sL_19 hS, sL_20 hS, sL_21 hS, sL_22 hS, sL_23 hS, sL_24 hS, sL_25 hS, sL_26 hS, sL_28 hS, sL_30 hS, sL_31 hS, sL_32 hS, sL_33 hS, sL_34 hS, sR_11_2 hS, sR_11_3 hS, sR_11_4 hS, sR_11_5 hS, sR_11_7 hS, sR_11_8 hS, sR_11_9 hS, sR_27_0 hS, sR_29_0 hS, sR_15_0 hS, sR_15_3 hS, sR_15_5 hS, sR_15_6 hS, sR_15_7 hS, sR_15_8 hS, sR_15_9 hS, sR_15_10 hS, sR_15_11 hS, sR_15_12 hS, sR_15_13 hS, e1, rS_inl l1, h0, c, rD_of (d_ntz (Nat.pos_of_ne_zero c) hz _)]
