/-! a valley told in a text: people, and the whole, as the reference reads them. -/
variable {T : Nat} {c : Nat → Nat}
theorem h100 : nI 100 = 100 := rfl
theorem g_person {σ1 s : pm_H} {p n kd : Nat} {wd : Nat → Int32} (h : Gd σ1 T c p n wd s) (hk : kd < 6) (e : wId T c p = kd) : ∃ t, D_X12_wantPerson [.ref 35, .int (nI kd)] s = some (none, t) ∧ Go σ1 T c t (if n < 8 then clPe1 T c (skE T c (leE T c p)) n kd wd else .inl p) := by
  have hT := h.1.2.1
  have t0 := Gd_T h
  have h8 := h.2.2.2.2.2.1
  have f19 := h.2.2.2.2.1.1
  have hlt : (nI n < 8) = (n < 8) := nI_lt' (b := 8) (by omega) (by decide)
  by_cases n8 : n < 8
  · rw [if_pos n8]
    have h0 := Gd_18 h
    have hat : pI (uI s 35 18 1) 35 18 = 1 := pI_uI_at _ _ _ _
    obtain ⟨s1, d1, h1⟩ := Gd_word h0 (by omega) e
    obtain ⟨p1, e1⟩ : ∃ p1, skE T c (leE T c p) = p1 := ⟨_, rfl⟩
    rw [e1] at h1 ⊢
    unfold clPe1
    cases r1 : numR T c p1 1 91 with
    | none =>
      obtain ⟨x2, s2, d2, h2⟩ := g_num_f h1 (by decide) H_90 r1
      have d2 : D_X12_wantNumber [.ref 35, .int 1, .int 90] s1 = some (some (.int x2), s2) := d2
      have d3 := b_take h2 11993594
      have d4 := b_take h2 8930039
      obtain ⟨s5, d5, h5⟩ := b_end h2
      refine ⟨s5, ?_, Go_l h5⟩
      refine rD_un.trans ?_
      simp only [D_X12_wantPerson, B_X12_wantPerson, nt_t, not_true, not_false_eq_true, one_ne0, pf_1 (Or.inl rfl), pf_1 (Or.inr rfl), ↓rE_eK, ↓rE_eLi, ↓rE_eLj, ↓rE_eLa, ↓rE_eU, ↓rE_eB, ↓rE_eG, ↓rE_eIF, ↓rE_eAI, ↓rE_eAX, ↓rE_eAJ, ↓rE_eAR, ↓rE_eLen, ↓rE_eSI, ↓rE_eC, ↓rE_eCall, ↓rE_eNew, ↓rE_eNewA, ↓rE_eInst, ↓rC_cI, ↓rC_cZ0, ↓rC_cN, ↓rC_cNot, ↓rC_cAnd, ↓rC_cOr, ↓rA_aN, ↓rA_aC, ↓rS_sP, ↓rS_sUF, ↓rS_sAI, ↓rS_sAJ, ↓rS_sAR, ↓rS_sUA, ↓rS_sCall, ↓rS_sObj, ↓rS_sSi, ↓rS_sSa, ↓rS_sSj, ↓rS_sInc, ↓rS_sSkip, ↓rS_sSeq, ↓rS_sIf, ↓rS_sRetI, ↓rS_sRetJ, ↓rS_sRetA, ↓rS_sRetV, ↓rS_sSw, ↓rD_meth, ↓rD_on, ↓kR_ref, ↓kI_int, ↓kJ_long, ↓kN_null, ↓kN_ref, ↓kN_rf, ↓kQ_ref, ↓kQ_null, ↓kQ_rf, o1_i, o1ij_i, o1ji_i, o2_i, o2d_i, o2j_i, o2ji_i, o2c_i, fv_0, fv_1, fv_2, fv_3, pf_0, pf_2, pf_3, pf_4, rf_s, rf_n, is_self, ge_0, ge_s, ge_n, gd_s, gd_n, se_0, se_s, ag_0, ex_n, ex_i, ex_r, ex_0, ex_j, ex_q, ap_c, ap_n, List.append_nil, ln_c, ln_n, rp_0, rp_s, rt_0, rt_1, rt_20, rt_21, rt_2, rt_3, rt_4, rt_4n, rt_4q, nl_0, nl_1, nl_2, nl_3, nl_4, nl_5, nl_6, nl_7, nl_8, nl_9, nlB_i, nlB_r, nlB_n, nlB_f, nlB_q, ↓reduceIte, reduceCtorEq, Nat.reduceAdd, Nat.reduceSub, Nat.reduceEqDiff, Nat.reduceLeDiff, Nat.reduceBEq, ite_true, ite_false, dt_t, Bool.not_true, Bool.not_false, Bool.false_eq_true, Nat.le_refl, true_and, and_true, true_or, or_true, false_or, or_false, false_and, and_false, qEq, qNe, qLt, qGe, qGt, qLe, t0, f19, hlt, n8, pT_uI, hat, rD_tb1 (show pT (uI s 35 18 1) 35 = 12 from t0), rD_of d1, rD_tb1 (Gd_T h1), rD_of d2, rD_tb1 (Bd_T h2), rD_of d3, rD_of d4, rD_of d5, Bd_T h5, h5.2.2.1]
    | some g =>
      obtain ⟨s2, d2, h2⟩ := g_num_t h1 (by decide) H_90 r1
      have hg := (num_some r1).2.2
      have d2 : D_X12_wantNumber [.ref 35, .int 1, .int 90] s1 = some (some (.int (nI g)), s2) := d2
      obtain ⟨p2, e2⟩ : ∃ p2, skE T c (deE T c p1) = p2 := ⟨_, rfl⟩
      rw [e2] at h2
      show ∃ t, _ ∧ Go σ1 T c t (clPe2 T c (skE T c (deE T c p1)) n (newP wd n kd g))
      rw [e2]
      unfold clPe2 optW
      by_cases w6 : wId T c p2 = 6
      · rw [if_pos w6]
        obtain ⟨s3, d3, h3⟩ := g_take_t h2 (by decide) w6
        have d3 : D_X12_takes [.ref 35, .long 11993594] s2 = some (some (.int 1), s3) := d3
        obtain ⟨p3, e3⟩ : ∃ p3, skE T c (leE T c p2) = p3 := ⟨_, rfl⟩
        rw [e3] at h3 ⊢
        cases r2 : numR T c p3 0 201 with
        | none =>
          obtain ⟨x4, s4, d4, h4⟩ := g_num_f h3 (by decide) H_200 r2
          rw [nI_0] at d4
          have d5 := b_take h4 8930039
          obtain ⟨s6, d6, h6⟩ := b_end h4
          refine ⟨s6, ?_, Go_l h6⟩
          refine rD_un.trans ?_
          simp only [D_X12_wantPerson, B_X12_wantPerson, nt_t, not_true, not_false_eq_true, one_ne0, pf_1 (Or.inl rfl), pf_1 (Or.inr rfl), ↓rE_eK, ↓rE_eLi, ↓rE_eLj, ↓rE_eLa, ↓rE_eU, ↓rE_eB, ↓rE_eG, ↓rE_eIF, ↓rE_eAI, ↓rE_eAX, ↓rE_eAJ, ↓rE_eAR, ↓rE_eLen, ↓rE_eSI, ↓rE_eC, ↓rE_eCall, ↓rE_eNew, ↓rE_eNewA, ↓rE_eInst, ↓rC_cI, ↓rC_cZ0, ↓rC_cN, ↓rC_cNot, ↓rC_cAnd, ↓rC_cOr, ↓rA_aN, ↓rA_aC, ↓rS_sP, ↓rS_sUF, ↓rS_sAI, ↓rS_sAJ, ↓rS_sAR, ↓rS_sUA, ↓rS_sCall, ↓rS_sObj, ↓rS_sSi, ↓rS_sSa, ↓rS_sSj, ↓rS_sInc, ↓rS_sSkip, ↓rS_sSeq, ↓rS_sIf, ↓rS_sRetI, ↓rS_sRetJ, ↓rS_sRetA, ↓rS_sRetV, ↓rS_sSw, ↓rD_meth, ↓rD_on, ↓kR_ref, ↓kI_int, ↓kJ_long, ↓kN_null, ↓kN_ref, ↓kN_rf, ↓kQ_ref, ↓kQ_null, ↓kQ_rf, o1_i, o1ij_i, o1ji_i, o2_i, o2d_i, o2j_i, o2ji_i, o2c_i, fv_0, fv_1, fv_2, fv_3, pf_0, pf_2, pf_3, pf_4, rf_s, rf_n, is_self, ge_0, ge_s, ge_n, gd_s, gd_n, se_0, se_s, ag_0, ex_n, ex_i, ex_r, ex_0, ex_j, ex_q, ap_c, ap_n, List.append_nil, ln_c, ln_n, rp_0, rp_s, rt_0, rt_1, rt_20, rt_21, rt_2, rt_3, rt_4, rt_4n, rt_4q, nl_0, nl_1, nl_2, nl_3, nl_4, nl_5, nl_6, nl_7, nl_8, nl_9, nlB_i, nlB_r, nlB_n, nlB_f, nlB_q, ↓reduceIte, reduceCtorEq, Nat.reduceAdd, Nat.reduceSub, Nat.reduceEqDiff, Nat.reduceLeDiff, Nat.reduceBEq, ite_true, ite_false, dt_t, Bool.not_true, Bool.not_false, Bool.false_eq_true, Nat.le_refl, true_and, and_true, true_or, or_true, false_or, or_false, false_and, and_false, qEq, qNe, qLt, qGe, qGt, qLe, t0, f19, hlt, n8, pT_uI, hat, rD_tb1 (show pT (uI s 35 18 1) 35 = 12 from t0), rD_of d1, rD_tb1 (Gd_T h1), rD_of d2, rD_tb1 (Gd_T h2), rD_of d3, rD_tb1 (Gd_T h3), rD_of d4, rD_tb1 (Bd_T h4), rD_of d5, rD_of d6, Bd_T h6, h6.2.2.1]
        | some x =>
          obtain ⟨s4, d4, h4⟩ := g_num_t h3 (by decide) H_200 r2
          rw [nI_0] at d4
          have hx := (num_some r2).2.2.2
          obtain ⟨p4, e4⟩ : ∃ p4, skE T c (deE T c p3) = p4 := ⟨_, rfl⟩
          rw [e4] at h4
          show ∃ t, _ ∧ Go σ1 T c t (clPe3 T c (skE T c (deE T c p3)) n (upd (newP wd n kd g) (20 + n) (nI x)))
          rw [e4]
          unfold clPe3 optW
          by_cases w7 : wId T c p4 = 7
          · rw [if_pos w7]
            obtain ⟨s5, d5, h5⟩ := g_take_t h4 (by decide) w7
            have d5 : D_X12_takes [.ref 35, .long 8930039] s4 = some (some (.int 1), s5) := d5
            obtain ⟨p5, e5⟩ : ∃ p5, skE T c (leE T c p4) = p5 := ⟨_, rfl⟩
            rw [e5] at h5 ⊢
            cases r3 : numR T c p5 0 1000 with
            | none =>
              obtain ⟨x6, s6, d6, h6⟩ := g_num_f h5 (by decide) H_999 r3
              rw [nI_0] at d6
              obtain ⟨s7, d7, h7⟩ := b_end h6
              refine ⟨s7, ?_, Go_l h7⟩
              refine rD_un.trans ?_
              simp only [D_X12_wantPerson, B_X12_wantPerson, nt_t, not_true, not_false_eq_true, one_ne0, pf_1 (Or.inl rfl), pf_1 (Or.inr rfl), ↓rE_eK, ↓rE_eLi, ↓rE_eLj, ↓rE_eLa, ↓rE_eU, ↓rE_eB, ↓rE_eG, ↓rE_eIF, ↓rE_eAI, ↓rE_eAX, ↓rE_eAJ, ↓rE_eAR, ↓rE_eLen, ↓rE_eSI, ↓rE_eC, ↓rE_eCall, ↓rE_eNew, ↓rE_eNewA, ↓rE_eInst, ↓rC_cI, ↓rC_cZ0, ↓rC_cN, ↓rC_cNot, ↓rC_cAnd, ↓rC_cOr, ↓rA_aN, ↓rA_aC, ↓rS_sP, ↓rS_sUF, ↓rS_sAI, ↓rS_sAJ, ↓rS_sAR, ↓rS_sUA, ↓rS_sCall, ↓rS_sObj, ↓rS_sSi, ↓rS_sSa, ↓rS_sSj, ↓rS_sInc, ↓rS_sSkip, ↓rS_sSeq, ↓rS_sIf, ↓rS_sRetI, ↓rS_sRetJ, ↓rS_sRetA, ↓rS_sRetV, ↓rS_sSw, ↓rD_meth, ↓rD_on, ↓kR_ref, ↓kI_int, ↓kJ_long, ↓kN_null, ↓kN_ref, ↓kN_rf, ↓kQ_ref, ↓kQ_null, ↓kQ_rf, o1_i, o1ij_i, o1ji_i, o2_i, o2d_i, o2j_i, o2ji_i, o2c_i, fv_0, fv_1, fv_2, fv_3, pf_0, pf_2, pf_3, pf_4, rf_s, rf_n, is_self, ge_0, ge_s, ge_n, gd_s, gd_n, se_0, se_s, ag_0, ex_n, ex_i, ex_r, ex_0, ex_j, ex_q, ap_c, ap_n, List.append_nil, ln_c, ln_n, rp_0, rp_s, rt_0, rt_1, rt_20, rt_21, rt_2, rt_3, rt_4, rt_4n, rt_4q, nl_0, nl_1, nl_2, nl_3, nl_4, nl_5, nl_6, nl_7, nl_8, nl_9, nlB_i, nlB_r, nlB_n, nlB_f, nlB_q, ↓reduceIte, reduceCtorEq, Nat.reduceAdd, Nat.reduceSub, Nat.reduceEqDiff, Nat.reduceLeDiff, Nat.reduceBEq, ite_true, ite_false, dt_t, Bool.not_true, Bool.not_false, Bool.false_eq_true, Nat.le_refl, true_and, and_true, true_or, or_true, false_or, or_false, false_and, and_false, qEq, qNe, qLt, qGe, qGt, qLe, t0, f19, hlt, n8, pT_uI, hat, rD_tb1 (show pT (uI s 35 18 1) 35 = 12 from t0), rD_of d1, rD_tb1 (Gd_T h1), rD_of d2, rD_tb1 (Gd_T h2), rD_of d3, rD_tb1 (Gd_T h3), rD_of d4, rD_tb1 (Gd_T h4), rD_of d5, rD_tb1 (Gd_T h5), rD_of d6, rD_tb1 (Bd_T h6), rD_of d7, Bd_T h7, h7.2.2.1]
            | some y =>
              obtain ⟨s6, d6, h6⟩ := g_num_t h5 (by decide) H_999 r3
              rw [nI_0] at d6
              obtain ⟨p6, e6⟩ : ∃ p6, skE T c (deE T c p5) = p6 := ⟨_, rfl⟩
              rw [e6] at h6
              show ∃ t, _ ∧ Go σ1 T c t (cSemi T c (skE T c (deE T c p5)) (n + 1) (upd (upd (newP wd n kd g) (20 + n) (nI x)) (28 + n) (nI y)))
              rw [e6]
              unfold cSemi
              by_cases e9 : p6 < T ∧ c p6 = 59
              · rw [if_pos e9]
                obtain ⟨s9, d9, h9⟩ := g_end_t h6 e9
                have hS9 := h9.1.1
                have g19 := h9.2.2.2.2.1.1
                have g20 : pI s9 35 20 = nI (wA wd) := by rw [h9.2.2.2.2.1.2.1]; exact (vOk_A h9.2.2.2.2.2).2.1
                have a19 : ∀ k : Nat, k ≠ 35 → ∀ x : Int32, ∀ s : pm_H, pI (uI s k n x) 35 19 = pI s 35 19 := fun k hk x s => by rw [pI_uI_ne _ _ _ (Ne.symm hk)]
                have a20 : ∀ k : Nat, k ≠ 35 → ∀ x : Int32, ∀ s : pm_H, pI (uI s k n x) 35 20 = pI s 35 20 := fun k hk x s => by rw [pI_uI_ne _ _ _ (Ne.symm hk)]
                have b19 : ∀ x : Int32, ∀ s : pm_H, pI (uI s 35 20 x) 35 19 = pI s 35 19 := fun x s => by rw [pI_uI_nek _ _ _ _ (by decide)]
                refine ⟨_, ?_, Go_r (Gd_person h9 (kd := kd) (g := g) (x := x) (y := y) n8 ⟨hg.1, by omega⟩ (by omega))⟩
                refine rD_un.trans ?_
                simp only [D_X12_wantPerson, B_X12_wantPerson, nt_t, not_true, not_false_eq_true, one_ne0, pf_1 (Or.inl rfl), pf_1 (Or.inr rfl), ↓rE_eK, ↓rE_eLi, ↓rE_eLj, ↓rE_eLa, ↓rE_eU, ↓rE_eB, ↓rE_eG, ↓rE_eIF, ↓rE_eAI, ↓rE_eAX, ↓rE_eAJ, ↓rE_eAR, ↓rE_eLen, ↓rE_eSI, ↓rE_eC, ↓rE_eCall, ↓rE_eNew, ↓rE_eNewA, ↓rE_eInst, ↓rC_cI, ↓rC_cZ0, ↓rC_cN, ↓rC_cNot, ↓rC_cAnd, ↓rC_cOr, ↓rA_aN, ↓rA_aC, ↓rS_sP, ↓rS_sUF, ↓rS_sAI, ↓rS_sAJ, ↓rS_sAR, ↓rS_sUA, ↓rS_sCall, ↓rS_sObj, ↓rS_sSi, ↓rS_sSa, ↓rS_sSj, ↓rS_sInc, ↓rS_sSkip, ↓rS_sSeq, ↓rS_sIf, ↓rS_sRetI, ↓rS_sRetJ, ↓rS_sRetA, ↓rS_sRetV, ↓rS_sSw, ↓rD_meth, ↓rD_on, ↓kR_ref, ↓kI_int, ↓kJ_long, ↓kN_null, ↓kN_ref, ↓kN_rf, ↓kQ_ref, ↓kQ_null, ↓kQ_rf, o1_i, o1ij_i, o1ji_i, o2_i, o2d_i, o2j_i, o2ji_i, o2c_i, fv_0, fv_1, fv_2, fv_3, pf_0, pf_2, pf_3, pf_4, rf_s, rf_n, is_self, ge_0, ge_s, ge_n, gd_s, gd_n, se_0, se_s, ag_0, ex_n, ex_i, ex_r, ex_0, ex_j, ex_q, ap_c, ap_n, List.append_nil, ln_c, ln_n, rp_0, rp_s, rt_0, rt_1, rt_20, rt_21, rt_2, rt_3, rt_4, rt_4n, rt_4q, nl_0, nl_1, nl_2, nl_3, nl_4, nl_5, nl_6, nl_7, nl_8, nl_9, nlB_i, nlB_r, nlB_n, nlB_f, nlB_q, ↓reduceIte, reduceCtorEq, Nat.reduceAdd, Nat.reduceSub, Nat.reduceEqDiff, Nat.reduceLeDiff, Nat.reduceBEq, ite_true, ite_false, dt_t, Bool.not_true, Bool.not_false, Bool.false_eq_true, Nat.le_refl, true_and, and_true, true_or, or_true, false_or, or_false, false_and, and_false, qEq, qNe, qLt, qGe, qGt, qLe, t0, f19, hlt, n8, pT_uI, hat, rD_tb1 (show pT (uI s 35 18 1) 35 = 12 from t0), rD_of d1, rD_tb1 (Gd_T h1), rD_of d2, rD_tb1 (Gd_T h2), rD_of d3, rD_tb1 (Gd_T h3), rD_of d4, rD_tb1 (Gd_T h4), rD_of d5, rD_tb1 (Gd_T h5), rD_of d6, rD_tb1 (Gd_T h6), rD_of d9, sT_35 hS9, sT_36 hS9, sT_37 hS9, sT_38 hS9, sT_39 hS9, sT_40 hS9, sT_41 hS9, sT_42 hS9, sT_43 hS9, sT_44 hS9, sT_45 hS9, sT_46 hS9, sT_47 hS9, sT_48 hS9, sT_49 hS9, sT_50 hS9, sT_51 hS9, sT_52 hS9, sT_53 hS9, sT_54 hS9, sT_55 hS9, sT_56 hS9, sT_57 hS9, sT_58 hS9, sT_59 hS9, sT_60 hS9, sT_61 hS9, sT_62 hS9, sT_63 hS9, sT_64 hS9, sT_65 hS9, sL_36 hS9, sL_37 hS9, sL_38 hS9, sL_39 hS9, sL_40 hS9, sL_41 hS9, sL_42 hS9, sL_43 hS9, sL_44 hS9, sL_45 hS9, sL_46 hS9, sL_47 hS9, sL_48 hS9, sL_49 hS9, sL_50 hS9, sL_51 hS9, sL_52 hS9, sL_53 hS9, sL_54 hS9, sL_55 hS9, sL_56 hS9, sL_57 hS9, sL_58 hS9, sL_59 hS9, sL_60 hS9, sL_61 hS9, sL_62 hS9, sL_63 hS9, sL_64 hS9, sL_65 hS9, sR_35_1 hS9, sR_35_2 hS9, sR_35_3 hS9, sR_35_4 hS9, sR_35_5 hS9, sR_35_6 hS9, sR_35_7 hS9, sR_35_11 hS9, sR_35_21 hS9, sR_35_22 hS9, sR_35_23 hS9, sR_35_24 hS9, sR_35_25 hS9, sR_35_26 hS9, sR_35_27 hS9, sR_35_28 hS9, sR_35_29 hS9, sR_35_30 hS9, sR_35_31 hS9, sR_35_32 hS9, sR_35_35 hS9, sR_35_37 hS9, sR_35_38 hS9, sR_35_39 hS9, sR_35_40 hS9, sR_35_41 hS9, sR_35_42 hS9, sR_35_46 hS9, sR_35_50 hS9, sR_35_52 hS9, h9.2.2.2.1, g19, g20, ib_nI n8 (show (8 : Nat) ≤ 1000000 by decide), nI_cl (show n < 2147483648 by omega), pL_uI, pR_uI, a19 44 (by decide), a19 45 (by decide), a19 46 (by decide), a19 47 (by decide), a20 44 (by decide), a20 45 (by decide), a20 46 (by decide), a20 47 (by decide), b19, nI_shl n8, nI_or, nI_1, prM]
              · rw [if_neg e9]
                obtain ⟨s9, d9, h9⟩ := g_end_f h6 e9
                refine ⟨s9, ?_, Go_l h9⟩
                refine rD_un.trans ?_
                simp only [D_X12_wantPerson, B_X12_wantPerson, nt_t, not_true, not_false_eq_true, one_ne0, pf_1 (Or.inl rfl), pf_1 (Or.inr rfl), ↓rE_eK, ↓rE_eLi, ↓rE_eLj, ↓rE_eLa, ↓rE_eU, ↓rE_eB, ↓rE_eG, ↓rE_eIF, ↓rE_eAI, ↓rE_eAX, ↓rE_eAJ, ↓rE_eAR, ↓rE_eLen, ↓rE_eSI, ↓rE_eC, ↓rE_eCall, ↓rE_eNew, ↓rE_eNewA, ↓rE_eInst, ↓rC_cI, ↓rC_cZ0, ↓rC_cN, ↓rC_cNot, ↓rC_cAnd, ↓rC_cOr, ↓rA_aN, ↓rA_aC, ↓rS_sP, ↓rS_sUF, ↓rS_sAI, ↓rS_sAJ, ↓rS_sAR, ↓rS_sUA, ↓rS_sCall, ↓rS_sObj, ↓rS_sSi, ↓rS_sSa, ↓rS_sSj, ↓rS_sInc, ↓rS_sSkip, ↓rS_sSeq, ↓rS_sIf, ↓rS_sRetI, ↓rS_sRetJ, ↓rS_sRetA, ↓rS_sRetV, ↓rS_sSw, ↓rD_meth, ↓rD_on, ↓kR_ref, ↓kI_int, ↓kJ_long, ↓kN_null, ↓kN_ref, ↓kN_rf, ↓kQ_ref, ↓kQ_null, ↓kQ_rf, o1_i, o1ij_i, o1ji_i, o2_i, o2d_i, o2j_i, o2ji_i, o2c_i, fv_0, fv_1, fv_2, fv_3, pf_0, pf_2, pf_3, pf_4, rf_s, rf_n, is_self, ge_0, ge_s, ge_n, gd_s, gd_n, se_0, se_s, ag_0, ex_n, ex_i, ex_r, ex_0, ex_j, ex_q, ap_c, ap_n, List.append_nil, ln_c, ln_n, rp_0, rp_s, rt_0, rt_1, rt_20, rt_21, rt_2, rt_3, rt_4, rt_4n, rt_4q, nl_0, nl_1, nl_2, nl_3, nl_4, nl_5, nl_6, nl_7, nl_8, nl_9, nlB_i, nlB_r, nlB_n, nlB_f, nlB_q, ↓reduceIte, reduceCtorEq, Nat.reduceAdd, Nat.reduceSub, Nat.reduceEqDiff, Nat.reduceLeDiff, Nat.reduceBEq, ite_true, ite_false, dt_t, Bool.not_true, Bool.not_false, Bool.false_eq_true, Nat.le_refl, true_and, and_true, true_or, or_true, false_or, or_false, false_and, and_false, qEq, qNe, qLt, qGe, qGt, qLe, t0, f19, hlt, n8, pT_uI, hat, rD_tb1 (show pT (uI s 35 18 1) 35 = 12 from t0), rD_of d1, rD_tb1 (Gd_T h1), rD_of d2, rD_tb1 (Gd_T h2), rD_of d3, rD_tb1 (Gd_T h3), rD_of d4, rD_tb1 (Gd_T h4), rD_of d5, rD_tb1 (Gd_T h5), rD_of d6, rD_tb1 (Gd_T h6), rD_of d9, Bd_T h9, h9.2.2.1]
          · rw [if_neg w7]
            have d5 : D_X12_takes [.ref 35, .long 8930039] s4 = some (some (.int 0), s4) := g_take_f h4 (w := 7) (by decide) w7
            show ∃ t, _ ∧ Go σ1 T c t (cSemi T c p4 (n + 1) (upd (upd (newP wd n kd g) (20 + n) (nI x)) (28 + n) (nI 0)))
            unfold cSemi
            by_cases e9 : p4 < T ∧ c p4 = 59
            · rw [if_pos e9]
              obtain ⟨s9, d9, h9⟩ := g_end_t h4 e9
              have hS9 := h9.1.1
              have g19 := h9.2.2.2.2.1.1
              have g20 : pI s9 35 20 = nI (wA wd) := by rw [h9.2.2.2.2.1.2.1]; exact (vOk_A h9.2.2.2.2.2).2.1
              have a19 : ∀ k : Nat, k ≠ 35 → ∀ x : Int32, ∀ s : pm_H, pI (uI s k n x) 35 19 = pI s 35 19 := fun k hk x s => by rw [pI_uI_ne _ _ _ (Ne.symm hk)]
              have a20 : ∀ k : Nat, k ≠ 35 → ∀ x : Int32, ∀ s : pm_H, pI (uI s k n x) 35 20 = pI s 35 20 := fun k hk x s => by rw [pI_uI_ne _ _ _ (Ne.symm hk)]
              have b19 : ∀ x : Int32, ∀ s : pm_H, pI (uI s 35 20 x) 35 19 = pI s 35 19 := fun x s => by rw [pI_uI_nek _ _ _ _ (by decide)]
              refine ⟨_, ?_, Go_r (Gd_person h9 (kd := kd) (g := g) (x := x) (y := 0) n8 ⟨hg.1, by omega⟩ (by omega))⟩
              refine rD_un.trans ?_
              simp only [D_X12_wantPerson, B_X12_wantPerson, nt_t, not_true, not_false_eq_true, one_ne0, pf_1 (Or.inl rfl), pf_1 (Or.inr rfl), ↓rE_eK, ↓rE_eLi, ↓rE_eLj, ↓rE_eLa, ↓rE_eU, ↓rE_eB, ↓rE_eG, ↓rE_eIF, ↓rE_eAI, ↓rE_eAX, ↓rE_eAJ, ↓rE_eAR, ↓rE_eLen, ↓rE_eSI, ↓rE_eC, ↓rE_eCall, ↓rE_eNew, ↓rE_eNewA, ↓rE_eInst, ↓rC_cI, ↓rC_cZ0, ↓rC_cN, ↓rC_cNot, ↓rC_cAnd, ↓rC_cOr, ↓rA_aN, ↓rA_aC, ↓rS_sP, ↓rS_sUF, ↓rS_sAI, ↓rS_sAJ, ↓rS_sAR, ↓rS_sUA, ↓rS_sCall, ↓rS_sObj, ↓rS_sSi, ↓rS_sSa, ↓rS_sSj, ↓rS_sInc, ↓rS_sSkip, ↓rS_sSeq, ↓rS_sIf, ↓rS_sRetI, ↓rS_sRetJ, ↓rS_sRetA, ↓rS_sRetV, ↓rS_sSw, ↓rD_meth, ↓rD_on, ↓kR_ref, ↓kI_int, ↓kJ_long, ↓kN_null, ↓kN_ref, ↓kN_rf, ↓kQ_ref, ↓kQ_null, ↓kQ_rf, o1_i, o1ij_i, o1ji_i, o2_i, o2d_i, o2j_i, o2ji_i, o2c_i, fv_0, fv_1, fv_2, fv_3, pf_0, pf_2, pf_3, pf_4, rf_s, rf_n, is_self, ge_0, ge_s, ge_n, gd_s, gd_n, se_0, se_s, ag_0, ex_n, ex_i, ex_r, ex_0, ex_j, ex_q, ap_c, ap_n, List.append_nil, ln_c, ln_n, rp_0, rp_s, rt_0, rt_1, rt_20, rt_21, rt_2, rt_3, rt_4, rt_4n, rt_4q, nl_0, nl_1, nl_2, nl_3, nl_4, nl_5, nl_6, nl_7, nl_8, nl_9, nlB_i, nlB_r, nlB_n, nlB_f, nlB_q, ↓reduceIte, reduceCtorEq, Nat.reduceAdd, Nat.reduceSub, Nat.reduceEqDiff, Nat.reduceLeDiff, Nat.reduceBEq, ite_true, ite_false, dt_t, Bool.not_true, Bool.not_false, Bool.false_eq_true, Nat.le_refl, true_and, and_true, true_or, or_true, false_or, or_false, false_and, and_false, qEq, qNe, qLt, qGe, qGt, qLe, t0, f19, hlt, n8, pT_uI, hat, rD_tb1 (show pT (uI s 35 18 1) 35 = 12 from t0), rD_of d1, rD_tb1 (Gd_T h1), rD_of d2, rD_tb1 (Gd_T h2), rD_of d3, rD_tb1 (Gd_T h3), rD_of d4, rD_tb1 (Gd_T h4), rD_of d5, rD_of d9, sT_35 hS9, sT_36 hS9, sT_37 hS9, sT_38 hS9, sT_39 hS9, sT_40 hS9, sT_41 hS9, sT_42 hS9, sT_43 hS9, sT_44 hS9, sT_45 hS9, sT_46 hS9, sT_47 hS9, sT_48 hS9, sT_49 hS9, sT_50 hS9, sT_51 hS9, sT_52 hS9, sT_53 hS9, sT_54 hS9, sT_55 hS9, sT_56 hS9, sT_57 hS9, sT_58 hS9, sT_59 hS9, sT_60 hS9, sT_61 hS9, sT_62 hS9, sT_63 hS9, sT_64 hS9, sT_65 hS9, sL_36 hS9, sL_37 hS9, sL_38 hS9, sL_39 hS9, sL_40 hS9, sL_41 hS9, sL_42 hS9, sL_43 hS9, sL_44 hS9, sL_45 hS9, sL_46 hS9, sL_47 hS9, sL_48 hS9, sL_49 hS9, sL_50 hS9, sL_51 hS9, sL_52 hS9, sL_53 hS9, sL_54 hS9, sL_55 hS9, sL_56 hS9, sL_57 hS9, sL_58 hS9, sL_59 hS9, sL_60 hS9, sL_61 hS9, sL_62 hS9, sL_63 hS9, sL_64 hS9, sL_65 hS9, sR_35_1 hS9, sR_35_2 hS9, sR_35_3 hS9, sR_35_4 hS9, sR_35_5 hS9, sR_35_6 hS9, sR_35_7 hS9, sR_35_11 hS9, sR_35_21 hS9, sR_35_22 hS9, sR_35_23 hS9, sR_35_24 hS9, sR_35_25 hS9, sR_35_26 hS9, sR_35_27 hS9, sR_35_28 hS9, sR_35_29 hS9, sR_35_30 hS9, sR_35_31 hS9, sR_35_32 hS9, sR_35_35 hS9, sR_35_37 hS9, sR_35_38 hS9, sR_35_39 hS9, sR_35_40 hS9, sR_35_41 hS9, sR_35_42 hS9, sR_35_46 hS9, sR_35_50 hS9, sR_35_52 hS9, h9.2.2.2.1, g19, g20, ib_nI n8 (show (8 : Nat) ≤ 1000000 by decide), nI_cl (show n < 2147483648 by omega), pL_uI, pR_uI, a19 44 (by decide), a19 45 (by decide), a19 46 (by decide), a19 47 (by decide), a20 44 (by decide), a20 45 (by decide), a20 46 (by decide), a20 47 (by decide), b19, nI_shl n8, nI_or, nI_1, prM, nI_0]
            · rw [if_neg e9]
              obtain ⟨s9, d9, h9⟩ := g_end_f h4 e9
              refine ⟨s9, ?_, Go_l h9⟩
              refine rD_un.trans ?_
              simp only [D_X12_wantPerson, B_X12_wantPerson, nt_t, not_true, not_false_eq_true, one_ne0, pf_1 (Or.inl rfl), pf_1 (Or.inr rfl), ↓rE_eK, ↓rE_eLi, ↓rE_eLj, ↓rE_eLa, ↓rE_eU, ↓rE_eB, ↓rE_eG, ↓rE_eIF, ↓rE_eAI, ↓rE_eAX, ↓rE_eAJ, ↓rE_eAR, ↓rE_eLen, ↓rE_eSI, ↓rE_eC, ↓rE_eCall, ↓rE_eNew, ↓rE_eNewA, ↓rE_eInst, ↓rC_cI, ↓rC_cZ0, ↓rC_cN, ↓rC_cNot, ↓rC_cAnd, ↓rC_cOr, ↓rA_aN, ↓rA_aC, ↓rS_sP, ↓rS_sUF, ↓rS_sAI, ↓rS_sAJ, ↓rS_sAR, ↓rS_sUA, ↓rS_sCall, ↓rS_sObj, ↓rS_sSi, ↓rS_sSa, ↓rS_sSj, ↓rS_sInc, ↓rS_sSkip, ↓rS_sSeq, ↓rS_sIf, ↓rS_sRetI, ↓rS_sRetJ, ↓rS_sRetA, ↓rS_sRetV, ↓rS_sSw, ↓rD_meth, ↓rD_on, ↓kR_ref, ↓kI_int, ↓kJ_long, ↓kN_null, ↓kN_ref, ↓kN_rf, ↓kQ_ref, ↓kQ_null, ↓kQ_rf, o1_i, o1ij_i, o1ji_i, o2_i, o2d_i, o2j_i, o2ji_i, o2c_i, fv_0, fv_1, fv_2, fv_3, pf_0, pf_2, pf_3, pf_4, rf_s, rf_n, is_self, ge_0, ge_s, ge_n, gd_s, gd_n, se_0, se_s, ag_0, ex_n, ex_i, ex_r, ex_0, ex_j, ex_q, ap_c, ap_n, List.append_nil, ln_c, ln_n, rp_0, rp_s, rt_0, rt_1, rt_20, rt_21, rt_2, rt_3, rt_4, rt_4n, rt_4q, nl_0, nl_1, nl_2, nl_3, nl_4, nl_5, nl_6, nl_7, nl_8, nl_9, nlB_i, nlB_r, nlB_n, nlB_f, nlB_q, ↓reduceIte, reduceCtorEq, Nat.reduceAdd, Nat.reduceSub, Nat.reduceEqDiff, Nat.reduceLeDiff, Nat.reduceBEq, ite_true, ite_false, dt_t, Bool.not_true, Bool.not_false, Bool.false_eq_true, Nat.le_refl, true_and, and_true, true_or, or_true, false_or, or_false, false_and, and_false, qEq, qNe, qLt, qGe, qGt, qLe, t0, f19, hlt, n8, pT_uI, hat, rD_tb1 (show pT (uI s 35 18 1) 35 = 12 from t0), rD_of d1, rD_tb1 (Gd_T h1), rD_of d2, rD_tb1 (Gd_T h2), rD_of d3, rD_tb1 (Gd_T h3), rD_of d4, rD_tb1 (Gd_T h4), rD_of d5, rD_of d9, Bd_T h9, h9.2.2.1]
      · rw [if_neg w6]
        have d3 : D_X12_takes [.ref 35, .long 11993594] s2 = some (some (.int 0), s2) := g_take_f h2 (w := 6) (by decide) w6
        show ∃ t, _ ∧ Go σ1 T c t (clPe3 T c p2 n (upd (newP wd n kd g) (20 + n) (nI 100)))
        unfold clPe3 optW
        by_cases w7 : wId T c p2 = 7
        · rw [if_pos w7]
          obtain ⟨s5, d5, h5⟩ := g_take_t h2 (by decide) w7
          have d5 : D_X12_takes [.ref 35, .long 8930039] s2 = some (some (.int 1), s5) := d5
          obtain ⟨p5, e5⟩ : ∃ p5, skE T c (leE T c p2) = p5 := ⟨_, rfl⟩
          rw [e5] at h5 ⊢
          cases r3 : numR T c p5 0 1000 with
          | none =>
            obtain ⟨x6, s6, d6, h6⟩ := g_num_f h5 (by decide) H_999 r3
            rw [nI_0] at d6
            obtain ⟨s7, d7, h7⟩ := b_end h6
            refine ⟨s7, ?_, Go_l h7⟩
            refine rD_un.trans ?_
            simp only [D_X12_wantPerson, B_X12_wantPerson, nt_t, not_true, not_false_eq_true, one_ne0, pf_1 (Or.inl rfl), pf_1 (Or.inr rfl), ↓rE_eK, ↓rE_eLi, ↓rE_eLj, ↓rE_eLa, ↓rE_eU, ↓rE_eB, ↓rE_eG, ↓rE_eIF, ↓rE_eAI, ↓rE_eAX, ↓rE_eAJ, ↓rE_eAR, ↓rE_eLen, ↓rE_eSI, ↓rE_eC, ↓rE_eCall, ↓rE_eNew, ↓rE_eNewA, ↓rE_eInst, ↓rC_cI, ↓rC_cZ0, ↓rC_cN, ↓rC_cNot, ↓rC_cAnd, ↓rC_cOr, ↓rA_aN, ↓rA_aC, ↓rS_sP, ↓rS_sUF, ↓rS_sAI, ↓rS_sAJ, ↓rS_sAR, ↓rS_sUA, ↓rS_sCall, ↓rS_sObj, ↓rS_sSi, ↓rS_sSa, ↓rS_sSj, ↓rS_sInc, ↓rS_sSkip, ↓rS_sSeq, ↓rS_sIf, ↓rS_sRetI, ↓rS_sRetJ, ↓rS_sRetA, ↓rS_sRetV, ↓rS_sSw, ↓rD_meth, ↓rD_on, ↓kR_ref, ↓kI_int, ↓kJ_long, ↓kN_null, ↓kN_ref, ↓kN_rf, ↓kQ_ref, ↓kQ_null, ↓kQ_rf, o1_i, o1ij_i, o1ji_i, o2_i, o2d_i, o2j_i, o2ji_i, o2c_i, fv_0, fv_1, fv_2, fv_3, pf_0, pf_2, pf_3, pf_4, rf_s, rf_n, is_self, ge_0, ge_s, ge_n, gd_s, gd_n, se_0, se_s, ag_0, ex_n, ex_i, ex_r, ex_0, ex_j, ex_q, ap_c, ap_n, List.append_nil, ln_c, ln_n, rp_0, rp_s, rt_0, rt_1, rt_20, rt_21, rt_2, rt_3, rt_4, rt_4n, rt_4q, nl_0, nl_1, nl_2, nl_3, nl_4, nl_5, nl_6, nl_7, nl_8, nl_9, nlB_i, nlB_r, nlB_n, nlB_f, nlB_q, ↓reduceIte, reduceCtorEq, Nat.reduceAdd, Nat.reduceSub, Nat.reduceEqDiff, Nat.reduceLeDiff, Nat.reduceBEq, ite_true, ite_false, dt_t, Bool.not_true, Bool.not_false, Bool.false_eq_true, Nat.le_refl, true_and, and_true, true_or, or_true, false_or, or_false, false_and, and_false, qEq, qNe, qLt, qGe, qGt, qLe, t0, f19, hlt, n8, pT_uI, hat, rD_tb1 (show pT (uI s 35 18 1) 35 = 12 from t0), rD_of d1, rD_tb1 (Gd_T h1), rD_of d2, rD_tb1 (Gd_T h2), rD_of d3, rD_of d5, rD_tb1 (Gd_T h5), rD_of d6, rD_tb1 (Bd_T h6), rD_of d7, Bd_T h7, h7.2.2.1]
          | some y =>
            obtain ⟨s6, d6, h6⟩ := g_num_t h5 (by decide) H_999 r3
            rw [nI_0] at d6
            obtain ⟨p6, e6⟩ : ∃ p6, skE T c (deE T c p5) = p6 := ⟨_, rfl⟩
            rw [e6] at h6
            show ∃ t, _ ∧ Go σ1 T c t (cSemi T c (skE T c (deE T c p5)) (n + 1) (upd (upd (newP wd n kd g) (20 + n) (nI 100)) (28 + n) (nI y)))
            rw [e6]
            unfold cSemi
            by_cases e9 : p6 < T ∧ c p6 = 59
            · rw [if_pos e9]
              obtain ⟨s9, d9, h9⟩ := g_end_t h6 e9
              have hS9 := h9.1.1
              have g19 := h9.2.2.2.2.1.1
              have g20 : pI s9 35 20 = nI (wA wd) := by rw [h9.2.2.2.2.1.2.1]; exact (vOk_A h9.2.2.2.2.2).2.1
              have a19 : ∀ k : Nat, k ≠ 35 → ∀ x : Int32, ∀ s : pm_H, pI (uI s k n x) 35 19 = pI s 35 19 := fun k hk x s => by rw [pI_uI_ne _ _ _ (Ne.symm hk)]
              have a20 : ∀ k : Nat, k ≠ 35 → ∀ x : Int32, ∀ s : pm_H, pI (uI s k n x) 35 20 = pI s 35 20 := fun k hk x s => by rw [pI_uI_ne _ _ _ (Ne.symm hk)]
              have b19 : ∀ x : Int32, ∀ s : pm_H, pI (uI s 35 20 x) 35 19 = pI s 35 19 := fun x s => by rw [pI_uI_nek _ _ _ _ (by decide)]
              refine ⟨_, ?_, Go_r (Gd_person h9 (kd := kd) (g := g) (x := 100) (y := y) n8 ⟨hg.1, by omega⟩ (by omega))⟩
              refine rD_un.trans ?_
              simp only [D_X12_wantPerson, B_X12_wantPerson, nt_t, not_true, not_false_eq_true, one_ne0, pf_1 (Or.inl rfl), pf_1 (Or.inr rfl), ↓rE_eK, ↓rE_eLi, ↓rE_eLj, ↓rE_eLa, ↓rE_eU, ↓rE_eB, ↓rE_eG, ↓rE_eIF, ↓rE_eAI, ↓rE_eAX, ↓rE_eAJ, ↓rE_eAR, ↓rE_eLen, ↓rE_eSI, ↓rE_eC, ↓rE_eCall, ↓rE_eNew, ↓rE_eNewA, ↓rE_eInst, ↓rC_cI, ↓rC_cZ0, ↓rC_cN, ↓rC_cNot, ↓rC_cAnd, ↓rC_cOr, ↓rA_aN, ↓rA_aC, ↓rS_sP, ↓rS_sUF, ↓rS_sAI, ↓rS_sAJ, ↓rS_sAR, ↓rS_sUA, ↓rS_sCall, ↓rS_sObj, ↓rS_sSi, ↓rS_sSa, ↓rS_sSj, ↓rS_sInc, ↓rS_sSkip, ↓rS_sSeq, ↓rS_sIf, ↓rS_sRetI, ↓rS_sRetJ, ↓rS_sRetA, ↓rS_sRetV, ↓rS_sSw, ↓rD_meth, ↓rD_on, ↓kR_ref, ↓kI_int, ↓kJ_long, ↓kN_null, ↓kN_ref, ↓kN_rf, ↓kQ_ref, ↓kQ_null, ↓kQ_rf, o1_i, o1ij_i, o1ji_i, o2_i, o2d_i, o2j_i, o2ji_i, o2c_i, fv_0, fv_1, fv_2, fv_3, pf_0, pf_2, pf_3, pf_4, rf_s, rf_n, is_self, ge_0, ge_s, ge_n, gd_s, gd_n, se_0, se_s, ag_0, ex_n, ex_i, ex_r, ex_0, ex_j, ex_q, ap_c, ap_n, List.append_nil, ln_c, ln_n, rp_0, rp_s, rt_0, rt_1, rt_20, rt_21, rt_2, rt_3, rt_4, rt_4n, rt_4q, nl_0, nl_1, nl_2, nl_3, nl_4, nl_5, nl_6, nl_7, nl_8, nl_9, nlB_i, nlB_r, nlB_n, nlB_f, nlB_q, ↓reduceIte, reduceCtorEq, Nat.reduceAdd, Nat.reduceSub, Nat.reduceEqDiff, Nat.reduceLeDiff, Nat.reduceBEq, ite_true, ite_false, dt_t, Bool.not_true, Bool.not_false, Bool.false_eq_true, Nat.le_refl, true_and, and_true, true_or, or_true, false_or, or_false, false_and, and_false, qEq, qNe, qLt, qGe, qGt, qLe, t0, f19, hlt, n8, pT_uI, hat, rD_tb1 (show pT (uI s 35 18 1) 35 = 12 from t0), rD_of d1, rD_tb1 (Gd_T h1), rD_of d2, rD_tb1 (Gd_T h2), rD_of d3, rD_of d5, rD_tb1 (Gd_T h5), rD_of d6, rD_tb1 (Gd_T h6), rD_of d9, sT_35 hS9, sT_36 hS9, sT_37 hS9, sT_38 hS9, sT_39 hS9, sT_40 hS9, sT_41 hS9, sT_42 hS9, sT_43 hS9, sT_44 hS9, sT_45 hS9, sT_46 hS9, sT_47 hS9, sT_48 hS9, sT_49 hS9, sT_50 hS9, sT_51 hS9, sT_52 hS9, sT_53 hS9, sT_54 hS9, sT_55 hS9, sT_56 hS9, sT_57 hS9, sT_58 hS9, sT_59 hS9, sT_60 hS9, sT_61 hS9, sT_62 hS9, sT_63 hS9, sT_64 hS9, sT_65 hS9, sL_36 hS9, sL_37 hS9, sL_38 hS9, sL_39 hS9, sL_40 hS9, sL_41 hS9, sL_42 hS9, sL_43 hS9, sL_44 hS9, sL_45 hS9, sL_46 hS9, sL_47 hS9, sL_48 hS9, sL_49 hS9, sL_50 hS9, sL_51 hS9, sL_52 hS9, sL_53 hS9, sL_54 hS9, sL_55 hS9, sL_56 hS9, sL_57 hS9, sL_58 hS9, sL_59 hS9, sL_60 hS9, sL_61 hS9, sL_62 hS9, sL_63 hS9, sL_64 hS9, sL_65 hS9, sR_35_1 hS9, sR_35_2 hS9, sR_35_3 hS9, sR_35_4 hS9, sR_35_5 hS9, sR_35_6 hS9, sR_35_7 hS9, sR_35_11 hS9, sR_35_21 hS9, sR_35_22 hS9, sR_35_23 hS9, sR_35_24 hS9, sR_35_25 hS9, sR_35_26 hS9, sR_35_27 hS9, sR_35_28 hS9, sR_35_29 hS9, sR_35_30 hS9, sR_35_31 hS9, sR_35_32 hS9, sR_35_35 hS9, sR_35_37 hS9, sR_35_38 hS9, sR_35_39 hS9, sR_35_40 hS9, sR_35_41 hS9, sR_35_42 hS9, sR_35_46 hS9, sR_35_50 hS9, sR_35_52 hS9, h9.2.2.2.1, g19, g20, ib_nI n8 (show (8 : Nat) ≤ 1000000 by decide), nI_cl (show n < 2147483648 by omega), pL_uI, pR_uI, a19 44 (by decide), a19 45 (by decide), a19 46 (by decide), a19 47 (by decide), a20 44 (by decide), a20 45 (by decide), a20 46 (by decide), a20 47 (by decide), b19, nI_shl n8, nI_or, nI_1, prM, h100]
            · rw [if_neg e9]
              obtain ⟨s9, d9, h9⟩ := g_end_f h6 e9
              refine ⟨s9, ?_, Go_l h9⟩
              refine rD_un.trans ?_
              simp only [D_X12_wantPerson, B_X12_wantPerson, nt_t, not_true, not_false_eq_true, one_ne0, pf_1 (Or.inl rfl), pf_1 (Or.inr rfl), ↓rE_eK, ↓rE_eLi, ↓rE_eLj, ↓rE_eLa, ↓rE_eU, ↓rE_eB, ↓rE_eG, ↓rE_eIF, ↓rE_eAI, ↓rE_eAX, ↓rE_eAJ, ↓rE_eAR, ↓rE_eLen, ↓rE_eSI, ↓rE_eC, ↓rE_eCall, ↓rE_eNew, ↓rE_eNewA, ↓rE_eInst, ↓rC_cI, ↓rC_cZ0, ↓rC_cN, ↓rC_cNot, ↓rC_cAnd, ↓rC_cOr, ↓rA_aN, ↓rA_aC, ↓rS_sP, ↓rS_sUF, ↓rS_sAI, ↓rS_sAJ, ↓rS_sAR, ↓rS_sUA, ↓rS_sCall, ↓rS_sObj, ↓rS_sSi, ↓rS_sSa, ↓rS_sSj, ↓rS_sInc, ↓rS_sSkip, ↓rS_sSeq, ↓rS_sIf, ↓rS_sRetI, ↓rS_sRetJ, ↓rS_sRetA, ↓rS_sRetV, ↓rS_sSw, ↓rD_meth, ↓rD_on, ↓kR_ref, ↓kI_int, ↓kJ_long, ↓kN_null, ↓kN_ref, ↓kN_rf, ↓kQ_ref, ↓kQ_null, ↓kQ_rf, o1_i, o1ij_i, o1ji_i, o2_i, o2d_i, o2j_i, o2ji_i, o2c_i, fv_0, fv_1, fv_2, fv_3, pf_0, pf_2, pf_3, pf_4, rf_s, rf_n, is_self, ge_0, ge_s, ge_n, gd_s, gd_n, se_0, se_s, ag_0, ex_n, ex_i, ex_r, ex_0, ex_j, ex_q, ap_c, ap_n, List.append_nil, ln_c, ln_n, rp_0, rp_s, rt_0, rt_1, rt_20, rt_21, rt_2, rt_3, rt_4, rt_4n, rt_4q, nl_0, nl_1, nl_2, nl_3, nl_4, nl_5, nl_6, nl_7, nl_8, nl_9, nlB_i, nlB_r, nlB_n, nlB_f, nlB_q, ↓reduceIte, reduceCtorEq, Nat.reduceAdd, Nat.reduceSub, Nat.reduceEqDiff, Nat.reduceLeDiff, Nat.reduceBEq, ite_true, ite_false, dt_t, Bool.not_true, Bool.not_false, Bool.false_eq_true, Nat.le_refl, true_and, and_true, true_or, or_true, false_or, or_false, false_and, and_false, qEq, qNe, qLt, qGe, qGt, qLe, t0, f19, hlt, n8, pT_uI, hat, rD_tb1 (show pT (uI s 35 18 1) 35 = 12 from t0), rD_of d1, rD_tb1 (Gd_T h1), rD_of d2, rD_tb1 (Gd_T h2), rD_of d3, rD_of d5, rD_tb1 (Gd_T h5), rD_of d6, rD_tb1 (Gd_T h6), rD_of d9, Bd_T h9, h9.2.2.1]
        · rw [if_neg w7]
          have d5 : D_X12_takes [.ref 35, .long 8930039] s2 = some (some (.int 0), s2) := g_take_f h2 (w := 7) (by decide) w7
          show ∃ t, _ ∧ Go σ1 T c t (cSemi T c p2 (n + 1) (upd (upd (newP wd n kd g) (20 + n) (nI 100)) (28 + n) (nI 0)))
          unfold cSemi
          by_cases e9 : p2 < T ∧ c p2 = 59
          · rw [if_pos e9]
            obtain ⟨s9, d9, h9⟩ := g_end_t h2 e9
            have hS9 := h9.1.1
            have g19 := h9.2.2.2.2.1.1
            have g20 : pI s9 35 20 = nI (wA wd) := by rw [h9.2.2.2.2.1.2.1]; exact (vOk_A h9.2.2.2.2.2).2.1
            have a19 : ∀ k : Nat, k ≠ 35 → ∀ x : Int32, ∀ s : pm_H, pI (uI s k n x) 35 19 = pI s 35 19 := fun k hk x s => by rw [pI_uI_ne _ _ _ (Ne.symm hk)]
            have a20 : ∀ k : Nat, k ≠ 35 → ∀ x : Int32, ∀ s : pm_H, pI (uI s k n x) 35 20 = pI s 35 20 := fun k hk x s => by rw [pI_uI_ne _ _ _ (Ne.symm hk)]
            have b19 : ∀ x : Int32, ∀ s : pm_H, pI (uI s 35 20 x) 35 19 = pI s 35 19 := fun x s => by rw [pI_uI_nek _ _ _ _ (by decide)]
            refine ⟨_, ?_, Go_r (Gd_person h9 (kd := kd) (g := g) (x := 100) (y := 0) n8 ⟨hg.1, by omega⟩ (by omega))⟩
            refine rD_un.trans ?_
            simp only [D_X12_wantPerson, B_X12_wantPerson, nt_t, not_true, not_false_eq_true, one_ne0, pf_1 (Or.inl rfl), pf_1 (Or.inr rfl), ↓rE_eK, ↓rE_eLi, ↓rE_eLj, ↓rE_eLa, ↓rE_eU, ↓rE_eB, ↓rE_eG, ↓rE_eIF, ↓rE_eAI, ↓rE_eAX, ↓rE_eAJ, ↓rE_eAR, ↓rE_eLen, ↓rE_eSI, ↓rE_eC, ↓rE_eCall, ↓rE_eNew, ↓rE_eNewA, ↓rE_eInst, ↓rC_cI, ↓rC_cZ0, ↓rC_cN, ↓rC_cNot, ↓rC_cAnd, ↓rC_cOr, ↓rA_aN, ↓rA_aC, ↓rS_sP, ↓rS_sUF, ↓rS_sAI, ↓rS_sAJ, ↓rS_sAR, ↓rS_sUA, ↓rS_sCall, ↓rS_sObj, ↓rS_sSi, ↓rS_sSa, ↓rS_sSj, ↓rS_sInc, ↓rS_sSkip, ↓rS_sSeq, ↓rS_sIf, ↓rS_sRetI, ↓rS_sRetJ, ↓rS_sRetA, ↓rS_sRetV, ↓rS_sSw, ↓rD_meth, ↓rD_on, ↓kR_ref, ↓kI_int, ↓kJ_long, ↓kN_null, ↓kN_ref, ↓kN_rf, ↓kQ_ref, ↓kQ_null, ↓kQ_rf, o1_i, o1ij_i, o1ji_i, o2_i, o2d_i, o2j_i, o2ji_i, o2c_i, fv_0, fv_1, fv_2, fv_3, pf_0, pf_2, pf_3, pf_4, rf_s, rf_n, is_self, ge_0, ge_s, ge_n, gd_s, gd_n, se_0, se_s, ag_0, ex_n, ex_i, ex_r, ex_0, ex_j, ex_q, ap_c, ap_n, List.append_nil, ln_c, ln_n, rp_0, rp_s, rt_0, rt_1, rt_20, rt_21, rt_2, rt_3, rt_4, rt_4n, rt_4q, nl_0, nl_1, nl_2, nl_3, nl_4, nl_5, nl_6, nl_7, nl_8, nl_9, nlB_i, nlB_r, nlB_n, nlB_f, nlB_q, ↓reduceIte, reduceCtorEq, Nat.reduceAdd, Nat.reduceSub, Nat.reduceEqDiff, Nat.reduceLeDiff, Nat.reduceBEq, ite_true, ite_false, dt_t, Bool.not_true, Bool.not_false, Bool.false_eq_true, Nat.le_refl, true_and, and_true, true_or, or_true, false_or, or_false, false_and, and_false, qEq, qNe, qLt, qGe, qGt, qLe, t0, f19, hlt, n8, pT_uI, hat, rD_tb1 (show pT (uI s 35 18 1) 35 = 12 from t0), rD_of d1, rD_tb1 (Gd_T h1), rD_of d2, rD_tb1 (Gd_T h2), rD_of d3, rD_of d5, rD_of d9, sT_35 hS9, sT_36 hS9, sT_37 hS9, sT_38 hS9, sT_39 hS9, sT_40 hS9, sT_41 hS9, sT_42 hS9, sT_43 hS9, sT_44 hS9, sT_45 hS9, sT_46 hS9, sT_47 hS9, sT_48 hS9, sT_49 hS9, sT_50 hS9, sT_51 hS9, sT_52 hS9, sT_53 hS9, sT_54 hS9, sT_55 hS9, sT_56 hS9, sT_57 hS9, sT_58 hS9, sT_59 hS9, sT_60 hS9, sT_61 hS9, sT_62 hS9, sT_63 hS9, sT_64 hS9, sT_65 hS9, sL_36 hS9, sL_37 hS9, sL_38 hS9, sL_39 hS9, sL_40 hS9, sL_41 hS9, sL_42 hS9, sL_43 hS9, sL_44 hS9, sL_45 hS9, sL_46 hS9, sL_47 hS9, sL_48 hS9, sL_49 hS9, sL_50 hS9, sL_51 hS9, sL_52 hS9, sL_53 hS9, sL_54 hS9, sL_55 hS9, sL_56 hS9, sL_57 hS9, sL_58 hS9, sL_59 hS9, sL_60 hS9, sL_61 hS9, sL_62 hS9, sL_63 hS9, sL_64 hS9, sL_65 hS9, sR_35_1 hS9, sR_35_2 hS9, sR_35_3 hS9, sR_35_4 hS9, sR_35_5 hS9, sR_35_6 hS9, sR_35_7 hS9, sR_35_11 hS9, sR_35_21 hS9, sR_35_22 hS9, sR_35_23 hS9, sR_35_24 hS9, sR_35_25 hS9, sR_35_26 hS9, sR_35_27 hS9, sR_35_28 hS9, sR_35_29 hS9, sR_35_30 hS9, sR_35_31 hS9, sR_35_32 hS9, sR_35_35 hS9, sR_35_37 hS9, sR_35_38 hS9, sR_35_39 hS9, sR_35_40 hS9, sR_35_41 hS9, sR_35_42 hS9, sR_35_46 hS9, sR_35_50 hS9, sR_35_52 hS9, h9.2.2.2.1, g19, g20, ib_nI n8 (show (8 : Nat) ≤ 1000000 by decide), nI_cl (show n < 2147483648 by omega), pL_uI, pR_uI, a19 44 (by decide), a19 45 (by decide), a19 46 (by decide), a19 47 (by decide), a20 44 (by decide), a20 45 (by decide), a20 46 (by decide), a20 47 (by decide), b19, nI_shl n8, nI_or, nI_1, prM, h100, nI_0]
          · rw [if_neg e9]
            obtain ⟨s9, d9, h9⟩ := g_end_f h2 e9
            refine ⟨s9, ?_, Go_l h9⟩
            refine rD_un.trans ?_
            simp only [D_X12_wantPerson, B_X12_wantPerson, nt_t, not_true, not_false_eq_true, one_ne0, pf_1 (Or.inl rfl), pf_1 (Or.inr rfl), ↓rE_eK, ↓rE_eLi, ↓rE_eLj, ↓rE_eLa, ↓rE_eU, ↓rE_eB, ↓rE_eG, ↓rE_eIF, ↓rE_eAI, ↓rE_eAX, ↓rE_eAJ, ↓rE_eAR, ↓rE_eLen, ↓rE_eSI, ↓rE_eC, ↓rE_eCall, ↓rE_eNew, ↓rE_eNewA, ↓rE_eInst, ↓rC_cI, ↓rC_cZ0, ↓rC_cN, ↓rC_cNot, ↓rC_cAnd, ↓rC_cOr, ↓rA_aN, ↓rA_aC, ↓rS_sP, ↓rS_sUF, ↓rS_sAI, ↓rS_sAJ, ↓rS_sAR, ↓rS_sUA, ↓rS_sCall, ↓rS_sObj, ↓rS_sSi, ↓rS_sSa, ↓rS_sSj, ↓rS_sInc, ↓rS_sSkip, ↓rS_sSeq, ↓rS_sIf, ↓rS_sRetI, ↓rS_sRetJ, ↓rS_sRetA, ↓rS_sRetV, ↓rS_sSw, ↓rD_meth, ↓rD_on, ↓kR_ref, ↓kI_int, ↓kJ_long, ↓kN_null, ↓kN_ref, ↓kN_rf, ↓kQ_ref, ↓kQ_null, ↓kQ_rf, o1_i, o1ij_i, o1ji_i, o2_i, o2d_i, o2j_i, o2ji_i, o2c_i, fv_0, fv_1, fv_2, fv_3, pf_0, pf_2, pf_3, pf_4, rf_s, rf_n, is_self, ge_0, ge_s, ge_n, gd_s, gd_n, se_0, se_s, ag_0, ex_n, ex_i, ex_r, ex_0, ex_j, ex_q, ap_c, ap_n, List.append_nil, ln_c, ln_n, rp_0, rp_s, rt_0, rt_1, rt_20, rt_21, rt_2, rt_3, rt_4, rt_4n, rt_4q, nl_0, nl_1, nl_2, nl_3, nl_4, nl_5, nl_6, nl_7, nl_8, nl_9, nlB_i, nlB_r, nlB_n, nlB_f, nlB_q, ↓reduceIte, reduceCtorEq, Nat.reduceAdd, Nat.reduceSub, Nat.reduceEqDiff, Nat.reduceLeDiff, Nat.reduceBEq, ite_true, ite_false, dt_t, Bool.not_true, Bool.not_false, Bool.false_eq_true, Nat.le_refl, true_and, and_true, true_or, or_true, false_or, or_false, false_and, and_false, qEq, qNe, qLt, qGe, qGt, qLe, t0, f19, hlt, n8, pT_uI, hat, rD_tb1 (show pT (uI s 35 18 1) 35 = 12 from t0), rD_of d1, rD_tb1 (Gd_T h1), rD_of d2, rD_tb1 (Gd_T h2), rD_of d3, rD_of d5, rD_of d9, Bd_T h9, h9.2.2.1]
  · rw [if_neg n8]
    have h0 := Gd_Bd h
    have hat : pI (uI s 35 18 0) 35 18 = 0 := pI_uI_at _ _ _ _
    obtain ⟨x2, s2, d2, h2⟩ := b_num h0 1 90
    have d3 := b_take h2 11993594
    have d4 := b_take h2 8930039
    obtain ⟨s5, d5, h5⟩ := b_end h2
    refine ⟨s5, ?_, Go_l h5⟩
    refine rD_un.trans ?_
    simp only [D_X12_wantPerson, B_X12_wantPerson, nt_t, not_true, not_false_eq_true, one_ne0, pf_1 (Or.inl rfl), pf_1 (Or.inr rfl), ↓rE_eK, ↓rE_eLi, ↓rE_eLj, ↓rE_eLa, ↓rE_eU, ↓rE_eB, ↓rE_eG, ↓rE_eIF, ↓rE_eAI, ↓rE_eAX, ↓rE_eAJ, ↓rE_eAR, ↓rE_eLen, ↓rE_eSI, ↓rE_eC, ↓rE_eCall, ↓rE_eNew, ↓rE_eNewA, ↓rE_eInst, ↓rC_cI, ↓rC_cZ0, ↓rC_cN, ↓rC_cNot, ↓rC_cAnd, ↓rC_cOr, ↓rA_aN, ↓rA_aC, ↓rS_sP, ↓rS_sUF, ↓rS_sAI, ↓rS_sAJ, ↓rS_sAR, ↓rS_sUA, ↓rS_sCall, ↓rS_sObj, ↓rS_sSi, ↓rS_sSa, ↓rS_sSj, ↓rS_sInc, ↓rS_sSkip, ↓rS_sSeq, ↓rS_sIf, ↓rS_sRetI, ↓rS_sRetJ, ↓rS_sRetA, ↓rS_sRetV, ↓rS_sSw, ↓rD_meth, ↓rD_on, ↓kR_ref, ↓kI_int, ↓kJ_long, ↓kN_null, ↓kN_ref, ↓kN_rf, ↓kQ_ref, ↓kQ_null, ↓kQ_rf, o1_i, o1ij_i, o1ji_i, o2_i, o2d_i, o2j_i, o2ji_i, o2c_i, fv_0, fv_1, fv_2, fv_3, pf_0, pf_2, pf_3, pf_4, rf_s, rf_n, is_self, ge_0, ge_s, ge_n, gd_s, gd_n, se_0, se_s, ag_0, ex_n, ex_i, ex_r, ex_0, ex_j, ex_q, ap_c, ap_n, List.append_nil, ln_c, ln_n, rp_0, rp_s, rt_0, rt_1, rt_20, rt_21, rt_2, rt_3, rt_4, rt_4n, rt_4q, nl_0, nl_1, nl_2, nl_3, nl_4, nl_5, nl_6, nl_7, nl_8, nl_9, nlB_i, nlB_r, nlB_n, nlB_f, nlB_q, ↓reduceIte, reduceCtorEq, Nat.reduceAdd, Nat.reduceSub, Nat.reduceEqDiff, Nat.reduceLeDiff, Nat.reduceBEq, ite_true, ite_false, dt_t, Bool.not_true, Bool.not_false, Bool.false_eq_true, Nat.le_refl, true_and, and_true, true_or, or_true, false_or, or_false, false_and, and_false, qEq, qNe, qLt, qGe, qGt, qLe, t0, f19, hlt, n8, pT_uI, hat, rD_tb1 (show pT (uI s 35 18 0) 35 = 12 from t0), rD_of d2, rD_tb1 (Bd_T h2), rD_of d3, rD_of d4, rD_of d5, Bd_T h5, h5.2.2.1]
theorem g_clause {σ1 s : pm_H} {p n : Nat} {wd : Nat → Int32} (h : Gd σ1 T c p n wd s) : ∃ t, D_X12_wantClause [.ref 35] s = some (none, t) ∧ Go σ1 T c t (clause T c p n wd) := by
  have hS := h.1.1
  have t0 := Gd_T h
  have a1 := m_kind h.1 h.2.2.1
  have a8 : D_X12_isWord [.ref 35, .long 312166] s = _ := m_isWord h.1 h.2.2.1 (w := 8) (by decide)
  have a9 : D_X12_isWord [.ref 35, .long 24686278] s = _ := m_isWord h.1 h.2.2.1 (w := 9) (by decide)
  have m0 : (0 ≤ (-1 : Int32)) = False := eq_false (by decide)
  unfold clause
  by_cases c6 : wId T c p < 6
  · rw [if_neg (by omega), if_neg (by omega), if_pos c6]
    rw [if_pos c6] at a1
    have k0 : (0 ≤ nI (wId T c p)) = True := eq_true (by rw [← Int32.not_lt]; exact nI_nn (by omega))
    obtain ⟨t, d1, g1⟩ := g_person h c6 rfl
    refine ⟨t, ?_, g1⟩
    refine rD_un.trans ?_
    simp only [D_X12_wantClause, B_X12_wantClause, ↓rE_eK, ↓rE_eLi, ↓rE_eLj, ↓rE_eLa, ↓rE_eU, ↓rE_eB, ↓rE_eG, ↓rE_eIF, ↓rE_eAI, ↓rE_eAX, ↓rE_eAJ, ↓rE_eAR, ↓rE_eLen, ↓rE_eSI, ↓rE_eC, ↓rE_eCall, ↓rE_eNew, ↓rE_eNewA, ↓rE_eInst, ↓rC_cI, ↓rC_cZ0, ↓rC_cN, ↓rC_cNot, ↓rC_cAnd, ↓rC_cOr, ↓rA_aN, ↓rA_aC, ↓rS_sP, ↓rS_sUF, ↓rS_sAI, ↓rS_sAJ, ↓rS_sAR, ↓rS_sUA, ↓rS_sCall, ↓rS_sObj, ↓rS_sSi, ↓rS_sSa, ↓rS_sSj, ↓rS_sInc, ↓rS_sSkip, ↓rS_sSeq, ↓rS_sIf, ↓rS_sRetI, ↓rS_sRetJ, ↓rS_sRetA, ↓rS_sRetV, ↓rS_sSw, ↓rD_meth, ↓rD_on, ↓kR_ref, ↓kI_int, ↓kJ_long, ↓kN_null, ↓kN_ref, ↓kN_rf, ↓kQ_ref, ↓kQ_null, ↓kQ_rf, o1_i, o1ij_i, o1ji_i, o2_i, o2d_i, o2j_i, o2ji_i, o2c_i, fv_0, fv_1, fv_2, fv_3, pf_0, pf_2, pf_3, pf_4, rf_s, rf_n, is_self, ge_0, ge_s, ge_n, gd_s, gd_n, se_0, se_s, ag_0, ex_n, ex_i, ex_r, ex_0, ex_j, ex_q, ap_c, ap_n, List.append_nil, ln_c, ln_n, rp_0, rp_s, rt_0, rt_1, rt_20, rt_21, rt_2, rt_3, rt_4, rt_4n, rt_4q, nl_0, nl_1, nl_2, nl_3, nl_4, nl_5, nl_6, nl_7, nl_8, nl_9, nlB_i, nlB_r, nlB_n, nlB_f, nlB_q, ↓reduceIte, reduceCtorEq, Nat.reduceAdd, Nat.reduceSub, Nat.reduceEqDiff, Nat.reduceLeDiff, Nat.reduceBEq, ite_true, ite_false, dt_t, Bool.not_true, Bool.not_false, Bool.false_eq_true, Nat.le_refl, true_and, and_true, true_or, or_true, false_or, or_false, false_and, and_false, qEq, qNe, qLt, qGe, qGt, qLe, rD_tb1 t0, rD_of a1, k0, rD_of d1]
  · rw [if_neg c6] at a1
    by_cases c8 : wId T c p = 8
    · rw [if_pos c8]
      obtain ⟨t, d1, g1⟩ := g_owes h c8
      refine ⟨t, ?_, g1⟩
      refine rD_un.trans ?_
      simp only [D_X12_wantClause, B_X12_wantClause, ↓rE_eK, ↓rE_eLi, ↓rE_eLj, ↓rE_eLa, ↓rE_eU, ↓rE_eB, ↓rE_eG, ↓rE_eIF, ↓rE_eAI, ↓rE_eAX, ↓rE_eAJ, ↓rE_eAR, ↓rE_eLen, ↓rE_eSI, ↓rE_eC, ↓rE_eCall, ↓rE_eNew, ↓rE_eNewA, ↓rE_eInst, ↓rC_cI, ↓rC_cZ0, ↓rC_cN, ↓rC_cNot, ↓rC_cAnd, ↓rC_cOr, ↓rA_aN, ↓rA_aC, ↓rS_sP, ↓rS_sUF, ↓rS_sAI, ↓rS_sAJ, ↓rS_sAR, ↓rS_sUA, ↓rS_sCall, ↓rS_sObj, ↓rS_sSi, ↓rS_sSa, ↓rS_sSj, ↓rS_sInc, ↓rS_sSkip, ↓rS_sSeq, ↓rS_sIf, ↓rS_sRetI, ↓rS_sRetJ, ↓rS_sRetA, ↓rS_sRetV, ↓rS_sSw, ↓rD_meth, ↓rD_on, ↓kR_ref, ↓kI_int, ↓kJ_long, ↓kN_null, ↓kN_ref, ↓kN_rf, ↓kQ_ref, ↓kQ_null, ↓kQ_rf, o1_i, o1ij_i, o1ji_i, o2_i, o2d_i, o2j_i, o2ji_i, o2c_i, fv_0, fv_1, fv_2, fv_3, pf_0, pf_2, pf_3, pf_4, rf_s, rf_n, is_self, ge_0, ge_s, ge_n, gd_s, gd_n, se_0, se_s, ag_0, ex_n, ex_i, ex_r, ex_0, ex_j, ex_q, ap_c, ap_n, List.append_nil, ln_c, ln_n, rp_0, rp_s, rt_0, rt_1, rt_20, rt_21, rt_2, rt_3, rt_4, rt_4n, rt_4q, nl_0, nl_1, nl_2, nl_3, nl_4, nl_5, nl_6, nl_7, nl_8, nl_9, nlB_i, nlB_r, nlB_n, nlB_f, nlB_q, ↓reduceIte, reduceCtorEq, Nat.reduceAdd, Nat.reduceSub, Nat.reduceEqDiff, Nat.reduceLeDiff, Nat.reduceBEq, ite_true, ite_false, dt_t, Bool.not_true, Bool.not_false, Bool.false_eq_true, Nat.le_refl, true_and, and_true, true_or, or_true, false_or, or_false, false_and, and_false, qEq, qNe, qLt, qGe, qGt, qLe, rD_tb1 t0, rD_of a1, m0, rD_of a8, b32_ne, c8, rD_of d1]
    · rw [if_neg c8]
      by_cases c9 : wId T c p = 9
      · rw [if_pos c9]
        obtain ⟨t, d1, g1⟩ := g_asleep h c9
        have n98 : ((9 : Nat) = 8) = False := by decide
        refine ⟨t, ?_, g1⟩
        refine rD_un.trans ?_
        simp only [D_X12_wantClause, B_X12_wantClause, ↓rE_eK, ↓rE_eLi, ↓rE_eLj, ↓rE_eLa, ↓rE_eU, ↓rE_eB, ↓rE_eG, ↓rE_eIF, ↓rE_eAI, ↓rE_eAX, ↓rE_eAJ, ↓rE_eAR, ↓rE_eLen, ↓rE_eSI, ↓rE_eC, ↓rE_eCall, ↓rE_eNew, ↓rE_eNewA, ↓rE_eInst, ↓rC_cI, ↓rC_cZ0, ↓rC_cN, ↓rC_cNot, ↓rC_cAnd, ↓rC_cOr, ↓rA_aN, ↓rA_aC, ↓rS_sP, ↓rS_sUF, ↓rS_sAI, ↓rS_sAJ, ↓rS_sAR, ↓rS_sUA, ↓rS_sCall, ↓rS_sObj, ↓rS_sSi, ↓rS_sSa, ↓rS_sSj, ↓rS_sInc, ↓rS_sSkip, ↓rS_sSeq, ↓rS_sIf, ↓rS_sRetI, ↓rS_sRetJ, ↓rS_sRetA, ↓rS_sRetV, ↓rS_sSw, ↓rD_meth, ↓rD_on, ↓kR_ref, ↓kI_int, ↓kJ_long, ↓kN_null, ↓kN_ref, ↓kN_rf, ↓kQ_ref, ↓kQ_null, ↓kQ_rf, o1_i, o1ij_i, o1ji_i, o2_i, o2d_i, o2j_i, o2ji_i, o2c_i, fv_0, fv_1, fv_2, fv_3, pf_0, pf_2, pf_3, pf_4, rf_s, rf_n, is_self, ge_0, ge_s, ge_n, gd_s, gd_n, se_0, se_s, ag_0, ex_n, ex_i, ex_r, ex_0, ex_j, ex_q, ap_c, ap_n, List.append_nil, ln_c, ln_n, rp_0, rp_s, rt_0, rt_1, rt_20, rt_21, rt_2, rt_3, rt_4, rt_4n, rt_4q, nl_0, nl_1, nl_2, nl_3, nl_4, nl_5, nl_6, nl_7, nl_8, nl_9, nlB_i, nlB_r, nlB_n, nlB_f, nlB_q, ↓reduceIte, reduceCtorEq, Nat.reduceAdd, Nat.reduceSub, Nat.reduceEqDiff, Nat.reduceLeDiff, Nat.reduceBEq, ite_true, ite_false, dt_t, Bool.not_true, Bool.not_false, Bool.false_eq_true, Nat.le_refl, true_and, and_true, true_or, or_true, false_or, or_false, false_and, and_false, qEq, qNe, qLt, qGe, qGt, qLe, rD_tb1 t0, rD_of a1, m0, rD_of a8, rD_of a9, b32_ne, c9, n98, rD_of d1]
      · rw [if_neg c9, if_neg c6]
        refine ⟨_, ?_, Go_l (Gd_Bd h)⟩
        refine rD_un.trans ?_
        simp only [D_X12_wantClause, B_X12_wantClause, ↓rE_eK, ↓rE_eLi, ↓rE_eLj, ↓rE_eLa, ↓rE_eU, ↓rE_eB, ↓rE_eG, ↓rE_eIF, ↓rE_eAI, ↓rE_eAX, ↓rE_eAJ, ↓rE_eAR, ↓rE_eLen, ↓rE_eSI, ↓rE_eC, ↓rE_eCall, ↓rE_eNew, ↓rE_eNewA, ↓rE_eInst, ↓rC_cI, ↓rC_cZ0, ↓rC_cN, ↓rC_cNot, ↓rC_cAnd, ↓rC_cOr, ↓rA_aN, ↓rA_aC, ↓rS_sP, ↓rS_sUF, ↓rS_sAI, ↓rS_sAJ, ↓rS_sAR, ↓rS_sUA, ↓rS_sCall, ↓rS_sObj, ↓rS_sSi, ↓rS_sSa, ↓rS_sSj, ↓rS_sInc, ↓rS_sSkip, ↓rS_sSeq, ↓rS_sIf, ↓rS_sRetI, ↓rS_sRetJ, ↓rS_sRetA, ↓rS_sRetV, ↓rS_sSw, ↓rD_meth, ↓rD_on, ↓kR_ref, ↓kI_int, ↓kJ_long, ↓kN_null, ↓kN_ref, ↓kN_rf, ↓kQ_ref, ↓kQ_null, ↓kQ_rf, o1_i, o1ij_i, o1ji_i, o2_i, o2d_i, o2j_i, o2ji_i, o2c_i, fv_0, fv_1, fv_2, fv_3, pf_0, pf_2, pf_3, pf_4, rf_s, rf_n, is_self, ge_0, ge_s, ge_n, gd_s, gd_n, se_0, se_s, ag_0, ex_n, ex_i, ex_r, ex_0, ex_j, ex_q, ap_c, ap_n, List.append_nil, ln_c, ln_n, rp_0, rp_s, rt_0, rt_1, rt_20, rt_21, rt_2, rt_3, rt_4, rt_4n, rt_4q, nl_0, nl_1, nl_2, nl_3, nl_4, nl_5, nl_6, nl_7, nl_8, nl_9, nlB_i, nlB_r, nlB_n, nlB_f, nlB_q, ↓reduceIte, reduceCtorEq, Nat.reduceAdd, Nat.reduceSub, Nat.reduceEqDiff, Nat.reduceLeDiff, Nat.reduceBEq, ite_true, ite_false, dt_t, Bool.not_true, Bool.not_false, Bool.false_eq_true, Nat.le_refl, true_and, and_true, true_or, or_true, false_or, or_false, false_and, and_false, qEq, qNe, qLt, qGe, qGt, qLe, rD_tb1 t0, rD_of a1, m0, rD_of a8, rD_of a9, b32_ne, c8, c9, t0, pf_1 (Or.inl rfl)]
-- each clause goes on
theorem sm_pr (hT : T ≤ 200) {p0 p n p' n' : Nat} {wd wd' : Nat → Int32} (h0 : p0 ≤ p) (h : cSemi T c p n wd = .inr (p', n', wd')) : p0 < p' := by
  unfold cSemi at h
  by_cases e : p < T ∧ c p = 59
  · rw [if_pos e] at h
    injection h with h
    injection h with h _
    have := (sk_sp (c := c) hT (p + 1)).1
    omega
  · rw [if_neg e] at h; cases h
theorem sl_le (hT : T ≤ 200) (p : Nat) : p ≤ skE T c (leE T c p) := Nat.le_trans (le_sp (c := c) hT p).1 (sk_sp (c := c) hT _).1
theorem sd_le (hT : T ≤ 200) (p : Nat) : p ≤ skE T c (deE T c p) := Nat.le_trans (de_sp (c := c) hT p).1 (sk_sp (c := c) hT _).1
theorem ow_pr (hT : T ≤ 200) {p0 p w hi df q x : Nat} (h0 : p0 ≤ p) (h : optW T c p w hi df = .inr (q, x)) : p0 ≤ q := by
  unfold optW at h
  by_cases e : wId T c p = w
  · rw [if_pos e] at h
    cases r : numR T c (skE T c (leE T c p)) 0 hi with
    | none => rw [r] at h; cases h
    | some v =>
      rw [r] at h
      injection h with h
      injection h with h _
      have := sl_le (c := c) hT p
      have := sd_le (c := c) hT (skE T c (leE T c p))
      omega
  · rw [if_neg e] at h
    injection h with h
    injection h with h _
    omega
theorem cl_pr (hT : T ≤ 200) {p n p' n' : Nat} {wd wd' : Nat → Int32} (h : clause T c p n wd = .inr (p', n', wd')) : p < p' := by
  have k1 := sl_le (c := c) hT p
  unfold clause at h
  by_cases c8 : wId T c p = 8
  · rw [if_pos c8] at h
    unfold clOw1 at h
    cases r1 : numR T c (skE T c (leE T c p)) 0 n with
    | none => rw [r1] at h; cases h
    | some a =>
      rw [r1] at h
      have h : clOw2 T c (skE T c (deE T c (skE T c (leE T c p)))) n wd a = .inr (p', n', wd') := h
      have k2 := sd_le (c := c) hT (skE T c (leE T c p))
      unfold clOw2 at h
      cases r2 : numR T c (skE T c (deE T c (skE T c (leE T c p)))) 0 n with
      | none => rw [r2] at h; cases h
      | some b =>
        rw [r2] at h
        have h : (if b = a then .inl (skE T c (deE T c (skE T c (leE T c p)))) else clOw3 T c (skE T c (deE T c (skE T c (deE T c (skE T c (leE T c p)))))) n wd a b) = .inr (p', n', wd') := h
        have k3 := sd_le (c := c) hT (skE T c (deE T c (skE T c (leE T c p))))
        by_cases e : b = a
        · rw [if_pos e] at h; cases h
        · rw [if_neg e] at h
          unfold clOw3 at h
          cases r3 : numR T c (skE T c (deE T c (skE T c (deE T c (skE T c (leE T c p)))))) 0 1000 with
          | none => rw [r3] at h; cases h
          | some m =>
            rw [r3] at h
            have k4 := sd_le (c := c) hT (skE T c (deE T c (skE T c (deE T c (skE T c (leE T c p))))))
            exact sm_pr hT (by omega) h
  · rw [if_neg c8] at h
    by_cases c9 : wId T c p = 9
    · rw [if_pos c9] at h
      unfold clAs1 at h
      cases r1 : numR T c (skE T c (leE T c p)) 0 n with
      | none => rw [r1] at h; cases h
      | some i =>
        rw [r1] at h
        have h : (if (wA wd).testBit i = true ∧ 1 < pc (wA wd) then cSemi T c (skE T c (deE T c (skE T c (leE T c p)))) n (upd wd 1 (nI (sd (wA wd) (2 ^ i)))) else .inl (skE T c (leE T c p))) = .inr (p', n', wd') := h
        have k2 := sd_le (c := c) hT (skE T c (leE T c p))
        by_cases e : (wA wd).testBit i = true ∧ 1 < pc (wA wd)
        · rw [if_pos e] at h
          exact sm_pr hT (by omega) h
        · rw [if_neg e] at h; cases h
    · rw [if_neg c9] at h
      by_cases c6 : wId T c p < 6
      · rw [if_pos c6] at h
        by_cases n8 : n < 8
        · rw [if_pos n8] at h
          unfold clPe1 at h
          cases r1 : numR T c (skE T c (leE T c p)) 1 91 with
          | none => rw [r1] at h; cases h
          | some g =>
            rw [r1] at h
            have h : clPe2 T c (skE T c (deE T c (skE T c (leE T c p)))) n (newP wd n (wId T c p) g) = .inr (p', n', wd') := h
            have k2 := sd_le (c := c) hT (skE T c (leE T c p))
            unfold clPe2 at h
            cases r2 : optW T c (skE T c (deE T c (skE T c (leE T c p)))) 6 201 100 with
            | inl q => rw [r2] at h; cases h
            | inr qx =>
              obtain ⟨q, x⟩ := qx
              rw [r2] at h
              have h : clPe3 T c q n (upd (newP wd n (wId T c p) g) (20 + n) (nI x)) = .inr (p', n', wd') := h
              have k3 := ow_pr hT (p0 := p) (by omega) r2
              unfold clPe3 at h
              cases r3 : optW T c q 7 1000 0 with
              | inl q2 => rw [r3] at h; cases h
              | inr qy =>
                obtain ⟨q2, y⟩ := qy
                rw [r3] at h
                have h : cSemi T c q2 (n + 1) _ = .inr (p', n', wd') := h
                have k4 := ow_pr hT (p0 := p) (by omega) r3
                exact sm_pr hT (by omega) h
        · rw [if_neg n8] at h; cases h
      · rw [if_neg c6] at h; cases h
