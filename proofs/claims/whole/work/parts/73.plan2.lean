/-! The reference: findPlan. -/
theorem S_le {ln : Nat → Nat} {sg : Nat → Nat → Bool} {M S : Nat → Nat} {U A : Nat} (hU : U < 256) (h : ChS ln sg M S U) (hA : sub A U) (hM : M A < 1000000) : S A ≤ 7 := by
  rcases Nat.eq_zero_or_pos A with z | z
  · have : pc A < 2 := by rw [z]; decide +kernel
    rw [(h A hA hM).1 this]; decide
  · have := ChS_le hU h A hA hM z
    have := pc_le (A := A)
    omega
theorem RT_fr {σ s : pm_H} {vd : Nat → Int32} {n : Nat} {M S Bt R : Nat → Nat} (h : RT σ vd n M S Bt R) (e : ∀ a, 49 ≤ a → a ≤ 53 → pI s a = pI σ a) : RT s vd n M S Bt R := by
  obtain ⟨r1, r2, r3, r4⟩ := h
  unfold RT
  rw [e 49 (by decide) (by decide), e 50 (by decide) (by decide), e 51 (by decide) (by decide), e 52 (by decide) (by decide), e 53 (by decide) (by decide)]
  exact ⟨r1, r2, r3, r4⟩
abbrev fR (vd : Nat → Int32) (n : Nat) (M S : Nat → Nat) : Nat → Nat → Nat → Bool := fB (lnR vd n) (sgR vd n (-1)) M S
/-- the plan stands in the cells cs and cw -/
def PlanIn (f : Nat → Nat → Nat → Bool) (A K cs cw : Nat) (σ : pm_H) : Prop := ∀ j, j < K → pI σ cs j = nI (fsG (f (ps f A j))) ∧ pI σ cw j = nI (fwG (f (ps f A j)) (fsG (f (ps f A j))))
theorem d_findPlan {σ : pm_H} (hS : Sh σ) {n A : Nat} (hn : pI σ 35 0 = nI n) (hm : mOk (cur σ) n) (hA : A < 2 ^ n) (e8 : pI σ 35 8 = nI A) : ∃ s M S Bt R, OD σ s ∧ RT s (cur σ) n M S Bt R ∧ (M A = 1000000 → D_X12_findPlan [.ref 35] σ = some (some (.int 0), s)) ∧ (M A < 1000000 → D_X12_findPlan [.ref 35] σ = some (some (.int 1), s) ∧ pI s 35 33 = nI (S A) ∧ pI s 35 34 = nI (ps (fR (cur σ) n M S) A (S A)) ∧ PlanIn (fR (cur σ) n M S) A (S A) 54 55 s) := by
  have h8 := hm.1.1
  have hA8 := Nat.lt_of_lt_of_le hA (p2n h8)
  obtain ⟨s0, M, S, Bt, R, f1, f2, f3⟩ := d_findAll hS hn hm
  have hU : 2 ^ n - 1 < 256 := by have := Nat.pow_pos (n := n) (show 0 < 2 by decide); have := p2n h8; omega
  have hAU : sub A (2 ^ n - 1) := sub_ones.mpr hA
  have hM6 : M A ≤ 1000000 := ((f3.2.1) A hA).2
  have hss0 := Fr_Sh (OD_Fr f2) hS
  have e8s : pI s0 35 8 = nI A := by rw [f2.2.2 8 (by decide) (by decide)]; exact e8
  have hib := ib_nI hA8 (show (256 : Nat) ≤ 1000000 by decide)
  have hcl := nI_cl (show A < 2147483648 by omega)
  have hMA := ((f3.2.1) A hA).1
  have hge : (1000000 ≤ nI (M A)) = (1000000 ≤ M A) := nI_le' (a := 1000000) (by decide) (by omega)
  by_cases c : M A < 1000000
  · have hok := ps_ok hU f3.2.2.2.2.1 hAU c
    have hS7 := S_le hU f3.2.2.2.2.1 hAU c
    have hl : ∃ q t, sLoop (cI qGt (eCall D_X12_ones (aC (eLi 1) (aN))) (eK (.int 1))) (sSeq (sCall (pm_disp (tb1 12 D_X12_noteFirst)) (aC (eLa 0) (aC (eLi 1) (aN)))) (sSi 1 (eB f_iand (eLi 1) (eB f_ixor (eAI (eG (is 12) 3 32 (eLa 0)) (eB f_isub (eG (is 12) 0 33 (eLa 0)) (eK (.int 1)))) (eK (.int (-1))))))) [.ref 35, .int (nI A)] (uI s0 35 33 0) = some (q, t) ∧ (OD σ t ∧ (∀ a, 49 ≤ a → a ≤ 53 → pI t a = pI s0 a) ∧ pI t 35 33 = nI (S A) ∧ PlanIn (fR (cur σ) n M S) A (S A) 54 55 t ∧ q = .inl [.ref 35, .int (nI (ps (fR (cur σ) n M S) A (S A)))]) := by
      refine loop_gen (fun k env t => OD σ t ∧ (∀ a, 49 ≤ a → a ≤ 53 → pI t a = pI s0 a) ∧ pI t 35 33 = nI k ∧ PlanIn (fR (cur σ) n M S) A k 54 55 t ∧ env = [.ref 35, .int (nI (ps (fR (cur σ) n M S) A k))]) _ (S A) (by omega) ⟨OD_uI f2 (by omega), fun a q1 q2 => pI_uI_ne _ _ _ (by omega), by rw [pI_uI_at, nI_0], fun j hj => by omega, rfl⟩ ?_
      rintro k env t hk ⟨hO, h53, h33, hP, rfl⟩
      have hF := OD_Fr hO
      have hst := Fr_Sh hF hS
      have hcu := Fr_cur hF
      have hnt : pI t 35 0 = nI n := by rw [hO.2.2 0 (by decide) (by decide)]; exact hn
      obtain ⟨i1, i2, i3, i4, i5, i6⟩ := hok k hk
      obtain ⟨B, eB⟩ : ∃ B, ps (fR (cur σ) n M S) A k = B := ⟨_, rfl⟩
      rw [eB] at i1 i2 i3 i5 i6 ⊢
      have hB : B < 2 ^ n := by have := sub_le i1; omega
      have hB8 := Nat.lt_of_lt_of_le hB (p2n h8)
      have hpc := pc_le (A := B)
      have hgt : (1 < nI (pc B)) = (1 < pc B) := nI_lt' (a := 1) (by decide) (by omega)
      by_cases e : k < S A
      · left
        obtain ⟨j1, j2⟩ := i5 e
        have hRt : RT t (cur t) n M S Bt R := by rw [hcu]; exact RT_fr f3 h53
        have hnf := d_noteFirst hst hnt (by rw [hcu]; exact hm) hRt hB (show k < 8 by omega) h33 (by rw [hcu]; exact j2)
        rw [hcu] at hnf
        obtain ⟨s1, es1⟩ : ∃ s1, fsG (fB (lnR (cur σ) n) (sgR (cur σ) n (-1)) M S B) = s1 := ⟨_, rfl⟩
        obtain ⟨w1, ew1⟩ : ∃ w1, fwG (fB (lnR (cur σ) n) (sgR (cur σ) n (-1)) M S B) s1 = w1 := ⟨_, rfl⟩
        rw [es1, ew1] at hnf
        have eps : ps (fR (cur σ) n M S) A (k + 1) = sd B w1 := by
          show sd _ _ = _
          rw [eB, es1, ew1]
        have k33 : pI (nt t k s1 w1) 35 33 = nI (k + 1) := pI_uI_at _ _ _ _
        have k55 : pI (nt t k s1 w1) 55 k = nI w1 := by unfold nt; rw [pI_uI_ne _ _ _ (by decide), pI_uI_at]
        have hsn : Sh (nt t k s1 w1) := hst
        have hm1 : nI (k + 1) - 1 = nI k := by rw [show (1 : Int32) = nI 1 from rfl, nI_sb (by omega)]; rfl
        have hibk := ib_nI (show k < 8 by omega) (by decide)
        have hclk := nI_cl (show k < 2147483648 by omega)
        refine ⟨[.ref 35, .int (nI (sd B w1))], nt t k s1 w1, ?_, e, OD_uI (OD_uI (OD_uI hO (by omega)) (by omega)) (by omega), fun a q1 q2 => ?_, k33, fun j hj => ?_, by rw [eps]⟩
        · simp only [lpStep, ↓rE_eK, ↓rE_eLi, ↓rE_eLj, ↓rE_eLa, ↓rE_eU, ↓rE_eB, ↓rE_eG, ↓rE_eIF, ↓rE_eAI, ↓rE_eAX, ↓rE_eAJ, ↓rE_eAR, ↓rE_eLen, ↓rE_eSI, ↓rE_eC, ↓rE_eCall, ↓rE_eNew, ↓rE_eNewA, ↓rE_eInst, ↓rC_cI, ↓rC_cZ0, ↓rC_cN, ↓rC_cNot, ↓rC_cAnd, ↓rC_cOr, ↓rA_aN, ↓rA_aC, ↓rS_sP, ↓rS_sUF, ↓rS_sAI, ↓rS_sAJ, ↓rS_sAR, ↓rS_sUA, ↓rS_sCall, ↓rS_sObj, ↓rS_sSi, ↓rS_sSa, ↓rS_sSj, ↓rS_sInc, ↓rS_sSkip, ↓rS_sSeq, ↓rS_sIf, ↓rS_sRetI, ↓rS_sRetJ, ↓rS_sRetA, ↓rS_sRetV, ↓rS_sSw, ↓rD_meth, ↓rD_on, ↓kR_ref, ↓kI_int, ↓kJ_long, ↓kN_null, ↓kN_ref, ↓kN_rf, ↓kQ_ref, ↓kQ_null, ↓kQ_rf, o1_i, o1ij_i, o1ji_i, o2_i, o2d_i, o2j_i, o2ji_i, o2c_i, fv_0, fv_1, fv_2, fv_3, pf_0, pf_2, pf_3, pf_4, rf_s, rf_n, is_self, ge_0, ge_s, ge_n, gd_s, gd_n, se_0, se_s, ag_0, ex_n, ex_i, ex_r, ex_0, ex_j, ex_q, ap_c, ap_n, List.append_nil, ln_c, ln_n, rp_0, rp_s, rt_0, rt_1, rt_20, rt_21, rt_2, rt_3, rt_4, rt_4n, rt_4q, nl_0, nl_1, nl_2, nl_3, nl_4, nl_5, nl_6, nl_7, nl_8, nl_9, nlB_i, nlB_r, nlB_n, nlB_f, nlB_q, ↓reduceIte, reduceCtorEq, Nat.reduceAdd, Nat.reduceSub, Nat.reduceEqDiff, Nat.reduceLeDiff, Nat.reduceBEq, ite_true, ite_false, dt_t, Bool.not_true, Bool.not_false, Bool.false_eq_true, Nat.le_refl, true_and, and_true, true_or, or_true, false_or, or_false, false_and, and_false, qEq, qNe, qLt, qGe, qGt, qLe, rD_of (d_ones hB8 _), hgt, show 1 < pc B from by omega, rD_tb1 (sT_35 hst), rD_of hnf, sT_35 hsn, sT_36 hsn, sT_37 hsn, sT_38 hsn, sT_39 hsn, sT_40 hsn, sT_41 hsn, sT_42 hsn, sT_43 hsn, sT_44 hsn, sT_45 hsn, sT_46 hsn, sT_47 hsn, sT_48 hsn, sT_49 hsn, sT_50 hsn, sT_51 hsn, sT_52 hsn, sT_53 hsn, sT_54 hsn, sT_55 hsn, sT_56 hsn, sT_57 hsn, sT_58 hsn, sT_59 hsn, sT_60 hsn, sT_61 hsn, sT_62 hsn, sT_63 hsn, sT_64 hsn, sT_65 hsn, sL_36 hsn, sL_37 hsn, sL_38 hsn, sL_39 hsn, sL_40 hsn, sL_41 hsn, sL_42 hsn, sL_43 hsn, sL_44 hsn, sL_45 hsn, sL_46 hsn, sL_47 hsn, sL_48 hsn, sL_49 hsn, sL_50 hsn, sL_51 hsn, sL_52 hsn, sL_53 hsn, sL_54 hsn, sL_55 hsn, sL_56 hsn, sL_57 hsn, sL_58 hsn, sL_59 hsn, sL_60 hsn, sL_61 hsn, sL_62 hsn, sL_63 hsn, sL_64 hsn, sL_65 hsn, sR_35_1 hsn, sR_35_2 hsn, sR_35_3 hsn, sR_35_4 hsn, sR_35_5 hsn, sR_35_6 hsn, sR_35_7 hsn, sR_35_11 hsn, sR_35_21 hsn, sR_35_22 hsn, sR_35_23 hsn, sR_35_24 hsn, sR_35_25 hsn, sR_35_26 hsn, sR_35_27 hsn, sR_35_28 hsn, sR_35_29 hsn, sR_35_30 hsn, sR_35_31 hsn, sR_35_32 hsn, sR_35_35 hsn, sR_35_37 hsn, sR_35_38 hsn, sR_35_39 hsn, sR_35_40 hsn, sR_35_41 hsn, sR_35_42 hsn, sR_35_46 hsn, sR_35_50 hsn, sR_35_52 hsn, k33, hm1, hibk, hclk, k55, nI_sdx]
        · unfold nt; rw [pI_uI_ne _ _ _ (by omega), pI_uI_ne _ _ _ (by omega), pI_uI_ne _ _ _ (by omega)]; exact h53 a q1 q2
        · by_cases d : j = k
          · subst d
            rw [eB, es1, ew1]
            refine ⟨?_, k55⟩
            unfold nt; rw [pI_uI_ne _ _ _ (by decide), pI_uI_ne _ _ _ (by decide), pI_uI_at]
          · have := hP j (by omega)
            unfold nt
            rw [pI_uI_ne _ _ _ (by decide), pI_uI_ne _ _ _ (by decide), pI_uI_nek _ _ _ _ d, pI_uI_ne _ _ _ (by decide), pI_uI_nek _ _ _ _ d, pI_uI_ne _ _ _ (by decide)]
            exact this
      · right
        have ek : k = S A := by omega
        refine ⟨_, _, ?_, hO, h53, by rw [← ek]; exact h33, by rw [← ek]; exact hP, by rw [← ek, eB]⟩
        have := i6 ek
        simp only [lpStep, ↓rE_eK, ↓rE_eLi, ↓rE_eLj, ↓rE_eLa, ↓rE_eU, ↓rE_eB, ↓rE_eG, ↓rE_eIF, ↓rE_eAI, ↓rE_eAX, ↓rE_eAJ, ↓rE_eAR, ↓rE_eLen, ↓rE_eSI, ↓rE_eC, ↓rE_eCall, ↓rE_eNew, ↓rE_eNewA, ↓rE_eInst, ↓rC_cI, ↓rC_cZ0, ↓rC_cN, ↓rC_cNot, ↓rC_cAnd, ↓rC_cOr, ↓rA_aN, ↓rA_aC, ↓rS_sP, ↓rS_sUF, ↓rS_sAI, ↓rS_sAJ, ↓rS_sAR, ↓rS_sUA, ↓rS_sCall, ↓rS_sObj, ↓rS_sSi, ↓rS_sSa, ↓rS_sSj, ↓rS_sInc, ↓rS_sSkip, ↓rS_sSeq, ↓rS_sIf, ↓rS_sRetI, ↓rS_sRetJ, ↓rS_sRetA, ↓rS_sRetV, ↓rS_sSw, ↓rD_meth, ↓rD_on, ↓kR_ref, ↓kI_int, ↓kJ_long, ↓kN_null, ↓kN_ref, ↓kN_rf, ↓kQ_ref, ↓kQ_null, ↓kQ_rf, o1_i, o1ij_i, o1ji_i, o2_i, o2d_i, o2j_i, o2ji_i, o2c_i, fv_0, fv_1, fv_2, fv_3, pf_0, pf_2, pf_3, pf_4, rf_s, rf_n, is_self, ge_0, ge_s, ge_n, gd_s, gd_n, se_0, se_s, ag_0, ex_n, ex_i, ex_r, ex_0, ex_j, ex_q, ap_c, ap_n, List.append_nil, ln_c, ln_n, rp_0, rp_s, rt_0, rt_1, rt_20, rt_21, rt_2, rt_3, rt_4, rt_4n, rt_4q, nl_0, nl_1, nl_2, nl_3, nl_4, nl_5, nl_6, nl_7, nl_8, nl_9, nlB_i, nlB_r, nlB_n, nlB_f, nlB_q, ↓reduceIte, reduceCtorEq, Nat.reduceAdd, Nat.reduceSub, Nat.reduceEqDiff, Nat.reduceLeDiff, Nat.reduceBEq, ite_true, ite_false, dt_t, Bool.not_true, Bool.not_false, Bool.false_eq_true, Nat.le_refl, true_and, and_true, true_or, or_true, false_or, or_false, false_and, and_false, qEq, qNe, qLt, qGe, qGt, qLe, rD_of (d_ones hB8 _), hgt, show ¬ 1 < pc B from by omega]
    obtain ⟨q, t, l1, hO, h53, h33, hP, rfl⟩ := hl
    have hst := Fr_Sh (OD_Fr hO) hS
    refine ⟨uI t 35 34 (nI (ps (fR (cur σ) n M S) A (S A))), M, S, Bt, R, OD_uI hO (by omega), RT_fr f3 (fun a q1 q2 => by rw [pI_uI_ne _ _ _ (by omega)]; exact h53 a q1 q2), fun q => by omega, fun _ => ⟨?_, by rw [pI_uI_nek _ _ _ _ (by decide)]; exact h33, pI_uI_at _ _ _ _, fun j hj => by rw [pI_uI_ne _ _ _ (by decide), pI_uI_ne _ _ _ (by decide)]; exact hP j hj⟩⟩
    refine rD_un.trans ?_
    have g8 : pI (uI s0 35 33 0) 35 8 = nI A := by rw [pI_uI_nek _ _ _ _ (by decide)]; exact e8s
    have g50 : pI (uI s0 35 33 0) 50 A = nI (M A) := by rw [pI_uI_ne _ _ _ (by decide)]; exact hMA
    simp only [D_X12_findPlan, B_X12_findPlan, ↓rE_eK, ↓rE_eLi, ↓rE_eLj, ↓rE_eLa, ↓rE_eU, ↓rE_eB, ↓rE_eG, ↓rE_eIF, ↓rE_eAI, ↓rE_eAX, ↓rE_eAJ, ↓rE_eAR, ↓rE_eLen, ↓rE_eSI, ↓rE_eC, ↓rE_eCall, ↓rE_eNew, ↓rE_eNewA, ↓rE_eInst, ↓rC_cI, ↓rC_cZ0, ↓rC_cN, ↓rC_cNot, ↓rC_cAnd, ↓rC_cOr, ↓rA_aN, ↓rA_aC, ↓rS_sP, ↓rS_sUF, ↓rS_sAI, ↓rS_sAJ, ↓rS_sAR, ↓rS_sUA, ↓rS_sCall, ↓rS_sObj, ↓rS_sSi, ↓rS_sSa, ↓rS_sSj, ↓rS_sInc, ↓rS_sSkip, ↓rS_sSeq, ↓rS_sIf, ↓rS_sRetI, ↓rS_sRetJ, ↓rS_sRetA, ↓rS_sRetV, ↓rS_sSw, ↓rD_meth, ↓rD_on, ↓kR_ref, ↓kI_int, ↓kJ_long, ↓kN_null, ↓kN_ref, ↓kN_rf, ↓kQ_ref, ↓kQ_null, ↓kQ_rf, o1_i, o1ij_i, o1ji_i, o2_i, o2d_i, o2j_i, o2ji_i, o2c_i, fv_0, fv_1, fv_2, fv_3, pf_0, pf_2, pf_3, pf_4, rf_s, rf_n, is_self, ge_0, ge_s, ge_n, gd_s, gd_n, se_0, se_s, ag_0, ex_n, ex_i, ex_r, ex_0, ex_j, ex_q, ap_c, ap_n, List.append_nil, ln_c, ln_n, rp_0, rp_s, rt_0, rt_1, rt_20, rt_21, rt_2, rt_3, rt_4, rt_4n, rt_4q, nl_0, nl_1, nl_2, nl_3, nl_4, nl_5, nl_6, nl_7, nl_8, nl_9, nlB_i, nlB_r, nlB_n, nlB_f, nlB_q, ↓reduceIte, reduceCtorEq, Nat.reduceAdd, Nat.reduceSub, Nat.reduceEqDiff, Nat.reduceLeDiff, Nat.reduceBEq, ite_true, ite_false, dt_t, Bool.not_true, Bool.not_false, Bool.false_eq_true, Nat.le_refl, true_and, and_true, true_or, or_true, false_or, or_false, false_and, and_false, qEq, qNe, qLt, qGe, qGt, qLe, rD_tb1 (sT_35 hS), rD_of f1, sT_35 hss0, sT_36 hss0, sT_37 hss0, sT_38 hss0, sT_39 hss0, sT_40 hss0, sT_41 hss0, sT_42 hss0, sT_43 hss0, sT_44 hss0, sT_45 hss0, sT_46 hss0, sT_47 hss0, sT_48 hss0, sT_49 hss0, sT_50 hss0, sT_51 hss0, sT_52 hss0, sT_53 hss0, sT_54 hss0, sT_55 hss0, sT_56 hss0, sT_57 hss0, sT_58 hss0, sT_59 hss0, sT_60 hss0, sT_61 hss0, sT_62 hss0, sT_63 hss0, sT_64 hss0, sT_65 hss0, sL_36 hss0, sL_37 hss0, sL_38 hss0, sL_39 hss0, sL_40 hss0, sL_41 hss0, sL_42 hss0, sL_43 hss0, sL_44 hss0, sL_45 hss0, sL_46 hss0, sL_47 hss0, sL_48 hss0, sL_49 hss0, sL_50 hss0, sL_51 hss0, sL_52 hss0, sL_53 hss0, sL_54 hss0, sL_55 hss0, sL_56 hss0, sL_57 hss0, sL_58 hss0, sL_59 hss0, sL_60 hss0, sL_61 hss0, sL_62 hss0, sL_63 hss0, sL_64 hss0, sL_65 hss0, sR_35_1 hss0, sR_35_2 hss0, sR_35_3 hss0, sR_35_4 hss0, sR_35_5 hss0, sR_35_6 hss0, sR_35_7 hss0, sR_35_11 hss0, sR_35_21 hss0, sR_35_22 hss0, sR_35_23 hss0, sR_35_24 hss0, sR_35_25 hss0, sR_35_26 hss0, sR_35_27 hss0, sR_35_28 hss0, sR_35_29 hss0, sR_35_30 hss0, sR_35_31 hss0, sR_35_32 hss0, sR_35_35 hss0, sR_35_37 hss0, sR_35_38 hss0, sR_35_39 hss0, sR_35_40 hss0, sR_35_41 hss0, sR_35_42 hss0, sR_35_46 hss0, sR_35_50 hss0, sR_35_52 hss0, pT_uI, pL_uI, pR_uI, g8, hib, hcl, g50, hge, show ¬ 1000000 ≤ M A from by omega, rS_inl l1, sT_35 hst, sT_36 hst, sT_37 hst, sT_38 hst, sT_39 hst, sT_40 hst, sT_41 hst, sT_42 hst, sT_43 hst, sT_44 hst, sT_45 hst, sT_46 hst, sT_47 hst, sT_48 hst, sT_49 hst, sT_50 hst, sT_51 hst, sT_52 hst, sT_53 hst, sT_54 hst, sT_55 hst, sT_56 hst, sT_57 hst, sT_58 hst, sT_59 hst, sT_60 hst, sT_61 hst, sT_62 hst, sT_63 hst, sT_64 hst, sT_65 hst, sL_36 hst, sL_37 hst, sL_38 hst, sL_39 hst, sL_40 hst, sL_41 hst, sL_42 hst, sL_43 hst, sL_44 hst, sL_45 hst, sL_46 hst, sL_47 hst, sL_48 hst, sL_49 hst, sL_50 hst, sL_51 hst, sL_52 hst, sL_53 hst, sL_54 hst, sL_55 hst, sL_56 hst, sL_57 hst, sL_58 hst, sL_59 hst, sL_60 hst, sL_61 hst, sL_62 hst, sL_63 hst, sL_64 hst, sL_65 hst, sR_35_1 hst, sR_35_2 hst, sR_35_3 hst, sR_35_4 hst, sR_35_5 hst, sR_35_6 hst, sR_35_7 hst, sR_35_11 hst, sR_35_21 hst, sR_35_22 hst, sR_35_23 hst, sR_35_24 hst, sR_35_25 hst, sR_35_26 hst, sR_35_27 hst, sR_35_28 hst, sR_35_29 hst, sR_35_30 hst, sR_35_31 hst, sR_35_32 hst, sR_35_35 hst, sR_35_37 hst, sR_35_38 hst, sR_35_39 hst, sR_35_40 hst, sR_35_41 hst, sR_35_42 hst, sR_35_46 hst, sR_35_50 hst, sR_35_52 hst]
  · refine ⟨uI s0 35 33 0, M, S, Bt, R, OD_uI f2 (by omega), RT_fr f3 (fun a q1 q2 => pI_uI_ne _ _ _ (by omega)), fun _ => ?_, fun q => absurd q c⟩
    refine rD_un.trans ?_
    have g8 : pI (uI s0 35 33 0) 35 8 = nI A := by rw [pI_uI_nek _ _ _ _ (by decide)]; exact e8s
    have g50 : pI (uI s0 35 33 0) 50 A = nI (M A) := by rw [pI_uI_ne _ _ _ (by decide)]; exact hMA
    simp only [D_X12_findPlan, B_X12_findPlan, ↓rE_eK, ↓rE_eLi, ↓rE_eLj, ↓rE_eLa, ↓rE_eU, ↓rE_eB, ↓rE_eG, ↓rE_eIF, ↓rE_eAI, ↓rE_eAX, ↓rE_eAJ, ↓rE_eAR, ↓rE_eLen, ↓rE_eSI, ↓rE_eC, ↓rE_eCall, ↓rE_eNew, ↓rE_eNewA, ↓rE_eInst, ↓rC_cI, ↓rC_cZ0, ↓rC_cN, ↓rC_cNot, ↓rC_cAnd, ↓rC_cOr, ↓rA_aN, ↓rA_aC, ↓rS_sP, ↓rS_sUF, ↓rS_sAI, ↓rS_sAJ, ↓rS_sAR, ↓rS_sUA, ↓rS_sCall, ↓rS_sObj, ↓rS_sSi, ↓rS_sSa, ↓rS_sSj, ↓rS_sInc, ↓rS_sSkip, ↓rS_sSeq, ↓rS_sIf, ↓rS_sRetI, ↓rS_sRetJ, ↓rS_sRetA, ↓rS_sRetV, ↓rS_sSw, ↓rD_meth, ↓rD_on, ↓kR_ref, ↓kI_int, ↓kJ_long, ↓kN_null, ↓kN_ref, ↓kN_rf, ↓kQ_ref, ↓kQ_null, ↓kQ_rf, o1_i, o1ij_i, o1ji_i, o2_i, o2d_i, o2j_i, o2ji_i, o2c_i, fv_0, fv_1, fv_2, fv_3, pf_0, pf_2, pf_3, pf_4, rf_s, rf_n, is_self, ge_0, ge_s, ge_n, gd_s, gd_n, se_0, se_s, ag_0, ex_n, ex_i, ex_r, ex_0, ex_j, ex_q, ap_c, ap_n, List.append_nil, ln_c, ln_n, rp_0, rp_s, rt_0, rt_1, rt_20, rt_21, rt_2, rt_3, rt_4, rt_4n, rt_4q, nl_0, nl_1, nl_2, nl_3, nl_4, nl_5, nl_6, nl_7, nl_8, nl_9, nlB_i, nlB_r, nlB_n, nlB_f, nlB_q, ↓reduceIte, reduceCtorEq, Nat.reduceAdd, Nat.reduceSub, Nat.reduceEqDiff, Nat.reduceLeDiff, Nat.reduceBEq, ite_true, ite_false, dt_t, Bool.not_true, Bool.not_false, Bool.false_eq_true, Nat.le_refl, true_and, and_true, true_or, or_true, false_or, or_false, false_and, and_false, qEq, qNe, qLt, qGe, qGt, qLe, rD_tb1 (sT_35 hS), rD_of f1, sT_35 hss0, sT_36 hss0, sT_37 hss0, sT_38 hss0, sT_39 hss0, sT_40 hss0, sT_41 hss0, sT_42 hss0, sT_43 hss0, sT_44 hss0, sT_45 hss0, sT_46 hss0, sT_47 hss0, sT_48 hss0, sT_49 hss0, sT_50 hss0, sT_51 hss0, sT_52 hss0, sT_53 hss0, sT_54 hss0, sT_55 hss0, sT_56 hss0, sT_57 hss0, sT_58 hss0, sT_59 hss0, sT_60 hss0, sT_61 hss0, sT_62 hss0, sT_63 hss0, sT_64 hss0, sT_65 hss0, sL_36 hss0, sL_37 hss0, sL_38 hss0, sL_39 hss0, sL_40 hss0, sL_41 hss0, sL_42 hss0, sL_43 hss0, sL_44 hss0, sL_45 hss0, sL_46 hss0, sL_47 hss0, sL_48 hss0, sL_49 hss0, sL_50 hss0, sL_51 hss0, sL_52 hss0, sL_53 hss0, sL_54 hss0, sL_55 hss0, sL_56 hss0, sL_57 hss0, sL_58 hss0, sL_59 hss0, sL_60 hss0, sL_61 hss0, sL_62 hss0, sL_63 hss0, sL_64 hss0, sL_65 hss0, sR_35_1 hss0, sR_35_2 hss0, sR_35_3 hss0, sR_35_4 hss0, sR_35_5 hss0, sR_35_6 hss0, sR_35_7 hss0, sR_35_11 hss0, sR_35_21 hss0, sR_35_22 hss0, sR_35_23 hss0, sR_35_24 hss0, sR_35_25 hss0, sR_35_26 hss0, sR_35_27 hss0, sR_35_28 hss0, sR_35_29 hss0, sR_35_30 hss0, sR_35_31 hss0, sR_35_32 hss0, sR_35_35 hss0, sR_35_37 hss0, sR_35_38 hss0, sR_35_39 hss0, sR_35_40 hss0, sR_35_41 hss0, sR_35_42 hss0, sR_35_46 hss0, sR_35_50 hss0, sR_35_52 hss0, pT_uI, pL_uI, pR_uI, g8, hib, hcl, g50, hge, show 1000000 ≤ M A from by omega]
