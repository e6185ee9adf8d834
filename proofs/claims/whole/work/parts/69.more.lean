/-! The reference: songs, who is last, ways. -/
/-- songs from a least with a cap -/
def PS (ln : Nat → Nat) (sg : Nat → Nat → Bool) (M S : Nat → Nat) (c A : Nat) : Prop := S A ≤ c ∧ (∀ s W, bsB ln sg M A s W = true → S A ≤ S (sd A W) + 1) ∧ (S A = c ∨ ∃ s W, bsB ln sg M A s W = true ∧ S A = S (sd A W) + 1)
theorem bs_ex {ln : Nat → Nat} {sg : Nat → Nat → Bool} {base M : Nat → Nat} {U : Nat} (h : Ch ln sg base M U) {A : Nat} (hA : sub A U) (hM : M A < 1000000) (hp : 2 ≤ pc A) : ∃ s W, bsB ln sg M A s W = true := by
  rcases ((h A hA).2 hp).2.2 with e | ⟨s, W, q, e⟩
  · omega
  · exact ⟨s, W, bs_iff.mpr ⟨q, e, hM⟩⟩
theorem ChS_of {ln : Nat → Nat} {sg : Nat → Nat → Bool} {base M S : Nat → Nat} {U c : Nat} (hU : U < 256) (hc : 8 ≤ c) (h : Ch ln sg base M U) (h1 : ∀ A, sub A U → M A < 1000000 → (pc A < 2 → S A = 0) ∧ (2 ≤ pc A → PS ln sg M S c A)) : ChS ln sg M S U := by
  have key : ∀ A, sub A U → M A < 1000000 → 0 < A → S A + 1 ≤ pc A := by
    intro A
    induction A using Nat.strongRecOn with
    | _ A ih =>
      intro hA hM h0
      have hA8 : A < 256 := by have := sub_le hA; omega
      have hp0 := pc_pos hA8 h0
      by_cases hp : pc A < 2
      · rw [(h1 A hA hM).1 hp]; omega
      · obtain ⟨s, W, q⟩ := bs_ex h hA hM (by omega)
        have h2 := ((h1 A hA hM).2 (by omega)).2.1 s W q
        obtain ⟨q1, -⟩ := bs_iff.mp q
        obtain ⟨r1, r2, r3, r4, -⟩ := cd_iff.mp q1
        have hpos : 0 < sd A W := by
          rcases Nat.eq_zero_or_pos (sd A W) with z | z
          · have : (sd A W).testBit s = true := sd_bit_t.mpr ⟨r1, r2⟩
            rw [z, Nat.zero_testBit] at this; cases this
          · exact z
        have := ih _ (bs_sub q).1 (sub_tr (sd_sub A W) hA) (bs_sub q).2 hpos
        have hpw := pc_sd r4
        have := pc_pos (show W < 256 by have := sub_le r4; omega) r3
        omega
  intro A hA hM
  obtain ⟨a1, a2⟩ := h1 A hA hM
  refine ⟨a1, fun hp => ?_⟩
  obtain ⟨-, b2, b3⟩ := a2 hp
  refine ⟨b2, ?_⟩
  rcases b3 with e | e
  · have h0 : 0 < A := by
      rcases Nat.eq_zero_or_pos A with z | z
      · rw [z] at hp; have : pc 0 = 0 := by decide +kernel
        omega
      · exact z
    have := key A hA hM h0
    have := pc_le (A := A)
    omega
  · exact e
theorem sgR_m1 {vd : Nat → Int32} {n s W : Nat} (hs : s < 8) : sgR vd n (-1) s W = decide (nI (lnR vd n W) ≤ vd (20 + s)) := by
  unfold sgR
  have : nI s ≠ -1 := by rw [Ne, i_eq, i_m1, nI_toInt (by omega)]; omega
  simp [this]
theorem d_isBest {σ : pm_H} (hS : Sh σ) {n A s W : Nat} {M : Nat → Nat} (hm : mOk (cur σ) n) (hA : A < 2 ^ n) (h49 : ∀ W, W < 2 ^ n → pI σ 49 W = lnI (lnR (cur σ) n W)) (h50 : ∀ B, B < 2 ^ n → pI σ 50 B = nI (M B) ∧ M B ≤ 1000000) (hs : s < n) (hAs : A.testBit s = true) (hWs : ¬ W.testBit s = true) (h0 : 0 < W) (hWA : sub W A) : D_X12_isBest [.ref 35, .int (nI A), .int (nI s), .int (nI W)] σ = some (some (.int (b32 (bsB (lnR (cur σ) n) (sgR (cur σ) n (-1)) M A s W = true))), σ) := by
  have h8 := hm.1.1
  have hA8 := Nat.lt_of_lt_of_le hA (p2n h8)
  have hWl := sub_le hWA
  have hl200 := lnR_le hm W
  have hc := d_costOf hS (show s < 8 by omega) (show W < 256 by omega) hl200 (h49 W (by omega))
  have hs8 := sd_lt256 (W := W) hA8
  have hsl := sub_le (sd_sub A W)
  have hib := ib_nI hs8 (show (256 : Nat) ≤ 1000000 by decide)
  have hcl := nI_cl (show sd A W < 2147483648 by omega)
  have hib2 := ib_nI hA8 (show (256 : Nat) ≤ 1000000 by decide)
  have hcl2 := nI_cl (show A < 2147483648 by omega)
  obtain ⟨t1, t2⟩ := h50 (sd A W) (by omega)
  obtain ⟨u1, u2⟩ := h50 A hA
  have hlt : (nI (M A) < 1000000) = (M A < 1000000) := nI_lt' (b := 1000000) (by omega) (by decide)
  have heq : (nI (lnR (cur σ) n W + M (sd A W)) = nI (M A)) = (lnR (cur σ) n W + M (sd A W) = M A) := nI_inj (by omega) (by omega)
  refine rD_un.trans ?_
  by_cases hcost : 0 < lnR (cur σ) n W ∧ nI (lnR (cur σ) n W) ≤ cur σ (20 + s)
  · rw [if_pos hcost] at hc
    have hcd : cdB (lnR (cur σ) n) (sgR (cur σ) n (-1)) A s W = true := cd_iff.mpr ⟨hAs, hWs, h0, hWA, hcost.1, by rw [sgR_m1 (by omega)]; simp [hcost.2]⟩
    have hp : 0 < nI (lnR (cur σ) n W) := by have := nI_lt' (a := 0) (b := lnR (cur σ) n W) (by decide) (by omega); rw [nI_0] at this; rw [this]; exact hcost.1
    by_cases c1 : lnR (cur σ) n W + M (sd A W) = M A
    · have c1' : (nI (lnR (cur σ) n W + M (sd A W)) = nI (M A)) = True := by rw [heq]; exact eq_true c1
      by_cases c2 : M A < 1000000
      · rw [b32_t (bs_iff.mpr ⟨hcd, c1.symm, c2⟩)]
        simp only [D_X12_isBest, B_X12_isBest, ↓rE_eK, ↓rE_eLi, ↓rE_eLj, ↓rE_eLa, ↓rE_eU, ↓rE_eB, ↓rE_eG, ↓rE_eIF, ↓rE_eAI, ↓rE_eAX, ↓rE_eAJ, ↓rE_eAR, ↓rE_eLen, ↓rE_eSI, ↓rE_eC, ↓rE_eCall, ↓rE_eNew, ↓rE_eNewA, ↓rE_eInst, ↓rC_cI, ↓rC_cZ0, ↓rC_cN, ↓rC_cNot, ↓rC_cAnd, ↓rC_cOr, ↓rA_aN, ↓rA_aC, ↓rS_sP, ↓rS_sUF, ↓rS_sAI, ↓rS_sAJ, ↓rS_sAR, ↓rS_sUA, ↓rS_sCall, ↓rS_sObj, ↓rS_sSi, ↓rS_sSa, ↓rS_sSj, ↓rS_sInc, ↓rS_sSkip, ↓rS_sSeq, ↓rS_sIf, ↓rS_sRetI, ↓rS_sRetJ, ↓rS_sRetA, ↓rS_sRetV, ↓rS_sSw, ↓rD_meth, ↓rD_on, ↓kR_ref, ↓kI_int, ↓kJ_long, ↓kN_null, ↓kN_ref, ↓kN_rf, ↓kQ_ref, ↓kQ_null, ↓kQ_rf, o1_i, o1ij_i, o1ji_i, o2_i, o2d_i, o2j_i, o2ji_i, o2c_i, fv_0, fv_1, fv_2, fv_3, pf_0, pf_2, pf_3, pf_4, rf_s, rf_n, is_self, ge_0, ge_s, ge_n, gd_s, gd_n, se_0, se_s, ag_0, ex_n, ex_i, ex_r, ex_0, ex_j, ex_q, ap_c, ap_n, List.append_nil, ln_c, ln_n, rp_0, rp_s, rt_0, rt_1, rt_20, rt_21, rt_2, rt_3, rt_4, rt_4n, rt_4q, nl_0, nl_1, nl_2, nl_3, nl_4, nl_5, nl_6, nl_7, nl_8, nl_9, nlB_i, nlB_r, nlB_n, nlB_f, nlB_q, ↓reduceIte, reduceCtorEq, Nat.reduceAdd, Nat.reduceSub, Nat.reduceEqDiff, Nat.reduceLeDiff, Nat.reduceBEq, ite_true, ite_false, dt_t, Bool.not_true, Bool.not_false, Bool.false_eq_true, Nat.le_refl, true_and, and_true, true_or, or_true, false_or, or_false, false_and, and_false, qEq, qNe, qLt, qGe, qGt, qLe, sT_35 hS, sT_36 hS, sT_37 hS, sT_38 hS, sT_39 hS, sT_40 hS, sT_41 hS, sT_42 hS, sT_43 hS, sT_44 hS, sT_45 hS, sT_46 hS, sT_47 hS, sT_48 hS, sT_49 hS, sT_50 hS, sT_51 hS, sT_52 hS, sT_53 hS, sT_54 hS, sT_55 hS, sT_56 hS, sT_57 hS, sT_58 hS, sT_59 hS, sT_60 hS, sT_61 hS, sT_62 hS, sT_63 hS, sT_64 hS, sT_65 hS, sL_36 hS, sL_37 hS, sL_38 hS, sL_39 hS, sL_40 hS, sL_41 hS, sL_42 hS, sL_43 hS, sL_44 hS, sL_45 hS, sL_46 hS, sL_47 hS, sL_48 hS, sL_49 hS, sL_50 hS, sL_51 hS, sL_52 hS, sL_53 hS, sL_54 hS, sL_55 hS, sL_56 hS, sL_57 hS, sL_58 hS, sL_59 hS, sL_60 hS, sL_61 hS, sL_62 hS, sL_63 hS, sL_64 hS, sL_65 hS, sR_35_1 hS, sR_35_2 hS, sR_35_3 hS, sR_35_4 hS, sR_35_5 hS, sR_35_6 hS, sR_35_7 hS, sR_35_11 hS, sR_35_21 hS, sR_35_22 hS, sR_35_23 hS, sR_35_24 hS, sR_35_25 hS, sR_35_26 hS, sR_35_27 hS, sR_35_28 hS, sR_35_29 hS, sR_35_30 hS, sR_35_31 hS, sR_35_32 hS, sR_35_35 hS, sR_35_37 hS, sR_35_38 hS, sR_35_39 hS, sR_35_40 hS, sR_35_41 hS, sR_35_42 hS, sR_35_46 hS, sR_35_50 hS, sR_35_52 hS, rD_tb1, rD_of hc, hp, nI_sdx, hib, hcl, hib2, hcl2, t1, u1, nI_ad, c1', hlt, c2]
      · rw [b32_f (fun q => c2 (bs_iff.mp q).2.2)]
        simp only [D_X12_isBest, B_X12_isBest, ↓rE_eK, ↓rE_eLi, ↓rE_eLj, ↓rE_eLa, ↓rE_eU, ↓rE_eB, ↓rE_eG, ↓rE_eIF, ↓rE_eAI, ↓rE_eAX, ↓rE_eAJ, ↓rE_eAR, ↓rE_eLen, ↓rE_eSI, ↓rE_eC, ↓rE_eCall, ↓rE_eNew, ↓rE_eNewA, ↓rE_eInst, ↓rC_cI, ↓rC_cZ0, ↓rC_cN, ↓rC_cNot, ↓rC_cAnd, ↓rC_cOr, ↓rA_aN, ↓rA_aC, ↓rS_sP, ↓rS_sUF, ↓rS_sAI, ↓rS_sAJ, ↓rS_sAR, ↓rS_sUA, ↓rS_sCall, ↓rS_sObj, ↓rS_sSi, ↓rS_sSa, ↓rS_sSj, ↓rS_sInc, ↓rS_sSkip, ↓rS_sSeq, ↓rS_sIf, ↓rS_sRetI, ↓rS_sRetJ, ↓rS_sRetA, ↓rS_sRetV, ↓rS_sSw, ↓rD_meth, ↓rD_on, ↓kR_ref, ↓kI_int, ↓kJ_long, ↓kN_null, ↓kN_ref, ↓kN_rf, ↓kQ_ref, ↓kQ_null, ↓kQ_rf, o1_i, o1ij_i, o1ji_i, o2_i, o2d_i, o2j_i, o2ji_i, o2c_i, fv_0, fv_1, fv_2, fv_3, pf_0, pf_2, pf_3, pf_4, rf_s, rf_n, is_self, ge_0, ge_s, ge_n, gd_s, gd_n, se_0, se_s, ag_0, ex_n, ex_i, ex_r, ex_0, ex_j, ex_q, ap_c, ap_n, List.append_nil, ln_c, ln_n, rp_0, rp_s, rt_0, rt_1, rt_20, rt_21, rt_2, rt_3, rt_4, rt_4n, rt_4q, nl_0, nl_1, nl_2, nl_3, nl_4, nl_5, nl_6, nl_7, nl_8, nl_9, nlB_i, nlB_r, nlB_n, nlB_f, nlB_q, ↓reduceIte, reduceCtorEq, Nat.reduceAdd, Nat.reduceSub, Nat.reduceEqDiff, Nat.reduceLeDiff, Nat.reduceBEq, ite_true, ite_false, dt_t, Bool.not_true, Bool.not_false, Bool.false_eq_true, Nat.le_refl, true_and, and_true, true_or, or_true, false_or, or_false, false_and, and_false, qEq, qNe, qLt, qGe, qGt, qLe, sT_35 hS, sT_36 hS, sT_37 hS, sT_38 hS, sT_39 hS, sT_40 hS, sT_41 hS, sT_42 hS, sT_43 hS, sT_44 hS, sT_45 hS, sT_46 hS, sT_47 hS, sT_48 hS, sT_49 hS, sT_50 hS, sT_51 hS, sT_52 hS, sT_53 hS, sT_54 hS, sT_55 hS, sT_56 hS, sT_57 hS, sT_58 hS, sT_59 hS, sT_60 hS, sT_61 hS, sT_62 hS, sT_63 hS, sT_64 hS, sT_65 hS, sL_36 hS, sL_37 hS, sL_38 hS, sL_39 hS, sL_40 hS, sL_41 hS, sL_42 hS, sL_43 hS, sL_44 hS, sL_45 hS, sL_46 hS, sL_47 hS, sL_48 hS, sL_49 hS, sL_50 hS, sL_51 hS, sL_52 hS, sL_53 hS, sL_54 hS, sL_55 hS, sL_56 hS, sL_57 hS, sL_58 hS, sL_59 hS, sL_60 hS, sL_61 hS, sL_62 hS, sL_63 hS, sL_64 hS, sL_65 hS, sR_35_1 hS, sR_35_2 hS, sR_35_3 hS, sR_35_4 hS, sR_35_5 hS, sR_35_6 hS, sR_35_7 hS, sR_35_11 hS, sR_35_21 hS, sR_35_22 hS, sR_35_23 hS, sR_35_24 hS, sR_35_25 hS, sR_35_26 hS, sR_35_27 hS, sR_35_28 hS, sR_35_29 hS, sR_35_30 hS, sR_35_31 hS, sR_35_32 hS, sR_35_35 hS, sR_35_37 hS, sR_35_38 hS, sR_35_39 hS, sR_35_40 hS, sR_35_41 hS, sR_35_42 hS, sR_35_46 hS, sR_35_50 hS, sR_35_52 hS, rD_tb1, rD_of hc, hp, nI_sdx, hib, hcl, hib2, hcl2, t1, u1, nI_ad, c1', hlt, c2]
    · rw [b32_f (fun q => c1 (bs_iff.mp q).2.1.symm)]
      simp only [D_X12_isBest, B_X12_isBest, ↓rE_eK, ↓rE_eLi, ↓rE_eLj, ↓rE_eLa, ↓rE_eU, ↓rE_eB, ↓rE_eG, ↓rE_eIF, ↓rE_eAI, ↓rE_eAX, ↓rE_eAJ, ↓rE_eAR, ↓rE_eLen, ↓rE_eSI, ↓rE_eC, ↓rE_eCall, ↓rE_eNew, ↓rE_eNewA, ↓rE_eInst, ↓rC_cI, ↓rC_cZ0, ↓rC_cN, ↓rC_cNot, ↓rC_cAnd, ↓rC_cOr, ↓rA_aN, ↓rA_aC, ↓rS_sP, ↓rS_sUF, ↓rS_sAI, ↓rS_sAJ, ↓rS_sAR, ↓rS_sUA, ↓rS_sCall, ↓rS_sObj, ↓rS_sSi, ↓rS_sSa, ↓rS_sSj, ↓rS_sInc, ↓rS_sSkip, ↓rS_sSeq, ↓rS_sIf, ↓rS_sRetI, ↓rS_sRetJ, ↓rS_sRetA, ↓rS_sRetV, ↓rS_sSw, ↓rD_meth, ↓rD_on, ↓kR_ref, ↓kI_int, ↓kJ_long, ↓kN_null, ↓kN_ref, ↓kN_rf, ↓kQ_ref, ↓kQ_null, ↓kQ_rf, o1_i, o1ij_i, o1ji_i, o2_i, o2d_i, o2j_i, o2ji_i, o2c_i, fv_0, fv_1, fv_2, fv_3, pf_0, pf_2, pf_3, pf_4, rf_s, rf_n, is_self, ge_0, ge_s, ge_n, gd_s, gd_n, se_0, se_s, ag_0, ex_n, ex_i, ex_r, ex_0, ex_j, ex_q, ap_c, ap_n, List.append_nil, ln_c, ln_n, rp_0, rp_s, rt_0, rt_1, rt_20, rt_21, rt_2, rt_3, rt_4, rt_4n, rt_4q, nl_0, nl_1, nl_2, nl_3, nl_4, nl_5, nl_6, nl_7, nl_8, nl_9, nlB_i, nlB_r, nlB_n, nlB_f, nlB_q, ↓reduceIte, reduceCtorEq, Nat.reduceAdd, Nat.reduceSub, Nat.reduceEqDiff, Nat.reduceLeDiff, Nat.reduceBEq, ite_true, ite_false, dt_t, Bool.not_true, Bool.not_false, Bool.false_eq_true, Nat.le_refl, true_and, and_true, true_or, or_true, false_or, or_false, false_and, and_false, qEq, qNe, qLt, qGe, qGt, qLe, sT_35 hS, sT_36 hS, sT_37 hS, sT_38 hS, sT_39 hS, sT_40 hS, sT_41 hS, sT_42 hS, sT_43 hS, sT_44 hS, sT_45 hS, sT_46 hS, sT_47 hS, sT_48 hS, sT_49 hS, sT_50 hS, sT_51 hS, sT_52 hS, sT_53 hS, sT_54 hS, sT_55 hS, sT_56 hS, sT_57 hS, sT_58 hS, sT_59 hS, sT_60 hS, sT_61 hS, sT_62 hS, sT_63 hS, sT_64 hS, sT_65 hS, sL_36 hS, sL_37 hS, sL_38 hS, sL_39 hS, sL_40 hS, sL_41 hS, sL_42 hS, sL_43 hS, sL_44 hS, sL_45 hS, sL_46 hS, sL_47 hS, sL_48 hS, sL_49 hS, sL_50 hS, sL_51 hS, sL_52 hS, sL_53 hS, sL_54 hS, sL_55 hS, sL_56 hS, sL_57 hS, sL_58 hS, sL_59 hS, sL_60 hS, sL_61 hS, sL_62 hS, sL_63 hS, sL_64 hS, sL_65 hS, sR_35_1 hS, sR_35_2 hS, sR_35_3 hS, sR_35_4 hS, sR_35_5 hS, sR_35_6 hS, sR_35_7 hS, sR_35_11 hS, sR_35_21 hS, sR_35_22 hS, sR_35_23 hS, sR_35_24 hS, sR_35_25 hS, sR_35_26 hS, sR_35_27 hS, sR_35_28 hS, sR_35_29 hS, sR_35_30 hS, sR_35_31 hS, sR_35_32 hS, sR_35_35 hS, sR_35_37 hS, sR_35_38 hS, sR_35_39 hS, sR_35_40 hS, sR_35_41 hS, sR_35_42 hS, sR_35_46 hS, sR_35_50 hS, sR_35_52 hS, rD_tb1, rD_of hc, hp, nI_sdx, hib, hcl, hib2, hcl2, t1, u1, nI_ad, heq, c1]
  · rw [if_neg hcost] at hc
    have m1 : ¬ (0 : Int32) < -1 := by decide
    rw [b32_f (fun q => by
      obtain ⟨-, -, -, -, c5, c6⟩ := cd_iff.mp (bs_iff.mp q).1
      rw [sgR_m1 (by omega)] at c6
      exact hcost ⟨c5, by simpa using c6⟩)]
    simp only [D_X12_isBest, B_X12_isBest, ↓rE_eK, ↓rE_eLi, ↓rE_eLj, ↓rE_eLa, ↓rE_eU, ↓rE_eB, ↓rE_eG, ↓rE_eIF, ↓rE_eAI, ↓rE_eAX, ↓rE_eAJ, ↓rE_eAR, ↓rE_eLen, ↓rE_eSI, ↓rE_eC, ↓rE_eCall, ↓rE_eNew, ↓rE_eNewA, ↓rE_eInst, ↓rC_cI, ↓rC_cZ0, ↓rC_cN, ↓rC_cNot, ↓rC_cAnd, ↓rC_cOr, ↓rA_aN, ↓rA_aC, ↓rS_sP, ↓rS_sUF, ↓rS_sAI, ↓rS_sAJ, ↓rS_sAR, ↓rS_sUA, ↓rS_sCall, ↓rS_sObj, ↓rS_sSi, ↓rS_sSa, ↓rS_sSj, ↓rS_sInc, ↓rS_sSkip, ↓rS_sSeq, ↓rS_sIf, ↓rS_sRetI, ↓rS_sRetJ, ↓rS_sRetA, ↓rS_sRetV, ↓rS_sSw, ↓rD_meth, ↓rD_on, ↓kR_ref, ↓kI_int, ↓kJ_long, ↓kN_null, ↓kN_ref, ↓kN_rf, ↓kQ_ref, ↓kQ_null, ↓kQ_rf, o1_i, o1ij_i, o1ji_i, o2_i, o2d_i, o2j_i, o2ji_i, o2c_i, fv_0, fv_1, fv_2, fv_3, pf_0, pf_2, pf_3, pf_4, rf_s, rf_n, is_self, ge_0, ge_s, ge_n, gd_s, gd_n, se_0, se_s, ag_0, ex_n, ex_i, ex_r, ex_0, ex_j, ex_q, ap_c, ap_n, List.append_nil, ln_c, ln_n, rp_0, rp_s, rt_0, rt_1, rt_20, rt_21, rt_2, rt_3, rt_4, rt_4n, rt_4q, nl_0, nl_1, nl_2, nl_3, nl_4, nl_5, nl_6, nl_7, nl_8, nl_9, nlB_i, nlB_r, nlB_n, nlB_f, nlB_q, ↓reduceIte, reduceCtorEq, Nat.reduceAdd, Nat.reduceSub, Nat.reduceEqDiff, Nat.reduceLeDiff, Nat.reduceBEq, ite_true, ite_false, dt_t, Bool.not_true, Bool.not_false, Bool.false_eq_true, Nat.le_refl, true_and, and_true, true_or, or_true, false_or, or_false, false_and, and_false, qEq, qNe, qLt, qGe, qGt, qLe, sT_35 hS, sT_36 hS, sT_37 hS, sT_38 hS, sT_39 hS, sT_40 hS, sT_41 hS, sT_42 hS, sT_43 hS, sT_44 hS, sT_45 hS, sT_46 hS, sT_47 hS, sT_48 hS, sT_49 hS, sT_50 hS, sT_51 hS, sT_52 hS, sT_53 hS, sT_54 hS, sT_55 hS, sT_56 hS, sT_57 hS, sT_58 hS, sT_59 hS, sT_60 hS, sT_61 hS, sT_62 hS, sT_63 hS, sT_64 hS, sT_65 hS, sL_36 hS, sL_37 hS, sL_38 hS, sL_39 hS, sL_40 hS, sL_41 hS, sL_42 hS, sL_43 hS, sL_44 hS, sL_45 hS, sL_46 hS, sL_47 hS, sL_48 hS, sL_49 hS, sL_50 hS, sL_51 hS, sL_52 hS, sL_53 hS, sL_54 hS, sL_55 hS, sL_56 hS, sL_57 hS, sL_58 hS, sL_59 hS, sL_60 hS, sL_61 hS, sL_62 hS, sL_63 hS, sL_64 hS, sL_65 hS, sR_35_1 hS, sR_35_2 hS, sR_35_3 hS, sR_35_4 hS, sR_35_5 hS, sR_35_6 hS, sR_35_7 hS, sR_35_11 hS, sR_35_21 hS, sR_35_22 hS, sR_35_23 hS, sR_35_24 hS, sR_35_25 hS, sR_35_26 hS, sR_35_27 hS, sR_35_28 hS, sR_35_29 hS, sR_35_30 hS, sR_35_31 hS, sR_35_32 hS, sR_35_35 hS, sR_35_37 hS, sR_35_38 hS, sR_35_39 hS, sR_35_40 hS, sR_35_41 hS, sR_35_42 hS, sR_35_46 hS, sR_35_50 hS, sR_35_52 hS, rD_tb1, rD_of hc, m1]
/-- what findMore writes -/
def st3 (σ : pm_H) (A : Nat) (x z w : Int32) : pm_H := uI (uI (uI σ 51 A x) 52 A z) 53 A w
theorem uI_uI (σ : pm_H) (a k : Nat) (x z : Int32) : uI (uI σ a k x) a k z = uI σ a k z := by
  unfold uI
  dsimp only
  congr 2
  refine Prod.ext (funext fun c => funext fun i => ?_) rfl
  show (if c = a ∧ i = k then z else if c = a ∧ i = k then x else σ.2.2.1 c i) = if c = a ∧ i = k then z else σ.2.2.1 c i
  by_cases h : c = a ∧ i = k
  · rw [if_pos h, if_pos h]
  · rw [if_neg h, if_neg h, if_neg h]
theorem st3_51 (σ : pm_H) (A : Nat) (x z w y : Int32) : uI (st3 σ A x z w) 51 A y = st3 σ A y z w := by
  unfold st3
  rw [uI_comm _ w y (fun q => absurd q.1 (by decide)), uI_comm _ z y (fun q => absurd q.1 (by decide)), uI_uI]
theorem st3_52 (σ : pm_H) (A : Nat) (x z w y : Int32) : uI (st3 σ A x z w) 52 A y = st3 σ A x y w := by
  unfold st3
  rw [uI_comm _ w y (fun q => absurd q.1 (by decide)), uI_uI]
theorem st3_53 (σ : pm_H) (A : Nat) (x z w y : Int32) : uI (st3 σ A x z w) 53 A y = st3 σ A x z y := by
  unfold st3
  rw [uI_uI]
theorem st3_I (σ : pm_H) (A : Nat) (x z w : Int32) {a k : Nat} (h : ¬ ((a = 51 ∨ a = 52 ∨ a = 53) ∧ k = A)) : pI (st3 σ A x z w) a k = pI σ a k := by
  unfold st3
  rw [pI_uI, if_neg (by omega), pI_uI, if_neg (by omega), pI_uI, if_neg (by omega)]
theorem st3_a (σ : pm_H) (A : Nat) (x z w : Int32) : pI (st3 σ A x z w) 51 A = x ∧ pI (st3 σ A x z w) 52 A = z ∧ pI (st3 σ A x z w) 53 A = w := by
  unfold st3
  refine ⟨?_, ?_, ?_⟩
  · rw [pI_uI_ne _ _ _ (by decide), pI_uI_ne _ _ _ (by decide), pI_uI_at]
  · rw [pI_uI_ne _ _ _ (by decide), pI_uI_at]
  · rw [pI_uI_at]
theorem st3_OD {σ τ : pm_H} (h : OD σ τ) (A : Nat) (x z w : Int32) : OD σ (st3 τ A x z w) := OD_uI (OD_uI (OD_uI h (by omega)) (by omega)) (by omega)
/-- a sum over the sets above w -/
def tl (g : Nat → Nat) (w : Nat) : Nat := sumN (fun W => if w < W then g W else 0) 256
theorem sumN_1 {c w : Nat} : ∀ k, sumN (fun W => if W = w then c else 0) k = if w < k then c else 0 := by
  intro k
  induction k with
  | zero => rfl
  | succ k ih =>
    rw [sumN, ih]
    by_cases h1 : k = w
    · rw [if_pos h1, if_neg (by omega), if_pos (by omega)]; omega
    · rw [if_neg h1]
      by_cases h2 : w < k
      · rw [if_pos h2, if_pos (by omega)]; omega
      · rw [if_neg h2, if_neg (by omega)]
theorem tl_step {g : Nat → Nat} {w w' : Nat} (hw : w < 256) (hlt : w' < w) (h0 : ∀ W, w' < W → W < w → g W = 0) : tl g w' = tl g w + g w := by
  have e : tl g w' = sumN (fun W => (if w < W then g W else 0) + (if W = w then g w else 0)) 256 := by
    unfold tl
    refine sumN_congr 256 (fun W _ => ?_)
    by_cases c1 : w < W
    · rw [if_pos c1, if_pos (by omega), if_neg (by omega)]; omega
    · by_cases c2 : W = w
      · rw [if_pos c2, if_neg c1, if_pos (by omega), c2]; omega
      · by_cases c3 : w' < W
        · rw [if_pos c3, if_neg c1, if_neg c2, h0 W c3 (by omega)]
        · rw [if_neg c3, if_neg c1, if_neg c2]
  rw [e, sumN_add, sumN_1, if_pos hw]
  rfl
theorem tl_0 {g : Nat → Nat} (h : g 0 = 0) : tl g 0 = sumN g 256 := by
  unfold tl
  refine sumN_congr 256 (fun W _ => ?_)
  by_cases c : 0 < W
  · rw [if_pos c]
  · rw [if_neg c, show W = 0 by omega, h]
theorem tl_top {g : Nat → Nat} {w : Nat} (h : ∀ W, w < W → g W = 0) : tl g w = 0 := by
  unfold tl
  refine sumN_0 256 (fun W _ => ?_)
  by_cases c : w < W
  · rw [if_pos c, h W c]
  · rw [if_neg c]
def gR (ln : Nat → Nat) (sg : Nat → Nat → Bool) (M R : Nat → Nat) (A s W : Nat) : Nat := if bsB ln sg M A s W = true then R (sd A W) else 0
theorem wsum_R {ln : Nat → Nat} {sg : Nat → Nat → Bool} {M R : Nat → Nat} {A n : Nat} (h8 : n ≤ 8) (hA : A < 2 ^ n) : sumN (fun s => sumN (gR ln sg M R A s) 256) n = wsum ln sg M R A := by
  have e1 : wsum ln sg M R A = sumN (fun s => sumN (gR ln sg M R A s) 256) 8 := by
    unfold wsum gR
    exact (sumN_swap 256 8)
  rw [e1]
  have : ∀ k, n ≤ k → sumN (fun s => sumN (gR ln sg M R A s) 256) k = sumN (fun s => sumN (gR ln sg M R A s) 256) n := by
    intro k
    induction k with
    | zero => intro h; have : n = 0 := by omega
              rw [this]
    | succ k ih =>
      intro h
      by_cases c : n = k + 1
      · rw [c]
      · rw [sumN, ih (by omega)]
        have : sumN (gR ln sg M R A k) 256 = 0 := sumN_0 256 (fun W _ => by
          unfold gR
          rw [if_neg]
          intro q
          have := bitlt hA (cd_iff.mp (bs_iff.mp q).1).1
          omega)
        rw [this, Nat.add_zero]
  exact (this 8 h8).symm
