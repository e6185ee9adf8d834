/-! silent, tent, last, ways. -/
variable {Q : (Nat → Int32) × Nat}
theorem sn_dec : ∀ i j : Fin 8, (bt (nI (sd 255 (2 ^ i.val))) (nI j.val) = 1 ↔ nI j.val ≠ nI i.val) := by decide +kernel
theorem step_silent {σ : pm_H} {n : Nat} (p : Int32) (h : Rel (RkT Q) σ n) : Step (RkT Q) D_X11_silent D_X12_silent [.int p] σ := by
  have hS := Rel_Sh h
  have hv := Rel_VR h
  have hn := Rel_n h
  have h8 := Rel_8 h
  have hr := Rel_nr h
  have hm := VR_mOk hv
  by_cases hp : ib p n = true
  · obtain ⟨i, hi, e1, e2⟩ := ib_ex hp
    subst e1
    obtain ⟨A, hA, eA, hA0⟩ := VR_A hv
    have hA8 := Nat.lt_of_lt_of_le hA (p2n h8)
    obtain ⟨s, N, V, M, S, R, B, Y, d1, ⟨d2, d3, d4, d5⟩, t1, t2, -, t4⟩ := d_fewM h hA eA (show 0 < 255 by decide) (by decide) (nI (sd 255 (2 ^ i))) (-1)
    have hF := OC_Fr d2
    have hss := Fr_Sh hF hS
    have hcu := Fr_cur hF
    have hns : pI s 35 0 = nI n := by rw [d2.2 35 (by omega)]; exact hn
    obtain ⟨τ, M', f1, f2, -, f4, f5⟩ := d_findLeast hss (sl := nI i) (la := -1) hns (by rw [hcu]; exact hm)
    rw [hcu, baR_m1] at f5
    have hc := tab_Ch hA8 (fun C hC => (t4 C hC).2)
    have hc2 := Ch_congr t2 (sg_own hA h8 hm t1 t2 (sl := nI i) (fun j hj => sn_dec ⟨i, by omega⟩ ⟨j, by omega⟩)) hc
    have hc3 := Ch_base (base' := bs0) hc2 (fun C hC => by rw [baE_255 (by have := sub_le hC; omega)]; rfl)
    have hMM := Ch_uniq hc3 (Ch_sub f5 (sub_ones.mpr hA)) A (sub_rfl A)
    obtain ⟨r1, r2, r3⟩ := fin_q h d2 d3 d5 f2
    refine ⟨if M A = 1000000 then -3 else nI (M A), s, τ, n, ?_, ?_, r1, by omega, by omega⟩
    · refine rD_un.trans ?_
      have d1' : D_X11_fewestMinutes [.ref 11, .int (nI (sd 255 (2 ^ i))), .int (-1), .int 255] σ = some (some (.int (if M A = 1000000 then -3 else nI (M A))), s) := d1
      have hsn : (255 : Int32) &&& (nI (2 ^ i) ^^^ (-1)) = nI (sd 255 (2 ^ i)) := nI_sdx 255 (2 ^ i)
      simp only [D_X11_silent, B_X11_silent, ↓rE_eK, ↓rE_eLi, ↓rE_eLj, ↓rE_eLa, ↓rE_eU, ↓rE_eB, ↓rE_eG, ↓rE_eIF, ↓rE_eAI, ↓rE_eAX, ↓rE_eAJ, ↓rE_eAR, ↓rE_eLen, ↓rE_eSI, ↓rE_eC, ↓rE_eCall, ↓rE_eNew, ↓rE_eNewA, ↓rE_eInst, ↓rC_cI, ↓rC_cZ0, ↓rC_cN, ↓rC_cNot, ↓rC_cAnd, ↓rC_cOr, ↓rA_aN, ↓rA_aC, ↓rS_sP, ↓rS_sUF, ↓rS_sAI, ↓rS_sAJ, ↓rS_sAR, ↓rS_sUA, ↓rS_sCall, ↓rS_sObj, ↓rS_sSi, ↓rS_sSa, ↓rS_sSj, ↓rS_sInc, ↓rS_sSkip, ↓rS_sSeq, ↓rS_sIf, ↓rS_sRetI, ↓rS_sRetJ, ↓rS_sRetA, ↓rS_sRetV, ↓rS_sSw, ↓rD_meth, ↓rD_on, ↓kR_ref, ↓kI_int, ↓kJ_long, ↓kN_null, ↓kN_ref, ↓kN_rf, ↓kQ_ref, ↓kQ_null, ↓kQ_rf, o1_i, o1ij_i, o1ji_i, o2_i, o2d_i, o2j_i, o2ji_i, o2c_i, fv_0, fv_1, fv_2, fv_3, pf_0, pf_2, pf_3, pf_4, rf_s, rf_n, is_self, ge_0, ge_s, ge_n, gd_s, gd_n, se_0, se_s, ag_0, ex_n, ex_i, ex_r, ex_0, ex_j, ex_q, ap_c, ap_n, List.append_nil, ln_c, ln_n, rp_0, rp_s, rt_0, rt_1, rt_20, rt_21, rt_2, rt_3, rt_4, rt_4n, rt_4q, nl_0, nl_1, nl_2, nl_3, nl_4, nl_5, nl_6, nl_7, nl_8, nl_9, nlB_i, nlB_r, nlB_n, nlB_f, nlB_q, ↓reduceIte, reduceCtorEq, Nat.reduceAdd, Nat.reduceSub, Nat.reduceEqDiff, Nat.reduceLeDiff, Nat.reduceBEq, ite_true, ite_false, dt_t, Bool.not_true, Bool.not_false, Bool.false_eq_true, Nat.le_refl, true_and, and_true, true_or, or_true, false_or, or_false, false_and, and_false, qEq, qNe, qLt, qGe, qGt, qLe, sT_11 hS, sT_12 hS, sT_13 hS, sT_14 hS, sT_15 hS, sT_16 hS, sT_17 hS, sT_18 hS, sT_19 hS, sT_20 hS, sT_21 hS, sT_22 hS, sT_23 hS, sT_24 hS, sT_25 hS, sT_26 hS, sT_27 hS, sT_28 hS, sT_29 hS, sT_30 hS, sT_31 hS, sT_32 hS, sT_33 hS, sT_34 hS, sL_13 hS, sL_14 hS, sL_16 hS, sL_17 hS, sL_18 hS, sL_19 hS, sL_20 hS, sL_21 hS, sL_22 hS, sL_23 hS, sL_24 hS, sL_25 hS, sL_26 hS, sL_28 hS, sL_30 hS, sL_31 hS, sL_32 hS, sL_33 hS, sL_34 hS, sR_11_2 hS, sR_11_3 hS, sR_11_4 hS, sR_11_5 hS, sR_11_7 hS, sR_11_8 hS, sR_11_9 hS, sR_27_0 hS, sR_29_0 hS, sR_15_0 hS, sR_15_3 hS, sR_15_5 hS, sR_15_6 hS, sR_15_7 hS, sR_15_8 hS, sR_15_9 hS, sR_15_10 hS, sR_15_11 hS, sR_15_12 hS, sR_15_13 hS, hr, rD_tb1 (VR_T hv), rD_of (d_at_t hv hp), nI_shl (show i < 8 by omega), hsn, rD_tb1 (sT_11 hS), rD_of d1']
    · refine rD_un.trans ?_
      have hsτ := Fr_Sh (OD_Fr f2) hss
      have e8 : pI τ 35 8 = nI A := by rw [f2.2.2 8 (by decide) (by decide), d2.2 35 (by omega)]; exact eA
      have bA := ib_nI hA8 (show (256 : Nat) ≤ 1000000 by decide)
      have cA := nI_cl (show A < 2147483648 by omega)
      rw [hMM]
      simp only [D_X12_silent, B_X12_silent, ↓rE_eK, ↓rE_eLi, ↓rE_eLj, ↓rE_eLa, ↓rE_eU, ↓rE_eB, ↓rE_eG, ↓rE_eIF, ↓rE_eAI, ↓rE_eAX, ↓rE_eAJ, ↓rE_eAR, ↓rE_eLen, ↓rE_eSI, ↓rE_eC, ↓rE_eCall, ↓rE_eNew, ↓rE_eNewA, ↓rE_eInst, ↓rC_cI, ↓rC_cZ0, ↓rC_cN, ↓rC_cNot, ↓rC_cAnd, ↓rC_cOr, ↓rA_aN, ↓rA_aC, ↓rS_sP, ↓rS_sUF, ↓rS_sAI, ↓rS_sAJ, ↓rS_sAR, ↓rS_sUA, ↓rS_sCall, ↓rS_sObj, ↓rS_sSi, ↓rS_sSa, ↓rS_sSj, ↓rS_sInc, ↓rS_sSkip, ↓rS_sSeq, ↓rS_sIf, ↓rS_sRetI, ↓rS_sRetJ, ↓rS_sRetA, ↓rS_sRetV, ↓rS_sSw, ↓rD_meth, ↓rD_on, ↓kR_ref, ↓kI_int, ↓kJ_long, ↓kN_null, ↓kN_ref, ↓kN_rf, ↓kQ_ref, ↓kQ_null, ↓kQ_rf, o1_i, o1ij_i, o1ji_i, o2_i, o2d_i, o2j_i, o2ji_i, o2c_i, fv_0, fv_1, fv_2, fv_3, pf_0, pf_2, pf_3, pf_4, rf_s, rf_n, is_self, ge_0, ge_s, ge_n, gd_s, gd_n, se_0, se_s, ag_0, ex_n, ex_i, ex_r, ex_0, ex_j, ex_q, ap_c, ap_n, List.append_nil, ln_c, ln_n, rp_0, rp_s, rt_0, rt_1, rt_20, rt_21, rt_2, rt_3, rt_4, rt_4n, rt_4q, nl_0, nl_1, nl_2, nl_3, nl_4, nl_5, nl_6, nl_7, nl_8, nl_9, nlB_i, nlB_r, nlB_n, nlB_f, nlB_q, ↓reduceIte, reduceCtorEq, Nat.reduceAdd, Nat.reduceSub, Nat.reduceEqDiff, Nat.reduceLeDiff, Nat.reduceBEq, ite_true, ite_false, dt_t, Bool.not_true, Bool.not_false, Bool.false_eq_true, Nat.le_refl, true_and, and_true, true_or, or_true, false_or, or_false, false_and, and_false, qEq, qNe, qLt, qGe, qGt, qLe, rD_tb1 (sT_35 hss), rD_of (d_isPerson _ hss hns h8), b32_ne, nt_t, hp, not_true, rD_of f1, sT_35 hsτ, sT_36 hsτ, sT_37 hsτ, sT_38 hsτ, sT_39 hsτ, sT_40 hsτ, sT_41 hsτ, sT_42 hsτ, sT_43 hsτ, sT_44 hsτ, sT_45 hsτ, sT_46 hsτ, sT_47 hsτ, sT_48 hsτ, sT_49 hsτ, sT_50 hsτ, sT_51 hsτ, sT_52 hsτ, sT_53 hsτ, sT_54 hsτ, sT_55 hsτ, sT_56 hsτ, sT_57 hsτ, sT_58 hsτ, sT_59 hsτ, sT_60 hsτ, sT_61 hsτ, sT_62 hsτ, sT_63 hsτ, sT_64 hsτ, sT_65 hsτ, sL_36 hsτ, sL_37 hsτ, sL_38 hsτ, sL_39 hsτ, sL_40 hsτ, sL_41 hsτ, sL_42 hsτ, sL_43 hsτ, sL_44 hsτ, sL_45 hsτ, sL_46 hsτ, sL_47 hsτ, sL_48 hsτ, sL_49 hsτ, sL_50 hsτ, sL_51 hsτ, sL_52 hsτ, sL_53 hsτ, sL_54 hsτ, sL_55 hsτ, sL_56 hsτ, sL_57 hsτ, sL_58 hsτ, sL_59 hsτ, sL_60 hsτ, sL_61 hsτ, sL_62 hsτ, sL_63 hsτ, sL_64 hsτ, sL_65 hsτ, sR_35_1 hsτ, sR_35_2 hsτ, sR_35_3 hsτ, sR_35_4 hsτ, sR_35_5 hsτ, sR_35_6 hsτ, sR_35_7 hsτ, sR_35_11 hsτ, sR_35_21 hsτ, sR_35_22 hsτ, sR_35_23 hsτ, sR_35_24 hsτ, sR_35_25 hsτ, sR_35_26 hsτ, sR_35_27 hsτ, sR_35_28 hsτ, sR_35_29 hsτ, sR_35_30 hsτ, sR_35_31 hsτ, sR_35_32 hsτ, sR_35_35 hsτ, sR_35_37 hsτ, sR_35_38 hsτ, sR_35_39 hsτ, sR_35_40 hsτ, sR_35_41 hsτ, sR_35_42 hsτ, sR_35_46 hsτ, sR_35_50 hsτ, sR_35_52 hsτ, e8, bA, cA, (f4 A hA).1, rD_of (d_told _ (f4 A hA).2 _)]
  · refine ⟨-1, σ, σ, n, ?_, ?_, h, by omega, by omega⟩
    · refine rD_un.trans ?_
      simp only [D_X11_silent, B_X11_silent, ↓rE_eK, ↓rE_eLi, ↓rE_eLj, ↓rE_eLa, ↓rE_eU, ↓rE_eB, ↓rE_eG, ↓rE_eIF, ↓rE_eAI, ↓rE_eAX, ↓rE_eAJ, ↓rE_eAR, ↓rE_eLen, ↓rE_eSI, ↓rE_eC, ↓rE_eCall, ↓rE_eNew, ↓rE_eNewA, ↓rE_eInst, ↓rC_cI, ↓rC_cZ0, ↓rC_cN, ↓rC_cNot, ↓rC_cAnd, ↓rC_cOr, ↓rA_aN, ↓rA_aC, ↓rS_sP, ↓rS_sUF, ↓rS_sAI, ↓rS_sAJ, ↓rS_sAR, ↓rS_sUA, ↓rS_sCall, ↓rS_sObj, ↓rS_sSi, ↓rS_sSa, ↓rS_sSj, ↓rS_sInc, ↓rS_sSkip, ↓rS_sSeq, ↓rS_sIf, ↓rS_sRetI, ↓rS_sRetJ, ↓rS_sRetA, ↓rS_sRetV, ↓rS_sSw, ↓rD_meth, ↓rD_on, ↓kR_ref, ↓kI_int, ↓kJ_long, ↓kN_null, ↓kN_ref, ↓kN_rf, ↓kQ_ref, ↓kQ_null, ↓kQ_rf, o1_i, o1ij_i, o1ji_i, o2_i, o2d_i, o2j_i, o2ji_i, o2c_i, fv_0, fv_1, fv_2, fv_3, pf_0, pf_2, pf_3, pf_4, rf_s, rf_n, is_self, ge_0, ge_s, ge_n, gd_s, gd_n, se_0, se_s, ag_0, ex_n, ex_i, ex_r, ex_0, ex_j, ex_q, ap_c, ap_n, List.append_nil, ln_c, ln_n, rp_0, rp_s, rt_0, rt_1, rt_20, rt_21, rt_2, rt_3, rt_4, rt_4n, rt_4q, nl_0, nl_1, nl_2, nl_3, nl_4, nl_5, nl_6, nl_7, nl_8, nl_9, nlB_i, nlB_r, nlB_n, nlB_f, nlB_q, ↓reduceIte, reduceCtorEq, Nat.reduceAdd, Nat.reduceSub, Nat.reduceEqDiff, Nat.reduceLeDiff, Nat.reduceBEq, ite_true, ite_false, dt_t, Bool.not_true, Bool.not_false, Bool.false_eq_true, Nat.le_refl, true_and, and_true, true_or, or_true, false_or, or_false, false_and, and_false, qEq, qNe, qLt, qGe, qGt, qLe, sT_11 hS, sT_12 hS, sT_13 hS, sT_14 hS, sT_15 hS, sT_16 hS, sT_17 hS, sT_18 hS, sT_19 hS, sT_20 hS, sT_21 hS, sT_22 hS, sT_23 hS, sT_24 hS, sT_25 hS, sT_26 hS, sT_27 hS, sT_28 hS, sT_29 hS, sT_30 hS, sT_31 hS, sT_32 hS, sT_33 hS, sT_34 hS, sL_13 hS, sL_14 hS, sL_16 hS, sL_17 hS, sL_18 hS, sL_19 hS, sL_20 hS, sL_21 hS, sL_22 hS, sL_23 hS, sL_24 hS, sL_25 hS, sL_26 hS, sL_28 hS, sL_30 hS, sL_31 hS, sL_32 hS, sL_33 hS, sL_34 hS, sR_11_2 hS, sR_11_3 hS, sR_11_4 hS, sR_11_5 hS, sR_11_7 hS, sR_11_8 hS, sR_11_9 hS, sR_27_0 hS, sR_29_0 hS, sR_15_0 hS, sR_15_3 hS, sR_15_5 hS, sR_15_6 hS, sR_15_7 hS, sR_15_8 hS, sR_15_9 hS, sR_15_10 hS, sR_15_11 hS, sR_15_12 hS, sR_15_13 hS, hr, rD_tb1 (VR_T hv), rD_of (d_at_f hv hp)]
    · refine rD_un.trans ?_
      simp only [D_X12_silent, B_X12_silent, ↓rE_eK, ↓rE_eLi, ↓rE_eLj, ↓rE_eLa, ↓rE_eU, ↓rE_eB, ↓rE_eG, ↓rE_eIF, ↓rE_eAI, ↓rE_eAX, ↓rE_eAJ, ↓rE_eAR, ↓rE_eLen, ↓rE_eSI, ↓rE_eC, ↓rE_eCall, ↓rE_eNew, ↓rE_eNewA, ↓rE_eInst, ↓rC_cI, ↓rC_cZ0, ↓rC_cN, ↓rC_cNot, ↓rC_cAnd, ↓rC_cOr, ↓rA_aN, ↓rA_aC, ↓rS_sP, ↓rS_sUF, ↓rS_sAI, ↓rS_sAJ, ↓rS_sAR, ↓rS_sUA, ↓rS_sCall, ↓rS_sObj, ↓rS_sSi, ↓rS_sSa, ↓rS_sSj, ↓rS_sInc, ↓rS_sSkip, ↓rS_sSeq, ↓rS_sIf, ↓rS_sRetI, ↓rS_sRetJ, ↓rS_sRetA, ↓rS_sRetV, ↓rS_sSw, ↓rD_meth, ↓rD_on, ↓kR_ref, ↓kI_int, ↓kJ_long, ↓kN_null, ↓kN_ref, ↓kN_rf, ↓kQ_ref, ↓kQ_null, ↓kQ_rf, o1_i, o1ij_i, o1ji_i, o2_i, o2d_i, o2j_i, o2ji_i, o2c_i, fv_0, fv_1, fv_2, fv_3, pf_0, pf_2, pf_3, pf_4, rf_s, rf_n, is_self, ge_0, ge_s, ge_n, gd_s, gd_n, se_0, se_s, ag_0, ex_n, ex_i, ex_r, ex_0, ex_j, ex_q, ap_c, ap_n, List.append_nil, ln_c, ln_n, rp_0, rp_s, rt_0, rt_1, rt_20, rt_21, rt_2, rt_3, rt_4, rt_4n, rt_4q, nl_0, nl_1, nl_2, nl_3, nl_4, nl_5, nl_6, nl_7, nl_8, nl_9, nlB_i, nlB_r, nlB_n, nlB_f, nlB_q, ↓reduceIte, reduceCtorEq, Nat.reduceAdd, Nat.reduceSub, Nat.reduceEqDiff, Nat.reduceLeDiff, Nat.reduceBEq, ite_true, ite_false, dt_t, Bool.not_true, Bool.not_false, Bool.false_eq_true, Nat.le_refl, true_and, and_true, true_or, or_true, false_or, or_false, false_and, and_false, qEq, qNe, qLt, qGe, qGt, qLe, rD_tb1 (sT_35 hS), rD_of (d_isPerson _ hS hn h8), b32_ne, nt_t, hp, not_false_eq_true]
theorem mx_mono {vd : Nat → Int32} {W W' : Nat} (h : sub W W') : ∀ k, mx vd W k ≤ mx vd W' k := by
  intro k
  induction k with
  | zero => exact Nat.le_refl _
  | succ k ih =>
    rw [mx, mx]
    by_cases c : W.testBit k = true
    · rw [if_pos c, if_pos (h k c)]; omega
    · rw [if_neg c]
      split
      · omega
      · exact ih
theorem mx_p {vd : Nat → Int32} {n W : Nat} (h : mOk vd n) (h0 : 0 < W) (hW : W < 2 ^ n) : 0 < mx vd W n := by
  obtain ⟨i, hi⟩ := ne0_bit h0
  have := mx_ge (vd := vd) hi n (bitlt hW hi)
  have := (nd_m h (bitlt hW hi)).2.1
  omega
theorem pc_pow : ∀ i : Fin 8, pc (2 ^ i.val) = 1 := by decide +kernel
theorem ln_drop {vd : Nat → Int32} {n W i : Nat} (hm : mOk vd n) (h8 : n ≤ 8) (hW : W < 2 ^ n) (hp : 2 ≤ pc W) (h0 : 0 < lnR vd n W) (hi : W.testBit i = true) : 0 < lnR vd n (sd W (2 ^ i)) ∧ lnR vd n (sd W (2 ^ i)) ≤ lnR vd n W := by
  have hin := bitlt hW hi
  have hW8 := Nat.lt_of_lt_of_le hW (p2n h8)
  have hsb : sub (2 ^ i) W := fun j hj => by
    rw [pw_bit, decide_eq_true_eq] at hj
    rw [← hj]; exact hi
  have hpc := pc_sd hsb
  have hpi : pc (2 ^ i) = 1 := pc_pow ⟨i, by omega⟩
  have hl := sub_le (sd_sub W (2 ^ i))
  have hpos : 0 < sd W (2 ^ i) := by
    rcases Nat.eq_zero_or_pos (sd W (2 ^ i)) with z | z
    · have : pc (sd W (2 ^ i)) = 0 := by rw [z]; decide
      omega
    · exact z
  unfold lnR at h0 ⊢
  by_cases c : W = 0 ∨ 3 < pc W ∨ (df vd W n = true ∧ 1 < pc W)
  · rw [if_pos c] at h0; omega
  · have c' : ¬ (sd W (2 ^ i) = 0 ∨ 3 < pc (sd W (2 ^ i)) ∨ (df vd (sd W (2 ^ i)) n = true ∧ 1 < pc (sd W (2 ^ i)))) := by
      rintro (q | q | ⟨q, -⟩)
      · omega
      · exact c (Or.inr (Or.inl (by omega)))
      · obtain ⟨j, j1, j2, j3⟩ := (df_iff n).mp q
        exact c (Or.inr (Or.inr ⟨(df_iff n).mpr ⟨j, j1, sd_sub _ _ j j2, j3⟩, by omega⟩))
    rw [if_neg c, if_neg c']
    exact ⟨mx_p hm hpos (by omega), mx_mono (sd_sub _ _) n⟩
theorem ln_one {vd : Nat → Int32} {n i : Nat} (hm : mOk vd n) (h8 : n ≤ 8) (hi : i < n) : 0 < lnR vd n (2 ^ i) := by
  have hpi : pc (2 ^ i) = 1 := pc_pow ⟨i, by omega⟩
  have hpos : 0 < 2 ^ i := Nat.pow_pos (by decide)
  unfold lnR
  rw [if_neg]
  · exact mx_p hm hpos (Nat.pow_lt_pow_right (by decide) hi)
  · rintro (q | q | ⟨-, q⟩) <;> omega
theorem ChT_sub {ln T : Nat → Nat} {U A : Nat} (h : ChT ln T U) (hA : sub A U) : ChT ln T A := fun C hC => h C (sub_tr hC hA)
theorem step_tent {σ : pm_H} {n : Nat} (h : Rel (RkT Q) σ n) : Step (RkT Q) D_X11_tent D_X12_tent [] σ := by
  have hS := Rel_Sh h
  have hv := Rel_VR h
  have hn := Rel_n h
  have h8 := Rel_8 h
  have hm := VR_mOk hv
  obtain ⟨A, hA, eA, -⟩ := VR_A hv
  have hA8 := Nat.lt_of_lt_of_le hA (p2n h8)
  obtain ⟨s, N, V, M, S, R, B, Y, d1, ⟨d2, d3, d4, d5⟩, t1, t2, -, t4⟩ := d_fewM h hA eA (show 0 < 255 by decide) (by decide) 255 1000
  have hF := OC_Fr d2
  have hss := Fr_Sh hF hS
  have hcu := Fr_cur hF
  have hns : pI s 35 0 = nI n := by rw [d2.2 35 (by omega)]; exact hn
  have e8 : pI s 35 8 = nI A := by rw [d2.2 35 (by omega)]; exact eA
  obtain ⟨τ, T, f1, f2, f3⟩ := d_tent_m hss hns (by rw [hcu]; exact hm) hA e8
  rw [hcu] at f3
  have hc := tab_Ch hA8 (fun C hC => (t4 C hC).2)
  have hc2 := Ch_congr (sg' := fun _ _ => true) t2 (fun s W q1 q2 q3 _ => by
    have hs := bitlt hA q1
    unfold sgA
    rw [t2 W q2 q3, t1 s (by omega)]
    unfold nqV
    rw [if_pos ⟨hs, q1, bt_255 (by omega)⟩, if_neg (by decide), decide_eq_true_eq]
    have : (nI (lnR (cur σ) n W) ≤ nI 1000) = _ := nI_le' (by have := lnR_le hm W; omega) (by decide)
    have e : nI (lnR (cur σ) n W) ≤ nI 1000 := by rw [this]; have := lnR_le hm W; omega
    exact e) hc
  have hc3 := Ch_base (base' := bs0) hc2 (fun C hC => by rw [baE_255 (by have := sub_le hC; omega)]; rfl)
  have hT := Ch_tent hA8 hc3 (fun _ _ _ _ => rfl) (fun W q1 q2 q3 => by
    obtain ⟨i, hi⟩ := ne0_bit (Nat.pos_of_ne_zero (n := W) (fun z => by rw [z] at q2; exact absurd q2 (by decide)))
    exact ⟨i, hi, ln_drop hm h8 (by have := sub_le q1; omega) q2 q3 hi⟩)
  have hMM := ChT_uniq hT (ChT_sub f3 (sub_ones.mpr hA)) A (sub_rfl A)
  have hfin := ChT_fin hA8 (fun W => lnR_le hm W) (fun i hi => ln_one hm h8 (bitlt hA hi)) hT A (sub_rfl A)
  have hp8 := pc_le (A := A)
  have hne : ¬ M A = 1000000 := by omega
  obtain ⟨r1, r2, r3⟩ := fin_q h d2 d3 d5 f2
  refine ⟨nI (T A), s, τ, n, ?_, ?_, r1, by omega, by omega⟩
  · refine rD_un.trans ?_
    have d1' : D_X11_fewestMinutes [.ref 11, .int 255, .int 1000, .int 255] σ = some (some (.int (nI (T A))), s) := by
      rw [if_neg hne, hMM] at d1
      exact d1
    simp only [D_X11_tent, B_X11_tent, ↓rE_eK, ↓rE_eLi, ↓rE_eLj, ↓rE_eLa, ↓rE_eU, ↓rE_eB, ↓rE_eG, ↓rE_eIF, ↓rE_eAI, ↓rE_eAX, ↓rE_eAJ, ↓rE_eAR, ↓rE_eLen, ↓rE_eSI, ↓rE_eC, ↓rE_eCall, ↓rE_eNew, ↓rE_eNewA, ↓rE_eInst, ↓rC_cI, ↓rC_cZ0, ↓rC_cN, ↓rC_cNot, ↓rC_cAnd, ↓rC_cOr, ↓rA_aN, ↓rA_aC, ↓rS_sP, ↓rS_sUF, ↓rS_sAI, ↓rS_sAJ, ↓rS_sAR, ↓rS_sUA, ↓rS_sCall, ↓rS_sObj, ↓rS_sSi, ↓rS_sSa, ↓rS_sSj, ↓rS_sInc, ↓rS_sSkip, ↓rS_sSeq, ↓rS_sIf, ↓rS_sRetI, ↓rS_sRetJ, ↓rS_sRetA, ↓rS_sRetV, ↓rS_sSw, ↓rD_meth, ↓rD_on, ↓kR_ref, ↓kI_int, ↓kJ_long, ↓kN_null, ↓kN_ref, ↓kN_rf, ↓kQ_ref, ↓kQ_null, ↓kQ_rf, o1_i, o1ij_i, o1ji_i, o2_i, o2d_i, o2j_i, o2ji_i, o2c_i, fv_0, fv_1, fv_2, fv_3, pf_0, pf_2, pf_3, pf_4, rf_s, rf_n, is_self, ge_0, ge_s, ge_n, gd_s, gd_n, se_0, se_s, ag_0, ex_n, ex_i, ex_r, ex_0, ex_j, ex_q, ap_c, ap_n, List.append_nil, ln_c, ln_n, rp_0, rp_s, rt_0, rt_1, rt_20, rt_21, rt_2, rt_3, rt_4, rt_4n, rt_4q, nl_0, nl_1, nl_2, nl_3, nl_4, nl_5, nl_6, nl_7, nl_8, nl_9, nlB_i, nlB_r, nlB_n, nlB_f, nlB_q, ↓reduceIte, reduceCtorEq, Nat.reduceAdd, Nat.reduceSub, Nat.reduceEqDiff, Nat.reduceLeDiff, Nat.reduceBEq, ite_true, ite_false, dt_t, Bool.not_true, Bool.not_false, Bool.false_eq_true, Nat.le_refl, true_and, and_true, true_or, or_true, false_or, or_false, false_and, and_false, qEq, qNe, qLt, qGe, qGt, qLe, rD_tb1 (sT_11 hS), rD_of d1']
  · exact f1
theorem ChS_congr {ln ln' : Nat → Nat} {sg sg' : Nat → Nat → Bool} {M M' S : Nat → Nat} {U : Nat} (e : ∀ A, sub A U → ∀ s W, bsB ln sg M A s W = bsB ln' sg' M' A s W) (eM : ∀ A, sub A U → M A = M' A) (h : ChS ln sg M S U) : ChS ln' sg' M' S U := fun A hA hM => by
  obtain ⟨q1, q2⟩ := h A hA (by rw [eM A hA]; exact hM)
  refine ⟨q1, fun hp => ?_⟩
  obtain ⟨q3, s, W, q4, q5⟩ := q2 hp
  exact ⟨fun s W q => q3 s W (by rw [e A hA]; exact q), s, W, by rw [← e A hA]; exact q4, q5⟩
theorem ChB_congr {ln ln' : Nat → Nat} {sg sg' : Nat → Nat → Bool} {M M' B : Nat → Nat} {U : Nat} (e : ∀ A, sub A U → ∀ s W, bsB ln sg M A s W = bsB ln' sg' M' A s W) (eM : ∀ A, sub A U → M A = M' A) (h : ChB ln sg M B U) : ChB ln' sg' M' B U := fun A hA hM => by
  obtain ⟨q1, q2⟩ := h A hA (by rw [eM A hA]; exact hM)
  refine ⟨q1, fun hp p => ?_⟩
  rw [q2 hp p]
  constructor
  · rintro ⟨s, W, a, b⟩; exact ⟨s, W, by rw [← e A hA]; exact a, b⟩
  · rintro ⟨s, W, a, b⟩; exact ⟨s, W, by rw [e A hA]; exact a, b⟩
theorem ChR_congr {ln ln' : Nat → Nat} {sg sg' : Nat → Nat → Bool} {M M' R : Nat → Nat} {U : Nat} (e : ∀ A, sub A U → ∀ s W, bsB ln sg M A s W = bsB ln' sg' M' A s W) (eM : ∀ A, sub A U → M A = M' A) (h : ChR ln sg M R U) : ChR ln' sg' M' R U := fun A hA hM => by
  obtain ⟨q1, q2⟩ := h A hA (by rw [eM A hA]; exact hM)
  refine ⟨q1, fun hp => ?_⟩
  have hw : wsum ln sg M R A = wsum ln' sg' M' R A := by
    unfold wsum
    exact sumN_congr 256 (fun W _ => sumN_congr 8 (fun s _ => by rw [e A hA s W]))
  rw [q2 hp, hw]
/-- what both know of the least -/
theorem cls_ref {ln ln' : Nat → Nat} {sg sg' : Nat → Nat → Bool} {A : Nat} {M S R B Y M' S' R' B' : Nat → Nat} (hA8 : A < 256) (hl : ∀ W, 0 < W → sub W A → ln W = ln' W) (hs : ∀ s W, A.testBit s = true → 0 < W → sub W A → 0 < ln W → sg s W = sg' s W) (h : ∀ C, sub C A → c5 ln sg 255 M S R B Y C) (c1 : Ch ln' sg' bs0 M' A) (c2 : ChS ln' sg' M' S' A) (c3 : ChB ln' sg' M' B' A) (c4 : ChR ln' sg' M' R' A) : (∀ C, sub C A → M C = M' C) ∧ (∀ C, sub C A → M C < 1000000 → S C = S' C ∧ B C = B' C ∧ R C = R' C) ∧ ∀ C, sub C A → ∀ s W, bsB ln sg M C s W = bsB ln' sg' M' C s W := by
  obtain ⟨a1, a2, a3, a4, a5⟩ := tab_all hA8 (fun C hC => baE_255 (by have := sub_le hC; omega)) h
  have hM := Ch_uniq (Ch_congr hl hs a1) c1
  have e : ∀ C, sub C A → ∀ s W, bsB ln sg M C s W = bsB ln' sg' M' C s W := fun C hC s W => bs_congr hl hs hM hC
  refine ⟨hM, fun C hC hMC => ?_, e⟩
  have hMC' : M' C < 1000000 := by rw [← hM C hC]; exact hMC
  exact ⟨ChS_uniq (ChS_congr e hM a2) c2 C hC hMC', ChB_uniq (ChB_congr e hM a4) c3 C hC hMC', ChR_uniq (ChR_congr e hM a3) c4 C hC hMC'⟩
theorem ChS_sub {ln : Nat → Nat} {sg : Nat → Nat → Bool} {M S : Nat → Nat} {U A : Nat} (h : ChS ln sg M S U) (hA : sub A U) : ChS ln sg M S A := fun C hC => h C (sub_tr hC hA)
theorem ChB_sub {ln : Nat → Nat} {sg : Nat → Nat → Bool} {M S : Nat → Nat} {U A : Nat} (h : ChB ln sg M S U) (hA : sub A U) : ChB ln sg M S A := fun C hC => h C (sub_tr hC hA)
theorem ChR_sub {ln : Nat → Nat} {sg : Nat → Nat → Bool} {M S : Nat → Nat} {U A : Nat} (h : ChR ln sg M S U) (hA : sub A U) : ChR ln sg M S A := fun C hC => h C (sub_tr hC hA)
theorem d_leastC {σ : pm_H} {n : Nat} (h : Rel (RkT Q) σ n) {A : Nat} (hA : A < 2 ^ n) (eA : cur σ 1 = nI A) : ∃ s N V M S R B Y, D_X11_least [.ref 11] σ = some (some (.int (if M A = 1000000 then -3 else nI (M A))), s) ∧ (OC σ s ∧ pI s 18 0 = 0 ∧ pI s 15 1 = nI A ∧ Tb s) ∧ (∀ W, 0 < W → sub W A → lnA N (alS (cur σ) n) W = lnR (cur σ) n W) ∧ (∀ s W, A.testBit s = true → 0 < W → sub W A → 0 < lnA N (alS (cur σ) n) W → sgA N V (alS (cur σ) n) s W = sgR (cur σ) n (-1) s W) ∧ (∃ c v, LL s N V (alS (cur σ) n) A c v) ∧ (∀ C, sub C A → T5 s M S R B Y C) ∧ ∀ C, sub C A → c5 (lnA N (alS (cur σ) n)) (sgA N V (alS (cur σ) n)) 255 M S R B Y C := by
  have hS := Rel_Sh h
  have hv := Rel_VR h
  have h8 := Rel_8 h
  have hm := VR_mOk hv
  obtain ⟨s, N, V, M, S, R, B, Y, d1, d2, t1, t2, t3, t4⟩ := d_fewM h hA eA (show 0 < 255 by decide) (by decide) 255 (-1)
  refine ⟨s, N, V, M, S, R, B, Y, ?_, d2, t2, sg_own hA h8 hm t1 t2 (sl := -1) (fun i hi => ⟨fun _ => ne_m1 (by omega), fun _ => bt_255 (by omega)⟩), t3, fun C hC => (t4 C hC).1, fun C hC => (t4 C hC).2⟩
  refine rD_un.trans ?_
  have d1' : D_X11_fewestMinutes [.ref 11, .int 255, .int (-1), .int 255] σ = some (some (.int (if M A = 1000000 then -3 else nI (M A))), s) := d1
  simp only [D_X11_least, B_X11_least, ↓rE_eK, ↓rE_eLi, ↓rE_eLj, ↓rE_eLa, ↓rE_eU, ↓rE_eB, ↓rE_eG, ↓rE_eIF, ↓rE_eAI, ↓rE_eAX, ↓rE_eAJ, ↓rE_eAR, ↓rE_eLen, ↓rE_eSI, ↓rE_eC, ↓rE_eCall, ↓rE_eNew, ↓rE_eNewA, ↓rE_eInst, ↓rC_cI, ↓rC_cZ0, ↓rC_cN, ↓rC_cNot, ↓rC_cAnd, ↓rC_cOr, ↓rA_aN, ↓rA_aC, ↓rS_sP, ↓rS_sUF, ↓rS_sAI, ↓rS_sAJ, ↓rS_sAR, ↓rS_sUA, ↓rS_sCall, ↓rS_sObj, ↓rS_sSi, ↓rS_sSa, ↓rS_sSj, ↓rS_sInc, ↓rS_sSkip, ↓rS_sSeq, ↓rS_sIf, ↓rS_sRetI, ↓rS_sRetJ, ↓rS_sRetA, ↓rS_sRetV, ↓rS_sSw, ↓rD_meth, ↓rD_on, ↓kR_ref, ↓kI_int, ↓kJ_long, ↓kN_null, ↓kN_ref, ↓kN_rf, ↓kQ_ref, ↓kQ_null, ↓kQ_rf, o1_i, o1ij_i, o1ji_i, o2_i, o2d_i, o2j_i, o2ji_i, o2c_i, fv_0, fv_1, fv_2, fv_3, pf_0, pf_2, pf_3, pf_4, rf_s, rf_n, is_self, ge_0, ge_s, ge_n, gd_s, gd_n, se_0, se_s, ag_0, ex_n, ex_i, ex_r, ex_0, ex_j, ex_q, ap_c, ap_n, List.append_nil, ln_c, ln_n, rp_0, rp_s, rt_0, rt_1, rt_20, rt_21, rt_2, rt_3, rt_4, rt_4n, rt_4q, nl_0, nl_1, nl_2, nl_3, nl_4, nl_5, nl_6, nl_7, nl_8, nl_9, nlB_i, nlB_r, nlB_n, nlB_f, nlB_q, ↓reduceIte, reduceCtorEq, Nat.reduceAdd, Nat.reduceSub, Nat.reduceEqDiff, Nat.reduceLeDiff, Nat.reduceBEq, ite_true, ite_false, dt_t, Bool.not_true, Bool.not_false, Bool.false_eq_true, Nat.le_refl, true_and, and_true, true_or, or_true, false_or, or_false, false_and, and_false, qEq, qNe, qLt, qGe, qGt, qLe, rD_tb1 (sT_11 hS), rD_of d1']
theorem nI_m3 {m : Nat} (h : m ≤ 1000000) : ((if m = 1000000 then (-3 : Int32) else nI m) = -3) = (m = 1000000) := by
  by_cases c : m = 1000000
  · rw [if_pos c]; exact propext ⟨fun _ => c, fun _ => rfl⟩
  · rw [if_neg c, i_eq, nI_toInt (by omega)]
    have : (-3 : Int32).toInt = -3 := by decide
    rw [this]
    exact propext ⟨fun q => by omega, fun q => absurd q c⟩
theorem step_last {σ : pm_H} {n : Nat} (h : Rel (RkT Q) σ n) : Step (RkT Q) D_X11_last D_X12_last [] σ := by
  have hS := Rel_Sh h
  have hv := Rel_VR h
  have hr := Rel_nr h
  have hn := Rel_n h
  have h8 := Rel_8 h
  have hm := VR_mOk hv
  obtain ⟨A, hA, eA, -⟩ := VR_A hv
  have hA8 := Nat.lt_of_lt_of_le hA (p2n h8)
  obtain ⟨s, N, V, M, S, R, B, Y, d1, ⟨d2, d3, d4, d5⟩, t1, t2, -, t4, t5⟩ := d_leastC h hA eA
  have hF := OC_Fr d2
  have hss := Fr_Sh hF hS
  have hvs := Fr_VR hF hv
  have hrs : pR s 11 0 = some (nowA σ) := by rw [d2.1.2.2.1]; exact hr
  have hcu := Fr_cur hF
  have hns : pI s 35 0 = nI n := by rw [d2.2 35 (by omega)]; exact hn
  obtain ⟨τ, M', S', B', R', f1, f2, f3, f4, f5, f6, f7, f8, f9⟩ := d_findAll hss hns (by rw [hcu]; exact hm)
  rw [hcu] at f6 f7 f8 f9
  have hsu := sub_ones.mpr hA
  obtain ⟨u1, u2, -⟩ := cls_ref hA8 t1 t2 t5 (Ch_sub f6 hsu) (ChS_sub f7 hsu) (ChB_sub f8 hsu) (ChR_sub f9 hsu)
  have hMM := u1 A (sub_rfl A)
  obtain ⟨r1, r2, r3⟩ := fin_q h d2 d3 d5 f2
  obtain ⟨g1, -, -, g4, -⟩ := t4 A (sub_rfl A)
  have bA := ib_nI hA8 (show (256 : Nat) ≤ 1000000 by decide)
  have cA := nI_cl (show A < 2147483648 by omega)
  have hsb' : (nI A &&& (nI A ^^^ (-1)) = 0) = True := by rw [sub0 hA8 hA8]; exact eq_true (sub_rfl A)
  have hM6 := (f4 A hA).2
  refine ⟨if M A = 1000000 then 0 else nI (B A), s, τ, n, ?_, ?_, r1, by omega, by omega⟩
  · refine rD_un.trans ?_
    have q1 := d_awakeSet hvs
    rw [eA] at q1
    have hc3 := nI_m3 g1.2.1
    by_cases c : M A = 1000000
    · rw [if_pos c] at hc3 d1 ⊢
      simp only [D_X11_last, B_X11_last, ↓rE_eK, ↓rE_eLi, ↓rE_eLj, ↓rE_eLa, ↓rE_eU, ↓rE_eB, ↓rE_eG, ↓rE_eIF, ↓rE_eAI, ↓rE_eAX, ↓rE_eAJ, ↓rE_eAR, ↓rE_eLen, ↓rE_eSI, ↓rE_eC, ↓rE_eCall, ↓rE_eNew, ↓rE_eNewA, ↓rE_eInst, ↓rC_cI, ↓rC_cZ0, ↓rC_cN, ↓rC_cNot, ↓rC_cAnd, ↓rC_cOr, ↓rA_aN, ↓rA_aC, ↓rS_sP, ↓rS_sUF, ↓rS_sAI, ↓rS_sAJ, ↓rS_sAR, ↓rS_sUA, ↓rS_sCall, ↓rS_sObj, ↓rS_sSi, ↓rS_sSa, ↓rS_sSj, ↓rS_sInc, ↓rS_sSkip, ↓rS_sSeq, ↓rS_sIf, ↓rS_sRetI, ↓rS_sRetJ, ↓rS_sRetA, ↓rS_sRetV, ↓rS_sSw, ↓rD_meth, ↓rD_on, ↓kR_ref, ↓kI_int, ↓kJ_long, ↓kN_null, ↓kN_ref, ↓kN_rf, ↓kQ_ref, ↓kQ_null, ↓kQ_rf, o1_i, o1ij_i, o1ji_i, o2_i, o2d_i, o2j_i, o2ji_i, o2c_i, fv_0, fv_1, fv_2, fv_3, pf_0, pf_2, pf_3, pf_4, rf_s, rf_n, is_self, ge_0, ge_s, ge_n, gd_s, gd_n, se_0, se_s, ag_0, ex_n, ex_i, ex_r, ex_0, ex_j, ex_q, ap_c, ap_n, List.append_nil, ln_c, ln_n, rp_0, rp_s, rt_0, rt_1, rt_20, rt_21, rt_2, rt_3, rt_4, rt_4n, rt_4q, nl_0, nl_1, nl_2, nl_3, nl_4, nl_5, nl_6, nl_7, nl_8, nl_9, nlB_i, nlB_r, nlB_n, nlB_f, nlB_q, ↓reduceIte, reduceCtorEq, Nat.reduceAdd, Nat.reduceSub, Nat.reduceEqDiff, Nat.reduceLeDiff, Nat.reduceBEq, ite_true, ite_false, dt_t, Bool.not_true, Bool.not_false, Bool.false_eq_true, Nat.le_refl, true_and, and_true, true_or, or_true, false_or, or_false, false_and, and_false, qEq, qNe, qLt, qGe, qGt, qLe, rD_tb1 (sT_11 hS), rD_of d1]
    · have hc3' : (nI (M A) = -3) = False := by rw [if_neg c] at hc3; rw [hc3]; exact eq_false c
      rw [if_neg c] at d1 ⊢
      have q2 : D_X3_lastsOf [.ref 15, .int (nI A)] s = some (some (.int (nI (B A))), s) := by
        refine rD_un.trans ?_
        simp only [D_X3_lastsOf, B_X3_lastsOf, ↓rE_eK, ↓rE_eLi, ↓rE_eLj, ↓rE_eLa, ↓rE_eU, ↓rE_eB, ↓rE_eG, ↓rE_eIF, ↓rE_eAI, ↓rE_eAX, ↓rE_eAJ, ↓rE_eAR, ↓rE_eLen, ↓rE_eSI, ↓rE_eC, ↓rE_eCall, ↓rE_eNew, ↓rE_eNewA, ↓rE_eInst, ↓rC_cI, ↓rC_cZ0, ↓rC_cN, ↓rC_cNot, ↓rC_cAnd, ↓rC_cOr, ↓rA_aN, ↓rA_aC, ↓rS_sP, ↓rS_sUF, ↓rS_sAI, ↓rS_sAJ, ↓rS_sAR, ↓rS_sUA, ↓rS_sCall, ↓rS_sObj, ↓rS_sSi, ↓rS_sSa, ↓rS_sSj, ↓rS_sInc, ↓rS_sSkip, ↓rS_sSeq, ↓rS_sIf, ↓rS_sRetI, ↓rS_sRetJ, ↓rS_sRetA, ↓rS_sRetV, ↓rS_sSw, ↓rD_meth, ↓rD_on, ↓kR_ref, ↓kI_int, ↓kJ_long, ↓kN_null, ↓kN_ref, ↓kN_rf, ↓kQ_ref, ↓kQ_null, ↓kQ_rf, o1_i, o1ij_i, o1ji_i, o2_i, o2d_i, o2j_i, o2ji_i, o2c_i, fv_0, fv_1, fv_2, fv_3, pf_0, pf_2, pf_3, pf_4, rf_s, rf_n, is_self, ge_0, ge_s, ge_n, gd_s, gd_n, se_0, se_s, ag_0, ex_n, ex_i, ex_r, ex_0, ex_j, ex_q, ap_c, ap_n, List.append_nil, ln_c, ln_n, rp_0, rp_s, rt_0, rt_1, rt_20, rt_21, rt_2, rt_3, rt_4, rt_4n, rt_4q, nl_0, nl_1, nl_2, nl_3, nl_4, nl_5, nl_6, nl_7, nl_8, nl_9, nlB_i, nlB_r, nlB_n, nlB_f, nlB_q, ↓reduceIte, reduceCtorEq, Nat.reduceAdd, Nat.reduceSub, Nat.reduceEqDiff, Nat.reduceLeDiff, Nat.reduceBEq, ite_true, ite_false, dt_t, Bool.not_true, Bool.not_false, Bool.false_eq_true, Nat.le_refl, true_and, and_true, true_or, or_true, false_or, or_false, false_and, and_false, qEq, qNe, qLt, qGe, qGt, qLe, sT_11 hss, sT_12 hss, sT_13 hss, sT_14 hss, sT_15 hss, sT_16 hss, sT_17 hss, sT_18 hss, sT_19 hss, sT_20 hss, sT_21 hss, sT_22 hss, sT_23 hss, sT_24 hss, sT_25 hss, sT_26 hss, sT_27 hss, sT_28 hss, sT_29 hss, sT_30 hss, sT_31 hss, sT_32 hss, sT_33 hss, sT_34 hss, sL_13 hss, sL_14 hss, sL_16 hss, sL_17 hss, sL_18 hss, sL_19 hss, sL_20 hss, sL_21 hss, sL_22 hss, sL_23 hss, sL_24 hss, sL_25 hss, sL_26 hss, sL_28 hss, sL_30 hss, sL_31 hss, sL_32 hss, sL_33 hss, sL_34 hss, sR_11_2 hss, sR_11_3 hss, sR_11_4 hss, sR_11_5 hss, sR_11_7 hss, sR_11_8 hss, sR_11_9 hss, sR_27_0 hss, sR_29_0 hss, sR_15_0 hss, sR_15_3 hss, sR_15_5 hss, sR_15_6 hss, sR_15_7 hss, sR_15_8 hss, sR_15_9 hss, sR_15_10 hss, sR_15_11 hss, sR_15_12 hss, sR_15_13 hss, d4, hsb', bA, cA, g4.1]
      simp only [D_X11_last, B_X11_last, ↓rE_eK, ↓rE_eLi, ↓rE_eLj, ↓rE_eLa, ↓rE_eU, ↓rE_eB, ↓rE_eG, ↓rE_eIF, ↓rE_eAI, ↓rE_eAX, ↓rE_eAJ, ↓rE_eAR, ↓rE_eLen, ↓rE_eSI, ↓rE_eC, ↓rE_eCall, ↓rE_eNew, ↓rE_eNewA, ↓rE_eInst, ↓rC_cI, ↓rC_cZ0, ↓rC_cN, ↓rC_cNot, ↓rC_cAnd, ↓rC_cOr, ↓rA_aN, ↓rA_aC, ↓rS_sP, ↓rS_sUF, ↓rS_sAI, ↓rS_sAJ, ↓rS_sAR, ↓rS_sUA, ↓rS_sCall, ↓rS_sObj, ↓rS_sSi, ↓rS_sSa, ↓rS_sSj, ↓rS_sInc, ↓rS_sSkip, ↓rS_sSeq, ↓rS_sIf, ↓rS_sRetI, ↓rS_sRetJ, ↓rS_sRetA, ↓rS_sRetV, ↓rS_sSw, ↓rD_meth, ↓rD_on, ↓kR_ref, ↓kI_int, ↓kJ_long, ↓kN_null, ↓kN_ref, ↓kN_rf, ↓kQ_ref, ↓kQ_null, ↓kQ_rf, o1_i, o1ij_i, o1ji_i, o2_i, o2d_i, o2j_i, o2ji_i, o2c_i, fv_0, fv_1, fv_2, fv_3, pf_0, pf_2, pf_3, pf_4, rf_s, rf_n, is_self, ge_0, ge_s, ge_n, gd_s, gd_n, se_0, se_s, ag_0, ex_n, ex_i, ex_r, ex_0, ex_j, ex_q, ap_c, ap_n, List.append_nil, ln_c, ln_n, rp_0, rp_s, rt_0, rt_1, rt_20, rt_21, rt_2, rt_3, rt_4, rt_4n, rt_4q, nl_0, nl_1, nl_2, nl_3, nl_4, nl_5, nl_6, nl_7, nl_8, nl_9, nlB_i, nlB_r, nlB_n, nlB_f, nlB_q, ↓reduceIte, reduceCtorEq, Nat.reduceAdd, Nat.reduceSub, Nat.reduceEqDiff, Nat.reduceLeDiff, Nat.reduceBEq, ite_true, ite_false, dt_t, Bool.not_true, Bool.not_false, Bool.false_eq_true, Nat.le_refl, true_and, and_true, true_or, or_true, false_or, or_false, false_and, and_false, qEq, qNe, qLt, qGe, qGt, qLe, rD_tb1 (sT_11 hS), rD_of d1, hc3', sT_11 hss, sT_12 hss, sT_13 hss, sT_14 hss, sT_15 hss, sT_16 hss, sT_17 hss, sT_18 hss, sT_19 hss, sT_20 hss, sT_21 hss, sT_22 hss, sT_23 hss, sT_24 hss, sT_25 hss, sT_26 hss, sT_27 hss, sT_28 hss, sT_29 hss, sT_30 hss, sT_31 hss, sT_32 hss, sT_33 hss, sT_34 hss, sL_13 hss, sL_14 hss, sL_16 hss, sL_17 hss, sL_18 hss, sL_19 hss, sL_20 hss, sL_21 hss, sL_22 hss, sL_23 hss, sL_24 hss, sL_25 hss, sL_26 hss, sL_28 hss, sL_30 hss, sL_31 hss, sL_32 hss, sL_33 hss, sL_34 hss, sR_11_2 hss, sR_11_3 hss, sR_11_4 hss, sR_11_5 hss, sR_11_7 hss, sR_11_8 hss, sR_11_9 hss, sR_27_0 hss, sR_29_0 hss, sR_15_0 hss, sR_15_3 hss, sR_15_5 hss, sR_15_6 hss, sR_15_7 hss, sR_15_8 hss, sR_15_9 hss, sR_15_10 hss, sR_15_11 hss, sR_15_12 hss, sR_15_13 hss, hrs, rD_tb1 (VR_T hvs), rD_of q1, rD_tb1 (sT_15 hss), rD_of q2]
  · refine rD_un.trans ?_
    have hsτ := Fr_Sh (OD_Fr f2) hss
    have e8 : pI τ 35 8 = nI A := by rw [f2.2.2 8 (by decide) (by decide), d2.2 35 (by omega)]; exact eA
    have h6 : (1000000 ≤ nI (M' A)) = (1000000 ≤ M' A) := nI_le' (a := 1000000) (by decide) (by omega)
    by_cases c : M A = 1000000
    · rw [if_pos c]
      simp only [D_X12_last, B_X12_last, ↓rE_eK, ↓rE_eLi, ↓rE_eLj, ↓rE_eLa, ↓rE_eU, ↓rE_eB, ↓rE_eG, ↓rE_eIF, ↓rE_eAI, ↓rE_eAX, ↓rE_eAJ, ↓rE_eAR, ↓rE_eLen, ↓rE_eSI, ↓rE_eC, ↓rE_eCall, ↓rE_eNew, ↓rE_eNewA, ↓rE_eInst, ↓rC_cI, ↓rC_cZ0, ↓rC_cN, ↓rC_cNot, ↓rC_cAnd, ↓rC_cOr, ↓rA_aN, ↓rA_aC, ↓rS_sP, ↓rS_sUF, ↓rS_sAI, ↓rS_sAJ, ↓rS_sAR, ↓rS_sUA, ↓rS_sCall, ↓rS_sObj, ↓rS_sSi, ↓rS_sSa, ↓rS_sSj, ↓rS_sInc, ↓rS_sSkip, ↓rS_sSeq, ↓rS_sIf, ↓rS_sRetI, ↓rS_sRetJ, ↓rS_sRetA, ↓rS_sRetV, ↓rS_sSw, ↓rD_meth, ↓rD_on, ↓kR_ref, ↓kI_int, ↓kJ_long, ↓kN_null, ↓kN_ref, ↓kN_rf, ↓kQ_ref, ↓kQ_null, ↓kQ_rf, o1_i, o1ij_i, o1ji_i, o2_i, o2d_i, o2j_i, o2ji_i, o2c_i, fv_0, fv_1, fv_2, fv_3, pf_0, pf_2, pf_3, pf_4, rf_s, rf_n, is_self, ge_0, ge_s, ge_n, gd_s, gd_n, se_0, se_s, ag_0, ex_n, ex_i, ex_r, ex_0, ex_j, ex_q, ap_c, ap_n, List.append_nil, ln_c, ln_n, rp_0, rp_s, rt_0, rt_1, rt_20, rt_21, rt_2, rt_3, rt_4, rt_4n, rt_4q, nl_0, nl_1, nl_2, nl_3, nl_4, nl_5, nl_6, nl_7, nl_8, nl_9, nlB_i, nlB_r, nlB_n, nlB_f, nlB_q, ↓reduceIte, reduceCtorEq, Nat.reduceAdd, Nat.reduceSub, Nat.reduceEqDiff, Nat.reduceLeDiff, Nat.reduceBEq, ite_true, ite_false, dt_t, Bool.not_true, Bool.not_false, Bool.false_eq_true, Nat.le_refl, true_and, and_true, true_or, or_true, false_or, or_false, false_and, and_false, qEq, qNe, qLt, qGe, qGt, qLe, rD_tb1 (sT_35 hss), rD_of f1, sT_35 hsτ, sT_36 hsτ, sT_37 hsτ, sT_38 hsτ, sT_39 hsτ, sT_40 hsτ, sT_41 hsτ, sT_42 hsτ, sT_43 hsτ, sT_44 hsτ, sT_45 hsτ, sT_46 hsτ, sT_47 hsτ, sT_48 hsτ, sT_49 hsτ, sT_50 hsτ, sT_51 hsτ, sT_52 hsτ, sT_53 hsτ, sT_54 hsτ, sT_55 hsτ, sT_56 hsτ, sT_57 hsτ, sT_58 hsτ, sT_59 hsτ, sT_60 hsτ, sT_61 hsτ, sT_62 hsτ, sT_63 hsτ, sT_64 hsτ, sT_65 hsτ, sL_36 hsτ, sL_37 hsτ, sL_38 hsτ, sL_39 hsτ, sL_40 hsτ, sL_41 hsτ, sL_42 hsτ, sL_43 hsτ, sL_44 hsτ, sL_45 hsτ, sL_46 hsτ, sL_47 hsτ, sL_48 hsτ, sL_49 hsτ, sL_50 hsτ, sL_51 hsτ, sL_52 hsτ, sL_53 hsτ, sL_54 hsτ, sL_55 hsτ, sL_56 hsτ, sL_57 hsτ, sL_58 hsτ, sL_59 hsτ, sL_60 hsτ, sL_61 hsτ, sL_62 hsτ, sL_63 hsτ, sL_64 hsτ, sL_65 hsτ, sR_35_1 hsτ, sR_35_2 hsτ, sR_35_3 hsτ, sR_35_4 hsτ, sR_35_5 hsτ, sR_35_6 hsτ, sR_35_7 hsτ, sR_35_11 hsτ, sR_35_21 hsτ, sR_35_22 hsτ, sR_35_23 hsτ, sR_35_24 hsτ, sR_35_25 hsτ, sR_35_26 hsτ, sR_35_27 hsτ, sR_35_28 hsτ, sR_35_29 hsτ, sR_35_30 hsτ, sR_35_31 hsτ, sR_35_32 hsτ, sR_35_35 hsτ, sR_35_37 hsτ, sR_35_38 hsτ, sR_35_39 hsτ, sR_35_40 hsτ, sR_35_41 hsτ, sR_35_42 hsτ, sR_35_46 hsτ, sR_35_50 hsτ, sR_35_52 hsτ, e8, bA, cA, (f4 A hA).1, h6, show 1000000 ≤ M' A from by omega]
    · rw [if_neg c, (u2 A (sub_rfl A) (by omega)).2.1]
      simp only [D_X12_last, B_X12_last, ↓rE_eK, ↓rE_eLi, ↓rE_eLj, ↓rE_eLa, ↓rE_eU, ↓rE_eB, ↓rE_eG, ↓rE_eIF, ↓rE_eAI, ↓rE_eAX, ↓rE_eAJ, ↓rE_eAR, ↓rE_eLen, ↓rE_eSI, ↓rE_eC, ↓rE_eCall, ↓rE_eNew, ↓rE_eNewA, ↓rE_eInst, ↓rC_cI, ↓rC_cZ0, ↓rC_cN, ↓rC_cNot, ↓rC_cAnd, ↓rC_cOr, ↓rA_aN, ↓rA_aC, ↓rS_sP, ↓rS_sUF, ↓rS_sAI, ↓rS_sAJ, ↓rS_sAR, ↓rS_sUA, ↓rS_sCall, ↓rS_sObj, ↓rS_sSi, ↓rS_sSa, ↓rS_sSj, ↓rS_sInc, ↓rS_sSkip, ↓rS_sSeq, ↓rS_sIf, ↓rS_sRetI, ↓rS_sRetJ, ↓rS_sRetA, ↓rS_sRetV, ↓rS_sSw, ↓rD_meth, ↓rD_on, ↓kR_ref, ↓kI_int, ↓kJ_long, ↓kN_null, ↓kN_ref, ↓kN_rf, ↓kQ_ref, ↓kQ_null, ↓kQ_rf, o1_i, o1ij_i, o1ji_i, o2_i, o2d_i, o2j_i, o2ji_i, o2c_i, fv_0, fv_1, fv_2, fv_3, pf_0, pf_2, pf_3, pf_4, rf_s, rf_n, is_self, ge_0, ge_s, ge_n, gd_s, gd_n, se_0, se_s, ag_0, ex_n, ex_i, ex_r, ex_0, ex_j, ex_q, ap_c, ap_n, List.append_nil, ln_c, ln_n, rp_0, rp_s, rt_0, rt_1, rt_20, rt_21, rt_2, rt_3, rt_4, rt_4n, rt_4q, nl_0, nl_1, nl_2, nl_3, nl_4, nl_5, nl_6, nl_7, nl_8, nl_9, nlB_i, nlB_r, nlB_n, nlB_f, nlB_q, ↓reduceIte, reduceCtorEq, Nat.reduceAdd, Nat.reduceSub, Nat.reduceEqDiff, Nat.reduceLeDiff, Nat.reduceBEq, ite_true, ite_false, dt_t, Bool.not_true, Bool.not_false, Bool.false_eq_true, Nat.le_refl, true_and, and_true, true_or, or_true, false_or, or_false, false_and, and_false, qEq, qNe, qLt, qGe, qGt, qLe, rD_tb1 (sT_35 hss), rD_of f1, sT_35 hsτ, sT_36 hsτ, sT_37 hsτ, sT_38 hsτ, sT_39 hsτ, sT_40 hsτ, sT_41 hsτ, sT_42 hsτ, sT_43 hsτ, sT_44 hsτ, sT_45 hsτ, sT_46 hsτ, sT_47 hsτ, sT_48 hsτ, sT_49 hsτ, sT_50 hsτ, sT_51 hsτ, sT_52 hsτ, sT_53 hsτ, sT_54 hsτ, sT_55 hsτ, sT_56 hsτ, sT_57 hsτ, sT_58 hsτ, sT_59 hsτ, sT_60 hsτ, sT_61 hsτ, sT_62 hsτ, sT_63 hsτ, sT_64 hsτ, sT_65 hsτ, sL_36 hsτ, sL_37 hsτ, sL_38 hsτ, sL_39 hsτ, sL_40 hsτ, sL_41 hsτ, sL_42 hsτ, sL_43 hsτ, sL_44 hsτ, sL_45 hsτ, sL_46 hsτ, sL_47 hsτ, sL_48 hsτ, sL_49 hsτ, sL_50 hsτ, sL_51 hsτ, sL_52 hsτ, sL_53 hsτ, sL_54 hsτ, sL_55 hsτ, sL_56 hsτ, sL_57 hsτ, sL_58 hsτ, sL_59 hsτ, sL_60 hsτ, sL_61 hsτ, sL_62 hsτ, sL_63 hsτ, sL_64 hsτ, sL_65 hsτ, sR_35_1 hsτ, sR_35_2 hsτ, sR_35_3 hsτ, sR_35_4 hsτ, sR_35_5 hsτ, sR_35_6 hsτ, sR_35_7 hsτ, sR_35_11 hsτ, sR_35_21 hsτ, sR_35_22 hsτ, sR_35_23 hsτ, sR_35_24 hsτ, sR_35_25 hsτ, sR_35_26 hsτ, sR_35_27 hsτ, sR_35_28 hsτ, sR_35_29 hsτ, sR_35_30 hsτ, sR_35_31 hsτ, sR_35_32 hsτ, sR_35_35 hsτ, sR_35_37 hsτ, sR_35_38 hsτ, sR_35_39 hsτ, sR_35_40 hsτ, sR_35_41 hsτ, sR_35_42 hsτ, sR_35_46 hsτ, sR_35_50 hsτ, sR_35_52 hsτ, e8, bA, cA, (f4 A hA).1, h6, show ¬ 1000000 ≤ M' A from by omega, (f5 A hA).2.1.1]
theorem step_ways {σ : pm_H} {n : Nat} (h : Rel (RkT Q) σ n) : Step (RkT Q) D_X11_ways D_X12_ways [] σ := by
  have hS := Rel_Sh h
  have hv := Rel_VR h
  have hr := Rel_nr h
  have hn := Rel_n h
  have h8 := Rel_8 h
  have hm := VR_mOk hv
  obtain ⟨A, hA, eA, -⟩ := VR_A hv
  have hA8 := Nat.lt_of_lt_of_le hA (p2n h8)
  obtain ⟨s, N, V, M, S, R, B, Y, d1, ⟨d2, d3, d4, d5⟩, t1, t2, -, t4, t5⟩ := d_leastC h hA eA
  have hF := OC_Fr d2
  have hss := Fr_Sh hF hS
  have hvs := Fr_VR hF hv
  have hrs : pR s 11 0 = some (nowA σ) := by rw [d2.1.2.2.1]; exact hr
  have hcu := Fr_cur hF
  have hns : pI s 35 0 = nI n := by rw [d2.2 35 (by omega)]; exact hn
  obtain ⟨τ, M', S', B', R', f1, f2, f3, f4, f5, f6, f7, f8, f9⟩ := d_findAll hss hns (by rw [hcu]; exact hm)
  rw [hcu] at f6 f7 f8 f9
  have hsu := sub_ones.mpr hA
  obtain ⟨u1, u2, -⟩ := cls_ref hA8 t1 t2 t5 (Ch_sub f6 hsu) (ChS_sub f7 hsu) (ChB_sub f8 hsu) (ChR_sub f9 hsu)
  have hMM := u1 A (sub_rfl A)
  obtain ⟨r1, r2, r3⟩ := fin_q h d2 d3 d5 f2
  obtain ⟨g1, -, g3, -, -⟩ := t4 A (sub_rfl A)
  have bA := ib_nI hA8 (show (256 : Nat) ≤ 1000000 by decide)
  have cA := nI_cl (show A < 2147483648 by omega)
  have hsb' : (nI A &&& (nI A ^^^ (-1)) = 0) = True := by rw [sub0 hA8 hA8]; exact eq_true (sub_rfl A)
  have hM6 := (f4 A hA).2
  refine ⟨if M A = 1000000 then 0 else nI (R A), s, τ, n, ?_, ?_, r1, by omega, by omega⟩
  · refine rD_un.trans ?_
    have q1 := d_awakeSet hvs
    rw [eA] at q1
    have hc3 := nI_m3 g1.2.1
    by_cases c : M A = 1000000
    · rw [if_pos c] at hc3 d1 ⊢
      simp only [D_X11_ways, B_X11_ways, ↓rE_eK, ↓rE_eLi, ↓rE_eLj, ↓rE_eLa, ↓rE_eU, ↓rE_eB, ↓rE_eG, ↓rE_eIF, ↓rE_eAI, ↓rE_eAX, ↓rE_eAJ, ↓rE_eAR, ↓rE_eLen, ↓rE_eSI, ↓rE_eC, ↓rE_eCall, ↓rE_eNew, ↓rE_eNewA, ↓rE_eInst, ↓rC_cI, ↓rC_cZ0, ↓rC_cN, ↓rC_cNot, ↓rC_cAnd, ↓rC_cOr, ↓rA_aN, ↓rA_aC, ↓rS_sP, ↓rS_sUF, ↓rS_sAI, ↓rS_sAJ, ↓rS_sAR, ↓rS_sUA, ↓rS_sCall, ↓rS_sObj, ↓rS_sSi, ↓rS_sSa, ↓rS_sSj, ↓rS_sInc, ↓rS_sSkip, ↓rS_sSeq, ↓rS_sIf, ↓rS_sRetI, ↓rS_sRetJ, ↓rS_sRetA, ↓rS_sRetV, ↓rS_sSw, ↓rD_meth, ↓rD_on, ↓kR_ref, ↓kI_int, ↓kJ_long, ↓kN_null, ↓kN_ref, ↓kN_rf, ↓kQ_ref, ↓kQ_null, ↓kQ_rf, o1_i, o1ij_i, o1ji_i, o2_i, o2d_i, o2j_i, o2ji_i, o2c_i, fv_0, fv_1, fv_2, fv_3, pf_0, pf_2, pf_3, pf_4, rf_s, rf_n, is_self, ge_0, ge_s, ge_n, gd_s, gd_n, se_0, se_s, ag_0, ex_n, ex_i, ex_r, ex_0, ex_j, ex_q, ap_c, ap_n, List.append_nil, ln_c, ln_n, rp_0, rp_s, rt_0, rt_1, rt_20, rt_21, rt_2, rt_3, rt_4, rt_4n, rt_4q, nl_0, nl_1, nl_2, nl_3, nl_4, nl_5, nl_6, nl_7, nl_8, nl_9, nlB_i, nlB_r, nlB_n, nlB_f, nlB_q, ↓reduceIte, reduceCtorEq, Nat.reduceAdd, Nat.reduceSub, Nat.reduceEqDiff, Nat.reduceLeDiff, Nat.reduceBEq, ite_true, ite_false, dt_t, Bool.not_true, Bool.not_false, Bool.false_eq_true, Nat.le_refl, true_and, and_true, true_or, or_true, false_or, or_false, false_and, and_false, qEq, qNe, qLt, qGe, qGt, qLe, rD_tb1 (sT_11 hS), rD_of d1]
    · have hc3' : (nI (M A) = -3) = False := by rw [if_neg c] at hc3; rw [hc3]; exact eq_false c
      rw [if_neg c] at d1 ⊢
      have q2 : D_X3_waysOf [.ref 15, .int (nI A)] s = some (some (.int (nI (R A))), s) := by
        refine rD_un.trans ?_
        simp only [D_X3_waysOf, B_X3_waysOf, ↓rE_eK, ↓rE_eLi, ↓rE_eLj, ↓rE_eLa, ↓rE_eU, ↓rE_eB, ↓rE_eG, ↓rE_eIF, ↓rE_eAI, ↓rE_eAX, ↓rE_eAJ, ↓rE_eAR, ↓rE_eLen, ↓rE_eSI, ↓rE_eC, ↓rE_eCall, ↓rE_eNew, ↓rE_eNewA, ↓rE_eInst, ↓rC_cI, ↓rC_cZ0, ↓rC_cN, ↓rC_cNot, ↓rC_cAnd, ↓rC_cOr, ↓rA_aN, ↓rA_aC, ↓rS_sP, ↓rS_sUF, ↓rS_sAI, ↓rS_sAJ, ↓rS_sAR, ↓rS_sUA, ↓rS_sCall, ↓rS_sObj, ↓rS_sSi, ↓rS_sSa, ↓rS_sSj, ↓rS_sInc, ↓rS_sSkip, ↓rS_sSeq, ↓rS_sIf, ↓rS_sRetI, ↓rS_sRetJ, ↓rS_sRetA, ↓rS_sRetV, ↓rS_sSw, ↓rD_meth, ↓rD_on, ↓kR_ref, ↓kI_int, ↓kJ_long, ↓kN_null, ↓kN_ref, ↓kN_rf, ↓kQ_ref, ↓kQ_null, ↓kQ_rf, o1_i, o1ij_i, o1ji_i, o2_i, o2d_i, o2j_i, o2ji_i, o2c_i, fv_0, fv_1, fv_2, fv_3, pf_0, pf_2, pf_3, pf_4, rf_s, rf_n, is_self, ge_0, ge_s, ge_n, gd_s, gd_n, se_0, se_s, ag_0, ex_n, ex_i, ex_r, ex_0, ex_j, ex_q, ap_c, ap_n, List.append_nil, ln_c, ln_n, rp_0, rp_s, rt_0, rt_1, rt_20, rt_21, rt_2, rt_3, rt_4, rt_4n, rt_4q, nl_0, nl_1, nl_2, nl_3, nl_4, nl_5, nl_6, nl_7, nl_8, nl_9, nlB_i, nlB_r, nlB_n, nlB_f, nlB_q, ↓reduceIte, reduceCtorEq, Nat.reduceAdd, Nat.reduceSub, Nat.reduceEqDiff, Nat.reduceLeDiff, Nat.reduceBEq, ite_true, ite_false, dt_t, Bool.not_true, Bool.not_false, Bool.false_eq_true, Nat.le_refl, true_and, and_true, true_or, or_true, false_or, or_false, false_and, and_false, qEq, qNe, qLt, qGe, qGt, qLe, sT_11 hss, sT_12 hss, sT_13 hss, sT_14 hss, sT_15 hss, sT_16 hss, sT_17 hss, sT_18 hss, sT_19 hss, sT_20 hss, sT_21 hss, sT_22 hss, sT_23 hss, sT_24 hss, sT_25 hss, sT_26 hss, sT_27 hss, sT_28 hss, sT_29 hss, sT_30 hss, sT_31 hss, sT_32 hss, sT_33 hss, sT_34 hss, sL_13 hss, sL_14 hss, sL_16 hss, sL_17 hss, sL_18 hss, sL_19 hss, sL_20 hss, sL_21 hss, sL_22 hss, sL_23 hss, sL_24 hss, sL_25 hss, sL_26 hss, sL_28 hss, sL_30 hss, sL_31 hss, sL_32 hss, sL_33 hss, sL_34 hss, sR_11_2 hss, sR_11_3 hss, sR_11_4 hss, sR_11_5 hss, sR_11_7 hss, sR_11_8 hss, sR_11_9 hss, sR_27_0 hss, sR_29_0 hss, sR_15_0 hss, sR_15_3 hss, sR_15_5 hss, sR_15_6 hss, sR_15_7 hss, sR_15_8 hss, sR_15_9 hss, sR_15_10 hss, sR_15_11 hss, sR_15_12 hss, sR_15_13 hss, d4, hsb', bA, cA, g3.1]
      simp only [D_X11_ways, B_X11_ways, ↓rE_eK, ↓rE_eLi, ↓rE_eLj, ↓rE_eLa, ↓rE_eU, ↓rE_eB, ↓rE_eG, ↓rE_eIF, ↓rE_eAI, ↓rE_eAX, ↓rE_eAJ, ↓rE_eAR, ↓rE_eLen, ↓rE_eSI, ↓rE_eC, ↓rE_eCall, ↓rE_eNew, ↓rE_eNewA, ↓rE_eInst, ↓rC_cI, ↓rC_cZ0, ↓rC_cN, ↓rC_cNot, ↓rC_cAnd, ↓rC_cOr, ↓rA_aN, ↓rA_aC, ↓rS_sP, ↓rS_sUF, ↓rS_sAI, ↓rS_sAJ, ↓rS_sAR, ↓rS_sUA, ↓rS_sCall, ↓rS_sObj, ↓rS_sSi, ↓rS_sSa, ↓rS_sSj, ↓rS_sInc, ↓rS_sSkip, ↓rS_sSeq, ↓rS_sIf, ↓rS_sRetI, ↓rS_sRetJ, ↓rS_sRetA, ↓rS_sRetV, ↓rS_sSw, ↓rD_meth, ↓rD_on, ↓kR_ref, ↓kI_int, ↓kJ_long, ↓kN_null, ↓kN_ref, ↓kN_rf, ↓kQ_ref, ↓kQ_null, ↓kQ_rf, o1_i, o1ij_i, o1ji_i, o2_i, o2d_i, o2j_i, o2ji_i, o2c_i, fv_0, fv_1, fv_2, fv_3, pf_0, pf_2, pf_3, pf_4, rf_s, rf_n, is_self, ge_0, ge_s, ge_n, gd_s, gd_n, se_0, se_s, ag_0, ex_n, ex_i, ex_r, ex_0, ex_j, ex_q, ap_c, ap_n, List.append_nil, ln_c, ln_n, rp_0, rp_s, rt_0, rt_1, rt_20, rt_21, rt_2, rt_3, rt_4, rt_4n, rt_4q, nl_0, nl_1, nl_2, nl_3, nl_4, nl_5, nl_6, nl_7, nl_8, nl_9, nlB_i, nlB_r, nlB_n, nlB_f, nlB_q, ↓reduceIte, reduceCtorEq, Nat.reduceAdd, Nat.reduceSub, Nat.reduceEqDiff, Nat.reduceLeDiff, Nat.reduceBEq, ite_true, ite_false, dt_t, Bool.not_true, Bool.not_false, Bool.false_eq_true, Nat.le_refl, true_and, and_true, true_or, or_true, false_or, or_false, false_and, and_false, qEq, qNe, qLt, qGe, qGt, qLe, rD_tb1 (sT_11 hS), rD_of d1, hc3', sT_11 hss, sT_12 hss, sT_13 hss, sT_14 hss, sT_15 hss, sT_16 hss, sT_17 hss, sT_18 hss, sT_19 hss, sT_20 hss, sT_21 hss, sT_22 hss, sT_23 hss, sT_24 hss, sT_25 hss, sT_26 hss, sT_27 hss, sT_28 hss, sT_29 hss, sT_30 hss, sT_31 hss, sT_32 hss, sT_33 hss, sT_34 hss, sL_13 hss, sL_14 hss, sL_16 hss, sL_17 hss, sL_18 hss, sL_19 hss, sL_20 hss, sL_21 hss, sL_22 hss, sL_23 hss, sL_24 hss, sL_25 hss, sL_26 hss, sL_28 hss, sL_30 hss, sL_31 hss, sL_32 hss, sL_33 hss, sL_34 hss, sR_11_2 hss, sR_11_3 hss, sR_11_4 hss, sR_11_5 hss, sR_11_7 hss, sR_11_8 hss, sR_11_9 hss, sR_27_0 hss, sR_29_0 hss, sR_15_0 hss, sR_15_3 hss, sR_15_5 hss, sR_15_6 hss, sR_15_7 hss, sR_15_8 hss, sR_15_9 hss, sR_15_10 hss, sR_15_11 hss, sR_15_12 hss, sR_15_13 hss, hrs, rD_tb1 (VR_T hvs), rD_of q1, rD_tb1 (sT_15 hss), rD_of q2]
  · refine rD_un.trans ?_
    have hsτ := Fr_Sh (OD_Fr f2) hss
    have e8 : pI τ 35 8 = nI A := by rw [f2.2.2 8 (by decide) (by decide), d2.2 35 (by omega)]; exact eA
    have h6 : (1000000 ≤ nI (M' A)) = (1000000 ≤ M' A) := nI_le' (a := 1000000) (by decide) (by omega)
    by_cases c : M A = 1000000
    · rw [if_pos c]
      simp only [D_X12_ways, B_X12_ways, ↓rE_eK, ↓rE_eLi, ↓rE_eLj, ↓rE_eLa, ↓rE_eU, ↓rE_eB, ↓rE_eG, ↓rE_eIF, ↓rE_eAI, ↓rE_eAX, ↓rE_eAJ, ↓rE_eAR, ↓rE_eLen, ↓rE_eSI, ↓rE_eC, ↓rE_eCall, ↓rE_eNew, ↓rE_eNewA, ↓rE_eInst, ↓rC_cI, ↓rC_cZ0, ↓rC_cN, ↓rC_cNot, ↓rC_cAnd, ↓rC_cOr, ↓rA_aN, ↓rA_aC, ↓rS_sP, ↓rS_sUF, ↓rS_sAI, ↓rS_sAJ, ↓rS_sAR, ↓rS_sUA, ↓rS_sCall, ↓rS_sObj, ↓rS_sSi, ↓rS_sSa, ↓rS_sSj, ↓rS_sInc, ↓rS_sSkip, ↓rS_sSeq, ↓rS_sIf, ↓rS_sRetI, ↓rS_sRetJ, ↓rS_sRetA, ↓rS_sRetV, ↓rS_sSw, ↓rD_meth, ↓rD_on, ↓kR_ref, ↓kI_int, ↓kJ_long, ↓kN_null, ↓kN_ref, ↓kN_rf, ↓kQ_ref, ↓kQ_null, ↓kQ_rf, o1_i, o1ij_i, o1ji_i, o2_i, o2d_i, o2j_i, o2ji_i, o2c_i, fv_0, fv_1, fv_2, fv_3, pf_0, pf_2, pf_3, pf_4, rf_s, rf_n, is_self, ge_0, ge_s, ge_n, gd_s, gd_n, se_0, se_s, ag_0, ex_n, ex_i, ex_r, ex_0, ex_j, ex_q, ap_c, ap_n, List.append_nil, ln_c, ln_n, rp_0, rp_s, rt_0, rt_1, rt_20, rt_21, rt_2, rt_3, rt_4, rt_4n, rt_4q, nl_0, nl_1, nl_2, nl_3, nl_4, nl_5, nl_6, nl_7, nl_8, nl_9, nlB_i, nlB_r, nlB_n, nlB_f, nlB_q, ↓reduceIte, reduceCtorEq, Nat.reduceAdd, Nat.reduceSub, Nat.reduceEqDiff, Nat.reduceLeDiff, Nat.reduceBEq, ite_true, ite_false, dt_t, Bool.not_true, Bool.not_false, Bool.false_eq_true, Nat.le_refl, true_and, and_true, true_or, or_true, false_or, or_false, false_and, and_false, qEq, qNe, qLt, qGe, qGt, qLe, rD_tb1 (sT_35 hss), rD_of f1, sT_35 hsτ, sT_36 hsτ, sT_37 hsτ, sT_38 hsτ, sT_39 hsτ, sT_40 hsτ, sT_41 hsτ, sT_42 hsτ, sT_43 hsτ, sT_44 hsτ, sT_45 hsτ, sT_46 hsτ, sT_47 hsτ, sT_48 hsτ, sT_49 hsτ, sT_50 hsτ, sT_51 hsτ, sT_52 hsτ, sT_53 hsτ, sT_54 hsτ, sT_55 hsτ, sT_56 hsτ, sT_57 hsτ, sT_58 hsτ, sT_59 hsτ, sT_60 hsτ, sT_61 hsτ, sT_62 hsτ, sT_63 hsτ, sT_64 hsτ, sT_65 hsτ, sL_36 hsτ, sL_37 hsτ, sL_38 hsτ, sL_39 hsτ, sL_40 hsτ, sL_41 hsτ, sL_42 hsτ, sL_43 hsτ, sL_44 hsτ, sL_45 hsτ, sL_46 hsτ, sL_47 hsτ, sL_48 hsτ, sL_49 hsτ, sL_50 hsτ, sL_51 hsτ, sL_52 hsτ, sL_53 hsτ, sL_54 hsτ, sL_55 hsτ, sL_56 hsτ, sL_57 hsτ, sL_58 hsτ, sL_59 hsτ, sL_60 hsτ, sL_61 hsτ, sL_62 hsτ, sL_63 hsτ, sL_64 hsτ, sL_65 hsτ, sR_35_1 hsτ, sR_35_2 hsτ, sR_35_3 hsτ, sR_35_4 hsτ, sR_35_5 hsτ, sR_35_6 hsτ, sR_35_7 hsτ, sR_35_11 hsτ, sR_35_21 hsτ, sR_35_22 hsτ, sR_35_23 hsτ, sR_35_24 hsτ, sR_35_25 hsτ, sR_35_26 hsτ, sR_35_27 hsτ, sR_35_28 hsτ, sR_35_29 hsτ, sR_35_30 hsτ, sR_35_31 hsτ, sR_35_32 hsτ, sR_35_35 hsτ, sR_35_37 hsτ, sR_35_38 hsτ, sR_35_39 hsτ, sR_35_40 hsτ, sR_35_41 hsτ, sR_35_42 hsτ, sR_35_46 hsτ, sR_35_50 hsτ, sR_35_52 hsτ, e8, bA, cA, (f4 A hA).1, h6, show 1000000 ≤ M' A from by omega]
    · rw [if_neg c, (u2 A (sub_rfl A) (by omega)).2.2]
      simp only [D_X12_ways, B_X12_ways, ↓rE_eK, ↓rE_eLi, ↓rE_eLj, ↓rE_eLa, ↓rE_eU, ↓rE_eB, ↓rE_eG, ↓rE_eIF, ↓rE_eAI, ↓rE_eAX, ↓rE_eAJ, ↓rE_eAR, ↓rE_eLen, ↓rE_eSI, ↓rE_eC, ↓rE_eCall, ↓rE_eNew, ↓rE_eNewA, ↓rE_eInst, ↓rC_cI, ↓rC_cZ0, ↓rC_cN, ↓rC_cNot, ↓rC_cAnd, ↓rC_cOr, ↓rA_aN, ↓rA_aC, ↓rS_sP, ↓rS_sUF, ↓rS_sAI, ↓rS_sAJ, ↓rS_sAR, ↓rS_sUA, ↓rS_sCall, ↓rS_sObj, ↓rS_sSi, ↓rS_sSa, ↓rS_sSj, ↓rS_sInc, ↓rS_sSkip, ↓rS_sSeq, ↓rS_sIf, ↓rS_sRetI, ↓rS_sRetJ, ↓rS_sRetA, ↓rS_sRetV, ↓rS_sSw, ↓rD_meth, ↓rD_on, ↓kR_ref, ↓kI_int, ↓kJ_long, ↓kN_null, ↓kN_ref, ↓kN_rf, ↓kQ_ref, ↓kQ_null, ↓kQ_rf, o1_i, o1ij_i, o1ji_i, o2_i, o2d_i, o2j_i, o2ji_i, o2c_i, fv_0, fv_1, fv_2, fv_3, pf_0, pf_2, pf_3, pf_4, rf_s, rf_n, is_self, ge_0, ge_s, ge_n, gd_s, gd_n, se_0, se_s, ag_0, ex_n, ex_i, ex_r, ex_0, ex_j, ex_q, ap_c, ap_n, List.append_nil, ln_c, ln_n, rp_0, rp_s, rt_0, rt_1, rt_20, rt_21, rt_2, rt_3, rt_4, rt_4n, rt_4q, nl_0, nl_1, nl_2, nl_3, nl_4, nl_5, nl_6, nl_7, nl_8, nl_9, nlB_i, nlB_r, nlB_n, nlB_f, nlB_q, ↓reduceIte, reduceCtorEq, Nat.reduceAdd, Nat.reduceSub, Nat.reduceEqDiff, Nat.reduceLeDiff, Nat.reduceBEq, ite_true, ite_false, dt_t, Bool.not_true, Bool.not_false, Bool.false_eq_true, Nat.le_refl, true_and, and_true, true_or, or_true, false_or, or_false, false_and, and_false, qEq, qNe, qLt, qGe, qGt, qLe, rD_tb1 (sT_35 hss), rD_of f1, sT_35 hsτ, sT_36 hsτ, sT_37 hsτ, sT_38 hsτ, sT_39 hsτ, sT_40 hsτ, sT_41 hsτ, sT_42 hsτ, sT_43 hsτ, sT_44 hsτ, sT_45 hsτ, sT_46 hsτ, sT_47 hsτ, sT_48 hsτ, sT_49 hsτ, sT_50 hsτ, sT_51 hsτ, sT_52 hsτ, sT_53 hsτ, sT_54 hsτ, sT_55 hsτ, sT_56 hsτ, sT_57 hsτ, sT_58 hsτ, sT_59 hsτ, sT_60 hsτ, sT_61 hsτ, sT_62 hsτ, sT_63 hsτ, sT_64 hsτ, sT_65 hsτ, sL_36 hsτ, sL_37 hsτ, sL_38 hsτ, sL_39 hsτ, sL_40 hsτ, sL_41 hsτ, sL_42 hsτ, sL_43 hsτ, sL_44 hsτ, sL_45 hsτ, sL_46 hsτ, sL_47 hsτ, sL_48 hsτ, sL_49 hsτ, sL_50 hsτ, sL_51 hsτ, sL_52 hsτ, sL_53 hsτ, sL_54 hsτ, sL_55 hsτ, sL_56 hsτ, sL_57 hsτ, sL_58 hsτ, sL_59 hsτ, sL_60 hsτ, sL_61 hsτ, sL_62 hsτ, sL_63 hsτ, sL_64 hsτ, sL_65 hsτ, sR_35_1 hsτ, sR_35_2 hsτ, sR_35_3 hsτ, sR_35_4 hsτ, sR_35_5 hsτ, sR_35_6 hsτ, sR_35_7 hsτ, sR_35_11 hsτ, sR_35_21 hsτ, sR_35_22 hsτ, sR_35_23 hsτ, sR_35_24 hsτ, sR_35_25 hsτ, sR_35_26 hsτ, sR_35_27 hsτ, sR_35_28 hsτ, sR_35_29 hsτ, sR_35_30 hsτ, sR_35_31 hsτ, sR_35_32 hsτ, sR_35_35 hsτ, sR_35_37 hsτ, sR_35_38 hsτ, sR_35_39 hsτ, sR_35_40 hsτ, sR_35_41 hsτ, sR_35_42 hsτ, sR_35_46 hsτ, sR_35_50 hsτ, sR_35_52 hsτ, e8, bA, cA, (f4 A hA).1, h6, show ¬ 1000000 ≤ M' A from by omega, (f5 A hA).2.2.1]
