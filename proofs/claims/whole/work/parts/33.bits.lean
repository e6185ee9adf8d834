/-! Sets of people as numbers. -/
theorem nI_and (a b : Nat) : nI a &&& nI b = nI (a &&& b) := by
  apply Int32.toBitVec_inj.mp
  show BitVec.ofNat 32 a &&& BitVec.ofNat 32 b = BitVec.ofNat 32 (a &&& b)
  apply BitVec.eq_of_getElem_eq
  intro i hi
  simp [BitVec.getElem_eq_testBit_toNat, Nat.testBit_mod_two_pow, hi]
theorem nI_or (a b : Nat) : nI a ||| nI b = nI (a ||| b) := by
  apply Int32.toBitVec_inj.mp
  show BitVec.ofNat 32 a ||| BitVec.ofNat 32 b = BitVec.ofNat 32 (a ||| b)
  apply BitVec.eq_of_getElem_eq
  intro i hi
  simp [BitVec.getElem_eq_testBit_toNat, Nat.testBit_mod_two_pow, hi]
/-- a without b -/
def sd (a b : Nat) : Nat := a ^^^ (a &&& b)
theorem sd_bit (a b i : Nat) : (sd a b).testBit i = (a.testBit i && !b.testBit i) := by
  unfold sd
  rw [Nat.testBit_xor, Nat.testBit_and]
  cases a.testBit i <;> cases b.testBit i <;> rfl
theorem nI_sd (a b : Nat) : nI a &&& ~~~ nI b = nI (sd a b) := by
  apply Int32.toBitVec_inj.mp
  show BitVec.ofNat 32 a &&& ~~~ BitVec.ofNat 32 b = BitVec.ofNat 32 (sd a b)
  apply BitVec.eq_of_getElem_eq
  intro i hi
  rw [BitVec.getElem_and, BitVec.getElem_not]
  simp only [BitVec.getElem_eq_testBit_toNat, BitVec.toNat_ofNat, Nat.testBit_mod_two_pow, hi, decide_true, Bool.true_and, sd_bit]
theorem nI_shl {i : Nat} (h : i < 8) : (1 : Int32) <<< (nI i &&& 31) = nI (2 ^ i) := by
  have : ∀ i : Fin 8, (1 : Int32) <<< (nI i.val &&& 31) = nI (2 ^ i.val) := by decide +kernel
  exact this ⟨i, h⟩
theorem bt_nI {A i : Nat} (hA : A < 256) (h : i < 8) : bt (nI A) (nI i) = if A.testBit i then 1 else 0 := by
  have : ∀ (A : Fin 256) (i : Fin 8), bt (nI A.val) (nI i.val) = if A.val.testBit i.val then 1 else 0 := by decide +kernel
  exact this ⟨A, hA⟩ ⟨i, h⟩
theorem p2n {n : Nat} (h : n ≤ 8) : 2 ^ n ≤ 256 := by
  calc 2 ^ n ≤ 2 ^ 8 := Nat.pow_le_pow_right (by decide) h
    _ = 256 := by decide
theorem bitlt {A n i : Nat} (hA : A < 2 ^ n) (hi : A.testBit i = true) : i < n := by
  rcases Nat.lt_or_ge i n with h | h
  · exact h
  · rw [Nat.testBit_lt_two_pow (Nat.lt_of_lt_of_le hA (Nat.pow_le_pow_right (by decide) h))] at hi; cases hi
theorem lt_of_bits {A n : Nat} (h : ∀ i, A.testBit i = true → i < n) : A < 2 ^ n := by
  apply Nat.lt_pow_two_of_testBit
  intro i hi
  cases e : A.testBit i with
  | false => rfl
  | true => have := h i e; omega
theorem ne0_bit {A : Nat} (h : 0 < A) : ∃ i, A.testBit i = true := Nat.exists_testBit_of_ne_zero (by omega)
theorem or_lt {A B n : Nat} (hA : A < 2 ^ n) (hB : B < 2 ^ n) : A ||| B < 2 ^ n := Nat.or_lt_two_pow hA hB
theorem sd_lt {A B n : Nat} (hA : A < 2 ^ n) : sd A B < 2 ^ n := lt_of_bits fun i h => by
  rw [sd_bit, Bool.and_eq_true] at h; exact bitlt hA h.1
theorem VR_A {σ : pm_H} {v n : Nat} {vd : Nat → Int32} (h : VR σ v vd n) : ∃ A, A < 2 ^ n ∧ vd 1 = nI A ∧ (0 < n → 0 < A) := h.1.2.2.1
theorem vOk_awake {vd : Nat → Int32} {n A : Nat} (h : vOk vd n) (hA : A < 2 ^ n) (h0 : 0 < n → 0 < A) : vOk (upd vd 1 (nI A)) n := by
  obtain ⟨q1, q2, -, q6⟩ := h
  refine ⟨q1, by rw [upd_ne _ _ (by omega)]; exact q2, ⟨A, hA, by rw [upd_at], h0⟩, fun j hj => ?_⟩
  rw [upd_ne _ _ (by omega), upd_ne _ _ (by omega)]
  exact q6 j hj
theorem pw_bit (i j : Nat) : (2 ^ i).testBit j = decide (i = j) := Nat.testBit_two_pow
theorem step_wake (Rk : (Nat → Nat → Int32) → Prop) (p : Int32) {σ : pm_H} {n : Nat} (h : Rel Rk σ n) : Step Rk D_X11_wake D_X12_wake [.int p] σ := by
  have hs := Rel_Sh h
  have hv := Rel_VR h
  have hn := Rel_n h
  have h8 := Rel_8 h
  have hr := Rel_nr h
  obtain ⟨A, hA, eA, hA0⟩ := VR_A hv
  have hA8 := Nat.lt_of_lt_of_le hA (p2n h8)
  by_cases hp : ib p n = true
  · obtain ⟨i, hi, e1, e2⟩ := ib_ex hp
    subst e1
    have h66 : 66 ≤ vQ σ (nowA σ) i := hv.2.2.2.2.2.2.2.2.1 i hi
    have hb := bt_nI hA8 (show i < 8 by omega)
    by_cases hw : A.testBit i = true
    · rw [if_pos hw] at hb
      refine ⟨0, σ, σ, n, ?_, ?_, h, by omega, by omega⟩
      · refine rD_un.trans ?_
        simp only [D_X11_wake, B_X11_wake, ↓rE_eK, ↓rE_eLi, ↓rE_eLj, ↓rE_eLa, ↓rE_eU, ↓rE_eB, ↓rE_eG, ↓rE_eIF, ↓rE_eAI, ↓rE_eAX, ↓rE_eAJ, ↓rE_eAR, ↓rE_eLen, ↓rE_eSI, ↓rE_eC, ↓rE_eCall, ↓rE_eNew, ↓rE_eNewA, ↓rE_eInst, ↓rC_cI, ↓rC_cZ0, ↓rC_cN, ↓rC_cNot, ↓rC_cAnd, ↓rC_cOr, ↓rA_aN, ↓rA_aC, ↓rS_sP, ↓rS_sUF, ↓rS_sAI, ↓rS_sAJ, ↓rS_sAR, ↓rS_sUA, ↓rS_sCall, ↓rS_sObj, ↓rS_sSi, ↓rS_sSa, ↓rS_sSj, ↓rS_sInc, ↓rS_sSkip, ↓rS_sSeq, ↓rS_sIf, ↓rS_sRetI, ↓rS_sRetJ, ↓rS_sRetA, ↓rS_sRetV, ↓rS_sSw, ↓rD_meth, ↓rD_on, ↓kR_ref, ↓kI_int, ↓kJ_long, ↓kN_null, ↓kN_ref, ↓kN_rf, ↓kQ_ref, ↓kQ_null, ↓kQ_rf, o1_i, o1ij_i, o1ji_i, o2_i, o2d_i, o2j_i, o2ji_i, o2c_i, fv_0, fv_1, fv_2, fv_3, pf_0, pf_2, pf_3, pf_4, rf_s, rf_n, is_self, ge_0, ge_s, ge_n, gd_s, gd_n, se_0, se_s, ag_0, ex_n, ex_i, ex_r, ex_0, ex_j, ex_q, ap_c, ap_n, List.append_nil, ln_c, ln_n, rp_0, rp_s, rt_0, rt_1, rt_20, rt_21, rt_2, rt_3, rt_4, rt_4n, rt_4q, nl_0, nl_1, nl_2, nl_3, nl_4, nl_5, nl_6, nl_7, nl_8, nl_9, nlB_i, nlB_r, nlB_n, nlB_f, nlB_q, ↓reduceIte, reduceCtorEq, Nat.reduceAdd, Nat.reduceSub, Nat.reduceEqDiff, Nat.reduceLeDiff, Nat.reduceBEq, ite_true, ite_false, dt_t, Bool.not_true, Bool.not_false, Bool.false_eq_true, Nat.le_refl, true_and, and_true, true_or, or_true, false_or, or_false, false_and, and_false, qEq, qNe, qLt, qGe, qGt, qLe, hr, rD_tb1 (VR_T hv), rD_of (d_at_t hv hp), sT_11 hs, sT_12 hs, sT_13 hs, sT_14 hs, sT_15 hs, sT_16 hs, sT_17 hs, sT_18 hs, sT_19 hs, sT_20 hs, sT_21 hs, sT_22 hs, sT_23 hs, sT_24 hs, sT_25 hs, sT_26 hs, sT_27 hs, sT_28 hs, sT_29 hs, sT_30 hs, sT_31 hs, sT_32 hs, sT_33 hs, sT_34 hs, sL_13 hs, sL_14 hs, sL_16 hs, sL_17 hs, sL_18 hs, sL_19 hs, sL_20 hs, sL_21 hs, sL_22 hs, sL_23 hs, sL_24 hs, sL_25 hs, sL_26 hs, sL_28 hs, sL_30 hs, sL_31 hs, sL_32 hs, sL_33 hs, sL_34 hs, sR_11_2 hs, sR_11_3 hs, sR_11_4 hs, sR_11_5 hs, sR_11_7 hs, sR_11_8 hs, sR_11_9 hs, sR_27_0 hs, sR_29_0 hs, sR_15_0 hs, sR_15_3 hs, sR_15_5 hs, sR_15_6 hs, sR_15_7 hs, sR_15_8 hs, sR_15_9 hs, sR_15_10 hs, sR_15_11 hs, sR_15_12 hs, sR_15_13 hs, e2, VR_slp hv hi, VR_f6 hv hi, eA, hb]
        rfl
      · refine rD_un.trans ?_
        simp only [D_X12_wake, B_X12_wake, ↓rE_eK, ↓rE_eLi, ↓rE_eLj, ↓rE_eLa, ↓rE_eU, ↓rE_eB, ↓rE_eG, ↓rE_eIF, ↓rE_eAI, ↓rE_eAX, ↓rE_eAJ, ↓rE_eAR, ↓rE_eLen, ↓rE_eSI, ↓rE_eC, ↓rE_eCall, ↓rE_eNew, ↓rE_eNewA, ↓rE_eInst, ↓rC_cI, ↓rC_cZ0, ↓rC_cN, ↓rC_cNot, ↓rC_cAnd, ↓rC_cOr, ↓rA_aN, ↓rA_aC, ↓rS_sP, ↓rS_sUF, ↓rS_sAI, ↓rS_sAJ, ↓rS_sAR, ↓rS_sUA, ↓rS_sCall, ↓rS_sObj, ↓rS_sSi, ↓rS_sSa, ↓rS_sSj, ↓rS_sInc, ↓rS_sSkip, ↓rS_sSeq, ↓rS_sIf, ↓rS_sRetI, ↓rS_sRetJ, ↓rS_sRetA, ↓rS_sRetV, ↓rS_sSw, ↓rD_meth, ↓rD_on, ↓kR_ref, ↓kI_int, ↓kJ_long, ↓kN_null, ↓kN_ref, ↓kN_rf, ↓kQ_ref, ↓kQ_null, ↓kQ_rf, o1_i, o1ij_i, o1ji_i, o2_i, o2d_i, o2j_i, o2ji_i, o2c_i, fv_0, fv_1, fv_2, fv_3, pf_0, pf_2, pf_3, pf_4, rf_s, rf_n, is_self, ge_0, ge_s, ge_n, gd_s, gd_n, se_0, se_s, ag_0, ex_n, ex_i, ex_r, ex_0, ex_j, ex_q, ap_c, ap_n, List.append_nil, ln_c, ln_n, rp_0, rp_s, rt_0, rt_1, rt_20, rt_21, rt_2, rt_3, rt_4, rt_4n, rt_4q, nl_0, nl_1, nl_2, nl_3, nl_4, nl_5, nl_6, nl_7, nl_8, nl_9, nlB_i, nlB_r, nlB_n, nlB_f, nlB_q, ↓reduceIte, reduceCtorEq, Nat.reduceAdd, Nat.reduceSub, Nat.reduceEqDiff, Nat.reduceLeDiff, Nat.reduceBEq, ite_true, ite_false, dt_t, Bool.not_true, Bool.not_false, Bool.false_eq_true, Nat.le_refl, true_and, and_true, true_or, or_true, false_or, or_false, false_and, and_false, qEq, qNe, qLt, qGe, qGt, qLe, rD_tb1, rD_of (d_has _ _ _), rD_of (d_isPerson _ hs hn h8), sT_35 hs, sT_36 hs, sT_37 hs, sT_38 hs, sT_39 hs, sT_40 hs, sT_41 hs, sT_42 hs, sT_43 hs, sT_44 hs, sT_45 hs, sT_46 hs, sT_47 hs, sT_48 hs, sT_49 hs, sT_50 hs, sT_51 hs, sT_52 hs, sT_53 hs, sT_54 hs, sT_55 hs, sT_56 hs, sT_57 hs, sT_58 hs, sT_59 hs, sT_60 hs, sT_61 hs, sT_62 hs, sT_63 hs, sT_64 hs, sT_65 hs, sL_36 hs, sL_37 hs, sL_38 hs, sL_39 hs, sL_40 hs, sL_41 hs, sL_42 hs, sL_43 hs, sL_44 hs, sL_45 hs, sL_46 hs, sL_47 hs, sL_48 hs, sL_49 hs, sL_50 hs, sL_51 hs, sL_52 hs, sL_53 hs, sL_54 hs, sL_55 hs, sL_56 hs, sL_57 hs, sL_58 hs, sL_59 hs, sL_60 hs, sL_61 hs, sL_62 hs, sL_63 hs, sL_64 hs, sL_65 hs, sR_35_1 hs, sR_35_2 hs, sR_35_3 hs, sR_35_4 hs, sR_35_5 hs, sR_35_6 hs, sR_35_7 hs, sR_35_11 hs, sR_35_21 hs, sR_35_22 hs, sR_35_23 hs, sR_35_24 hs, sR_35_25 hs, sR_35_26 hs, sR_35_27 hs, sR_35_28 hs, sR_35_29 hs, sR_35_30 hs, sR_35_31 hs, sR_35_32 hs, sR_35_35 hs, sR_35_37 hs, sR_35_38 hs, sR_35_39 hs, sR_35_40 hs, sR_35_41 hs, sR_35_42 hs, sR_35_46 hs, sR_35_50 hs, sR_35_52 hs, rt_2b, b32_ne, nt_t, hp, ← cu1, eA, hb, not_true]
    · rw [if_neg hw] at hb
      have hor : A ||| 2 ^ i < 2 ^ n := or_lt hA (Nat.pow_lt_pow_right (by decide) hi)
      have hobit : ∀ j, j < n → bt (nI (A ||| 2 ^ i)) (nI j) = if A.testBit j || decide (i = j) then 1 else 0 := fun j hj => by
        rw [bt_nI (Nat.lt_of_lt_of_le hor (p2n h8)) (by omega), Nat.testBit_or, pw_bit]
      refine ⟨1, uI σ (vQ σ (nowA σ) i) 6 1, uI (uI σ (vQ σ (nowA σ) i) 6 1) 35 8 (nI (A ||| 2 ^ i)), n, ?_, ?_, Rel_cm h (Cls_uI Cls_rfl (fpq hi)) (VR_awake hv hi (A := nI (A ||| 2 ^ i)) (vOk_awake hv.1 hor (fun q => ?_)) ?_ ?_) (Mdl_uI Mdl_rfl (by omega)) ?_, by simp only [pT_uI, pL_uI, pJ_uI, pR_uI, pN_uI, pS_uI, pI_uI, pT_uJ, pL_uJ, pI_uJ, pR_uJ, pN_uJ, pS_uJ, pJ_uJ, pT_uR, pL_uR, pI_uR, pJ_uR, pN_uR, pS_uR, pR_uR, pT_nw, pL_nw, pI_nw, pJ_nw, pR_nw, pN_nw, pS_nw]; omega, by simp only [pT_uI, pL_uI, pJ_uI, pR_uI, pN_uI, pS_uI, pI_uI, pT_uJ, pL_uJ, pI_uJ, pR_uJ, pN_uJ, pS_uJ, pJ_uJ, pT_uR, pL_uR, pI_uR, pJ_uR, pN_uR, pS_uR, pR_uR, pT_nw, pL_nw, pI_nw, pJ_nw, pR_nw, pN_nw, pS_nw]; omega⟩
      · refine rD_un.trans ?_
        simp only [D_X11_wake, B_X11_wake, ↓rE_eK, ↓rE_eLi, ↓rE_eLj, ↓rE_eLa, ↓rE_eU, ↓rE_eB, ↓rE_eG, ↓rE_eIF, ↓rE_eAI, ↓rE_eAX, ↓rE_eAJ, ↓rE_eAR, ↓rE_eLen, ↓rE_eSI, ↓rE_eC, ↓rE_eCall, ↓rE_eNew, ↓rE_eNewA, ↓rE_eInst, ↓rC_cI, ↓rC_cZ0, ↓rC_cN, ↓rC_cNot, ↓rC_cAnd, ↓rC_cOr, ↓rA_aN, ↓rA_aC, ↓rS_sP, ↓rS_sUF, ↓rS_sAI, ↓rS_sAJ, ↓rS_sAR, ↓rS_sUA, ↓rS_sCall, ↓rS_sObj, ↓rS_sSi, ↓rS_sSa, ↓rS_sSj, ↓rS_sInc, ↓rS_sSkip, ↓rS_sSeq, ↓rS_sIf, ↓rS_sRetI, ↓rS_sRetJ, ↓rS_sRetA, ↓rS_sRetV, ↓rS_sSw, ↓rD_meth, ↓rD_on, ↓kR_ref, ↓kI_int, ↓kJ_long, ↓kN_null, ↓kN_ref, ↓kN_rf, ↓kQ_ref, ↓kQ_null, ↓kQ_rf, o1_i, o1ij_i, o1ji_i, o2_i, o2d_i, o2j_i, o2ji_i, o2c_i, fv_0, fv_1, fv_2, fv_3, pf_0, pf_2, pf_3, pf_4, rf_s, rf_n, is_self, ge_0, ge_s, ge_n, gd_s, gd_n, se_0, se_s, ag_0, ex_n, ex_i, ex_r, ex_0, ex_j, ex_q, ap_c, ap_n, List.append_nil, ln_c, ln_n, rp_0, rp_s, rt_0, rt_1, rt_20, rt_21, rt_2, rt_3, rt_4, rt_4n, rt_4q, nl_0, nl_1, nl_2, nl_3, nl_4, nl_5, nl_6, nl_7, nl_8, nl_9, nlB_i, nlB_r, nlB_n, nlB_f, nlB_q, ↓reduceIte, reduceCtorEq, Nat.reduceAdd, Nat.reduceSub, Nat.reduceEqDiff, Nat.reduceLeDiff, Nat.reduceBEq, ite_true, ite_false, dt_t, Bool.not_true, Bool.not_false, Bool.false_eq_true, Nat.le_refl, true_and, and_true, true_or, or_true, false_or, or_false, false_and, and_false, qEq, qNe, qLt, qGe, qGt, qLe, hr, rD_tb1 (VR_T hv), rD_of (d_at_t hv hp), sT_11 hs, sT_12 hs, sT_13 hs, sT_14 hs, sT_15 hs, sT_16 hs, sT_17 hs, sT_18 hs, sT_19 hs, sT_20 hs, sT_21 hs, sT_22 hs, sT_23 hs, sT_24 hs, sT_25 hs, sT_26 hs, sT_27 hs, sT_28 hs, sT_29 hs, sT_30 hs, sT_31 hs, sT_32 hs, sT_33 hs, sT_34 hs, sL_13 hs, sL_14 hs, sL_16 hs, sL_17 hs, sL_18 hs, sL_19 hs, sL_20 hs, sL_21 hs, sL_22 hs, sL_23 hs, sL_24 hs, sL_25 hs, sL_26 hs, sL_28 hs, sL_30 hs, sL_31 hs, sL_32 hs, sL_33 hs, sL_34 hs, sR_11_2 hs, sR_11_3 hs, sR_11_4 hs, sR_11_5 hs, sR_11_7 hs, sR_11_8 hs, sR_11_9 hs, sR_27_0 hs, sR_29_0 hs, sR_15_0 hs, sR_15_3 hs, sR_15_5 hs, sR_15_6 hs, sR_15_7 hs, sR_15_8 hs, sR_15_9 hs, sR_15_10 hs, sR_15_11 hs, sR_15_12 hs, sR_15_13 hs, e2, VR_slp hv hi, VR_f6 hv hi, eA, hb, not_true, pf_1 (Or.inr rfl)]
      · refine rD_un.trans ?_
        have hsu : Sh (uI σ (vQ σ (nowA σ) i) 6 1) := hs
        have hn' : pI (uI σ (vQ σ (nowA σ) i) 6 1) 35 0 = nI n := by rw [pI_uI_ne _ _ _ (by omega)]; exact hn
        have ha' : pI (uI σ (vQ σ (nowA σ) i) 6 1) 35 8 = nI A := by rw [pI_uI_ne _ _ _ (by omega)]; exact eA
        simp only [D_X12_wake, B_X12_wake, ↓rE_eK, ↓rE_eLi, ↓rE_eLj, ↓rE_eLa, ↓rE_eU, ↓rE_eB, ↓rE_eG, ↓rE_eIF, ↓rE_eAI, ↓rE_eAX, ↓rE_eAJ, ↓rE_eAR, ↓rE_eLen, ↓rE_eSI, ↓rE_eC, ↓rE_eCall, ↓rE_eNew, ↓rE_eNewA, ↓rE_eInst, ↓rC_cI, ↓rC_cZ0, ↓rC_cN, ↓rC_cNot, ↓rC_cAnd, ↓rC_cOr, ↓rA_aN, ↓rA_aC, ↓rS_sP, ↓rS_sUF, ↓rS_sAI, ↓rS_sAJ, ↓rS_sAR, ↓rS_sUA, ↓rS_sCall, ↓rS_sObj, ↓rS_sSi, ↓rS_sSa, ↓rS_sSj, ↓rS_sInc, ↓rS_sSkip, ↓rS_sSeq, ↓rS_sIf, ↓rS_sRetI, ↓rS_sRetJ, ↓rS_sRetA, ↓rS_sRetV, ↓rS_sSw, ↓rD_meth, ↓rD_on, ↓kR_ref, ↓kI_int, ↓kJ_long, ↓kN_null, ↓kN_ref, ↓kN_rf, ↓kQ_ref, ↓kQ_null, ↓kQ_rf, o1_i, o1ij_i, o1ji_i, o2_i, o2d_i, o2j_i, o2ji_i, o2c_i, fv_0, fv_1, fv_2, fv_3, pf_0, pf_2, pf_3, pf_4, rf_s, rf_n, is_self, ge_0, ge_s, ge_n, gd_s, gd_n, se_0, se_s, ag_0, ex_n, ex_i, ex_r, ex_0, ex_j, ex_q, ap_c, ap_n, List.append_nil, ln_c, ln_n, rp_0, rp_s, rt_0, rt_1, rt_20, rt_21, rt_2, rt_3, rt_4, rt_4n, rt_4q, nl_0, nl_1, nl_2, nl_3, nl_4, nl_5, nl_6, nl_7, nl_8, nl_9, nlB_i, nlB_r, nlB_n, nlB_f, nlB_q, ↓reduceIte, reduceCtorEq, Nat.reduceAdd, Nat.reduceSub, Nat.reduceEqDiff, Nat.reduceLeDiff, Nat.reduceBEq, ite_true, ite_false, dt_t, Bool.not_true, Bool.not_false, Bool.false_eq_true, Nat.le_refl, true_and, and_true, true_or, or_true, false_or, or_false, false_and, and_false, qEq, qNe, qLt, qGe, qGt, qLe, rD_tb1, rD_of (d_has _ _ _), rD_of (d_isPerson _ hsu hn' h8), sT_35 hsu, sT_36 hsu, sT_37 hsu, sT_38 hsu, sT_39 hsu, sT_40 hsu, sT_41 hsu, sT_42 hsu, sT_43 hsu, sT_44 hsu, sT_45 hsu, sT_46 hsu, sT_47 hsu, sT_48 hsu, sT_49 hsu, sT_50 hsu, sT_51 hsu, sT_52 hsu, sT_53 hsu, sT_54 hsu, sT_55 hsu, sT_56 hsu, sT_57 hsu, sT_58 hsu, sT_59 hsu, sT_60 hsu, sT_61 hsu, sT_62 hsu, sT_63 hsu, sT_64 hsu, sT_65 hsu, sL_36 hsu, sL_37 hsu, sL_38 hsu, sL_39 hsu, sL_40 hsu, sL_41 hsu, sL_42 hsu, sL_43 hsu, sL_44 hsu, sL_45 hsu, sL_46 hsu, sL_47 hsu, sL_48 hsu, sL_49 hsu, sL_50 hsu, sL_51 hsu, sL_52 hsu, sL_53 hsu, sL_54 hsu, sL_55 hsu, sL_56 hsu, sL_57 hsu, sL_58 hsu, sL_59 hsu, sL_60 hsu, sL_61 hsu, sL_62 hsu, sL_63 hsu, sL_64 hsu, sL_65 hsu, sR_35_1 hsu, sR_35_2 hsu, sR_35_3 hsu, sR_35_4 hsu, sR_35_5 hsu, sR_35_6 hsu, sR_35_7 hsu, sR_35_11 hsu, sR_35_21 hsu, sR_35_22 hsu, sR_35_23 hsu, sR_35_24 hsu, sR_35_25 hsu, sR_35_26 hsu, sR_35_27 hsu, sR_35_28 hsu, sR_35_29 hsu, sR_35_30 hsu, sR_35_31 hsu, sR_35_32 hsu, sR_35_35 hsu, sR_35_37 hsu, sR_35_38 hsu, sR_35_39 hsu, sR_35_40 hsu, sR_35_41 hsu, sR_35_42 hsu, sR_35_46 hsu, sR_35_50 hsu, sR_35_52 hsu, rt_2b, b32_ne, nt_t, hp, ha', hb, not_true, nI_shl (show i < 8 by omega), nI_or]
        simp
      · exact Nat.lt_of_lt_of_le (hA0 q) Nat.left_le_or
      · rw [hobit i hi]; simp
      · intro j hj hne
        rw [hobit j hj, eA, bt_nI hA8 (by omega)]
        simp [Ne.symm hne]
      · rw [cur_scal (Or.inl rfl), cur_uI (by omega)]
  · refine ⟨-1, σ, σ, n, ?_, ?_, h, by omega, by omega⟩
    · refine rD_un.trans ?_
      simp only [D_X11_wake, B_X11_wake, ↓rE_eK, ↓rE_eLi, ↓rE_eLj, ↓rE_eLa, ↓rE_eU, ↓rE_eB, ↓rE_eG, ↓rE_eIF, ↓rE_eAI, ↓rE_eAX, ↓rE_eAJ, ↓rE_eAR, ↓rE_eLen, ↓rE_eSI, ↓rE_eC, ↓rE_eCall, ↓rE_eNew, ↓rE_eNewA, ↓rE_eInst, ↓rC_cI, ↓rC_cZ0, ↓rC_cN, ↓rC_cNot, ↓rC_cAnd, ↓rC_cOr, ↓rA_aN, ↓rA_aC, ↓rS_sP, ↓rS_sUF, ↓rS_sAI, ↓rS_sAJ, ↓rS_sAR, ↓rS_sUA, ↓rS_sCall, ↓rS_sObj, ↓rS_sSi, ↓rS_sSa, ↓rS_sSj, ↓rS_sInc, ↓rS_sSkip, ↓rS_sSeq, ↓rS_sIf, ↓rS_sRetI, ↓rS_sRetJ, ↓rS_sRetA, ↓rS_sRetV, ↓rS_sSw, ↓rD_meth, ↓rD_on, ↓kR_ref, ↓kI_int, ↓kJ_long, ↓kN_null, ↓kN_ref, ↓kN_rf, ↓kQ_ref, ↓kQ_null, ↓kQ_rf, o1_i, o1ij_i, o1ji_i, o2_i, o2d_i, o2j_i, o2ji_i, o2c_i, fv_0, fv_1, fv_2, fv_3, pf_0, pf_2, pf_3, pf_4, rf_s, rf_n, is_self, ge_0, ge_s, ge_n, gd_s, gd_n, se_0, se_s, ag_0, ex_n, ex_i, ex_r, ex_0, ex_j, ex_q, ap_c, ap_n, List.append_nil, ln_c, ln_n, rp_0, rp_s, rt_0, rt_1, rt_20, rt_21, rt_2, rt_3, rt_4, rt_4n, rt_4q, nl_0, nl_1, nl_2, nl_3, nl_4, nl_5, nl_6, nl_7, nl_8, nl_9, nlB_i, nlB_r, nlB_n, nlB_f, nlB_q, ↓reduceIte, reduceCtorEq, Nat.reduceAdd, Nat.reduceSub, Nat.reduceEqDiff, Nat.reduceLeDiff, Nat.reduceBEq, ite_true, ite_false, dt_t, Bool.not_true, Bool.not_false, Bool.false_eq_true, Nat.le_refl, true_and, and_true, true_or, or_true, false_or, or_false, false_and, and_false, qEq, qNe, qLt, qGe, qGt, qLe, hr, rD_tb1 (VR_T hv), rD_of (d_at_f hv hp), sT_11 hs, sT_12 hs, sT_13 hs, sT_14 hs, sT_15 hs, sT_16 hs, sT_17 hs, sT_18 hs, sT_19 hs, sT_20 hs, sT_21 hs, sT_22 hs, sT_23 hs, sT_24 hs, sT_25 hs, sT_26 hs, sT_27 hs, sT_28 hs, sT_29 hs, sT_30 hs, sT_31 hs, sT_32 hs, sT_33 hs, sT_34 hs, sL_13 hs, sL_14 hs, sL_16 hs, sL_17 hs, sL_18 hs, sL_19 hs, sL_20 hs, sL_21 hs, sL_22 hs, sL_23 hs, sL_24 hs, sL_25 hs, sL_26 hs, sL_28 hs, sL_30 hs, sL_31 hs, sL_32 hs, sL_33 hs, sL_34 hs, sR_11_2 hs, sR_11_3 hs, sR_11_4 hs, sR_11_5 hs, sR_11_7 hs, sR_11_8 hs, sR_11_9 hs, sR_27_0 hs, sR_29_0 hs, sR_15_0 hs, sR_15_3 hs, sR_15_5 hs, sR_15_6 hs, sR_15_7 hs, sR_15_8 hs, sR_15_9 hs, sR_15_10 hs, sR_15_11 hs, sR_15_12 hs, sR_15_13 hs]
    · refine rD_un.trans ?_
      simp only [D_X12_wake, B_X12_wake, ↓rE_eK, ↓rE_eLi, ↓rE_eLj, ↓rE_eLa, ↓rE_eU, ↓rE_eB, ↓rE_eG, ↓rE_eIF, ↓rE_eAI, ↓rE_eAX, ↓rE_eAJ, ↓rE_eAR, ↓rE_eLen, ↓rE_eSI, ↓rE_eC, ↓rE_eCall, ↓rE_eNew, ↓rE_eNewA, ↓rE_eInst, ↓rC_cI, ↓rC_cZ0, ↓rC_cN, ↓rC_cNot, ↓rC_cAnd, ↓rC_cOr, ↓rA_aN, ↓rA_aC, ↓rS_sP, ↓rS_sUF, ↓rS_sAI, ↓rS_sAJ, ↓rS_sAR, ↓rS_sUA, ↓rS_sCall, ↓rS_sObj, ↓rS_sSi, ↓rS_sSa, ↓rS_sSj, ↓rS_sInc, ↓rS_sSkip, ↓rS_sSeq, ↓rS_sIf, ↓rS_sRetI, ↓rS_sRetJ, ↓rS_sRetA, ↓rS_sRetV, ↓rS_sSw, ↓rD_meth, ↓rD_on, ↓kR_ref, ↓kI_int, ↓kJ_long, ↓kN_null, ↓kN_ref, ↓kN_rf, ↓kQ_ref, ↓kQ_null, ↓kQ_rf, o1_i, o1ij_i, o1ji_i, o2_i, o2d_i, o2j_i, o2ji_i, o2c_i, fv_0, fv_1, fv_2, fv_3, pf_0, pf_2, pf_3, pf_4, rf_s, rf_n, is_self, ge_0, ge_s, ge_n, gd_s, gd_n, se_0, se_s, ag_0, ex_n, ex_i, ex_r, ex_0, ex_j, ex_q, ap_c, ap_n, List.append_nil, ln_c, ln_n, rp_0, rp_s, rt_0, rt_1, rt_20, rt_21, rt_2, rt_3, rt_4, rt_4n, rt_4q, nl_0, nl_1, nl_2, nl_3, nl_4, nl_5, nl_6, nl_7, nl_8, nl_9, nlB_i, nlB_r, nlB_n, nlB_f, nlB_q, ↓reduceIte, reduceCtorEq, Nat.reduceAdd, Nat.reduceSub, Nat.reduceEqDiff, Nat.reduceLeDiff, Nat.reduceBEq, ite_true, ite_false, dt_t, Bool.not_true, Bool.not_false, Bool.false_eq_true, Nat.le_refl, true_and, and_true, true_or, or_true, false_or, or_false, false_and, and_false, qEq, qNe, qLt, qGe, qGt, qLe, rD_tb1, rD_of (d_has _ _ _), rD_of (d_isPerson _ hs hn h8), sT_35 hs, sT_36 hs, sT_37 hs, sT_38 hs, sT_39 hs, sT_40 hs, sT_41 hs, sT_42 hs, sT_43 hs, sT_44 hs, sT_45 hs, sT_46 hs, sT_47 hs, sT_48 hs, sT_49 hs, sT_50 hs, sT_51 hs, sT_52 hs, sT_53 hs, sT_54 hs, sT_55 hs, sT_56 hs, sT_57 hs, sT_58 hs, sT_59 hs, sT_60 hs, sT_61 hs, sT_62 hs, sT_63 hs, sT_64 hs, sT_65 hs, sL_36 hs, sL_37 hs, sL_38 hs, sL_39 hs, sL_40 hs, sL_41 hs, sL_42 hs, sL_43 hs, sL_44 hs, sL_45 hs, sL_46 hs, sL_47 hs, sL_48 hs, sL_49 hs, sL_50 hs, sL_51 hs, sL_52 hs, sL_53 hs, sL_54 hs, sL_55 hs, sL_56 hs, sL_57 hs, sL_58 hs, sL_59 hs, sL_60 hs, sL_61 hs, sL_62 hs, sL_63 hs, sL_64 hs, sL_65 hs, sR_35_1 hs, sR_35_2 hs, sR_35_3 hs, sR_35_4 hs, sR_35_5 hs, sR_35_6 hs, sR_35_7 hs, sR_35_11 hs, sR_35_21 hs, sR_35_22 hs, sR_35_23 hs, sR_35_24 hs, sR_35_25 hs, sR_35_26 hs, sR_35_27 hs, sR_35_28 hs, sR_35_29 hs, sR_35_30 hs, sR_35_31 hs, sR_35_32 hs, sR_35_35 hs, sR_35_37 hs, sR_35_38 hs, sR_35_39 hs, sR_35_40 hs, sR_35_41 hs, sR_35_42 hs, sR_35_46 hs, sR_35_50 hs, sR_35_52 hs, rt_2b, b32_ne, nt_t, hp, not_false_eq_true]
