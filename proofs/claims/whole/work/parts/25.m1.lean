/-! Numbers, and the reference's small methods. -/
def b32 (P : Prop) [Decidable P] : Int32 := if P then 1 else 0
theorem b32_ne {P : Prop} [Decidable P] : (¬ b32 P = 0) = P := by by_cases h : P <;> simp [b32, h]
theorem b32_eq0 {P : Prop} [Decidable P] : (b32 P = 0) = ¬ P := by by_cases h : P <;> simp [b32, h]
theorem b32_eq1 {P : Prop} [Decidable P] : (b32 P = 1) = P := by by_cases h : P <;> simp [b32, h]
theorem b32_t {P : Prop} [Decidable P] (h : P) : b32 P = 1 := if_pos h
theorem b32_f {P : Prop} [Decidable P] (h : ¬ P) : b32 P = 0 := if_neg h
theorem rt_2b {P : Prop} [Decidable P] : pm_rt 2 (some (.int (b32 P))) = true := by by_cases h : P <;> simp [b32, h, rt_20, rt_21]
theorem nt_t {P : Prop} [Decidable P] : ((!decide P) = true) = ¬ P := by by_cases h : P <;> simp [h]
theorem i_le {x z : Int32} : x ≤ z ↔ x.toInt ≤ z.toInt := Int32.le_iff_toInt_le
theorem i_lt {x z : Int32} : x < z ↔ x.toInt < z.toInt := Int32.lt_iff_toInt_lt
theorem i_eq {x z : Int32} : x = z ↔ x.toInt = z.toInt := ⟨fun h => by rw [h], fun h => Int32.toInt_inj.mp h⟩
theorem i_clamp (x : Int32) : x.toNatClampNeg = x.toInt.toNat := rfl
theorem i_bd (x : Int32) : -2147483648 ≤ x.toInt ∧ x.toInt < 2147483648 := by
  have h1 := Int32.le_toInt x
  have h2 := Int32.toInt_lt x
  constructor <;> omega
theorem i_0 : (0 : Int32).toInt = 0 := by decide
theorem ib_iff {p : Int32} {n : Nat} : ib p n = true ↔ 0 ≤ p.toInt ∧ p.toInt < n := by
  simp only [ib, Bool.and_eq_true, Bool.not_eq_true', decide_eq_false_iff_not, decide_eq_true_eq, i_clamp, i_lt, i_0]
  omega
theorem ib_nI {i n : Nat} (h : i < n) (hn : n ≤ 1000000) : ib (nI i) n = true := by
  rw [ib_iff, nI_toInt (by omega)]; omega
theorem ib_ex {p : Int32} {n : Nat} (h : ib p n = true) : ∃ i, i < n ∧ p = nI i ∧ p.toNatClampNeg = i := by
  rw [ib_iff] at h
  have hb := i_bd p
  refine ⟨p.toInt.toNat, by omega, ?_, rfl⟩
  rw [i_eq, nI_toInt (by omega)]
  omega
theorem ib_mono {p : Int32} {n m : Nat} (h : ib p n = true) (hm : n ≤ m) : ib p m = true := by
  rw [ib_iff] at h ⊢
  omega
theorem nI_cl {i : Nat} (h : i < 2147483648) : (nI i).toNatClampNeg = i := by
  rw [i_clamp, nI_toInt (by omega)]; omega
theorem nI_sub1 {n : Nat} (h : n ≤ 1000000) : (nI n - 1).toInt = (n : Int) - 1 := by
  cases n with
  | zero => decide
  | succ k => rw [nI_pred, nI_toInt (by omega)]; omega
theorem per_m {p : Int32} {n : Nat} (hn : n ≤ 1000000) : (0 ≤ p ∧ p ≤ nI n - 1) = (ib p n = true) := by
  apply propext
  rw [ib_iff, i_le, i_le, i_0, nI_sub1 hn]
  omega
theorem per_x {p : Int32} {n : Nat} (hn : n ≤ 1000000) : (0 ≤ p ∧ p < nI n) = (ib p n = true) := by
  apply propext
  rw [ib_iff, i_le, i_lt, i_0, nI_toInt (by omega)]
theorem nI_inj {a b : Nat} (ha : a < 2147483648) (hb : b < 2147483648) : (nI a = nI b) = (a = b) := by
  apply propext
  rw [i_eq, nI_toInt (by omega), nI_toInt (by omega)]
  omega
theorem nI_le' {a b : Nat} (ha : a < 2147483648) (hb : b < 2147483648) : (nI a ≤ nI b) = (a ≤ b) := by
  apply propext
  rw [i_le, nI_toInt (by omega), nI_toInt (by omega)]
  omega
theorem nI_lt' {a b : Nat} (ha : a < 2147483648) (hb : b < 2147483648) : (nI a < nI b) = (a < b) := by
  apply propext
  rw [i_lt, nI_toInt (by omega), nI_toInt (by omega)]
  omega
theorem d_in (v a b : Int32) (σ : pm_H) : D_X12_in [.int v, .int a, .int b] σ = some (some (.int (b32 (a ≤ v ∧ v ≤ b))), σ) := by
  refine rD_un.trans ?_
  simp only [D_X12_in, B_X12_in, ↓rE_eK, ↓rE_eLi, ↓rE_eLj, ↓rE_eLa, ↓rE_eU, ↓rE_eB, ↓rE_eG, ↓rE_eIF, ↓rE_eAI, ↓rE_eAX, ↓rE_eAJ, ↓rE_eAR, ↓rE_eLen, ↓rE_eSI, ↓rE_eC, ↓rE_eCall, ↓rE_eNew, ↓rE_eNewA, ↓rE_eInst, ↓rC_cI, ↓rC_cZ0, ↓rC_cN, ↓rC_cNot, ↓rC_cAnd, ↓rC_cOr, ↓rA_aN, ↓rA_aC, ↓rS_sP, ↓rS_sUF, ↓rS_sAI, ↓rS_sAJ, ↓rS_sAR, ↓rS_sUA, ↓rS_sCall, ↓rS_sObj, ↓rS_sSi, ↓rS_sSa, ↓rS_sSj, ↓rS_sInc, ↓rS_sSkip, ↓rS_sSeq, ↓rS_sIf, ↓rS_sRetI, ↓rS_sRetJ, ↓rS_sRetA, ↓rS_sRetV, ↓rS_sSw, ↓rD_meth, ↓rD_on, ↓kR_ref, ↓kI_int, ↓kJ_long, ↓kN_null, ↓kN_ref, ↓kN_rf, ↓kQ_ref, ↓kQ_null, ↓kQ_rf, o1_i, o1ij_i, o1ji_i, o2_i, o2d_i, o2j_i, o2ji_i, o2c_i, fv_0, fv_1, fv_2, fv_3, pf_0, pf_2, pf_3, pf_4, rf_s, rf_n, is_self, ge_0, ge_s, ge_n, gd_s, gd_n, se_0, se_s, ag_0, ex_n, ex_i, ex_r, ex_0, ex_j, ex_q, ap_c, ap_n, List.append_nil, ln_c, ln_n, rp_0, rp_s, rt_0, rt_1, rt_20, rt_21, rt_2, rt_3, rt_4, rt_4n, rt_4q, nl_0, nl_1, nl_2, nl_3, nl_4, nl_5, nl_6, nl_7, nl_8, nl_9, nlB_i, nlB_r, nlB_n, nlB_f, nlB_q, ↓reduceIte, reduceCtorEq, Nat.reduceAdd, Nat.reduceSub, Nat.reduceEqDiff, Nat.reduceLeDiff, Nat.reduceBEq, ite_true, ite_false, dt_t, Bool.not_true, Bool.not_false, Bool.false_eq_true, Nat.le_refl, true_and, and_true, true_or, or_true, false_or, or_false, false_and, and_false, qEq, qNe, qLt, qGe, qGt, qLe]
  by_cases h1 : a ≤ v <;> by_cases h2 : v ≤ b <;> simp [b32, h1, h2]
/-- a place of a set -/
def bt (s p : Int32) : Int32 := s >>> (p &&& 31) &&& 1
theorem d_has (s p : Int32) (σ : pm_H) : D_X12_has [.int s, .int p] σ = some (some (.int (b32 (bt s p = 1))), σ) := by
  refine rD_un.trans ?_
  simp only [D_X12_has, B_X12_has, ↓rE_eK, ↓rE_eLi, ↓rE_eLj, ↓rE_eLa, ↓rE_eU, ↓rE_eB, ↓rE_eG, ↓rE_eIF, ↓rE_eAI, ↓rE_eAX, ↓rE_eAJ, ↓rE_eAR, ↓rE_eLen, ↓rE_eSI, ↓rE_eC, ↓rE_eCall, ↓rE_eNew, ↓rE_eNewA, ↓rE_eInst, ↓rC_cI, ↓rC_cZ0, ↓rC_cN, ↓rC_cNot, ↓rC_cAnd, ↓rC_cOr, ↓rA_aN, ↓rA_aC, ↓rS_sP, ↓rS_sUF, ↓rS_sAI, ↓rS_sAJ, ↓rS_sAR, ↓rS_sUA, ↓rS_sCall, ↓rS_sObj, ↓rS_sSi, ↓rS_sSa, ↓rS_sSj, ↓rS_sInc, ↓rS_sSkip, ↓rS_sSeq, ↓rS_sIf, ↓rS_sRetI, ↓rS_sRetJ, ↓rS_sRetA, ↓rS_sRetV, ↓rS_sSw, ↓rD_meth, ↓rD_on, ↓kR_ref, ↓kI_int, ↓kJ_long, ↓kN_null, ↓kN_ref, ↓kN_rf, ↓kQ_ref, ↓kQ_null, ↓kQ_rf, o1_i, o1ij_i, o1ji_i, o2_i, o2d_i, o2j_i, o2ji_i, o2c_i, fv_0, fv_1, fv_2, fv_3, pf_0, pf_2, pf_3, pf_4, rf_s, rf_n, is_self, ge_0, ge_s, ge_n, gd_s, gd_n, se_0, se_s, ag_0, ex_n, ex_i, ex_r, ex_0, ex_j, ex_q, ap_c, ap_n, List.append_nil, ln_c, ln_n, rp_0, rp_s, rt_0, rt_1, rt_20, rt_21, rt_2, rt_3, rt_4, rt_4n, rt_4q, nl_0, nl_1, nl_2, nl_3, nl_4, nl_5, nl_6, nl_7, nl_8, nl_9, nlB_i, nlB_r, nlB_n, nlB_f, nlB_q, ↓reduceIte, reduceCtorEq, Nat.reduceAdd, Nat.reduceSub, Nat.reduceEqDiff, Nat.reduceLeDiff, Nat.reduceBEq, ite_true, ite_false, dt_t, Bool.not_true, Bool.not_false, Bool.false_eq_true, Nat.le_refl, true_and, and_true, true_or, or_true, false_or, or_false, false_and, and_false, qEq, qNe, qLt, qGe, qGt, qLe]
  by_cases h1 : bt s p = 1
  · rw [if_pos (by exact h1)]; simp [b32, h1]
  · rw [if_neg (by exact h1)]; simp [b32, h1]
theorem d_isPerson (p : Int32) {σ : pm_H} (h : Sh σ) {n : Nat} (hn : pI σ 35 0 = nI n) (hn8 : n ≤ 8) : D_X12_isPerson [.ref 35, .int p] σ = some (some (.int (b32 (ib p n = true))), σ) := by
  refine rD_un.trans ?_
  simp only [D_X12_isPerson, B_X12_isPerson, ↓rE_eK, ↓rE_eLi, ↓rE_eLj, ↓rE_eLa, ↓rE_eU, ↓rE_eB, ↓rE_eG, ↓rE_eIF, ↓rE_eAI, ↓rE_eAX, ↓rE_eAJ, ↓rE_eAR, ↓rE_eLen, ↓rE_eSI, ↓rE_eC, ↓rE_eCall, ↓rE_eNew, ↓rE_eNewA, ↓rE_eInst, ↓rC_cI, ↓rC_cZ0, ↓rC_cN, ↓rC_cNot, ↓rC_cAnd, ↓rC_cOr, ↓rA_aN, ↓rA_aC, ↓rS_sP, ↓rS_sUF, ↓rS_sAI, ↓rS_sAJ, ↓rS_sAR, ↓rS_sUA, ↓rS_sCall, ↓rS_sObj, ↓rS_sSi, ↓rS_sSa, ↓rS_sSj, ↓rS_sInc, ↓rS_sSkip, ↓rS_sSeq, ↓rS_sIf, ↓rS_sRetI, ↓rS_sRetJ, ↓rS_sRetA, ↓rS_sRetV, ↓rS_sSw, ↓rD_meth, ↓rD_on, ↓kR_ref, ↓kI_int, ↓kJ_long, ↓kN_null, ↓kN_ref, ↓kN_rf, ↓kQ_ref, ↓kQ_null, ↓kQ_rf, o1_i, o1ij_i, o1ji_i, o2_i, o2d_i, o2j_i, o2ji_i, o2c_i, fv_0, fv_1, fv_2, fv_3, pf_0, pf_2, pf_3, pf_4, rf_s, rf_n, is_self, ge_0, ge_s, ge_n, gd_s, gd_n, se_0, se_s, ag_0, ex_n, ex_i, ex_r, ex_0, ex_j, ex_q, ap_c, ap_n, List.append_nil, ln_c, ln_n, rp_0, rp_s, rt_0, rt_1, rt_20, rt_21, rt_2, rt_3, rt_4, rt_4n, rt_4q, nl_0, nl_1, nl_2, nl_3, nl_4, nl_5, nl_6, nl_7, nl_8, nl_9, nlB_i, nlB_r, nlB_n, nlB_f, nlB_q, ↓reduceIte, reduceCtorEq, Nat.reduceAdd, Nat.reduceSub, Nat.reduceEqDiff, Nat.reduceLeDiff, Nat.reduceBEq, ite_true, ite_false, dt_t, Bool.not_true, Bool.not_false, Bool.false_eq_true, Nat.le_refl, true_and, and_true, true_or, or_true, false_or, or_false, false_and, and_false, qEq, qNe, qLt, qGe, qGt, qLe, rD_tb1, rD_of (d_in _ _ _ _), sT_35 h, sT_36 h, sT_37 h, sT_38 h, sT_39 h, sT_40 h, sT_41 h, sT_42 h, sT_43 h, sT_44 h, sT_45 h, sT_46 h, sT_47 h, sT_48 h, sT_49 h, sT_50 h, sT_51 h, sT_52 h, sT_53 h, sT_54 h, sT_55 h, sT_56 h, sT_57 h, sT_58 h, sT_59 h, sT_60 h, sT_61 h, sT_62 h, sT_63 h, sT_64 h, sT_65 h, sL_36 h, sL_37 h, sL_38 h, sL_39 h, sL_40 h, sL_41 h, sL_42 h, sL_43 h, sL_44 h, sL_45 h, sL_46 h, sL_47 h, sL_48 h, sL_49 h, sL_50 h, sL_51 h, sL_52 h, sL_53 h, sL_54 h, sL_55 h, sL_56 h, sL_57 h, sL_58 h, sL_59 h, sL_60 h, sL_61 h, sL_62 h, sL_63 h, sL_64 h, sL_65 h, sR_35_1 h, sR_35_2 h, sR_35_3 h, sR_35_4 h, sR_35_5 h, sR_35_6 h, sR_35_7 h, sR_35_11 h, sR_35_21 h, sR_35_22 h, sR_35_23 h, sR_35_24 h, sR_35_25 h, sR_35_26 h, sR_35_27 h, sR_35_28 h, sR_35_29 h, sR_35_30 h, sR_35_31 h, sR_35_32 h, sR_35_35 h, sR_35_37 h, sR_35_38 h, sR_35_39 h, sR_35_40 h, sR_35_41 h, sR_35_42 h, sR_35_46 h, sR_35_50 h, sR_35_52 h, rt_2b, hn, per_m (show n ≤ 1000000 by omega)]
theorem d_voice_m (p v : Int32) {σ : pm_H} (h : Sh σ) {n : Nat} (hn : pI σ 35 0 = nI n) (hn8 : n ≤ 8) : D_X12_voice [.ref 35, .int p, .int v] σ = some (if ib p n = true ∧ (0 ≤ v ∧ v ≤ 200) then (some (.int (pI σ 38 p.toNatClampNeg)), uI σ 38 p.toNatClampNeg v) else (some (.int (-1)), σ)) := by
  refine rD_un.trans ?_
  simp only [D_X12_voice, B_X12_voice, ↓rE_eK, ↓rE_eLi, ↓rE_eLj, ↓rE_eLa, ↓rE_eU, ↓rE_eB, ↓rE_eG, ↓rE_eIF, ↓rE_eAI, ↓rE_eAX, ↓rE_eAJ, ↓rE_eAR, ↓rE_eLen, ↓rE_eSI, ↓rE_eC, ↓rE_eCall, ↓rE_eNew, ↓rE_eNewA, ↓rE_eInst, ↓rC_cI, ↓rC_cZ0, ↓rC_cN, ↓rC_cNot, ↓rC_cAnd, ↓rC_cOr, ↓rA_aN, ↓rA_aC, ↓rS_sP, ↓rS_sUF, ↓rS_sAI, ↓rS_sAJ, ↓rS_sAR, ↓rS_sUA, ↓rS_sCall, ↓rS_sObj, ↓rS_sSi, ↓rS_sSa, ↓rS_sSj, ↓rS_sInc, ↓rS_sSkip, ↓rS_sSeq, ↓rS_sIf, ↓rS_sRetI, ↓rS_sRetJ, ↓rS_sRetA, ↓rS_sRetV, ↓rS_sSw, ↓rD_meth, ↓rD_on, ↓kR_ref, ↓kI_int, ↓kJ_long, ↓kN_null, ↓kN_ref, ↓kN_rf, ↓kQ_ref, ↓kQ_null, ↓kQ_rf, o1_i, o1ij_i, o1ji_i, o2_i, o2d_i, o2j_i, o2ji_i, o2c_i, fv_0, fv_1, fv_2, fv_3, pf_0, pf_2, pf_3, pf_4, rf_s, rf_n, is_self, ge_0, ge_s, ge_n, gd_s, gd_n, se_0, se_s, ag_0, ex_n, ex_i, ex_r, ex_0, ex_j, ex_q, ap_c, ap_n, List.append_nil, ln_c, ln_n, rp_0, rp_s, rt_0, rt_1, rt_20, rt_21, rt_2, rt_3, rt_4, rt_4n, rt_4q, nl_0, nl_1, nl_2, nl_3, nl_4, nl_5, nl_6, nl_7, nl_8, nl_9, nlB_i, nlB_r, nlB_n, nlB_f, nlB_q, ↓reduceIte, reduceCtorEq, Nat.reduceAdd, Nat.reduceSub, Nat.reduceEqDiff, Nat.reduceLeDiff, Nat.reduceBEq, ite_true, ite_false, dt_t, Bool.not_true, Bool.not_false, Bool.false_eq_true, Nat.le_refl, true_and, and_true, true_or, or_true, false_or, or_false, false_and, and_false, qEq, qNe, qLt, qGe, qGt, qLe, rD_tb1, rD_of (d_in _ _ _ _), rD_of (d_isPerson _ h hn hn8), sT_35 h, sT_36 h, sT_37 h, sT_38 h, sT_39 h, sT_40 h, sT_41 h, sT_42 h, sT_43 h, sT_44 h, sT_45 h, sT_46 h, sT_47 h, sT_48 h, sT_49 h, sT_50 h, sT_51 h, sT_52 h, sT_53 h, sT_54 h, sT_55 h, sT_56 h, sT_57 h, sT_58 h, sT_59 h, sT_60 h, sT_61 h, sT_62 h, sT_63 h, sT_64 h, sT_65 h, sL_36 h, sL_37 h, sL_38 h, sL_39 h, sL_40 h, sL_41 h, sL_42 h, sL_43 h, sL_44 h, sL_45 h, sL_46 h, sL_47 h, sL_48 h, sL_49 h, sL_50 h, sL_51 h, sL_52 h, sL_53 h, sL_54 h, sL_55 h, sL_56 h, sL_57 h, sL_58 h, sL_59 h, sL_60 h, sL_61 h, sL_62 h, sL_63 h, sL_64 h, sL_65 h, sR_35_1 h, sR_35_2 h, sR_35_3 h, sR_35_4 h, sR_35_5 h, sR_35_6 h, sR_35_7 h, sR_35_11 h, sR_35_21 h, sR_35_22 h, sR_35_23 h, sR_35_24 h, sR_35_25 h, sR_35_26 h, sR_35_27 h, sR_35_28 h, sR_35_29 h, sR_35_30 h, sR_35_31 h, sR_35_32 h, sR_35_35 h, sR_35_37 h, sR_35_38 h, sR_35_39 h, sR_35_40 h, sR_35_41 h, sR_35_42 h, sR_35_46 h, sR_35_50 h, sR_35_52 h, rt_2b, b32_ne, nt_t]
  by_cases h1 : ib p n = true
  · have h8 := ib_mono h1 hn8
    by_cases h2 : 0 ≤ v ∧ v ≤ 200
    · simp [h1, h2, h8]
    · simp [h1, h2]
  · simp [h1]
