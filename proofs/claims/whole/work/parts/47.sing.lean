/-! sing. -/
theorem mn_9999 (v : Int32) : (if v < 9999 then v else 9999) = if 9999 < v then 9999 else v := by
  by_cases h1 : v < 9999
  · have h2 : ¬ 9999 < v := by rw [Int32.not_lt]; exact Int32.le_of_lt h1
    rw [if_pos h1, if_neg h2]
  · by_cases h2 : 9999 < v
    · rw [if_neg h1, if_pos h2]
    · rw [if_neg h1, if_neg h2]
      rw [Int32.not_lt] at h1 h2
      exact Int32.le_antisymm h1 h2
/-- i was sung to by s: who pays, who owes -/
def stW (vd : Nat → Int32) (s i : Nat) : Nat → Int32 := if vd (4 + i) = 5 then upd (upd vd (28 + i) (vd (28 + i) - 2 * nd vd i)) (28 + s) (vd (28 + s) + 2 * nd vd i) else upd vd (52 + (8 * i + s)) (if 9999 < vd (52 + (8 * i + s)) + nd vd i then 9999 else vd (52 + (8 * i + s)) + nd vd i)
theorem stW_low (vd : Nat → Int32) (s i : Nat) {j : Nat} (hj : j < 28) : stW vd s i j = vd j := by
  unfold stW
  split
  · rw [upd_ne _ _ (by omega), upd_ne _ _ (by omega)]
  · rw [upd_ne _ _ (by omega)]
theorem d_settleWith {σ0 σ : pm_H} {n : Nat} {vd : Nat → Int32} (hc : Cls n σ0 σ) (h : VR σ (nowA σ0) vd n) {s i : Nat} (hs : s < n) (hi : i < n) (hne : i ≠ s) : ∃ σ', D_X10_settleWith [.ref (nowA σ0), .ref (vQ σ (nowA σ0) s), .ref (vQ σ (nowA σ0) i)] σ = some (none, σ') ∧ Cls n σ0 σ' ∧ VR σ' (nowA σ0) (stW vd s i) n := by
  have h8 := VR_8 h
  by_cases h5 : vd (4 + i) = 5
  · have hv1 := VR_set h hi (f := 3) (by decide) (by decide) (x := vd (28 + i) - 2 * nd vd i) (vOk_set h.1 (by decide))
    have hv2 := VR_set hv1 hs (f := 3) (by decide) (by decide) (x := vd (28 + s) + 2 * nd vd i) (vOk_set hv1.1 (by decide))
    have hne2 : vQ σ (nowA σ0) s ≠ vQ σ (nowA σ0) i := fun e => hne (VR_inj h hs hi e).symm
    refine ⟨_, ?_, ?_, by unfold stW; rw [if_pos h5]; exact hv2⟩
    · refine rD_un.trans ?_
      have hf3 : pI (uI σ (vQ σ (nowA σ0) i) 3 (vd (28 + i) - 2 * nd vd i)) (vQ σ (nowA σ0) s) 3 = vd (28 + s) := by rw [pI_uI_ne _ _ _ hne2]; exact VR_f3 h hs
      simp only [D_X10_settleWith, B_X10_settleWith, ↓rE_eK, ↓rE_eLi, ↓rE_eLj, ↓rE_eLa, ↓rE_eU, ↓rE_eB, ↓rE_eG, ↓rE_eIF, ↓rE_eAI, ↓rE_eAX, ↓rE_eAJ, ↓rE_eAR, ↓rE_eLen, ↓rE_eSI, ↓rE_eC, ↓rE_eCall, ↓rE_eNew, ↓rE_eNewA, ↓rE_eInst, ↓rC_cI, ↓rC_cZ0, ↓rC_cN, ↓rC_cNot, ↓rC_cAnd, ↓rC_cOr, ↓rA_aN, ↓rA_aC, ↓rS_sP, ↓rS_sUF, ↓rS_sAI, ↓rS_sAJ, ↓rS_sAR, ↓rS_sUA, ↓rS_sCall, ↓rS_sObj, ↓rS_sSi, ↓rS_sSa, ↓rS_sSj, ↓rS_sInc, ↓rS_sSkip, ↓rS_sSeq, ↓rS_sIf, ↓rS_sRetI, ↓rS_sRetJ, ↓rS_sRetA, ↓rS_sRetV, ↓rS_sSw, ↓rD_meth, ↓rD_on, ↓kR_ref, ↓kI_int, ↓kJ_long, ↓kN_null, ↓kN_ref, ↓kN_rf, ↓kQ_ref, ↓kQ_null, ↓kQ_rf, o1_i, o1ij_i, o1ji_i, o2_i, o2d_i, o2j_i, o2ji_i, o2c_i, fv_0, fv_1, fv_2, fv_3, pf_0, pf_2, pf_3, pf_4, rf_s, rf_n, is_self, ge_0, ge_s, ge_n, gd_s, gd_n, se_0, se_s, ag_0, ex_n, ex_i, ex_r, ex_0, ex_j, ex_q, ap_c, ap_n, List.append_nil, ln_c, ln_n, rp_0, rp_s, rt_0, rt_1, rt_20, rt_21, rt_2, rt_3, rt_4, rt_4n, rt_4q, nl_0, nl_1, nl_2, nl_3, nl_4, nl_5, nl_6, nl_7, nl_8, nl_9, nlB_i, nlB_r, nlB_n, nlB_f, nlB_q, ↓reduceIte, reduceCtorEq, Nat.reduceAdd, Nat.reduceSub, Nat.reduceEqDiff, Nat.reduceLeDiff, Nat.reduceBEq, ite_true, ite_false, dt_t, Bool.not_true, Bool.not_false, Bool.false_eq_true, Nat.le_refl, true_and, and_true, true_or, or_true, false_or, or_false, false_and, and_false, qEq, qNe, qLt, qGe, qGt, qLe, rD_of (v_minutes h hi), rD_of (v_pays h hi), b32_ne, h5, VR_slp h hi, VR_slp h hs, pT_uI, VR_f3 h hi, hf3]
      rfl
    · exact Cls_uI2 (Cls_uI2 hc (fpq hi)) (fpq (σ := uI σ (vQ σ (nowA σ0) i) 3 (vd (28 + i) - 2 * nd vd i)) hs)
  · have hv1 := VR_debt h hi hs hne (x := if 9999 < vd (52 + (8 * i + s)) + nd vd i then 9999 else vd (52 + (8 * i + s)) + nd vd i)
    refine ⟨_, ?_, Cls_uI2 hc (Or.inr (Or.inr (Or.inl rfl))), by unfold stW; rw [if_neg h5]; exact hv1⟩
    refine rD_un.trans ?_
    simp only [D_X10_settleWith, B_X10_settleWith, ↓rE_eK, ↓rE_eLi, ↓rE_eLj, ↓rE_eLa, ↓rE_eU, ↓rE_eB, ↓rE_eG, ↓rE_eIF, ↓rE_eAI, ↓rE_eAX, ↓rE_eAJ, ↓rE_eAR, ↓rE_eLen, ↓rE_eSI, ↓rE_eC, ↓rE_eCall, ↓rE_eNew, ↓rE_eNewA, ↓rE_eInst, ↓rC_cI, ↓rC_cZ0, ↓rC_cN, ↓rC_cNot, ↓rC_cAnd, ↓rC_cOr, ↓rA_aN, ↓rA_aC, ↓rS_sP, ↓rS_sUF, ↓rS_sAI, ↓rS_sAJ, ↓rS_sAR, ↓rS_sUA, ↓rS_sCall, ↓rS_sObj, ↓rS_sSi, ↓rS_sSa, ↓rS_sSj, ↓rS_sInc, ↓rS_sSkip, ↓rS_sSeq, ↓rS_sIf, ↓rS_sRetI, ↓rS_sRetJ, ↓rS_sRetA, ↓rS_sRetV, ↓rS_sSw, ↓rD_meth, ↓rD_on, ↓kR_ref, ↓kI_int, ↓kJ_long, ↓kN_null, ↓kN_ref, ↓kN_rf, ↓kQ_ref, ↓kQ_null, ↓kQ_rf, o1_i, o1ij_i, o1ji_i, o2_i, o2d_i, o2j_i, o2ji_i, o2c_i, fv_0, fv_1, fv_2, fv_3, pf_0, pf_2, pf_3, pf_4, rf_s, rf_n, is_self, ge_0, ge_s, ge_n, gd_s, gd_n, se_0, se_s, ag_0, ex_n, ex_i, ex_r, ex_0, ex_j, ex_q, ap_c, ap_n, List.append_nil, ln_c, ln_n, rp_0, rp_s, rt_0, rt_1, rt_20, rt_21, rt_2, rt_3, rt_4, rt_4n, rt_4q, nl_0, nl_1, nl_2, nl_3, nl_4, nl_5, nl_6, nl_7, nl_8, nl_9, nlB_i, nlB_r, nlB_n, nlB_f, nlB_q, ↓reduceIte, reduceCtorEq, Nat.reduceAdd, Nat.reduceSub, Nat.reduceEqDiff, Nat.reduceLeDiff, Nat.reduceBEq, ite_true, ite_false, dt_t, Bool.not_true, Bool.not_false, Bool.false_eq_true, Nat.le_refl, true_and, and_true, true_or, or_true, false_or, or_false, false_and, and_false, qEq, qNe, qLt, qGe, qGt, qLe, rD_of (v_minutes h hi), rD_of (v_pays h hi), b32_ne, h5, VR_slp h hi, VR_slp h hs, VR_nI h hi, VR_nI h hs, rD_tb1 (VR_T h), rD_of (d_debt h hi hs), rD_of (d_setDebt h hi hs _), rD_of (d_min _ _ _), mn_9999, VR_dd h hi hs hne]
/-- a song of m minutes by s to W, when the first k were reckoned with -/
def sgV (vd : Nat → Int32) (s W : Nat) (m : Int32) : Nat → Nat → Int32
  | 0 => upd (upd vd 2 (vd 2 + m)) (44 + s) (vd (44 + s) + m)
  | k + 1 => if W.testBit k then stW (sgV vd s W m k) s k else sgV vd s W m k
theorem sgV_low (vd : Nat → Int32) (s W : Nat) (m : Int32) (k : Nat) {j : Nat} (hj : j < 28) (h2 : j ≠ 2) : sgV vd s W m k j = vd j := by
  induction k with
  | zero => rw [sgV, upd_ne _ _ (by omega), upd_ne _ _ (by omega)]
  | succ k ih =>
    rw [sgV]
    split
    · rw [stW_low _ _ _ hj, ih]
    · exact ih
theorem upd_comm (f : Nat → Int32) {j k : Nat} (x z : Int32) (h : j ≠ k) : upd (upd f j x) k z = upd (upd f k z) j x := by
  funext i
  by_cases e1 : i = j
  · subst e1; rw [upd_ne _ _ h, upd_at, upd_at]
  · by_cases e2 : i = k
    · subst e2; rw [upd_at, upd_ne _ _ e1, upd_at]
    · rw [upd_ne _ _ e2, upd_ne _ _ e1, upd_ne _ _ e1, upd_ne _ _ e2]
theorem upd_upd (f : Nat → Int32) (j : Nat) (x z : Int32) : upd (upd f j x) j z = upd f j z := by
  funext i
  by_cases e1 : i = j
  · subst e1; rw [upd_at, upd_at]
  · rw [upd_ne _ _ e1, upd_ne _ _ e1, upd_ne _ _ e1]
theorem upd_self (f : Nat → Int32) {j : Nat} {x : Int32} (h : f j = x) : upd f j x = f := by
  funext i
  by_cases e1 : i = j
  · subst e1; rw [upd_at, h]
  · rw [upd_ne _ _ e1]
theorem stW_a (vd : Nat → Int32) (s i : Nat) (x : Int32) : stW (upd vd 1 x) s i = upd (stW vd s i) 1 x := by
  have e1 : nd (upd vd 1 x) i = nd vd i := by unfold nd; rw [upd_ne _ _ (by omega), upd_ne _ _ (by omega)]
  have e2 : ∀ j, 1 < j → upd vd 1 x j = vd j := fun j hj => upd_ne _ _ (by omega)
  unfold stW
  rw [e1, e2 _ (by omega), e2 _ (by omega), e2 _ (by omega), e2 _ (by omega)]
  split
  · rw [upd_comm vd _ _ (show (1 : Nat) ≠ 28 + i by omega), upd_comm _ _ _ (show (1 : Nat) ≠ 28 + s by omega)]
  · rw [upd_comm vd _ _ (show (1 : Nat) ≠ 52 + (8 * i + s) by omega)]
theorem sd_bit_t {A B i : Nat} : (sd A B).testBit i = true ↔ A.testBit i = true ∧ ¬ B.testBit i = true := by
  rw [sd_bit]; cases A.testBit i <;> cases B.testBit i <;> simp
theorem mod_bit (W k i : Nat) : (W % 2 ^ k).testBit i = (decide (i < k) && W.testBit i) := Nat.testBit_mod_two_pow W k i
theorem d_settleSong {Rk : (Nat → Nat → Int32) → Prop} {σ : pm_H} {n : Nat} (hR : Rel Rk σ n) {A s W : Nat} {m : Int32} (hA : A < 2 ^ n) (eA : cur σ 1 = nI A) (hs : s < n) (hW : W < 2 ^ n) (hsA : A.testBit s = true) (hsW : ¬ W.testBit s = true) : ∃ σ', D_X10_settleSong [.ref (nowA σ), .int (nI s), .int (nI W), .int m] σ = some (none, σ') ∧ Cls n σ σ' ∧ VR σ' (nowA σ) (upd (sgV (cur σ) s W m n) 1 (nI (sd A W))) n := by
  have h := Rel_VR hR
  have h8 := VR_8 h
  have hA8 := Nat.lt_of_lt_of_le hA (p2n h8)
  have hW8 := Nat.lt_of_lt_of_le hW (p2n h8)
  have hv1 := VR_scal h (f := 3) (Or.inl rfl) (x := cur σ 2 + m)
  have hc1 : Cls n σ (uI σ (nowA σ) 3 (cur σ 2 + m)) := Cls_uI Cls_rfl (Or.inl rfl)
  have hv2 : VR (uI (uI σ (nowA σ) 3 (cur σ 2 + m)) (vQ σ (nowA σ) s) 5 (cur σ (44 + s) + m)) (nowA σ) (sgV (cur σ) s W m 0) n := VR_set hv1 hs (f := 5) (by decide) (by decide) (x := cur σ (44 + s) + m) (vOk_set hv1.1 (by decide))
  have hc2 : Cls n σ (uI (uI σ (nowA σ) 3 (cur σ 2 + m)) (vQ σ (nowA σ) s) 5 (cur σ (44 + s) + m)) := Cls_uI hc1 (fpq hs)
  have hl : ∃ r σ', sLoop (cI qLt (eLi 5) (eG (is 10) 0 2 (eLa 0))) (sSeq (sSeq (sSa 6 (eAR (eG (is 10) 3 0 (eLa 0)) (eLi 5))) (sIf (cAnd (cNot (cN (eLa 6))) (cI qEq (eB f_iand (eB f_ishr (eLi 2) (eLi 5)) (eK (.int 1))) (eK (.int 1)))) (sSeq (sP pm_slp 1 6 (eLa 6) (eK (.int 0))) (sCall (pm_disp (tb1 10 D_X10_settleWith)) (aC (eLa 0) (aC (eLa 4) (aC (eLa 6) (aN)))))) sSkip)) (sInc 5 1)) [.ref (nowA σ), .int (nI s), .int (nI W), .int m, .ref (vQ σ (nowA σ) s), .int 0, .float 0] (uI (uI σ (nowA σ) 3 (cur σ 2 + m)) (vQ σ (nowA σ) s) 5 (cur σ (44 + s) + m)) = some (r, σ') ∧ (Cls n σ σ' ∧ VR σ' (nowA σ) (upd (sgV (cur σ) s W m n) 1 (nI (sd A W))) n ∧ ∃ w, r = .inl [.ref (nowA σ), .int (nI s), .int (nI W), .int m, .ref (vQ σ (nowA σ) s), .int (nI n), w]) := by
    refine loop_gen (fun i env t => Cls n σ t ∧ VR t (nowA σ) (upd (sgV (cur σ) s W m i) 1 (nI (sd A (W % 2 ^ i)))) n ∧ ∃ w, env = [.ref (nowA σ), .int (nI s), .int (nI W), .int m, .ref (vQ σ (nowA σ) s), .int (nI i), w]) _ n (by omega) ⟨hc2, ?_, .float 0, by rw [nI_0]⟩ ?_
    · rw [upd_self]
      · exact hv2
      · rw [sgV_low _ _ _ _ _ (by decide) (by decide), eA, Nat.pow_zero, Nat.mod_one]
        congr 1
        unfold sd
        simp
    rintro i env t hi ⟨hc, hv, w, rfl⟩
    by_cases e : i < n
    · left
      have hlt : nI i < nI n := by rw [nI_lt' (by omega) (by omega)]; exact e
      have i8 : i < 8 := by omega
      have hb : nI W >>> (nI i &&& 31) &&& 1 = if W.testBit i then 1 else 0 := bt_nI hW8 i8
      have hib := ib_nI i8 (show (8 : Nat) ≤ 1000000 by decide)
      have hcl := nI_cl (show i < 2147483648 by omega)
      have hm := mod_s W i
      by_cases hw : W.testBit i = true
      · rw [if_pos hw] at hb hm
        have hne : i ≠ s := fun q => hsW (by rw [← q]; exact hw)
        have hsd : sd A (W % 2 ^ (i + 1)) < 2 ^ n := sd_lt hA
        have hs8 := Nat.lt_of_lt_of_le hsd (p2n h8)
        have ho8 := Nat.lt_of_lt_of_le (sd_lt (B := W % 2 ^ i) hA) (p2n h8)
        have hva := VR_awake hv e (x := 0) (A := nI (sd A (W % 2 ^ (i + 1)))) (vOk_awake hv.1 hsd (fun _ => ?_)) ?_ ?_
        · have hca : Cls n σ (uI t (vQ t (nowA σ) i) 6 0) := Cls_uI2 hc (fpq e)
          rw [upd_upd] at hva
          obtain ⟨σ', q1, q2, q3⟩ := d_settleWith hca hva hs e hne
          rw [vQ_uI, Cls_q hc _ s] at q1
          refine ⟨[.ref (nowA σ), .int (nI s), .int (nI W), .int m, .ref (vQ σ (nowA σ) s), .int (nI (i + 1)), .ref (vQ t (nowA σ) i)], σ', ?_, e, q2, ?_, _, rfl⟩
          · simp only [lpStep, ↓rE_eK, ↓rE_eLi, ↓rE_eLj, ↓rE_eLa, ↓rE_eU, ↓rE_eB, ↓rE_eG, ↓rE_eIF, ↓rE_eAI, ↓rE_eAX, ↓rE_eAJ, ↓rE_eAR, ↓rE_eLen, ↓rE_eSI, ↓rE_eC, ↓rE_eCall, ↓rE_eNew, ↓rE_eNewA, ↓rE_eInst, ↓rC_cI, ↓rC_cZ0, ↓rC_cN, ↓rC_cNot, ↓rC_cAnd, ↓rC_cOr, ↓rA_aN, ↓rA_aC, ↓rS_sP, ↓rS_sUF, ↓rS_sAI, ↓rS_sAJ, ↓rS_sAR, ↓rS_sUA, ↓rS_sCall, ↓rS_sObj, ↓rS_sSi, ↓rS_sSa, ↓rS_sSj, ↓rS_sInc, ↓rS_sSkip, ↓rS_sSeq, ↓rS_sIf, ↓rS_sRetI, ↓rS_sRetJ, ↓rS_sRetA, ↓rS_sRetV, ↓rS_sSw, ↓rD_meth, ↓rD_on, ↓kR_ref, ↓kI_int, ↓kJ_long, ↓kN_null, ↓kN_ref, ↓kN_rf, ↓kQ_ref, ↓kQ_null, ↓kQ_rf, o1_i, o1ij_i, o1ji_i, o2_i, o2d_i, o2j_i, o2ji_i, o2c_i, fv_0, fv_1, fv_2, fv_3, pf_0, pf_2, pf_3, pf_4, rf_s, rf_n, is_self, ge_0, ge_s, ge_n, gd_s, gd_n, se_0, se_s, ag_0, ex_n, ex_i, ex_r, ex_0, ex_j, ex_q, ap_c, ap_n, List.append_nil, ln_c, ln_n, rp_0, rp_s, rt_0, rt_1, rt_20, rt_21, rt_2, rt_3, rt_4, rt_4n, rt_4q, nl_0, nl_1, nl_2, nl_3, nl_4, nl_5, nl_6, nl_7, nl_8, nl_9, nlB_i, nlB_r, nlB_n, nlB_f, nlB_q, ↓reduceIte, reduceCtorEq, Nat.reduceAdd, Nat.reduceSub, Nat.reduceEqDiff, Nat.reduceLeDiff, Nat.reduceBEq, ite_true, ite_false, dt_t, Bool.not_true, Bool.not_false, Bool.false_eq_true, Nat.le_refl, true_and, and_true, true_or, or_true, false_or, or_false, false_and, and_false, qEq, qNe, qLt, qGe, qGt, qLe, VR_T hv, VR_s hv, hlt, VR_r0 hv, VR_PT hv, VR_PL hv, hib, hcl, VR_q hv e, VR_slp hv e, hb, pf_1 (Or.inl rfl), rD_tb1 (VR_T hva), rD_of q1, nI_1]
          · rw [sgV, if_pos hw, ← stW_a]; exact q3
        · refine Nat.pos_of_ne_zero (fun q => ?_)
          have : (sd A (W % 2 ^ (i + 1))).testBit s = true := by
            rw [sd_bit_t]
            exact ⟨hsA, fun q => hsW (by rw [mod_bit, Bool.and_eq_true] at q; exact q.2)⟩
          rw [q, Nat.zero_testBit] at this
          cases this
        · rw [bt_nI hs8 i8, if_neg]
          rw [sd_bit_t]
          exact fun q => q.2 (by rw [mod_bit, hw]; simp)
        · intro j hj hji
          rw [upd_at, bt_nI hs8 (by omega), bt_nI ho8 (by omega)]
          have : (sd A (W % 2 ^ (i + 1))).testBit j = (sd A (W % 2 ^ i)).testBit j := by
            rw [sd_bit, sd_bit, mod_bit, mod_bit]
            have : (j < i + 1) = (j < i) := by apply propext; omega
            simp only [this]
          rw [this]
      · rw [if_neg hw] at hb hm
        rw [Nat.or_zero] at hm
        have h01 : ¬ (0 : Int32) = 1 := by decide
        refine ⟨[.ref (nowA σ), .int (nI s), .int (nI W), .int m, .ref (vQ σ (nowA σ) s), .int (nI (i + 1)), .ref (vQ t (nowA σ) i)], t, ?_, e, hc, ?_, _, rfl⟩
        · simp only [lpStep, ↓rE_eK, ↓rE_eLi, ↓rE_eLj, ↓rE_eLa, ↓rE_eU, ↓rE_eB, ↓rE_eG, ↓rE_eIF, ↓rE_eAI, ↓rE_eAX, ↓rE_eAJ, ↓rE_eAR, ↓rE_eLen, ↓rE_eSI, ↓rE_eC, ↓rE_eCall, ↓rE_eNew, ↓rE_eNewA, ↓rE_eInst, ↓rC_cI, ↓rC_cZ0, ↓rC_cN, ↓rC_cNot, ↓rC_cAnd, ↓rC_cOr, ↓rA_aN, ↓rA_aC, ↓rS_sP, ↓rS_sUF, ↓rS_sAI, ↓rS_sAJ, ↓rS_sAR, ↓rS_sUA, ↓rS_sCall, ↓rS_sObj, ↓rS_sSi, ↓rS_sSa, ↓rS_sSj, ↓rS_sInc, ↓rS_sSkip, ↓rS_sSeq, ↓rS_sIf, ↓rS_sRetI, ↓rS_sRetJ, ↓rS_sRetA, ↓rS_sRetV, ↓rS_sSw, ↓rD_meth, ↓rD_on, ↓kR_ref, ↓kI_int, ↓kJ_long, ↓kN_null, ↓kN_ref, ↓kN_rf, ↓kQ_ref, ↓kQ_null, ↓kQ_rf, o1_i, o1ij_i, o1ji_i, o2_i, o2d_i, o2j_i, o2ji_i, o2c_i, fv_0, fv_1, fv_2, fv_3, pf_0, pf_2, pf_3, pf_4, rf_s, rf_n, is_self, ge_0, ge_s, ge_n, gd_s, gd_n, se_0, se_s, ag_0, ex_n, ex_i, ex_r, ex_0, ex_j, ex_q, ap_c, ap_n, List.append_nil, ln_c, ln_n, rp_0, rp_s, rt_0, rt_1, rt_20, rt_21, rt_2, rt_3, rt_4, rt_4n, rt_4q, nl_0, nl_1, nl_2, nl_3, nl_4, nl_5, nl_6, nl_7, nl_8, nl_9, nlB_i, nlB_r, nlB_n, nlB_f, nlB_q, ↓reduceIte, reduceCtorEq, Nat.reduceAdd, Nat.reduceSub, Nat.reduceEqDiff, Nat.reduceLeDiff, Nat.reduceBEq, ite_true, ite_false, dt_t, Bool.not_true, Bool.not_false, Bool.false_eq_true, Nat.le_refl, true_and, and_true, true_or, or_true, false_or, or_false, false_and, and_false, qEq, qNe, qLt, qGe, qGt, qLe, VR_T hv, VR_s hv, hlt, VR_r0 hv, VR_PT hv, VR_PL hv, hib, hcl, VR_q hv e, VR_slp hv e, hb, h01, nI_1]
        · rw [sgV, if_neg hw, hm]; exact hv
    · right
      have : i = n := by omega
      subst this
      have hlt : ¬ nI i < nI i := by rw [nI_lt' (by omega) (by omega)]; omega
      rw [Nat.mod_eq_of_lt hW] at hv
      refine ⟨_, _, ?_, hc, hv, w, rfl⟩
      simp only [lpStep, ↓rE_eK, ↓rE_eLi, ↓rE_eLj, ↓rE_eLa, ↓rE_eU, ↓rE_eB, ↓rE_eG, ↓rE_eIF, ↓rE_eAI, ↓rE_eAX, ↓rE_eAJ, ↓rE_eAR, ↓rE_eLen, ↓rE_eSI, ↓rE_eC, ↓rE_eCall, ↓rE_eNew, ↓rE_eNewA, ↓rE_eInst, ↓rC_cI, ↓rC_cZ0, ↓rC_cN, ↓rC_cNot, ↓rC_cAnd, ↓rC_cOr, ↓rA_aN, ↓rA_aC, ↓rS_sP, ↓rS_sUF, ↓rS_sAI, ↓rS_sAJ, ↓rS_sAR, ↓rS_sUA, ↓rS_sCall, ↓rS_sObj, ↓rS_sSi, ↓rS_sSa, ↓rS_sSj, ↓rS_sInc, ↓rS_sSkip, ↓rS_sSeq, ↓rS_sIf, ↓rS_sRetI, ↓rS_sRetJ, ↓rS_sRetA, ↓rS_sRetV, ↓rS_sSw, ↓rD_meth, ↓rD_on, ↓kR_ref, ↓kI_int, ↓kJ_long, ↓kN_null, ↓kN_ref, ↓kN_rf, ↓kQ_ref, ↓kQ_null, ↓kQ_rf, o1_i, o1ij_i, o1ji_i, o2_i, o2d_i, o2j_i, o2ji_i, o2c_i, fv_0, fv_1, fv_2, fv_3, pf_0, pf_2, pf_3, pf_4, rf_s, rf_n, is_self, ge_0, ge_s, ge_n, gd_s, gd_n, se_0, se_s, ag_0, ex_n, ex_i, ex_r, ex_0, ex_j, ex_q, ap_c, ap_n, List.append_nil, ln_c, ln_n, rp_0, rp_s, rt_0, rt_1, rt_20, rt_21, rt_2, rt_3, rt_4, rt_4n, rt_4q, nl_0, nl_1, nl_2, nl_3, nl_4, nl_5, nl_6, nl_7, nl_8, nl_9, nlB_i, nlB_r, nlB_n, nlB_f, nlB_q, ↓reduceIte, reduceCtorEq, Nat.reduceAdd, Nat.reduceSub, Nat.reduceEqDiff, Nat.reduceLeDiff, Nat.reduceBEq, ite_true, ite_false, dt_t, Bool.not_true, Bool.not_false, Bool.false_eq_true, Nat.le_refl, true_and, and_true, true_or, or_true, false_or, or_false, false_and, and_false, qEq, qNe, qLt, qGe, qGt, qLe, VR_T hv, VR_s hv, hlt]
  obtain ⟨r, σ', h1, hc, hv, w, rfl⟩ := hl
  refine ⟨σ', ?_, hc, hv⟩
  refine rD_un.trans ?_
  have hap := (VR_apart h).2.2.2 s hs
  have hcl := nI_cl (show s < 2147483648 by omega)
  have hf5 : pI (uI σ (nowA σ) 3 (cur σ 2 + m)) (vQ σ (nowA σ) s) 5 = cur σ (44 + s) := by rw [pI_uI_ne _ _ _ hap.1]; exact VR_f5 h hs
  simp only [D_X10_settleSong, B_X10_settleSong, ↓rE_eK, ↓rE_eLi, ↓rE_eLj, ↓rE_eLa, ↓rE_eU, ↓rE_eB, ↓rE_eG, ↓rE_eIF, ↓rE_eAI, ↓rE_eAX, ↓rE_eAJ, ↓rE_eAR, ↓rE_eLen, ↓rE_eSI, ↓rE_eC, ↓rE_eCall, ↓rE_eNew, ↓rE_eNewA, ↓rE_eInst, ↓rC_cI, ↓rC_cZ0, ↓rC_cN, ↓rC_cNot, ↓rC_cAnd, ↓rC_cOr, ↓rA_aN, ↓rA_aC, ↓rS_sP, ↓rS_sUF, ↓rS_sAI, ↓rS_sAJ, ↓rS_sAR, ↓rS_sUA, ↓rS_sCall, ↓rS_sObj, ↓rS_sSi, ↓rS_sSa, ↓rS_sSj, ↓rS_sInc, ↓rS_sSkip, ↓rS_sSeq, ↓rS_sIf, ↓rS_sRetI, ↓rS_sRetJ, ↓rS_sRetA, ↓rS_sRetV, ↓rS_sSw, ↓rD_meth, ↓rD_on, ↓kR_ref, ↓kI_int, ↓kJ_long, ↓kN_null, ↓kN_ref, ↓kN_rf, ↓kQ_ref, ↓kQ_null, ↓kQ_rf, o1_i, o1ij_i, o1ji_i, o2_i, o2d_i, o2j_i, o2ji_i, o2c_i, fv_0, fv_1, fv_2, fv_3, pf_0, pf_2, pf_3, pf_4, rf_s, rf_n, is_self, ge_0, ge_s, ge_n, gd_s, gd_n, se_0, se_s, ag_0, ex_n, ex_i, ex_r, ex_0, ex_j, ex_q, ap_c, ap_n, List.append_nil, ln_c, ln_n, rp_0, rp_s, rt_0, rt_1, rt_20, rt_21, rt_2, rt_3, rt_4, rt_4n, rt_4q, nl_0, nl_1, nl_2, nl_3, nl_4, nl_5, nl_6, nl_7, nl_8, nl_9, nlB_i, nlB_r, nlB_n, nlB_f, nlB_q, ↓reduceIte, reduceCtorEq, Nat.reduceAdd, Nat.reduceSub, Nat.reduceEqDiff, Nat.reduceLeDiff, Nat.reduceBEq, ite_true, ite_false, dt_t, Bool.not_true, Bool.not_false, Bool.false_eq_true, Nat.le_refl, true_and, and_true, true_or, or_true, false_or, or_false, false_and, and_false, qEq, qNe, qLt, qGe, qGt, qLe, rD_tb1 (VR_T h), rD_of (d_at_t h (ib_nI hs (by omega))), hcl, VR_T h, VR_mi h, VR_slp h hs, pT_uI, hf5, rS_inl h1]

theorem nd_low {vd wd : Nat → Int32} {i : Nat} (h : ∀ j, j < 28 → j ≠ 1 → j ≠ 2 → wd j = vd j) (hi : i < 8) : nd wd i = nd vd i := by unfold nd; rw [h _ (by omega) (by omega) (by omega), h _ (by omega) (by omega) (by omega)]
theorem cur_sing {σ : pm_H} {s : Nat} {x z : Int32} (hs : s < 8) (w : Int32) : cur (uI (uI (uI σ 35 8 w) 35 9 x) 41 s z) = upd (upd (upd (cur σ) 1 w) 2 x) (44 + s) z := by
  rw [show (41 : Nat) = 36 + 5 from rfl, cur_set (by decide) hs, cur_scal (Or.inr (Or.inl rfl)), cur_scal (Or.inl rfl)]
theorem d_sing_m {σ : pm_H} (hS : Sh σ) {n : Nat} (hn : pI σ 35 0 = nI n) (hm : mOk (cur σ) n) {A s W : Nat} (hA : A < 2 ^ n) (eA : cur σ 1 = nI A) (hs : s < n) (h0 : 0 < W) (hW : W < 2 ^ n) (h3 : pc W ≤ 3) (hb : isA n (nI s) (nI W)) (hc : canB (cur σ) n A s W) : ∃ σ', D_X12_sing [.ref 35, .int (nI s), .int (nI W)] σ = some (some (.int (nI (mx (cur σ) W n))), σ') ∧ Mdl σ σ' ∧ cur σ' = upd (sgV (cur σ) s W (nI (mx (cur σ) W n)) n) 1 (nI (sd A W)) := by
  have h8 := hm.1.1
  have hA8 := Nat.lt_of_lt_of_le hA (p2n h8)
  have hW8 := Nat.lt_of_lt_of_le hW (p2n h8)
  have s8 : s < 8 := by omega
  have hlen := d_lengthOf hS hn hm hW8
  rw [len_of h0 h3, if_neg hc.2.2.2.1] at hlen
  have hy := (d_canBe hS hn hm hA8 hs h0 hW h3).1 hc
  obtain ⟨m, em⟩ : ∃ m, nI (mx (cur σ) W n) = m := ⟨_, rfl⟩
  rw [em] at hlen ⊢
  have hsib := ib_nI s8 (show (8 : Nat) ≤ 1000000 by decide)
  have hscl := nI_cl (show s < 2147483648 by omega)
  obtain ⟨τ, eτ⟩ : ∃ τ, τ = uI (uI (uI σ 35 8 (nI (sd A W))) 35 9 (cur σ 2 + m)) 41 s (cur σ (44 + s) + m) := ⟨_, rfl⟩
  have hτc : cur τ = upd (sgV (cur σ) s W m 0) 1 (nI (sd A W)) := by
    rw [eτ, cur_sing s8, sgV, upd_comm _ _ _ (show (1 : Nat) ≠ 2 by decide), upd_comm _ _ _ (show (1 : Nat) ≠ 44 + s by omega)]
  have hτm : Mdl σ τ := by rw [eτ]; exact Mdl_uI (Mdl_uI (Mdl_uI Mdl_rfl (by omega)) (by omega)) (by omega)
  have hl : ∃ r σ', sLoop (cI qLt (eLi 4) (eG (is 12) 0 0 (eLa 0))) (sSeq (sIf (cZ0 qNe (eCall D_X12_has (aC (eLi 2) (aC (eLi 4) (aN))))) (sIf (cI qEq (eAI (eG (is 12) 3 1 (eLa 0)) (eLi 4)) (eK (.int 5))) (sSeq (sUA f_isub (eG (is 12) 3 4 (eLa 0)) (eLi 4) (eB f_imul (eK (.int 2)) (eCall (pm_disp (tb1 12 D_X12_needs)) (aC (eLa 0) (aC (eLi 4) (aN)))))) (sUA f_iadd (eG (is 12) 3 4 (eLa 0)) (eLi 1) (eB f_imul (eK (.int 2)) (eCall (pm_disp (tb1 12 D_X12_needs)) (aC (eLa 0) (aC (eLi 4) (aN))))))) (sCall (pm_disp (tb1 12 D_X12_owesMore)) (aC (eLa 0) (aC (eLi 4) (aC (eLi 1) (aC (eCall (pm_disp (tb1 12 D_X12_needs)) (aC (eLa 0) (aC (eLi 4) (aN)))) (aN))))))) sSkip) (sInc 4 1)) [.ref 35, .int (nI s), .int (nI W), .int m, .int 0] τ = some (r, σ') ∧ (Mdl σ σ' ∧ cur σ' = upd (sgV (cur σ) s W m n) 1 (nI (sd A W)) ∧ r = .inl [.ref 35, .int (nI s), .int (nI W), .int m, .int (nI n)]) := by
    refine loop_gen (fun i env t => Mdl σ t ∧ cur t = upd (sgV (cur σ) s W m i) 1 (nI (sd A W)) ∧ env = [.ref 35, .int (nI s), .int (nI W), .int m, .int (nI i)]) _ n (by omega) ⟨hτm, hτc, by rw [nI_0]⟩ ?_
    rintro i env t hi ⟨hM, hcu, rfl⟩
    have hSt := Mdl_Sh hM hS
    have hlow : ∀ j, j < 28 → j ≠ 1 → j ≠ 2 → cur t j = cur σ j := fun j q1 q2 q3 => by rw [hcu, upd_ne _ _ q2, sgV_low _ _ _ _ _ q1 q3]
    have hnt : pI t 35 0 = nI n := by rw [← cu0, hlow 0 (by decide) (by decide) (by decide)]; exact hn
    by_cases e : i < n
    · left
      have hlt : nI i < nI n := by rw [nI_lt' (by omega) (by omega)]; exact e
      have i8 : i < 8 := by omega
      have hbt : bt (nI W) (nI i) = if W.testBit i then 1 else 0 := bt_nI hW8 i8
      have hib := ib_nI i8 (show (8 : Nat) ≤ 1000000 by decide)
      have hcl := nI_cl (show i < 2147483648 by omega)
      have h01 : ¬ (0 : Int32) = 1 := by decide
      by_cases hw : W.testBit i = true
      · rw [if_pos hw] at hbt
        have hne : i ≠ s := fun q => hc.2.1 (by rw [← q]; exact hw)
        obtain ⟨k, k1, k2⟩ := hm.2 i e
        have hk36 : ∀ t', cur t' = cur t → pI t' 36 i = nI k := fun t' q => by rw [← cuk i8, q, hlow _ (by omega) (by omega) (by omega), k2]
        have hkc : pI t 36 i = cur t (4 + i) := (cuk i8).symm
        by_cases h5 : pI t 36 i = 5
        · have hpi : pI t 39 i = cur t (28 + i) := (cup i8).symm
          have hps : pI t 39 s = cur t (28 + s) := (cup s8).symm
          obtain ⟨t1, et1⟩ : ∃ t1, t1 = uI t 39 i (cur t (28 + i) - 2 * nd (cur t) i) := ⟨_, rfl⟩
          have hS1 : Sh t1 := by rw [et1]; exact hSt
          have hc1 : cur t1 = upd (cur t) (28 + i) (cur t (28 + i) - 2 * nd (cur t) i) := by rw [et1, show (39 : Nat) = 36 + 3 from rfl, cur_set (by decide) i8]
          have hn1 : nd (cur t1) i = nd (cur t) i := by rw [hc1]; unfold nd; rw [upd_ne _ _ (by omega), upd_ne _ _ (by omega)]
          have h361 : pI t1 36 i = nI k := by rw [et1, pI_uI_ne _ _ _ (by decide)]; exact hk36 t rfl
          have hps1 : pI t1 39 s = cur t (28 + s) := by rw [et1, pI_uI_nek _ _ _ _ (fun q => hne q.symm)]; exact hps
          have hnd1 := d_needs hS1 i8 k1 h361
          rw [hn1] at hnd1
          refine ⟨[.ref 35, .int (nI s), .int (nI W), .int m, .int (nI (i + 1))], uI t1 39 s (cur t (28 + s) + 2 * nd (cur t) i), ?_, e, ?_, ?_, rfl⟩
          · simp only [lpStep, ↓rE_eK, ↓rE_eLi, ↓rE_eLj, ↓rE_eLa, ↓rE_eU, ↓rE_eB, ↓rE_eG, ↓rE_eIF, ↓rE_eAI, ↓rE_eAX, ↓rE_eAJ, ↓rE_eAR, ↓rE_eLen, ↓rE_eSI, ↓rE_eC, ↓rE_eCall, ↓rE_eNew, ↓rE_eNewA, ↓rE_eInst, ↓rC_cI, ↓rC_cZ0, ↓rC_cN, ↓rC_cNot, ↓rC_cAnd, ↓rC_cOr, ↓rA_aN, ↓rA_aC, ↓rS_sP, ↓rS_sUF, ↓rS_sAI, ↓rS_sAJ, ↓rS_sAR, ↓rS_sUA, ↓rS_sCall, ↓rS_sObj, ↓rS_sSi, ↓rS_sSa, ↓rS_sSj, ↓rS_sInc, ↓rS_sSkip, ↓rS_sSeq, ↓rS_sIf, ↓rS_sRetI, ↓rS_sRetJ, ↓rS_sRetA, ↓rS_sRetV, ↓rS_sSw, ↓rD_meth, ↓rD_on, ↓kR_ref, ↓kI_int, ↓kJ_long, ↓kN_null, ↓kN_ref, ↓kN_rf, ↓kQ_ref, ↓kQ_null, ↓kQ_rf, o1_i, o1ij_i, o1ji_i, o2_i, o2d_i, o2j_i, o2ji_i, o2c_i, fv_0, fv_1, fv_2, fv_3, pf_0, pf_2, pf_3, pf_4, rf_s, rf_n, is_self, ge_0, ge_s, ge_n, gd_s, gd_n, se_0, se_s, ag_0, ex_n, ex_i, ex_r, ex_0, ex_j, ex_q, ap_c, ap_n, List.append_nil, ln_c, ln_n, rp_0, rp_s, rt_0, rt_1, rt_20, rt_21, rt_2, rt_3, rt_4, rt_4n, rt_4q, nl_0, nl_1, nl_2, nl_3, nl_4, nl_5, nl_6, nl_7, nl_8, nl_9, nlB_i, nlB_r, nlB_n, nlB_f, nlB_q, ↓reduceIte, reduceCtorEq, Nat.reduceAdd, Nat.reduceSub, Nat.reduceEqDiff, Nat.reduceLeDiff, Nat.reduceBEq, ite_true, ite_false, dt_t, Bool.not_true, Bool.not_false, Bool.false_eq_true, Nat.le_refl, true_and, and_true, true_or, or_true, false_or, or_false, false_and, and_false, qEq, qNe, qLt, qGe, qGt, qLe, sT_35 hSt, sT_36 hSt, sT_37 hSt, sT_38 hSt, sT_39 hSt, sT_40 hSt, sT_41 hSt, sT_42 hSt, sT_43 hSt, sT_44 hSt, sT_45 hSt, sT_46 hSt, sT_47 hSt, sT_48 hSt, sT_49 hSt, sT_50 hSt, sT_51 hSt, sT_52 hSt, sT_53 hSt, sT_54 hSt, sT_55 hSt, sT_56 hSt, sT_57 hSt, sT_58 hSt, sT_59 hSt, sT_60 hSt, sT_61 hSt, sT_62 hSt, sT_63 hSt, sT_64 hSt, sT_65 hSt, sL_36 hSt, sL_37 hSt, sL_38 hSt, sL_39 hSt, sL_40 hSt, sL_41 hSt, sL_42 hSt, sL_43 hSt, sL_44 hSt, sL_45 hSt, sL_46 hSt, sL_47 hSt, sL_48 hSt, sL_49 hSt, sL_50 hSt, sL_51 hSt, sL_52 hSt, sL_53 hSt, sL_54 hSt, sL_55 hSt, sL_56 hSt, sL_57 hSt, sL_58 hSt, sL_59 hSt, sL_60 hSt, sL_61 hSt, sL_62 hSt, sL_63 hSt, sL_64 hSt, sL_65 hSt, sR_35_1 hSt, sR_35_2 hSt, sR_35_3 hSt, sR_35_4 hSt, sR_35_5 hSt, sR_35_6 hSt, sR_35_7 hSt, sR_35_11 hSt, sR_35_21 hSt, sR_35_22 hSt, sR_35_23 hSt, sR_35_24 hSt, sR_35_25 hSt, sR_35_26 hSt, sR_35_27 hSt, sR_35_28 hSt, sR_35_29 hSt, sR_35_30 hSt, sR_35_31 hSt, sR_35_32 hSt, sR_35_35 hSt, sR_35_37 hSt, sR_35_38 hSt, sR_35_39 hSt, sR_35_40 hSt, sR_35_41 hSt, sR_35_42 hSt, sR_35_46 hSt, sR_35_50 hSt, sR_35_52 hSt, hnt, hlt, rD_of (d_has _ _ _), b32_ne, hbt, hib, hcl, h5, rD_tb1, rD_of (d_needs hSt i8 k1 (hk36 t rfl)), hpi, ← et1, sT_35 hS1, sT_36 hS1, sT_37 hS1, sT_38 hS1, sT_39 hS1, sT_40 hS1, sT_41 hS1, sT_42 hS1, sT_43 hS1, sT_44 hS1, sT_45 hS1, sT_46 hS1, sT_47 hS1, sT_48 hS1, sT_49 hS1, sT_50 hS1, sT_51 hS1, sT_52 hS1, sT_53 hS1, sT_54 hS1, sT_55 hS1, sT_56 hS1, sT_57 hS1, sT_58 hS1, sT_59 hS1, sT_60 hS1, sT_61 hS1, sT_62 hS1, sT_63 hS1, sT_64 hS1, sT_65 hS1, sL_36 hS1, sL_37 hS1, sL_38 hS1, sL_39 hS1, sL_40 hS1, sL_41 hS1, sL_42 hS1, sL_43 hS1, sL_44 hS1, sL_45 hS1, sL_46 hS1, sL_47 hS1, sL_48 hS1, sL_49 hS1, sL_50 hS1, sL_51 hS1, sL_52 hS1, sL_53 hS1, sL_54 hS1, sL_55 hS1, sL_56 hS1, sL_57 hS1, sL_58 hS1, sL_59 hS1, sL_60 hS1, sL_61 hS1, sL_62 hS1, sL_63 hS1, sL_64 hS1, sL_65 hS1, sR_35_1 hS1, sR_35_2 hS1, sR_35_3 hS1, sR_35_4 hS1, sR_35_5 hS1, sR_35_6 hS1, sR_35_7 hS1, sR_35_11 hS1, sR_35_21 hS1, sR_35_22 hS1, sR_35_23 hS1, sR_35_24 hS1, sR_35_25 hS1, sR_35_26 hS1, sR_35_27 hS1, sR_35_28 hS1, sR_35_29 hS1, sR_35_30 hS1, sR_35_31 hS1, sR_35_32 hS1, sR_35_35 hS1, sR_35_37 hS1, sR_35_38 hS1, sR_35_39 hS1, sR_35_40 hS1, sR_35_41 hS1, sR_35_42 hS1, sR_35_46 hS1, sR_35_50 hS1, sR_35_52 hS1, hsib, hscl, hps1, rD_of hnd1, nI_1]
          · exact Mdl_uI (by rw [et1]; exact Mdl_uI hM (by omega)) (by omega)
          · rw [show (39 : Nat) = 36 + 3 from rfl, cur_set (by decide) s8, hc1]
            have e4 : cur t (4 + i) = 5 := by rw [← hkc]; exact h5
            have : stW (cur t) s i = upd (upd (cur t) (28 + i) (cur t (28 + i) - 2 * nd (cur t) i)) (28 + s) (cur t (28 + s) + 2 * nd (cur t) i) := by unfold stW; rw [if_pos e4]
            rw [sgV, if_pos hw, ← stW_a, ← hcu, this]
        · have ho : pI t 42 (8 * i + s) = cur t (52 + (8 * i + s)) := cuo.symm
          have hib2 := ib_nI (show 8 * i + s < 64 by omega) (by decide)
          have hcl2 := nI_cl (show 8 * i + s < 2147483648 by omega)
          refine ⟨[.ref 35, .int (nI s), .int (nI W), .int m, .int (nI (i + 1))], uI t 42 (8 * i + s) (if 9999 < cur t (52 + (8 * i + s)) + nd (cur t) i then 9999 else cur t (52 + (8 * i + s)) + nd (cur t) i), ?_, e, Mdl_uI hM (by omega), ?_, rfl⟩
          · by_cases hg : 9999 < cur t (52 + (8 * i + s)) + nd (cur t) i
            · simp only [lpStep, ↓rE_eK, ↓rE_eLi, ↓rE_eLj, ↓rE_eLa, ↓rE_eU, ↓rE_eB, ↓rE_eG, ↓rE_eIF, ↓rE_eAI, ↓rE_eAX, ↓rE_eAJ, ↓rE_eAR, ↓rE_eLen, ↓rE_eSI, ↓rE_eC, ↓rE_eCall, ↓rE_eNew, ↓rE_eNewA, ↓rE_eInst, ↓rC_cI, ↓rC_cZ0, ↓rC_cN, ↓rC_cNot, ↓rC_cAnd, ↓rC_cOr, ↓rA_aN, ↓rA_aC, ↓rS_sP, ↓rS_sUF, ↓rS_sAI, ↓rS_sAJ, ↓rS_sAR, ↓rS_sUA, ↓rS_sCall, ↓rS_sObj, ↓rS_sSi, ↓rS_sSa, ↓rS_sSj, ↓rS_sInc, ↓rS_sSkip, ↓rS_sSeq, ↓rS_sIf, ↓rS_sRetI, ↓rS_sRetJ, ↓rS_sRetA, ↓rS_sRetV, ↓rS_sSw, ↓rD_meth, ↓rD_on, ↓kR_ref, ↓kI_int, ↓kJ_long, ↓kN_null, ↓kN_ref, ↓kN_rf, ↓kQ_ref, ↓kQ_null, ↓kQ_rf, o1_i, o1ij_i, o1ji_i, o2_i, o2d_i, o2j_i, o2ji_i, o2c_i, fv_0, fv_1, fv_2, fv_3, pf_0, pf_2, pf_3, pf_4, rf_s, rf_n, is_self, ge_0, ge_s, ge_n, gd_s, gd_n, se_0, se_s, ag_0, ex_n, ex_i, ex_r, ex_0, ex_j, ex_q, ap_c, ap_n, List.append_nil, ln_c, ln_n, rp_0, rp_s, rt_0, rt_1, rt_20, rt_21, rt_2, rt_3, rt_4, rt_4n, rt_4q, nl_0, nl_1, nl_2, nl_3, nl_4, nl_5, nl_6, nl_7, nl_8, nl_9, nlB_i, nlB_r, nlB_n, nlB_f, nlB_q, ↓reduceIte, reduceCtorEq, Nat.reduceAdd, Nat.reduceSub, Nat.reduceEqDiff, Nat.reduceLeDiff, Nat.reduceBEq, ite_true, ite_false, dt_t, Bool.not_true, Bool.not_false, Bool.false_eq_true, Nat.le_refl, true_and, and_true, true_or, or_true, false_or, or_false, false_and, and_false, qEq, qNe, qLt, qGe, qGt, qLe, sT_35 hSt, sT_36 hSt, sT_37 hSt, sT_38 hSt, sT_39 hSt, sT_40 hSt, sT_41 hSt, sT_42 hSt, sT_43 hSt, sT_44 hSt, sT_45 hSt, sT_46 hSt, sT_47 hSt, sT_48 hSt, sT_49 hSt, sT_50 hSt, sT_51 hSt, sT_52 hSt, sT_53 hSt, sT_54 hSt, sT_55 hSt, sT_56 hSt, sT_57 hSt, sT_58 hSt, sT_59 hSt, sT_60 hSt, sT_61 hSt, sT_62 hSt, sT_63 hSt, sT_64 hSt, sT_65 hSt, sL_36 hSt, sL_37 hSt, sL_38 hSt, sL_39 hSt, sL_40 hSt, sL_41 hSt, sL_42 hSt, sL_43 hSt, sL_44 hSt, sL_45 hSt, sL_46 hSt, sL_47 hSt, sL_48 hSt, sL_49 hSt, sL_50 hSt, sL_51 hSt, sL_52 hSt, sL_53 hSt, sL_54 hSt, sL_55 hSt, sL_56 hSt, sL_57 hSt, sL_58 hSt, sL_59 hSt, sL_60 hSt, sL_61 hSt, sL_62 hSt, sL_63 hSt, sL_64 hSt, sL_65 hSt, sR_35_1 hSt, sR_35_2 hSt, sR_35_3 hSt, sR_35_4 hSt, sR_35_5 hSt, sR_35_6 hSt, sR_35_7 hSt, sR_35_11 hSt, sR_35_21 hSt, sR_35_22 hSt, sR_35_23 hSt, sR_35_24 hSt, sR_35_25 hSt, sR_35_26 hSt, sR_35_27 hSt, sR_35_28 hSt, sR_35_29 hSt, sR_35_30 hSt, sR_35_31 hSt, sR_35_32 hSt, sR_35_35 hSt, sR_35_37 hSt, sR_35_38 hSt, sR_35_39 hSt, sR_35_40 hSt, sR_35_41 hSt, sR_35_42 hSt, sR_35_46 hSt, sR_35_50 hSt, sR_35_52 hSt, hnt, hlt, rD_of (d_has _ _ _), b32_ne, hbt, hib, hcl, h5, rD_tb1, rD_of (d_needs hSt i8 k1 (hk36 t rfl)), D_X12_owesMore, B_X12_owesMore, ix8 i8 s8, hib2, hcl2, ho, hg, nI_1]
            · simp only [lpStep, ↓rE_eK, ↓rE_eLi, ↓rE_eLj, ↓rE_eLa, ↓rE_eU, ↓rE_eB, ↓rE_eG, ↓rE_eIF, ↓rE_eAI, ↓rE_eAX, ↓rE_eAJ, ↓rE_eAR, ↓rE_eLen, ↓rE_eSI, ↓rE_eC, ↓rE_eCall, ↓rE_eNew, ↓rE_eNewA, ↓rE_eInst, ↓rC_cI, ↓rC_cZ0, ↓rC_cN, ↓rC_cNot, ↓rC_cAnd, ↓rC_cOr, ↓rA_aN, ↓rA_aC, ↓rS_sP, ↓rS_sUF, ↓rS_sAI, ↓rS_sAJ, ↓rS_sAR, ↓rS_sUA, ↓rS_sCall, ↓rS_sObj, ↓rS_sSi, ↓rS_sSa, ↓rS_sSj, ↓rS_sInc, ↓rS_sSkip, ↓rS_sSeq, ↓rS_sIf, ↓rS_sRetI, ↓rS_sRetJ, ↓rS_sRetA, ↓rS_sRetV, ↓rS_sSw, ↓rD_meth, ↓rD_on, ↓kR_ref, ↓kI_int, ↓kJ_long, ↓kN_null, ↓kN_ref, ↓kN_rf, ↓kQ_ref, ↓kQ_null, ↓kQ_rf, o1_i, o1ij_i, o1ji_i, o2_i, o2d_i, o2j_i, o2ji_i, o2c_i, fv_0, fv_1, fv_2, fv_3, pf_0, pf_2, pf_3, pf_4, rf_s, rf_n, is_self, ge_0, ge_s, ge_n, gd_s, gd_n, se_0, se_s, ag_0, ex_n, ex_i, ex_r, ex_0, ex_j, ex_q, ap_c, ap_n, List.append_nil, ln_c, ln_n, rp_0, rp_s, rt_0, rt_1, rt_20, rt_21, rt_2, rt_3, rt_4, rt_4n, rt_4q, nl_0, nl_1, nl_2, nl_3, nl_4, nl_5, nl_6, nl_7, nl_8, nl_9, nlB_i, nlB_r, nlB_n, nlB_f, nlB_q, ↓reduceIte, reduceCtorEq, Nat.reduceAdd, Nat.reduceSub, Nat.reduceEqDiff, Nat.reduceLeDiff, Nat.reduceBEq, ite_true, ite_false, dt_t, Bool.not_true, Bool.not_false, Bool.false_eq_true, Nat.le_refl, true_and, and_true, true_or, or_true, false_or, or_false, false_and, and_false, qEq, qNe, qLt, qGe, qGt, qLe, sT_35 hSt, sT_36 hSt, sT_37 hSt, sT_38 hSt, sT_39 hSt, sT_40 hSt, sT_41 hSt, sT_42 hSt, sT_43 hSt, sT_44 hSt, sT_45 hSt, sT_46 hSt, sT_47 hSt, sT_48 hSt, sT_49 hSt, sT_50 hSt, sT_51 hSt, sT_52 hSt, sT_53 hSt, sT_54 hSt, sT_55 hSt, sT_56 hSt, sT_57 hSt, sT_58 hSt, sT_59 hSt, sT_60 hSt, sT_61 hSt, sT_62 hSt, sT_63 hSt, sT_64 hSt, sT_65 hSt, sL_36 hSt, sL_37 hSt, sL_38 hSt, sL_39 hSt, sL_40 hSt, sL_41 hSt, sL_42 hSt, sL_43 hSt, sL_44 hSt, sL_45 hSt, sL_46 hSt, sL_47 hSt, sL_48 hSt, sL_49 hSt, sL_50 hSt, sL_51 hSt, sL_52 hSt, sL_53 hSt, sL_54 hSt, sL_55 hSt, sL_56 hSt, sL_57 hSt, sL_58 hSt, sL_59 hSt, sL_60 hSt, sL_61 hSt, sL_62 hSt, sL_63 hSt, sL_64 hSt, sL_65 hSt, sR_35_1 hSt, sR_35_2 hSt, sR_35_3 hSt, sR_35_4 hSt, sR_35_5 hSt, sR_35_6 hSt, sR_35_7 hSt, sR_35_11 hSt, sR_35_21 hSt, sR_35_22 hSt, sR_35_23 hSt, sR_35_24 hSt, sR_35_25 hSt, sR_35_26 hSt, sR_35_27 hSt, sR_35_28 hSt, sR_35_29 hSt, sR_35_30 hSt, sR_35_31 hSt, sR_35_32 hSt, sR_35_35 hSt, sR_35_37 hSt, sR_35_38 hSt, sR_35_39 hSt, sR_35_40 hSt, sR_35_41 hSt, sR_35_42 hSt, sR_35_46 hSt, sR_35_50 hSt, sR_35_52 hSt, hnt, hlt, rD_of (d_has _ _ _), b32_ne, hbt, hib, hcl, h5, rD_tb1, rD_of (d_needs hSt i8 k1 (hk36 t rfl)), D_X12_owesMore, B_X12_owesMore, ix8 i8 s8, hib2, hcl2, ho, hg, nI_1]
          · rw [cur_owed]
            have e4 : ¬ cur t (4 + i) = 5 := by rw [← hkc]; exact h5
            have : stW (cur t) s i = upd (cur t) (52 + (8 * i + s)) (if 9999 < cur t (52 + (8 * i + s)) + nd (cur t) i then 9999 else cur t (52 + (8 * i + s)) + nd (cur t) i) := by unfold stW; rw [if_neg e4]
            rw [sgV, if_pos hw, ← stW_a, ← hcu, this]
      · rw [if_neg hw] at hbt
        refine ⟨[.ref 35, .int (nI s), .int (nI W), .int m, .int (nI (i + 1))], t, ?_, e, hM, ?_, rfl⟩
        · simp only [lpStep, ↓rE_eK, ↓rE_eLi, ↓rE_eLj, ↓rE_eLa, ↓rE_eU, ↓rE_eB, ↓rE_eG, ↓rE_eIF, ↓rE_eAI, ↓rE_eAX, ↓rE_eAJ, ↓rE_eAR, ↓rE_eLen, ↓rE_eSI, ↓rE_eC, ↓rE_eCall, ↓rE_eNew, ↓rE_eNewA, ↓rE_eInst, ↓rC_cI, ↓rC_cZ0, ↓rC_cN, ↓rC_cNot, ↓rC_cAnd, ↓rC_cOr, ↓rA_aN, ↓rA_aC, ↓rS_sP, ↓rS_sUF, ↓rS_sAI, ↓rS_sAJ, ↓rS_sAR, ↓rS_sUA, ↓rS_sCall, ↓rS_sObj, ↓rS_sSi, ↓rS_sSa, ↓rS_sSj, ↓rS_sInc, ↓rS_sSkip, ↓rS_sSeq, ↓rS_sIf, ↓rS_sRetI, ↓rS_sRetJ, ↓rS_sRetA, ↓rS_sRetV, ↓rS_sSw, ↓rD_meth, ↓rD_on, ↓kR_ref, ↓kI_int, ↓kJ_long, ↓kN_null, ↓kN_ref, ↓kN_rf, ↓kQ_ref, ↓kQ_null, ↓kQ_rf, o1_i, o1ij_i, o1ji_i, o2_i, o2d_i, o2j_i, o2ji_i, o2c_i, fv_0, fv_1, fv_2, fv_3, pf_0, pf_2, pf_3, pf_4, rf_s, rf_n, is_self, ge_0, ge_s, ge_n, gd_s, gd_n, se_0, se_s, ag_0, ex_n, ex_i, ex_r, ex_0, ex_j, ex_q, ap_c, ap_n, List.append_nil, ln_c, ln_n, rp_0, rp_s, rt_0, rt_1, rt_20, rt_21, rt_2, rt_3, rt_4, rt_4n, rt_4q, nl_0, nl_1, nl_2, nl_3, nl_4, nl_5, nl_6, nl_7, nl_8, nl_9, nlB_i, nlB_r, nlB_n, nlB_f, nlB_q, ↓reduceIte, reduceCtorEq, Nat.reduceAdd, Nat.reduceSub, Nat.reduceEqDiff, Nat.reduceLeDiff, Nat.reduceBEq, ite_true, ite_false, dt_t, Bool.not_true, Bool.not_false, Bool.false_eq_true, Nat.le_refl, true_and, and_true, true_or, or_true, false_or, or_false, false_and, and_false, qEq, qNe, qLt, qGe, qGt, qLe, sT_35 hSt, sT_36 hSt, sT_37 hSt, sT_38 hSt, sT_39 hSt, sT_40 hSt, sT_41 hSt, sT_42 hSt, sT_43 hSt, sT_44 hSt, sT_45 hSt, sT_46 hSt, sT_47 hSt, sT_48 hSt, sT_49 hSt, sT_50 hSt, sT_51 hSt, sT_52 hSt, sT_53 hSt, sT_54 hSt, sT_55 hSt, sT_56 hSt, sT_57 hSt, sT_58 hSt, sT_59 hSt, sT_60 hSt, sT_61 hSt, sT_62 hSt, sT_63 hSt, sT_64 hSt, sT_65 hSt, sL_36 hSt, sL_37 hSt, sL_38 hSt, sL_39 hSt, sL_40 hSt, sL_41 hSt, sL_42 hSt, sL_43 hSt, sL_44 hSt, sL_45 hSt, sL_46 hSt, sL_47 hSt, sL_48 hSt, sL_49 hSt, sL_50 hSt, sL_51 hSt, sL_52 hSt, sL_53 hSt, sL_54 hSt, sL_55 hSt, sL_56 hSt, sL_57 hSt, sL_58 hSt, sL_59 hSt, sL_60 hSt, sL_61 hSt, sL_62 hSt, sL_63 hSt, sL_64 hSt, sL_65 hSt, sR_35_1 hSt, sR_35_2 hSt, sR_35_3 hSt, sR_35_4 hSt, sR_35_5 hSt, sR_35_6 hSt, sR_35_7 hSt, sR_35_11 hSt, sR_35_21 hSt, sR_35_22 hSt, sR_35_23 hSt, sR_35_24 hSt, sR_35_25 hSt, sR_35_26 hSt, sR_35_27 hSt, sR_35_28 hSt, sR_35_29 hSt, sR_35_30 hSt, sR_35_31 hSt, sR_35_32 hSt, sR_35_35 hSt, sR_35_37 hSt, sR_35_38 hSt, sR_35_39 hSt, sR_35_40 hSt, sR_35_41 hSt, sR_35_42 hSt, sR_35_46 hSt, sR_35_50 hSt, sR_35_52 hSt, hnt, hlt, rD_of (d_has _ _ _), b32_ne, hbt, h01, nI_1]
        · rw [sgV, if_neg hw]; exact hcu
    · right
      have : i = n := by omega
      subst this
      have hlt : ¬ nI i < nI i := by rw [nI_lt' (by omega) (by omega)]; omega
      refine ⟨_, _, ?_, hM, hcu, rfl⟩
      simp only [lpStep, ↓rE_eK, ↓rE_eLi, ↓rE_eLj, ↓rE_eLa, ↓rE_eU, ↓rE_eB, ↓rE_eG, ↓rE_eIF, ↓rE_eAI, ↓rE_eAX, ↓rE_eAJ, ↓rE_eAR, ↓rE_eLen, ↓rE_eSI, ↓rE_eC, ↓rE_eCall, ↓rE_eNew, ↓rE_eNewA, ↓rE_eInst, ↓rC_cI, ↓rC_cZ0, ↓rC_cN, ↓rC_cNot, ↓rC_cAnd, ↓rC_cOr, ↓rA_aN, ↓rA_aC, ↓rS_sP, ↓rS_sUF, ↓rS_sAI, ↓rS_sAJ, ↓rS_sAR, ↓rS_sUA, ↓rS_sCall, ↓rS_sObj, ↓rS_sSi, ↓rS_sSa, ↓rS_sSj, ↓rS_sInc, ↓rS_sSkip, ↓rS_sSeq, ↓rS_sIf, ↓rS_sRetI, ↓rS_sRetJ, ↓rS_sRetA, ↓rS_sRetV, ↓rS_sSw, ↓rD_meth, ↓rD_on, ↓kR_ref, ↓kI_int, ↓kJ_long, ↓kN_null, ↓kN_ref, ↓kN_rf, ↓kQ_ref, ↓kQ_null, ↓kQ_rf, o1_i, o1ij_i, o1ji_i, o2_i, o2d_i, o2j_i, o2ji_i, o2c_i, fv_0, fv_1, fv_2, fv_3, pf_0, pf_2, pf_3, pf_4, rf_s, rf_n, is_self, ge_0, ge_s, ge_n, gd_s, gd_n, se_0, se_s, ag_0, ex_n, ex_i, ex_r, ex_0, ex_j, ex_q, ap_c, ap_n, List.append_nil, ln_c, ln_n, rp_0, rp_s, rt_0, rt_1, rt_20, rt_21, rt_2, rt_3, rt_4, rt_4n, rt_4q, nl_0, nl_1, nl_2, nl_3, nl_4, nl_5, nl_6, nl_7, nl_8, nl_9, nlB_i, nlB_r, nlB_n, nlB_f, nlB_q, ↓reduceIte, reduceCtorEq, Nat.reduceAdd, Nat.reduceSub, Nat.reduceEqDiff, Nat.reduceLeDiff, Nat.reduceBEq, ite_true, ite_false, dt_t, Bool.not_true, Bool.not_false, Bool.false_eq_true, Nat.le_refl, true_and, and_true, true_or, or_true, false_or, or_false, false_and, and_false, qEq, qNe, qLt, qGe, qGt, qLe, sT_35 hSt, sT_36 hSt, sT_37 hSt, sT_38 hSt, sT_39 hSt, sT_40 hSt, sT_41 hSt, sT_42 hSt, sT_43 hSt, sT_44 hSt, sT_45 hSt, sT_46 hSt, sT_47 hSt, sT_48 hSt, sT_49 hSt, sT_50 hSt, sT_51 hSt, sT_52 hSt, sT_53 hSt, sT_54 hSt, sT_55 hSt, sT_56 hSt, sT_57 hSt, sT_58 hSt, sT_59 hSt, sT_60 hSt, sT_61 hSt, sT_62 hSt, sT_63 hSt, sT_64 hSt, sT_65 hSt, sL_36 hSt, sL_37 hSt, sL_38 hSt, sL_39 hSt, sL_40 hSt, sL_41 hSt, sL_42 hSt, sL_43 hSt, sL_44 hSt, sL_45 hSt, sL_46 hSt, sL_47 hSt, sL_48 hSt, sL_49 hSt, sL_50 hSt, sL_51 hSt, sL_52 hSt, sL_53 hSt, sL_54 hSt, sL_55 hSt, sL_56 hSt, sL_57 hSt, sL_58 hSt, sL_59 hSt, sL_60 hSt, sL_61 hSt, sL_62 hSt, sL_63 hSt, sL_64 hSt, sL_65 hSt, sR_35_1 hSt, sR_35_2 hSt, sR_35_3 hSt, sR_35_4 hSt, sR_35_5 hSt, sR_35_6 hSt, sR_35_7 hSt, sR_35_11 hSt, sR_35_21 hSt, sR_35_22 hSt, sR_35_23 hSt, sR_35_24 hSt, sR_35_25 hSt, sR_35_26 hSt, sR_35_27 hSt, sR_35_28 hSt, sR_35_29 hSt, sR_35_30 hSt, sR_35_31 hSt, sR_35_32 hSt, sR_35_35 hSt, sR_35_37 hSt, sR_35_38 hSt, sR_35_39 hSt, sR_35_40 hSt, sR_35_41 hSt, sR_35_42 hSt, sR_35_46 hSt, sR_35_50 hSt, sR_35_52 hSt, hnt, hlt]
  obtain ⟨r, σ', h1, hM, hcu, rfl⟩ := hl
  refine ⟨σ', ?_, hM, hcu⟩
  refine rD_un.trans ?_
  have p8 : pI σ 35 8 = nI A := eA
  have p9 : pI (uI σ 35 8 (nI (sd A W))) 35 9 = cur σ 2 := by rw [pI_uI_nek _ _ _ _ (by decide)]; rfl
  have p41 : pI (uI (uI σ 35 8 (nI (sd A W))) 35 9 (cur σ 2 + m)) 41 s = cur σ (44 + s) := by rw [pI_uI_ne _ _ _ (by decide), pI_uI_ne _ _ _ (by decide), cus s8]
  simp only [D_X12_sing, B_X12_sing, ↓rE_eK, ↓rE_eLi, ↓rE_eLj, ↓rE_eLa, ↓rE_eU, ↓rE_eB, ↓rE_eG, ↓rE_eIF, ↓rE_eAI, ↓rE_eAX, ↓rE_eAJ, ↓rE_eAR, ↓rE_eLen, ↓rE_eSI, ↓rE_eC, ↓rE_eCall, ↓rE_eNew, ↓rE_eNewA, ↓rE_eInst, ↓rC_cI, ↓rC_cZ0, ↓rC_cN, ↓rC_cNot, ↓rC_cAnd, ↓rC_cOr, ↓rA_aN, ↓rA_aC, ↓rS_sP, ↓rS_sUF, ↓rS_sAI, ↓rS_sAJ, ↓rS_sAR, ↓rS_sUA, ↓rS_sCall, ↓rS_sObj, ↓rS_sSi, ↓rS_sSa, ↓rS_sSj, ↓rS_sInc, ↓rS_sSkip, ↓rS_sSeq, ↓rS_sIf, ↓rS_sRetI, ↓rS_sRetJ, ↓rS_sRetA, ↓rS_sRetV, ↓rS_sSw, ↓rD_meth, ↓rD_on, ↓kR_ref, ↓kI_int, ↓kJ_long, ↓kN_null, ↓kN_ref, ↓kN_rf, ↓kQ_ref, ↓kQ_null, ↓kQ_rf, o1_i, o1ij_i, o1ji_i, o2_i, o2d_i, o2j_i, o2ji_i, o2c_i, fv_0, fv_1, fv_2, fv_3, pf_0, pf_2, pf_3, pf_4, rf_s, rf_n, is_self, ge_0, ge_s, ge_n, gd_s, gd_n, se_0, se_s, ag_0, ex_n, ex_i, ex_r, ex_0, ex_j, ex_q, ap_c, ap_n, List.append_nil, ln_c, ln_n, rp_0, rp_s, rt_0, rt_1, rt_20, rt_21, rt_2, rt_3, rt_4, rt_4n, rt_4q, nl_0, nl_1, nl_2, nl_3, nl_4, nl_5, nl_6, nl_7, nl_8, nl_9, nlB_i, nlB_r, nlB_n, nlB_f, nlB_q, ↓reduceIte, reduceCtorEq, Nat.reduceAdd, Nat.reduceSub, Nat.reduceEqDiff, Nat.reduceLeDiff, Nat.reduceBEq, ite_true, ite_false, dt_t, Bool.not_true, Bool.not_false, Bool.false_eq_true, Nat.le_refl, true_and, and_true, true_or, or_true, false_or, or_false, false_and, and_false, qEq, qNe, qLt, qGe, qGt, qLe, sT_35 hS, sT_36 hS, sT_37 hS, sT_38 hS, sT_39 hS, sT_40 hS, sT_41 hS, sT_42 hS, sT_43 hS, sT_44 hS, sT_45 hS, sT_46 hS, sT_47 hS, sT_48 hS, sT_49 hS, sT_50 hS, sT_51 hS, sT_52 hS, sT_53 hS, sT_54 hS, sT_55 hS, sT_56 hS, sT_57 hS, sT_58 hS, sT_59 hS, sT_60 hS, sT_61 hS, sT_62 hS, sT_63 hS, sT_64 hS, sT_65 hS, sL_36 hS, sL_37 hS, sL_38 hS, sL_39 hS, sL_40 hS, sL_41 hS, sL_42 hS, sL_43 hS, sL_44 hS, sL_45 hS, sL_46 hS, sL_47 hS, sL_48 hS, sL_49 hS, sL_50 hS, sL_51 hS, sL_52 hS, sL_53 hS, sL_54 hS, sL_55 hS, sL_56 hS, sL_57 hS, sL_58 hS, sL_59 hS, sL_60 hS, sL_61 hS, sL_62 hS, sL_63 hS, sL_64 hS, sL_65 hS, sR_35_1 hS, sR_35_2 hS, sR_35_3 hS, sR_35_4 hS, sR_35_5 hS, sR_35_6 hS, sR_35_7 hS, sR_35_11 hS, sR_35_21 hS, sR_35_22 hS, sR_35_23 hS, sR_35_24 hS, sR_35_25 hS, sR_35_26 hS, sR_35_27 hS, sR_35_28 hS, sR_35_29 hS, sR_35_30 hS, sR_35_31 hS, sR_35_32 hS, sR_35_35 hS, sR_35_37 hS, sR_35_38 hS, sR_35_39 hS, sR_35_40 hS, sR_35_41 hS, sR_35_42 hS, sR_35_46 hS, sR_35_50 hS, sR_35_52 hS, rD_tb1, rD_of (d_isAsk_t hS hn h8 hb), p8, rD_of hy, one_ne0, not_false_eq_true, nt_t, not_true, rD_of hlen, nI_sdx, pT_uI, pL_uI, pR_uI, p9, hsib, hscl, p41, ← eτ, rS_inl h1]
theorem step_sing (Rk : (Nat → Nat → Int32) → Prop) (s w : Int32) {σ : pm_H} {n : Nat} (h : Rel Rk σ n) : Step Rk D_X11_sing D_X12_sing [.int s, .int w] σ := by
  have hs := Rel_Sh h
  have hv := Rel_VR h
  have hn := Rel_n h
  have h8 := Rel_8 h
  have hr := Rel_nr h
  obtain ⟨A, hA, eA, -⟩ := VR_A hv
  have hA8 := Nat.lt_of_lt_of_le hA (p2n h8)
  by_cases hb : isA n s w
  · have hb' := hb
    obtain ⟨h1, W, q1, q2, rfl, q4⟩ := hb'
    obtain ⟨i, hi, e1, e2⟩ := ib_ex h1
    subst e1
    have hx := d_song hv hA8 hi q1 q2 q4
    have hy := d_canBe hs hn (VR_mOk hv) hA8 hi q1 q2 q4
    have hmx := mxp_m (VR_mOk hv) q1 q2
    have hm2 := mx_m (VR_mOk hv) W n (Nat.le_refl _)
    have m0 : 0 < nI (mx (cur σ) W n) := by
      have := nI_lt' (a := 0) (b := mx (cur σ) W n) (by decide) (by omega)
      rw [nI_0] at this
      rw [this]; omega
    have m3 : ¬ (0 : Int32) < -4 := by decide
    by_cases hc : canB (cur σ) n A i W
    · obtain ⟨σ1, x1, x2, x3⟩ := d_settleSong h (m := nI (mx (cur σ) W n)) hA eA hi q2 hc.1 hc.2.1
      have hcu := Cls_cur h x2
      obtain ⟨σ2, y1, y2, y3⟩ := d_sing_m (σ := σ1) (Cls_Sh x2 hs) (by rw [Cls_35 h x2]; exact hn) (by rw [hcu]; exact VR_mOk hv) hA (by rw [hcu]; exact eA) hi q1 q2 q4 hb (by rw [hcu]; exact hc)
      rw [hcu] at y1 y3
      refine ⟨nI (mx (cur σ) W n), σ1, σ2, n, ?_, y1, Rel_cm h x2 x3 y2 y3, by rw [y2.2.2.2.1, x2.2.2.2.1]; omega, by rw [y2.2.2.2.2.1, x2.2.2.2.2.1]; omega⟩
      refine rD_un.trans ?_
      simp only [D_X11_sing, B_X11_sing, ↓rE_eK, ↓rE_eLi, ↓rE_eLj, ↓rE_eLa, ↓rE_eU, ↓rE_eB, ↓rE_eG, ↓rE_eIF, ↓rE_eAI, ↓rE_eAX, ↓rE_eAJ, ↓rE_eAR, ↓rE_eLen, ↓rE_eSI, ↓rE_eC, ↓rE_eCall, ↓rE_eNew, ↓rE_eNewA, ↓rE_eInst, ↓rC_cI, ↓rC_cZ0, ↓rC_cN, ↓rC_cNot, ↓rC_cAnd, ↓rC_cOr, ↓rA_aN, ↓rA_aC, ↓rS_sP, ↓rS_sUF, ↓rS_sAI, ↓rS_sAJ, ↓rS_sAR, ↓rS_sUA, ↓rS_sCall, ↓rS_sObj, ↓rS_sSi, ↓rS_sSa, ↓rS_sSj, ↓rS_sInc, ↓rS_sSkip, ↓rS_sSeq, ↓rS_sIf, ↓rS_sRetI, ↓rS_sRetJ, ↓rS_sRetA, ↓rS_sRetV, ↓rS_sSw, ↓rD_meth, ↓rD_on, ↓kR_ref, ↓kI_int, ↓kJ_long, ↓kN_null, ↓kN_ref, ↓kN_rf, ↓kQ_ref, ↓kQ_null, ↓kQ_rf, o1_i, o1ij_i, o1ji_i, o2_i, o2d_i, o2j_i, o2ji_i, o2c_i, fv_0, fv_1, fv_2, fv_3, pf_0, pf_2, pf_3, pf_4, rf_s, rf_n, is_self, ge_0, ge_s, ge_n, gd_s, gd_n, se_0, se_s, ag_0, ex_n, ex_i, ex_r, ex_0, ex_j, ex_q, ap_c, ap_n, List.append_nil, ln_c, ln_n, rp_0, rp_s, rt_0, rt_1, rt_20, rt_21, rt_2, rt_3, rt_4, rt_4n, rt_4q, nl_0, nl_1, nl_2, nl_3, nl_4, nl_5, nl_6, nl_7, nl_8, nl_9, nlB_i, nlB_r, nlB_n, nlB_f, nlB_q, ↓reduceIte, reduceCtorEq, Nat.reduceAdd, Nat.reduceSub, Nat.reduceEqDiff, Nat.reduceLeDiff, Nat.reduceBEq, ite_true, ite_false, dt_t, Bool.not_true, Bool.not_false, Bool.false_eq_true, Nat.le_refl, true_and, and_true, true_or, or_true, false_or, or_false, false_and, and_false, qEq, qNe, qLt, qGe, qGt, qLe, hr, sT_11 hs, sT_12 hs, sT_13 hs, sT_14 hs, sT_15 hs, sT_16 hs, sT_17 hs, sT_18 hs, sT_19 hs, sT_20 hs, sT_21 hs, sT_22 hs, sT_23 hs, sT_24 hs, sT_25 hs, sT_26 hs, sT_27 hs, sT_28 hs, sT_29 hs, sT_30 hs, sT_31 hs, sT_32 hs, sT_33 hs, sT_34 hs, sL_13 hs, sL_14 hs, sL_16 hs, sL_17 hs, sL_18 hs, sL_19 hs, sL_20 hs, sL_21 hs, sL_22 hs, sL_23 hs, sL_24 hs, sL_25 hs, sL_26 hs, sL_28 hs, sL_30 hs, sL_31 hs, sL_32 hs, sL_33 hs, sL_34 hs, sR_11_2 hs, sR_11_3 hs, sR_11_4 hs, sR_11_5 hs, sR_11_7 hs, sR_11_8 hs, sR_11_9 hs, sR_27_0 hs, sR_29_0 hs, sR_15_0 hs, sR_15_3 hs, sR_15_5 hs, sR_15_6 hs, sR_15_7 hs, sR_15_8 hs, sR_15_9 hs, sR_15_10 hs, sR_15_11 hs, sR_15_12 hs, sR_15_13 hs, rD_tb1 (VR_T hv), rD_of (d_awakeSet hv), eA, rD_of (hx.1 hc), m0, rD_of x1]
    · refine ⟨-4, σ, σ, n, ?_, ?_, h, by omega, by omega⟩
      · refine rD_un.trans ?_
        simp only [D_X11_sing, B_X11_sing, ↓rE_eK, ↓rE_eLi, ↓rE_eLj, ↓rE_eLa, ↓rE_eU, ↓rE_eB, ↓rE_eG, ↓rE_eIF, ↓rE_eAI, ↓rE_eAX, ↓rE_eAJ, ↓rE_eAR, ↓rE_eLen, ↓rE_eSI, ↓rE_eC, ↓rE_eCall, ↓rE_eNew, ↓rE_eNewA, ↓rE_eInst, ↓rC_cI, ↓rC_cZ0, ↓rC_cN, ↓rC_cNot, ↓rC_cAnd, ↓rC_cOr, ↓rA_aN, ↓rA_aC, ↓rS_sP, ↓rS_sUF, ↓rS_sAI, ↓rS_sAJ, ↓rS_sAR, ↓rS_sUA, ↓rS_sCall, ↓rS_sObj, ↓rS_sSi, ↓rS_sSa, ↓rS_sSj, ↓rS_sInc, ↓rS_sSkip, ↓rS_sSeq, ↓rS_sIf, ↓rS_sRetI, ↓rS_sRetJ, ↓rS_sRetA, ↓rS_sRetV, ↓rS_sSw, ↓rD_meth, ↓rD_on, ↓kR_ref, ↓kI_int, ↓kJ_long, ↓kN_null, ↓kN_ref, ↓kN_rf, ↓kQ_ref, ↓kQ_null, ↓kQ_rf, o1_i, o1ij_i, o1ji_i, o2_i, o2d_i, o2j_i, o2ji_i, o2c_i, fv_0, fv_1, fv_2, fv_3, pf_0, pf_2, pf_3, pf_4, rf_s, rf_n, is_self, ge_0, ge_s, ge_n, gd_s, gd_n, se_0, se_s, ag_0, ex_n, ex_i, ex_r, ex_0, ex_j, ex_q, ap_c, ap_n, List.append_nil, ln_c, ln_n, rp_0, rp_s, rt_0, rt_1, rt_20, rt_21, rt_2, rt_3, rt_4, rt_4n, rt_4q, nl_0, nl_1, nl_2, nl_3, nl_4, nl_5, nl_6, nl_7, nl_8, nl_9, nlB_i, nlB_r, nlB_n, nlB_f, nlB_q, ↓reduceIte, reduceCtorEq, Nat.reduceAdd, Nat.reduceSub, Nat.reduceEqDiff, Nat.reduceLeDiff, Nat.reduceBEq, ite_true, ite_false, dt_t, Bool.not_true, Bool.not_false, Bool.false_eq_true, Nat.le_refl, true_and, and_true, true_or, or_true, false_or, or_false, false_and, and_false, qEq, qNe, qLt, qGe, qGt, qLe, hr, sT_11 hs, sT_12 hs, sT_13 hs, sT_14 hs, sT_15 hs, sT_16 hs, sT_17 hs, sT_18 hs, sT_19 hs, sT_20 hs, sT_21 hs, sT_22 hs, sT_23 hs, sT_24 hs, sT_25 hs, sT_26 hs, sT_27 hs, sT_28 hs, sT_29 hs, sT_30 hs, sT_31 hs, sT_32 hs, sT_33 hs, sT_34 hs, sL_13 hs, sL_14 hs, sL_16 hs, sL_17 hs, sL_18 hs, sL_19 hs, sL_20 hs, sL_21 hs, sL_22 hs, sL_23 hs, sL_24 hs, sL_25 hs, sL_26 hs, sL_28 hs, sL_30 hs, sL_31 hs, sL_32 hs, sL_33 hs, sL_34 hs, sR_11_2 hs, sR_11_3 hs, sR_11_4 hs, sR_11_5 hs, sR_11_7 hs, sR_11_8 hs, sR_11_9 hs, sR_27_0 hs, sR_29_0 hs, sR_15_0 hs, sR_15_3 hs, sR_15_5 hs, sR_15_6 hs, sR_15_7 hs, sR_15_8 hs, sR_15_9 hs, sR_15_10 hs, sR_15_11 hs, sR_15_12 hs, sR_15_13 hs, rD_tb1 (VR_T hv), rD_of (d_awakeSet hv), eA, rD_of (hx.2 hc), m3]
      · refine rD_un.trans ?_
        simp only [D_X12_sing, B_X12_sing, ↓rE_eK, ↓rE_eLi, ↓rE_eLj, ↓rE_eLa, ↓rE_eU, ↓rE_eB, ↓rE_eG, ↓rE_eIF, ↓rE_eAI, ↓rE_eAX, ↓rE_eAJ, ↓rE_eAR, ↓rE_eLen, ↓rE_eSI, ↓rE_eC, ↓rE_eCall, ↓rE_eNew, ↓rE_eNewA, ↓rE_eInst, ↓rC_cI, ↓rC_cZ0, ↓rC_cN, ↓rC_cNot, ↓rC_cAnd, ↓rC_cOr, ↓rA_aN, ↓rA_aC, ↓rS_sP, ↓rS_sUF, ↓rS_sAI, ↓rS_sAJ, ↓rS_sAR, ↓rS_sUA, ↓rS_sCall, ↓rS_sObj, ↓rS_sSi, ↓rS_sSa, ↓rS_sSj, ↓rS_sInc, ↓rS_sSkip, ↓rS_sSeq, ↓rS_sIf, ↓rS_sRetI, ↓rS_sRetJ, ↓rS_sRetA, ↓rS_sRetV, ↓rS_sSw, ↓rD_meth, ↓rD_on, ↓kR_ref, ↓kI_int, ↓kJ_long, ↓kN_null, ↓kN_ref, ↓kN_rf, ↓kQ_ref, ↓kQ_null, ↓kQ_rf, o1_i, o1ij_i, o1ji_i, o2_i, o2d_i, o2j_i, o2ji_i, o2c_i, fv_0, fv_1, fv_2, fv_3, pf_0, pf_2, pf_3, pf_4, rf_s, rf_n, is_self, ge_0, ge_s, ge_n, gd_s, gd_n, se_0, se_s, ag_0, ex_n, ex_i, ex_r, ex_0, ex_j, ex_q, ap_c, ap_n, List.append_nil, ln_c, ln_n, rp_0, rp_s, rt_0, rt_1, rt_20, rt_21, rt_2, rt_3, rt_4, rt_4n, rt_4q, nl_0, nl_1, nl_2, nl_3, nl_4, nl_5, nl_6, nl_7, nl_8, nl_9, nlB_i, nlB_r, nlB_n, nlB_f, nlB_q, ↓reduceIte, reduceCtorEq, Nat.reduceAdd, Nat.reduceSub, Nat.reduceEqDiff, Nat.reduceLeDiff, Nat.reduceBEq, ite_true, ite_false, dt_t, Bool.not_true, Bool.not_false, Bool.false_eq_true, Nat.le_refl, true_and, and_true, true_or, or_true, false_or, or_false, false_and, and_false, qEq, qNe, qLt, qGe, qGt, qLe, sT_35 hs, sT_36 hs, sT_37 hs, sT_38 hs, sT_39 hs, sT_40 hs, sT_41 hs, sT_42 hs, sT_43 hs, sT_44 hs, sT_45 hs, sT_46 hs, sT_47 hs, sT_48 hs, sT_49 hs, sT_50 hs, sT_51 hs, sT_52 hs, sT_53 hs, sT_54 hs, sT_55 hs, sT_56 hs, sT_57 hs, sT_58 hs, sT_59 hs, sT_60 hs, sT_61 hs, sT_62 hs, sT_63 hs, sT_64 hs, sT_65 hs, sL_36 hs, sL_37 hs, sL_38 hs, sL_39 hs, sL_40 hs, sL_41 hs, sL_42 hs, sL_43 hs, sL_44 hs, sL_45 hs, sL_46 hs, sL_47 hs, sL_48 hs, sL_49 hs, sL_50 hs, sL_51 hs, sL_52 hs, sL_53 hs, sL_54 hs, sL_55 hs, sL_56 hs, sL_57 hs, sL_58 hs, sL_59 hs, sL_60 hs, sL_61 hs, sL_62 hs, sL_63 hs, sL_64 hs, sL_65 hs, sR_35_1 hs, sR_35_2 hs, sR_35_3 hs, sR_35_4 hs, sR_35_5 hs, sR_35_6 hs, sR_35_7 hs, sR_35_11 hs, sR_35_21 hs, sR_35_22 hs, sR_35_23 hs, sR_35_24 hs, sR_35_25 hs, sR_35_26 hs, sR_35_27 hs, sR_35_28 hs, sR_35_29 hs, sR_35_30 hs, sR_35_31 hs, sR_35_32 hs, sR_35_35 hs, sR_35_37 hs, sR_35_38 hs, sR_35_39 hs, sR_35_40 hs, sR_35_41 hs, sR_35_42 hs, sR_35_46 hs, sR_35_50 hs, sR_35_52 hs, rD_tb1, rD_of (d_isAsk_t hs hn h8 hb), ← cu1, eA, rD_of (hy.2 hc), one_ne0, not_false_eq_true, nt_t, not_true]
  · have m3 : ¬ (0 : Int32) < -1 := by decide
    refine ⟨-1, σ, σ, n, ?_, ?_, h, by omega, by omega⟩
    · refine rD_un.trans ?_
      simp only [D_X11_sing, B_X11_sing, ↓rE_eK, ↓rE_eLi, ↓rE_eLj, ↓rE_eLa, ↓rE_eU, ↓rE_eB, ↓rE_eG, ↓rE_eIF, ↓rE_eAI, ↓rE_eAX, ↓rE_eAJ, ↓rE_eAR, ↓rE_eLen, ↓rE_eSI, ↓rE_eC, ↓rE_eCall, ↓rE_eNew, ↓rE_eNewA, ↓rE_eInst, ↓rC_cI, ↓rC_cZ0, ↓rC_cN, ↓rC_cNot, ↓rC_cAnd, ↓rC_cOr, ↓rA_aN, ↓rA_aC, ↓rS_sP, ↓rS_sUF, ↓rS_sAI, ↓rS_sAJ, ↓rS_sAR, ↓rS_sUA, ↓rS_sCall, ↓rS_sObj, ↓rS_sSi, ↓rS_sSa, ↓rS_sSj, ↓rS_sInc, ↓rS_sSkip, ↓rS_sSeq, ↓rS_sIf, ↓rS_sRetI, ↓rS_sRetJ, ↓rS_sRetA, ↓rS_sRetV, ↓rS_sSw, ↓rD_meth, ↓rD_on, ↓kR_ref, ↓kI_int, ↓kJ_long, ↓kN_null, ↓kN_ref, ↓kN_rf, ↓kQ_ref, ↓kQ_null, ↓kQ_rf, o1_i, o1ij_i, o1ji_i, o2_i, o2d_i, o2j_i, o2ji_i, o2c_i, fv_0, fv_1, fv_2, fv_3, pf_0, pf_2, pf_3, pf_4, rf_s, rf_n, is_self, ge_0, ge_s, ge_n, gd_s, gd_n, se_0, se_s, ag_0, ex_n, ex_i, ex_r, ex_0, ex_j, ex_q, ap_c, ap_n, List.append_nil, ln_c, ln_n, rp_0, rp_s, rt_0, rt_1, rt_20, rt_21, rt_2, rt_3, rt_4, rt_4n, rt_4q, nl_0, nl_1, nl_2, nl_3, nl_4, nl_5, nl_6, nl_7, nl_8, nl_9, nlB_i, nlB_r, nlB_n, nlB_f, nlB_q, ↓reduceIte, reduceCtorEq, Nat.reduceAdd, Nat.reduceSub, Nat.reduceEqDiff, Nat.reduceLeDiff, Nat.reduceBEq, ite_true, ite_false, dt_t, Bool.not_true, Bool.not_false, Bool.false_eq_true, Nat.le_refl, true_and, and_true, true_or, or_true, false_or, or_false, false_and, and_false, qEq, qNe, qLt, qGe, qGt, qLe, hr, sT_11 hs, sT_12 hs, sT_13 hs, sT_14 hs, sT_15 hs, sT_16 hs, sT_17 hs, sT_18 hs, sT_19 hs, sT_20 hs, sT_21 hs, sT_22 hs, sT_23 hs, sT_24 hs, sT_25 hs, sT_26 hs, sT_27 hs, sT_28 hs, sT_29 hs, sT_30 hs, sT_31 hs, sT_32 hs, sT_33 hs, sT_34 hs, sL_13 hs, sL_14 hs, sL_16 hs, sL_17 hs, sL_18 hs, sL_19 hs, sL_20 hs, sL_21 hs, sL_22 hs, sL_23 hs, sL_24 hs, sL_25 hs, sL_26 hs, sL_28 hs, sL_30 hs, sL_31 hs, sL_32 hs, sL_33 hs, sL_34 hs, sR_11_2 hs, sR_11_3 hs, sR_11_4 hs, sR_11_5 hs, sR_11_7 hs, sR_11_8 hs, sR_11_9 hs, sR_27_0 hs, sR_29_0 hs, sR_15_0 hs, sR_15_3 hs, sR_15_5 hs, sR_15_6 hs, sR_15_7 hs, sR_15_8 hs, sR_15_9 hs, sR_15_10 hs, sR_15_11 hs, sR_15_12 hs, sR_15_13 hs, rD_tb1 (VR_T hv), rD_of (d_awakeSet hv), rD_of (d_song_bad hv hb), m3]
    · refine rD_un.trans ?_
      simp only [D_X12_sing, B_X12_sing, ↓rE_eK, ↓rE_eLi, ↓rE_eLj, ↓rE_eLa, ↓rE_eU, ↓rE_eB, ↓rE_eG, ↓rE_eIF, ↓rE_eAI, ↓rE_eAX, ↓rE_eAJ, ↓rE_eAR, ↓rE_eLen, ↓rE_eSI, ↓rE_eC, ↓rE_eCall, ↓rE_eNew, ↓rE_eNewA, ↓rE_eInst, ↓rC_cI, ↓rC_cZ0, ↓rC_cN, ↓rC_cNot, ↓rC_cAnd, ↓rC_cOr, ↓rA_aN, ↓rA_aC, ↓rS_sP, ↓rS_sUF, ↓rS_sAI, ↓rS_sAJ, ↓rS_sAR, ↓rS_sUA, ↓rS_sCall, ↓rS_sObj, ↓rS_sSi, ↓rS_sSa, ↓rS_sSj, ↓rS_sInc, ↓rS_sSkip, ↓rS_sSeq, ↓rS_sIf, ↓rS_sRetI, ↓rS_sRetJ, ↓rS_sRetA, ↓rS_sRetV, ↓rS_sSw, ↓rD_meth, ↓rD_on, ↓kR_ref, ↓kI_int, ↓kJ_long, ↓kN_null, ↓kN_ref, ↓kN_rf, ↓kQ_ref, ↓kQ_null, ↓kQ_rf, o1_i, o1ij_i, o1ji_i, o2_i, o2d_i, o2j_i, o2ji_i, o2c_i, fv_0, fv_1, fv_2, fv_3, pf_0, pf_2, pf_3, pf_4, rf_s, rf_n, is_self, ge_0, ge_s, ge_n, gd_s, gd_n, se_0, se_s, ag_0, ex_n, ex_i, ex_r, ex_0, ex_j, ex_q, ap_c, ap_n, List.append_nil, ln_c, ln_n, rp_0, rp_s, rt_0, rt_1, rt_20, rt_21, rt_2, rt_3, rt_4, rt_4n, rt_4q, nl_0, nl_1, nl_2, nl_3, nl_4, nl_5, nl_6, nl_7, nl_8, nl_9, nlB_i, nlB_r, nlB_n, nlB_f, nlB_q, ↓reduceIte, reduceCtorEq, Nat.reduceAdd, Nat.reduceSub, Nat.reduceEqDiff, Nat.reduceLeDiff, Nat.reduceBEq, ite_true, ite_false, dt_t, Bool.not_true, Bool.not_false, Bool.false_eq_true, Nat.le_refl, true_and, and_true, true_or, or_true, false_or, or_false, false_and, and_false, qEq, qNe, qLt, qGe, qGt, qLe, sT_35 hs, sT_36 hs, sT_37 hs, sT_38 hs, sT_39 hs, sT_40 hs, sT_41 hs, sT_42 hs, sT_43 hs, sT_44 hs, sT_45 hs, sT_46 hs, sT_47 hs, sT_48 hs, sT_49 hs, sT_50 hs, sT_51 hs, sT_52 hs, sT_53 hs, sT_54 hs, sT_55 hs, sT_56 hs, sT_57 hs, sT_58 hs, sT_59 hs, sT_60 hs, sT_61 hs, sT_62 hs, sT_63 hs, sT_64 hs, sT_65 hs, sL_36 hs, sL_37 hs, sL_38 hs, sL_39 hs, sL_40 hs, sL_41 hs, sL_42 hs, sL_43 hs, sL_44 hs, sL_45 hs, sL_46 hs, sL_47 hs, sL_48 hs, sL_49 hs, sL_50 hs, sL_51 hs, sL_52 hs, sL_53 hs, sL_54 hs, sL_55 hs, sL_56 hs, sL_57 hs, sL_58 hs, sL_59 hs, sL_60 hs, sL_61 hs, sL_62 hs, sL_63 hs, sL_64 hs, sL_65 hs, sR_35_1 hs, sR_35_2 hs, sR_35_3 hs, sR_35_4 hs, sR_35_5 hs, sR_35_6 hs, sR_35_7 hs, sR_35_11 hs, sR_35_21 hs, sR_35_22 hs, sR_35_23 hs, sR_35_24 hs, sR_35_25 hs, sR_35_26 hs, sR_35_27 hs, sR_35_28 hs, sR_35_29 hs, sR_35_30 hs, sR_35_31 hs, sR_35_32 hs, sR_35_35 hs, sR_35_37 hs, sR_35_38 hs, sR_35_39 hs, sR_35_40 hs, sR_35_41 hs, sR_35_42 hs, sR_35_46 hs, sR_35_50 hs, sR_35_52 hs, rD_tb1, rD_of (d_isAsk_f hs hn h8 hb), not_true, nt_t, not_false_eq_true]
