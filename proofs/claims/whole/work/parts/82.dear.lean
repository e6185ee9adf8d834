/-! dearest, inTurn. -/
variable {Q : (Nat → Int32) × Nat}
def bsI (ok : Nat → Bool) (lt : Nat → Nat → Bool) : Nat → Option Nat
  | 0 => none
  | k + 1 => if ok k = true ∧ (bsI ok lt k).all (fun b => lt k b) = true then some k else bsI ok lt k
def oI (x : Option Nat) : Int32 := match x with
  | none => -3
  | some b => nI b
def fe (val : Nat → Int32) (x : Option Nat) : Int32 := match x with
  | none => 0
  | some b => val b
theorem bsI_lt {ok : Nat → Bool} {lt : Nat → Nat → Bool} {b : Nat} : ∀ k, bsI ok lt k = some b → b < k ∧ ok b = true := by
  intro k
  induction k with
  | zero => intro q; cases q
  | succ k ih =>
    intro q
    rw [bsI] at q
    by_cases c : ok k = true ∧ (bsI ok lt k).all (fun b => lt k b) = true
    · rw [if_pos c] at q
      injection q with q
      subst q
      exact ⟨by omega, c.1⟩
    · rw [if_neg c] at q
      obtain ⟨a, a'⟩ := ih q
      exact ⟨by omega, a'⟩
theorem bsI_le {ok : Nat → Bool} {lt : Nat → Nat → Bool} {n : Nat} (h : ∀ i, n ≤ i → ok i = false) : ∀ k, n ≤ k → bsI ok lt k = bsI ok lt n := by
  intro k hk
  induction k with
  | zero => have : n = 0 := by omega
            rw [this]
  | succ k ih =>
    by_cases e : n = k + 1
    · rw [e]
    · rw [bsI, if_neg (fun q => by rw [h k (by omega)] at q; cases q.1)]
      exact ih (by omega)
theorem bsI_congr {ok ok' : Nat → Bool} {lt lt' : Nat → Nat → Bool} : ∀ k, (∀ i, i < k → ok i = ok' i) → (∀ i b, i < k → b < k → lt i b = lt' i b) → bsI ok lt k = bsI ok' lt' k := by
  intro k
  induction k with
  | zero => intro _ _; rfl
  | succ k ih =>
    intro h1 h2
    have hi := ih (fun i q => h1 i (by omega)) (fun i b q1 q2 => h2 i b (by omega) (by omega))
    rw [bsI, bsI, hi, h1 k (by omega)]
    have : (bsI ok' lt' k).all (fun b => lt k b) = (bsI ok' lt' k).all (fun b => lt' k b) := by
      cases q : bsI ok' lt' k with
      | none => rfl
      | some b =>
        have := (bsI_lt k q).1
        show lt k b = lt' k b
        exact h2 k b (by omega) (by omega)
    rw [this]
theorem bsI_no {ok : Nat → Bool} {lt : Nat → Nat → Bool} (h : ∀ i, ok i = false) : ∀ k, bsI ok lt k = none := by
  intro k
  induction k with
  | zero => rfl
  | succ k ih => rw [bsI, if_neg (fun q => by rw [h k] at q; cases q.1)]; exact ih
theorem m3_int : (-3 : Int32).toInt = -3 := by decide
theorem oI_m3 {x : Option Nat} (h : ∀ b, x = some b → b < 8) : (oI x = -3) = (x = none) := by
  cases x with
  | none => exact propext ⟨fun _ => rfl, fun _ => rfl⟩
  | some b =>
    have := h b rfl
    show (nI b = -3) = _
    rw [i_eq, nI_toInt (by omega), m3_int]
    exact propext ⟨fun q => by omega, fun q => by cases q⟩
theorem oI_neg {x : Option Nat} (h : ∀ b, x = some b → b < 8) : (oI x < 0) = (x = none) := by
  cases x with
  | none => exact propext ⟨fun _ => rfl, fun _ => by decide⟩
  | some b =>
    have := h b rfl
    show (nI b < 0) = _
    rw [i_lt, nI_toInt (by omega), i_0]
    exact propext ⟨fun q => by omega, fun q => by cases q⟩
theorem sub_int {a b : Nat} (ha : a ≤ 1000000) (hb : b ≤ 1000000) : (nI a - nI b).toInt = (a : Int) - b := by
  rw [Int32.toInt_sub, nI_toInt (by omega), nI_toInt (by omega)]
  exact Int.bmod_eq_of_le (by omega) (by omega)
theorem nI_x3 {m : Nat} (h : m < 1000000) : (nI m = -3) = False := by
  rw [i_eq, nI_toInt (by omega), m3_int]
  exact eq_false (by omega)
/-- who is dear -/
def dok (M : Nat → Nat) (A i : Nat) : Bool := A.testBit i && (decide (M A < 1000000) && decide (M (sd A (2 ^ i)) < 1000000))
def dlt (M : Nat → Nat) (A i b : Nat) : Bool := decide (M (sd A (2 ^ i)) < M (sd A (2 ^ b)))
theorem dok_iff {M : Nat → Nat} {A i : Nat} : dok M A i = true ↔ A.testBit i = true ∧ M A < 1000000 ∧ M (sd A (2 ^ i)) < 1000000 := by
  unfold dok
  simp only [Bool.and_eq_true, decide_eq_true_eq]
theorem bs_some {ok : Nat → Bool} {lt : Nat → Nat → Bool} {k : Nat} (h : ok k = true) (h' : (bsI ok lt k).all (fun b => lt k b) = true) : bsI ok lt (k + 1) = some k := by rw [bsI, if_pos ⟨h, h'⟩]
theorem bs_keep {ok : Nat → Bool} {lt : Nat → Nat → Bool} {k : Nat} (h : ¬ (ok k = true ∧ (bsI ok lt k).all (fun b => lt k b) = true)) : bsI ok lt (k + 1) = bsI ok lt k := by rw [bsI, if_neg h]
theorem d_dear_c {s : pm_H} (hS : Sh s) {A : Nat} {M S R B Y : Nat → Nat} (hA : A < 256) (e1 : pI s 15 1 = nI A) (hM : M A < 1000000) (hT : ∀ C, sub C A → T5 s M S R B Y C) : ∃ r σ', sLoop (cI qLt (eLi 4) (eK (.int 8))) (sSeq (sIf (cI qEq (eB f_iand (eB f_ishr (eLi 1) (eLi 4)) (eK (.int 1))) (eK (.int 1))) (sSeq (sSi 5 (eCall (pm_disp (tb1 3 D_X3_leastOf)) (aC (eG (is 11) 3 2 (eLa 0)) (aC (eB f_iand (eLi 1) (eB f_ixor (eB f_ishl (eK (.int 1)) (eLi 4)) (eK (.int (-1))))) (aN))))) (sIf (cAnd (cI qNe (eLi 5) (eK (.int (-3)))) (cOr (cI qEq (eLi 2) (eK (.int (-3)))) (cI qLt (eLi 5) (eLi 3)))) (sSeq (sSi 2 (eLi 4)) (sSi 3 (eLi 5))) sSkip)) sSkip) (sInc 4 1)) [.ref 11, .int (nI A), .int (-3), .int 0, .int 0, .float 0] s = some (r, σ') ∧ (σ' = s ∧ ∃ x y z, r = .inl [.ref 11, .int (nI A), .int (oI (bsI (dok M A) (dlt M A) 8)), x, y, z]) := by
  refine loop_gen (fun i env t => t = s ∧ ∃ w5, env = [.ref 11, .int (nI A), .int (oI (bsI (dok M A) (dlt M A) i)), .int (fe (fun b => nI (M (sd A (2 ^ b)))) (bsI (dok M A) (dlt M A) i)), .int (nI i), w5]) _ 8 (by omega) ⟨rfl, .float 0, by rw [nI_0]; rfl⟩ ?_
  rintro i env t hi ⟨rfl, w5, rfl⟩
  have hlt : (nI i < 8) = (i < 8) := nI_lt' (b := 8) (by omega) (by decide)
  by_cases e : i < 8
  · left
    have hb2 : nI A >>> (nI i &&& 31) &&& 1 = if A.testBit i then 1 else 0 := bt_nI hA e
    have h01 : ¬ (0 : Int32) = 1 := by decide
    by_cases hw : A.testBit i = true
    · rw [if_pos hw] at hb2
      have hC := sd_sub A (2 ^ i)
      have q2 := d_leastOf hS hA e1 hC (hT _ hC)
      have hm6 := (hT _ hC).1.2.1
      by_cases c : M (sd A (2 ^ i)) = 1000000
      · rw [if_pos c] at q2
        have hk : bsI (dok M A) (dlt M A) (i + 1) = bsI (dok M A) (dlt M A) i := bs_keep (fun q => by have := (dok_iff.mp q.1).2.2; omega)
        refine ⟨[.ref 11, .int (nI A), .int (oI (bsI (dok M A) (dlt M A) i)), .int (fe (fun b => nI (M (sd A (2 ^ b)))) (bsI (dok M A) (dlt M A) i)), .int (nI (i + 1)), .int (-3)], t, ?_, e, rfl, .int (-3), by rw [hk]⟩
        simp only [lpStep, ↓rE_eK, ↓rE_eLi, ↓rE_eLj, ↓rE_eLa, ↓rE_eU, ↓rE_eB, ↓rE_eG, ↓rE_eIF, ↓rE_eAI, ↓rE_eAX, ↓rE_eAJ, ↓rE_eAR, ↓rE_eLen, ↓rE_eSI, ↓rE_eC, ↓rE_eCall, ↓rE_eNew, ↓rE_eNewA, ↓rE_eInst, ↓rC_cI, ↓rC_cZ0, ↓rC_cN, ↓rC_cNot, ↓rC_cAnd, ↓rC_cOr, ↓rA_aN, ↓rA_aC, ↓rS_sP, ↓rS_sUF, ↓rS_sAI, ↓rS_sAJ, ↓rS_sAR, ↓rS_sUA, ↓rS_sCall, ↓rS_sObj, ↓rS_sSi, ↓rS_sSa, ↓rS_sSj, ↓rS_sInc, ↓rS_sSkip, ↓rS_sSeq, ↓rS_sIf, ↓rS_sRetI, ↓rS_sRetJ, ↓rS_sRetA, ↓rS_sRetV, ↓rS_sSw, ↓rD_meth, ↓rD_on, ↓kR_ref, ↓kI_int, ↓kJ_long, ↓kN_null, ↓kN_ref, ↓kN_rf, ↓kQ_ref, ↓kQ_null, ↓kQ_rf, o1_i, o1ij_i, o1ji_i, o2_i, o2d_i, o2j_i, o2ji_i, o2c_i, fv_0, fv_1, fv_2, fv_3, pf_0, pf_2, pf_3, pf_4, rf_s, rf_n, is_self, ge_0, ge_s, ge_n, gd_s, gd_n, se_0, se_s, ag_0, ex_n, ex_i, ex_r, ex_0, ex_j, ex_q, ap_c, ap_n, List.append_nil, ln_c, ln_n, rp_0, rp_s, rt_0, rt_1, rt_20, rt_21, rt_2, rt_3, rt_4, rt_4n, rt_4q, nl_0, nl_1, nl_2, nl_3, nl_4, nl_5, nl_6, nl_7, nl_8, nl_9, nlB_i, nlB_r, nlB_n, nlB_f, nlB_q, ↓reduceIte, reduceCtorEq, Nat.reduceAdd, Nat.reduceSub, Nat.reduceEqDiff, Nat.reduceLeDiff, Nat.reduceBEq, ite_true, ite_false, dt_t, Bool.not_true, Bool.not_false, Bool.false_eq_true, Nat.le_refl, true_and, and_true, true_or, or_true, false_or, or_false, false_and, and_false, qEq, qNe, qLt, qGe, qGt, qLe, hlt, e, hb2, sT_11 hS, sT_12 hS, sT_13 hS, sT_14 hS, sT_15 hS, sT_16 hS, sT_17 hS, sT_18 hS, sT_19 hS, sT_20 hS, sT_21 hS, sT_22 hS, sT_23 hS, sT_24 hS, sT_25 hS, sT_26 hS, sT_27 hS, sT_28 hS, sT_29 hS, sT_30 hS, sT_31 hS, sT_32 hS, sT_33 hS, sT_34 hS, sL_13 hS, sL_14 hS, sL_16 hS, sL_17 hS, sL_18 hS, sL_19 hS, sL_20 hS, sL_21 hS, sL_22 hS, sL_23 hS, sL_24 hS, sL_25 hS, sL_26 hS, sL_28 hS, sL_30 hS, sL_31 hS, sL_32 hS, sL_33 hS, sL_34 hS, sR_11_2 hS, sR_11_3 hS, sR_11_4 hS, sR_11_5 hS, sR_11_7 hS, sR_11_8 hS, sR_11_9 hS, sR_27_0 hS, sR_29_0 hS, sR_15_0 hS, sR_15_3 hS, sR_15_5 hS, sR_15_6 hS, sR_15_7 hS, sR_15_8 hS, sR_15_9 hS, sR_15_10 hS, sR_15_11 hS, sR_15_12 hS, sR_15_13 hS, nI_shl e, nI_sdx, rD_tb1 (sT_15 hS), rD_of q2, nI_1, not_true]
      · rw [if_neg c] at q2
        have hok : dok M A i = true := dok_iff.mpr ⟨hw, hM, by omega⟩
        have hx3 := nI_x3 (show M (sd A (2 ^ i)) < 1000000 by omega)
        cases hq : bsI (dok M A) (dlt M A) i with
        | none =>
          have hs : bsI (dok M A) (dlt M A) (i + 1) = some i := bs_some hok (by rw [hq]; rfl)
          refine ⟨[.ref 11, .int (nI A), .int (nI i), .int (nI (M (sd A (2 ^ i)))), .int (nI (i + 1)), .int (nI (M (sd A (2 ^ i))))], t, ?_, e, rfl, .int (nI (M (sd A (2 ^ i)))), by rw [hs]; rfl⟩
          have ho : oI (none : Option Nat) = -3 := rfl
          simp only [lpStep, ↓rE_eK, ↓rE_eLi, ↓rE_eLj, ↓rE_eLa, ↓rE_eU, ↓rE_eB, ↓rE_eG, ↓rE_eIF, ↓rE_eAI, ↓rE_eAX, ↓rE_eAJ, ↓rE_eAR, ↓rE_eLen, ↓rE_eSI, ↓rE_eC, ↓rE_eCall, ↓rE_eNew, ↓rE_eNewA, ↓rE_eInst, ↓rC_cI, ↓rC_cZ0, ↓rC_cN, ↓rC_cNot, ↓rC_cAnd, ↓rC_cOr, ↓rA_aN, ↓rA_aC, ↓rS_sP, ↓rS_sUF, ↓rS_sAI, ↓rS_sAJ, ↓rS_sAR, ↓rS_sUA, ↓rS_sCall, ↓rS_sObj, ↓rS_sSi, ↓rS_sSa, ↓rS_sSj, ↓rS_sInc, ↓rS_sSkip, ↓rS_sSeq, ↓rS_sIf, ↓rS_sRetI, ↓rS_sRetJ, ↓rS_sRetA, ↓rS_sRetV, ↓rS_sSw, ↓rD_meth, ↓rD_on, ↓kR_ref, ↓kI_int, ↓kJ_long, ↓kN_null, ↓kN_ref, ↓kN_rf, ↓kQ_ref, ↓kQ_null, ↓kQ_rf, o1_i, o1ij_i, o1ji_i, o2_i, o2d_i, o2j_i, o2ji_i, o2c_i, fv_0, fv_1, fv_2, fv_3, pf_0, pf_2, pf_3, pf_4, rf_s, rf_n, is_self, ge_0, ge_s, ge_n, gd_s, gd_n, se_0, se_s, ag_0, ex_n, ex_i, ex_r, ex_0, ex_j, ex_q, ap_c, ap_n, List.append_nil, ln_c, ln_n, rp_0, rp_s, rt_0, rt_1, rt_20, rt_21, rt_2, rt_3, rt_4, rt_4n, rt_4q, nl_0, nl_1, nl_2, nl_3, nl_4, nl_5, nl_6, nl_7, nl_8, nl_9, nlB_i, nlB_r, nlB_n, nlB_f, nlB_q, ↓reduceIte, reduceCtorEq, Nat.reduceAdd, Nat.reduceSub, Nat.reduceEqDiff, Nat.reduceLeDiff, Nat.reduceBEq, ite_true, ite_false, dt_t, Bool.not_true, Bool.not_false, Bool.false_eq_true, Nat.le_refl, true_and, and_true, true_or, or_true, false_or, or_false, false_and, and_false, qEq, qNe, qLt, qGe, qGt, qLe, hlt, e, hb2, sT_11 hS, sT_12 hS, sT_13 hS, sT_14 hS, sT_15 hS, sT_16 hS, sT_17 hS, sT_18 hS, sT_19 hS, sT_20 hS, sT_21 hS, sT_22 hS, sT_23 hS, sT_24 hS, sT_25 hS, sT_26 hS, sT_27 hS, sT_28 hS, sT_29 hS, sT_30 hS, sT_31 hS, sT_32 hS, sT_33 hS, sT_34 hS, sL_13 hS, sL_14 hS, sL_16 hS, sL_17 hS, sL_18 hS, sL_19 hS, sL_20 hS, sL_21 hS, sL_22 hS, sL_23 hS, sL_24 hS, sL_25 hS, sL_26 hS, sL_28 hS, sL_30 hS, sL_31 hS, sL_32 hS, sL_33 hS, sL_34 hS, sR_11_2 hS, sR_11_3 hS, sR_11_4 hS, sR_11_5 hS, sR_11_7 hS, sR_11_8 hS, sR_11_9 hS, sR_27_0 hS, sR_29_0 hS, sR_15_0 hS, sR_15_3 hS, sR_15_5 hS, sR_15_6 hS, sR_15_7 hS, sR_15_8 hS, sR_15_9 hS, sR_15_10 hS, sR_15_11 hS, sR_15_12 hS, sR_15_13 hS, nI_shl e, nI_sdx, rD_tb1 (sT_15 hS), rD_of q2, nI_1, hx3, not_false_eq_true, ho]
        | some b =>
          have hbb := (bsI_lt i hq)
          have hbx : (nI b = -3) = False := nI_x3 (by omega)
          have hll : (nI (M (sd A (2 ^ i))) < nI (M (sd A (2 ^ b)))) = (M (sd A (2 ^ i)) < M (sd A (2 ^ b))) := nI_lt' (by omega) (by have := (hT _ (sd_sub A (2 ^ b))).1.2.1; omega)
          have ho : oI (some b) = nI b := rfl
          have hf : fe (fun b => nI (M (sd A (2 ^ b)))) (some b) = nI (M (sd A (2 ^ b))) := rfl
          by_cases d : M (sd A (2 ^ i)) < M (sd A (2 ^ b))
          · have hs : bsI (dok M A) (dlt M A) (i + 1) = some i := bs_some hok (by rw [hq]; exact decide_eq_true d)
            refine ⟨[.ref 11, .int (nI A), .int (nI i), .int (nI (M (sd A (2 ^ i)))), .int (nI (i + 1)), .int (nI (M (sd A (2 ^ i))))], t, ?_, e, rfl, .int (nI (M (sd A (2 ^ i)))), by rw [hs]; rfl⟩
            simp only [lpStep, ↓rE_eK, ↓rE_eLi, ↓rE_eLj, ↓rE_eLa, ↓rE_eU, ↓rE_eB, ↓rE_eG, ↓rE_eIF, ↓rE_eAI, ↓rE_eAX, ↓rE_eAJ, ↓rE_eAR, ↓rE_eLen, ↓rE_eSI, ↓rE_eC, ↓rE_eCall, ↓rE_eNew, ↓rE_eNewA, ↓rE_eInst, ↓rC_cI, ↓rC_cZ0, ↓rC_cN, ↓rC_cNot, ↓rC_cAnd, ↓rC_cOr, ↓rA_aN, ↓rA_aC, ↓rS_sP, ↓rS_sUF, ↓rS_sAI, ↓rS_sAJ, ↓rS_sAR, ↓rS_sUA, ↓rS_sCall, ↓rS_sObj, ↓rS_sSi, ↓rS_sSa, ↓rS_sSj, ↓rS_sInc, ↓rS_sSkip, ↓rS_sSeq, ↓rS_sIf, ↓rS_sRetI, ↓rS_sRetJ, ↓rS_sRetA, ↓rS_sRetV, ↓rS_sSw, ↓rD_meth, ↓rD_on, ↓kR_ref, ↓kI_int, ↓kJ_long, ↓kN_null, ↓kN_ref, ↓kN_rf, ↓kQ_ref, ↓kQ_null, ↓kQ_rf, o1_i, o1ij_i, o1ji_i, o2_i, o2d_i, o2j_i, o2ji_i, o2c_i, fv_0, fv_1, fv_2, fv_3, pf_0, pf_2, pf_3, pf_4, rf_s, rf_n, is_self, ge_0, ge_s, ge_n, gd_s, gd_n, se_0, se_s, ag_0, ex_n, ex_i, ex_r, ex_0, ex_j, ex_q, ap_c, ap_n, List.append_nil, ln_c, ln_n, rp_0, rp_s, rt_0, rt_1, rt_20, rt_21, rt_2, rt_3, rt_4, rt_4n, rt_4q, nl_0, nl_1, nl_2, nl_3, nl_4, nl_5, nl_6, nl_7, nl_8, nl_9, nlB_i, nlB_r, nlB_n, nlB_f, nlB_q, ↓reduceIte, reduceCtorEq, Nat.reduceAdd, Nat.reduceSub, Nat.reduceEqDiff, Nat.reduceLeDiff, Nat.reduceBEq, ite_true, ite_false, dt_t, Bool.not_true, Bool.not_false, Bool.false_eq_true, Nat.le_refl, true_and, and_true, true_or, or_true, false_or, or_false, false_and, and_false, qEq, qNe, qLt, qGe, qGt, qLe, hlt, e, hb2, sT_11 hS, sT_12 hS, sT_13 hS, sT_14 hS, sT_15 hS, sT_16 hS, sT_17 hS, sT_18 hS, sT_19 hS, sT_20 hS, sT_21 hS, sT_22 hS, sT_23 hS, sT_24 hS, sT_25 hS, sT_26 hS, sT_27 hS, sT_28 hS, sT_29 hS, sT_30 hS, sT_31 hS, sT_32 hS, sT_33 hS, sT_34 hS, sL_13 hS, sL_14 hS, sL_16 hS, sL_17 hS, sL_18 hS, sL_19 hS, sL_20 hS, sL_21 hS, sL_22 hS, sL_23 hS, sL_24 hS, sL_25 hS, sL_26 hS, sL_28 hS, sL_30 hS, sL_31 hS, sL_32 hS, sL_33 hS, sL_34 hS, sR_11_2 hS, sR_11_3 hS, sR_11_4 hS, sR_11_5 hS, sR_11_7 hS, sR_11_8 hS, sR_11_9 hS, sR_27_0 hS, sR_29_0 hS, sR_15_0 hS, sR_15_3 hS, sR_15_5 hS, sR_15_6 hS, sR_15_7 hS, sR_15_8 hS, sR_15_9 hS, sR_15_10 hS, sR_15_11 hS, sR_15_12 hS, sR_15_13 hS, nI_shl e, nI_sdx, rD_tb1 (sT_15 hS), rD_of q2, nI_1, hx3, not_false_eq_true, ho, hbx, hf, hll, d]
          · have hk : bsI (dok M A) (dlt M A) (i + 1) = some b := by rw [bs_keep (fun q => by rw [hq] at q; exact d (of_decide_eq_true q.2)), hq]
            refine ⟨[.ref 11, .int (nI A), .int (nI b), .int (nI (M (sd A (2 ^ b)))), .int (nI (i + 1)), .int (nI (M (sd A (2 ^ i))))], t, ?_, e, rfl, .int (nI (M (sd A (2 ^ i)))), by rw [hk]; rfl⟩
            simp only [lpStep, ↓rE_eK, ↓rE_eLi, ↓rE_eLj, ↓rE_eLa, ↓rE_eU, ↓rE_eB, ↓rE_eG, ↓rE_eIF, ↓rE_eAI, ↓rE_eAX, ↓rE_eAJ, ↓rE_eAR, ↓rE_eLen, ↓rE_eSI, ↓rE_eC, ↓rE_eCall, ↓rE_eNew, ↓rE_eNewA, ↓rE_eInst, ↓rC_cI, ↓rC_cZ0, ↓rC_cN, ↓rC_cNot, ↓rC_cAnd, ↓rC_cOr, ↓rA_aN, ↓rA_aC, ↓rS_sP, ↓rS_sUF, ↓rS_sAI, ↓rS_sAJ, ↓rS_sAR, ↓rS_sUA, ↓rS_sCall, ↓rS_sObj, ↓rS_sSi, ↓rS_sSa, ↓rS_sSj, ↓rS_sInc, ↓rS_sSkip, ↓rS_sSeq, ↓rS_sIf, ↓rS_sRetI, ↓rS_sRetJ, ↓rS_sRetA, ↓rS_sRetV, ↓rS_sSw, ↓rD_meth, ↓rD_on, ↓kR_ref, ↓kI_int, ↓kJ_long, ↓kN_null, ↓kN_ref, ↓kN_rf, ↓kQ_ref, ↓kQ_null, ↓kQ_rf, o1_i, o1ij_i, o1ji_i, o2_i, o2d_i, o2j_i, o2ji_i, o2c_i, fv_0, fv_1, fv_2, fv_3, pf_0, pf_2, pf_3, pf_4, rf_s, rf_n, is_self, ge_0, ge_s, ge_n, gd_s, gd_n, se_0, se_s, ag_0, ex_n, ex_i, ex_r, ex_0, ex_j, ex_q, ap_c, ap_n, List.append_nil, ln_c, ln_n, rp_0, rp_s, rt_0, rt_1, rt_20, rt_21, rt_2, rt_3, rt_4, rt_4n, rt_4q, nl_0, nl_1, nl_2, nl_3, nl_4, nl_5, nl_6, nl_7, nl_8, nl_9, nlB_i, nlB_r, nlB_n, nlB_f, nlB_q, ↓reduceIte, reduceCtorEq, Nat.reduceAdd, Nat.reduceSub, Nat.reduceEqDiff, Nat.reduceLeDiff, Nat.reduceBEq, ite_true, ite_false, dt_t, Bool.not_true, Bool.not_false, Bool.false_eq_true, Nat.le_refl, true_and, and_true, true_or, or_true, false_or, or_false, false_and, and_false, qEq, qNe, qLt, qGe, qGt, qLe, hlt, e, hb2, sT_11 hS, sT_12 hS, sT_13 hS, sT_14 hS, sT_15 hS, sT_16 hS, sT_17 hS, sT_18 hS, sT_19 hS, sT_20 hS, sT_21 hS, sT_22 hS, sT_23 hS, sT_24 hS, sT_25 hS, sT_26 hS, sT_27 hS, sT_28 hS, sT_29 hS, sT_30 hS, sT_31 hS, sT_32 hS, sT_33 hS, sT_34 hS, sL_13 hS, sL_14 hS, sL_16 hS, sL_17 hS, sL_18 hS, sL_19 hS, sL_20 hS, sL_21 hS, sL_22 hS, sL_23 hS, sL_24 hS, sL_25 hS, sL_26 hS, sL_28 hS, sL_30 hS, sL_31 hS, sL_32 hS, sL_33 hS, sL_34 hS, sR_11_2 hS, sR_11_3 hS, sR_11_4 hS, sR_11_5 hS, sR_11_7 hS, sR_11_8 hS, sR_11_9 hS, sR_27_0 hS, sR_29_0 hS, sR_15_0 hS, sR_15_3 hS, sR_15_5 hS, sR_15_6 hS, sR_15_7 hS, sR_15_8 hS, sR_15_9 hS, sR_15_10 hS, sR_15_11 hS, sR_15_12 hS, sR_15_13 hS, nI_shl e, nI_sdx, rD_tb1 (sT_15 hS), rD_of q2, nI_1, hx3, not_false_eq_true, ho, hbx, hf, hll, d]
    · rw [if_neg hw] at hb2
      have hk : bsI (dok M A) (dlt M A) (i + 1) = bsI (dok M A) (dlt M A) i := bs_keep (fun q => hw (dok_iff.mp q.1).1)
      refine ⟨[.ref 11, .int (nI A), .int (oI (bsI (dok M A) (dlt M A) i)), .int (fe (fun b => nI (M (sd A (2 ^ b)))) (bsI (dok M A) (dlt M A) i)), .int (nI (i + 1)), w5], t, ?_, e, rfl, w5, by rw [hk]⟩
      simp only [lpStep, ↓rE_eK, ↓rE_eLi, ↓rE_eLj, ↓rE_eLa, ↓rE_eU, ↓rE_eB, ↓rE_eG, ↓rE_eIF, ↓rE_eAI, ↓rE_eAX, ↓rE_eAJ, ↓rE_eAR, ↓rE_eLen, ↓rE_eSI, ↓rE_eC, ↓rE_eCall, ↓rE_eNew, ↓rE_eNewA, ↓rE_eInst, ↓rC_cI, ↓rC_cZ0, ↓rC_cN, ↓rC_cNot, ↓rC_cAnd, ↓rC_cOr, ↓rA_aN, ↓rA_aC, ↓rS_sP, ↓rS_sUF, ↓rS_sAI, ↓rS_sAJ, ↓rS_sAR, ↓rS_sUA, ↓rS_sCall, ↓rS_sObj, ↓rS_sSi, ↓rS_sSa, ↓rS_sSj, ↓rS_sInc, ↓rS_sSkip, ↓rS_sSeq, ↓rS_sIf, ↓rS_sRetI, ↓rS_sRetJ, ↓rS_sRetA, ↓rS_sRetV, ↓rS_sSw, ↓rD_meth, ↓rD_on, ↓kR_ref, ↓kI_int, ↓kJ_long, ↓kN_null, ↓kN_ref, ↓kN_rf, ↓kQ_ref, ↓kQ_null, ↓kQ_rf, o1_i, o1ij_i, o1ji_i, o2_i, o2d_i, o2j_i, o2ji_i, o2c_i, fv_0, fv_1, fv_2, fv_3, pf_0, pf_2, pf_3, pf_4, rf_s, rf_n, is_self, ge_0, ge_s, ge_n, gd_s, gd_n, se_0, se_s, ag_0, ex_n, ex_i, ex_r, ex_0, ex_j, ex_q, ap_c, ap_n, List.append_nil, ln_c, ln_n, rp_0, rp_s, rt_0, rt_1, rt_20, rt_21, rt_2, rt_3, rt_4, rt_4n, rt_4q, nl_0, nl_1, nl_2, nl_3, nl_4, nl_5, nl_6, nl_7, nl_8, nl_9, nlB_i, nlB_r, nlB_n, nlB_f, nlB_q, ↓reduceIte, reduceCtorEq, Nat.reduceAdd, Nat.reduceSub, Nat.reduceEqDiff, Nat.reduceLeDiff, Nat.reduceBEq, ite_true, ite_false, dt_t, Bool.not_true, Bool.not_false, Bool.false_eq_true, Nat.le_refl, true_and, and_true, true_or, or_true, false_or, or_false, false_and, and_false, qEq, qNe, qLt, qGe, qGt, qLe, hlt, e, hb2, h01, nI_1]
  · right
    have : i = 8 := by omega
    subst this
    refine ⟨.inl [.ref 11, .int (nI A), .int (oI (bsI (dok M A) (dlt M A) 8)), .int (fe (fun b => nI (M (sd A (2 ^ b)))) (bsI (dok M A) (dlt M A) 8)), .int (nI 8), w5], _, ?_, rfl, _, _, _, rfl⟩
    simp only [lpStep, ↓rE_eK, ↓rE_eLi, ↓rE_eLj, ↓rE_eLa, ↓rE_eU, ↓rE_eB, ↓rE_eG, ↓rE_eIF, ↓rE_eAI, ↓rE_eAX, ↓rE_eAJ, ↓rE_eAR, ↓rE_eLen, ↓rE_eSI, ↓rE_eC, ↓rE_eCall, ↓rE_eNew, ↓rE_eNewA, ↓rE_eInst, ↓rC_cI, ↓rC_cZ0, ↓rC_cN, ↓rC_cNot, ↓rC_cAnd, ↓rC_cOr, ↓rA_aN, ↓rA_aC, ↓rS_sP, ↓rS_sUF, ↓rS_sAI, ↓rS_sAJ, ↓rS_sAR, ↓rS_sUA, ↓rS_sCall, ↓rS_sObj, ↓rS_sSi, ↓rS_sSa, ↓rS_sSj, ↓rS_sInc, ↓rS_sSkip, ↓rS_sSeq, ↓rS_sIf, ↓rS_sRetI, ↓rS_sRetJ, ↓rS_sRetA, ↓rS_sRetV, ↓rS_sSw, ↓rD_meth, ↓rD_on, ↓kR_ref, ↓kI_int, ↓kJ_long, ↓kN_null, ↓kN_ref, ↓kN_rf, ↓kQ_ref, ↓kQ_null, ↓kQ_rf, o1_i, o1ij_i, o1ji_i, o2_i, o2d_i, o2j_i, o2ji_i, o2c_i, fv_0, fv_1, fv_2, fv_3, pf_0, pf_2, pf_3, pf_4, rf_s, rf_n, is_self, ge_0, ge_s, ge_n, gd_s, gd_n, se_0, se_s, ag_0, ex_n, ex_i, ex_r, ex_0, ex_j, ex_q, ap_c, ap_n, List.append_nil, ln_c, ln_n, rp_0, rp_s, rt_0, rt_1, rt_20, rt_21, rt_2, rt_3, rt_4, rt_4n, rt_4q, nl_0, nl_1, nl_2, nl_3, nl_4, nl_5, nl_6, nl_7, nl_8, nl_9, nlB_i, nlB_r, nlB_n, nlB_f, nlB_q, ↓reduceIte, reduceCtorEq, Nat.reduceAdd, Nat.reduceSub, Nat.reduceEqDiff, Nat.reduceLeDiff, Nat.reduceBEq, ite_true, ite_false, dt_t, Bool.not_true, Bool.not_false, Bool.false_eq_true, Nat.le_refl, true_and, and_true, true_or, or_true, false_or, or_false, false_and, and_false, qEq, qNe, qLt, qGe, qGt, qLe, hlt, Nat.lt_irrefl]
theorem d_dear_m {s : pm_H} (hS : Sh s) {n A : Nat} {M : Nat → Nat} (h8 : n ≤ 8) (hn : pI s 35 0 = nI n) (hA : A < 2 ^ n) (e8 : pI s 35 8 = nI A) (h50 : ∀ C, C < 2 ^ n → pI s 50 C = nI (M C) ∧ M C ≤ 1000000) : ∃ r σ', sLoop (cI qLt (eLi 3) (eG (is 12) 0 0 (eLa 0))) (sSeq (sSeq (sSi 4 (eC (cAnd (cZ0 qNe (eCall D_X12_has (aC (eG (is 12) 0 8 (eLa 0)) (aC (eLi 3) (aN))))) (cI qLt (eAI (eG (is 12) 3 27 (eLa 0)) (eG (is 12) 0 8 (eLa 0))) (eK (.int 1000000)))) (eAI (eG (is 12) 3 27 (eLa 0)) (eB f_iand (eG (is 12) 0 8 (eLa 0)) (eB f_ixor (eB f_ishl (eK (.int 1)) (eLi 3)) (eK (.int (-1)))))) (eK (.int 1000000)))) (sSeq (sSi 5 (eB f_isub (eAI (eG (is 12) 3 27 (eLa 0)) (eG (is 12) 0 8 (eLa 0))) (eLi 4))) (sIf (cAnd (cI qLt (eLi 4) (eK (.int 1000000))) (cOr (cZ0 qLt (eLi 1)) (cI qGt (eLi 5) (eLi 2)))) (sSeq (sSi 1 (eLi 3)) (sSi 2 (eLi 5))) sSkip))) (sInc 3 1)) [.ref 35, .int (-3), .int 0, .int 0, .float 0, .float 0] s = some (r, σ') ∧ (σ' = s ∧ ∃ x y z w, r = .inl [.ref 35, .int (oI (bsI (dok M A) (dlt M A) n)), x, y, z, w]) := by
  have hA8 := Nat.lt_of_lt_of_le hA (p2n h8)
  have bA := ib_nI hA8 (show (256 : Nat) ≤ 1000000 by decide)
  have cA := nI_cl (show A < 2147483648 by omega)
  have hMA := h50 A hA
  have h6 : (nI (M A) < 1000000) = (M A < 1000000) := nI_lt' (b := 1000000) (by omega) (by decide)
  refine loop_gen (fun i env t => t = s ∧ ∃ w4 w5, nlB (some w4) = true ∧ env = [.ref 35, .int (oI (bsI (dok M A) (dlt M A) i)), .int (fe (fun b => nI (M A) - nI (M (sd A (2 ^ b)))) (bsI (dok M A) (dlt M A) i)), .int (nI i), w4, w5]) _ n (by omega) ⟨rfl, .float 0, .float 0, rfl, by rw [nI_0]; rfl⟩ ?_
  rintro i env t hi ⟨rfl, w4, w5, hw4, rfl⟩
  have hlt : (nI i < nI n) = (i < n) := nI_lt' (by omega) (by omega)
  by_cases e : i < n
  · left
    have hb2 : bt (nI A) (nI i) = if A.testBit i then 1 else 0 := bt_nI hA8 (by omega)
    have h01 : ¬ (0 : Int32) = 1 := by decide
    have hC := sub_le (sd_sub A (2 ^ i))
    have hCn : sd A (2 ^ i) < 2 ^ n := by omega
    have hC8 : sd A (2 ^ i) < 256 := by omega
    have bC := ib_nI hC8 (show (256 : Nat) ≤ 1000000 by decide)
    have cC := nI_cl (show sd A (2 ^ i) < 2147483648 by omega)
    have hMC := h50 _ hCn
    have h6C : (nI (M (sd A (2 ^ i))) < 1000000) = (M (sd A (2 ^ i)) < 1000000) := nI_lt' (b := 1000000) (by omega) (by decide)
    have hff : ((1000000 : Int32) < 1000000) = False := eq_false (by decide)
    by_cases hw : A.testBit i = true
    · rw [if_pos hw] at hb2
      by_cases cA6 : M A < 1000000
      · by_cases c : M (sd A (2 ^ i)) < 1000000
        · have hok : dok M A i = true := dok_iff.mpr ⟨hw, cA6, c⟩
          cases hq : bsI (dok M A) (dlt M A) i with
          | none =>
            have hs : bsI (dok M A) (dlt M A) (i + 1) = some i := bs_some hok (by rw [hq]; rfl)
            refine ⟨[.ref 35, .int (nI i), .int (nI (M A) - nI (M (sd A (2 ^ i)))), .int (nI (i + 1)), .int (nI (M (sd A (2 ^ i)))), .int (nI (M A) - nI (M (sd A (2 ^ i))))], t, ?_, e, rfl, .int (nI (M (sd A (2 ^ i)))), .int (nI (M A) - nI (M (sd A (2 ^ i)))), nlB_i, by rw [hs]; rfl⟩
            have ho : (oI (none : Option Nat) < 0) = True := by rw [oI_neg (fun b q => by cases q)]; exact eq_true rfl
            simp only [lpStep, ↓rE_eK, ↓rE_eLi, ↓rE_eLj, ↓rE_eLa, ↓rE_eU, ↓rE_eB, ↓rE_eG, ↓rE_eIF, ↓rE_eAI, ↓rE_eAX, ↓rE_eAJ, ↓rE_eAR, ↓rE_eLen, ↓rE_eSI, ↓rE_eC, ↓rE_eCall, ↓rE_eNew, ↓rE_eNewA, ↓rE_eInst, ↓rC_cI, ↓rC_cZ0, ↓rC_cN, ↓rC_cNot, ↓rC_cAnd, ↓rC_cOr, ↓rA_aN, ↓rA_aC, ↓rS_sP, ↓rS_sUF, ↓rS_sAI, ↓rS_sAJ, ↓rS_sAR, ↓rS_sUA, ↓rS_sCall, ↓rS_sObj, ↓rS_sSi, ↓rS_sSa, ↓rS_sSj, ↓rS_sInc, ↓rS_sSkip, ↓rS_sSeq, ↓rS_sIf, ↓rS_sRetI, ↓rS_sRetJ, ↓rS_sRetA, ↓rS_sRetV, ↓rS_sSw, ↓rD_meth, ↓rD_on, ↓kR_ref, ↓kI_int, ↓kJ_long, ↓kN_null, ↓kN_ref, ↓kN_rf, ↓kQ_ref, ↓kQ_null, ↓kQ_rf, o1_i, o1ij_i, o1ji_i, o2_i, o2d_i, o2j_i, o2ji_i, o2c_i, fv_0, fv_1, fv_2, fv_3, pf_0, pf_2, pf_3, pf_4, rf_s, rf_n, is_self, ge_0, ge_s, ge_n, gd_s, gd_n, se_0, se_s, ag_0, ex_n, ex_i, ex_r, ex_0, ex_j, ex_q, ap_c, ap_n, List.append_nil, ln_c, ln_n, rp_0, rp_s, rt_0, rt_1, rt_20, rt_21, rt_2, rt_3, rt_4, rt_4n, rt_4q, nl_0, nl_1, nl_2, nl_3, nl_4, nl_5, nl_6, nl_7, nl_8, nl_9, nlB_i, nlB_r, nlB_n, nlB_f, nlB_q, ↓reduceIte, reduceCtorEq, Nat.reduceAdd, Nat.reduceSub, Nat.reduceEqDiff, Nat.reduceLeDiff, Nat.reduceBEq, ite_true, ite_false, dt_t, Bool.not_true, Bool.not_false, Bool.false_eq_true, Nat.le_refl, true_and, and_true, true_or, or_true, false_or, or_false, false_and, and_false, qEq, qNe, qLt, qGe, qGt, qLe, hlt, e, hn, rD_of (d_has _ _ _), hb2, b32_ne, sT_35 hS, sT_36 hS, sT_37 hS, sT_38 hS, sT_39 hS, sT_40 hS, sT_41 hS, sT_42 hS, sT_43 hS, sT_44 hS, sT_45 hS, sT_46 hS, sT_47 hS, sT_48 hS, sT_49 hS, sT_50 hS, sT_51 hS, sT_52 hS, sT_53 hS, sT_54 hS, sT_55 hS, sT_56 hS, sT_57 hS, sT_58 hS, sT_59 hS, sT_60 hS, sT_61 hS, sT_62 hS, sT_63 hS, sT_64 hS, sT_65 hS, sL_36 hS, sL_37 hS, sL_38 hS, sL_39 hS, sL_40 hS, sL_41 hS, sL_42 hS, sL_43 hS, sL_44 hS, sL_45 hS, sL_46 hS, sL_47 hS, sL_48 hS, sL_49 hS, sL_50 hS, sL_51 hS, sL_52 hS, sL_53 hS, sL_54 hS, sL_55 hS, sL_56 hS, sL_57 hS, sL_58 hS, sL_59 hS, sL_60 hS, sL_61 hS, sL_62 hS, sL_63 hS, sL_64 hS, sL_65 hS, sR_35_1 hS, sR_35_2 hS, sR_35_3 hS, sR_35_4 hS, sR_35_5 hS, sR_35_6 hS, sR_35_7 hS, sR_35_11 hS, sR_35_21 hS, sR_35_22 hS, sR_35_23 hS, sR_35_24 hS, sR_35_25 hS, sR_35_26 hS, sR_35_27 hS, sR_35_28 hS, sR_35_29 hS, sR_35_30 hS, sR_35_31 hS, sR_35_32 hS, sR_35_35 hS, sR_35_37 hS, sR_35_38 hS, sR_35_39 hS, sR_35_40 hS, sR_35_41 hS, sR_35_42 hS, sR_35_46 hS, sR_35_50 hS, sR_35_52 hS, e8, bA, cA, hMA.1, h6, cA6, nI_shl (show i < 8 by omega), nI_sdx, bC, cC, hMC.1, h6C, c, ho, nI_1]
          | some b =>
            have hbb := (bsI_lt i hq)
            have hMb := h50 (sd A (2 ^ b)) (by have := sub_le (sd_sub A (2 ^ b)); omega)
            have ho : (oI (some b) < 0) = False := by rw [oI_neg (fun b' q => by injection q with q; omega)]; exact eq_false (fun q => by cases q)
            have hf : fe (fun b => nI (M A) - nI (M (sd A (2 ^ b)))) (some b) = nI (M A) - nI (M (sd A (2 ^ b))) := rfl
            have hll : (nI (M A) - nI (M (sd A (2 ^ b))) < nI (M A) - nI (M (sd A (2 ^ i)))) = (M (sd A (2 ^ i)) < M (sd A (2 ^ b))) := by
              rw [i_lt, sub_int hMA.2 hMb.2, sub_int hMA.2 hMC.2]
              exact propext ⟨fun q => by omega, fun q => by omega⟩
            by_cases d : M (sd A (2 ^ i)) < M (sd A (2 ^ b))
            · have hs : bsI (dok M A) (dlt M A) (i + 1) = some i := bs_some hok (by rw [hq]; exact decide_eq_true d)
              refine ⟨[.ref 35, .int (nI i), .int (nI (M A) - nI (M (sd A (2 ^ i)))), .int (nI (i + 1)), .int (nI (M (sd A (2 ^ i)))), .int (nI (M A) - nI (M (sd A (2 ^ i))))], t, ?_, e, rfl, .int (nI (M (sd A (2 ^ i)))), .int (nI (M A) - nI (M (sd A (2 ^ i)))), nlB_i, by rw [hs]; rfl⟩
              simp only [lpStep, ↓rE_eK, ↓rE_eLi, ↓rE_eLj, ↓rE_eLa, ↓rE_eU, ↓rE_eB, ↓rE_eG, ↓rE_eIF, ↓rE_eAI, ↓rE_eAX, ↓rE_eAJ, ↓rE_eAR, ↓rE_eLen, ↓rE_eSI, ↓rE_eC, ↓rE_eCall, ↓rE_eNew, ↓rE_eNewA, ↓rE_eInst, ↓rC_cI, ↓rC_cZ0, ↓rC_cN, ↓rC_cNot, ↓rC_cAnd, ↓rC_cOr, ↓rA_aN, ↓rA_aC, ↓rS_sP, ↓rS_sUF, ↓rS_sAI, ↓rS_sAJ, ↓rS_sAR, ↓rS_sUA, ↓rS_sCall, ↓rS_sObj, ↓rS_sSi, ↓rS_sSa, ↓rS_sSj, ↓rS_sInc, ↓rS_sSkip, ↓rS_sSeq, ↓rS_sIf, ↓rS_sRetI, ↓rS_sRetJ, ↓rS_sRetA, ↓rS_sRetV, ↓rS_sSw, ↓rD_meth, ↓rD_on, ↓kR_ref, ↓kI_int, ↓kJ_long, ↓kN_null, ↓kN_ref, ↓kN_rf, ↓kQ_ref, ↓kQ_null, ↓kQ_rf, o1_i, o1ij_i, o1ji_i, o2_i, o2d_i, o2j_i, o2ji_i, o2c_i, fv_0, fv_1, fv_2, fv_3, pf_0, pf_2, pf_3, pf_4, rf_s, rf_n, is_self, ge_0, ge_s, ge_n, gd_s, gd_n, se_0, se_s, ag_0, ex_n, ex_i, ex_r, ex_0, ex_j, ex_q, ap_c, ap_n, List.append_nil, ln_c, ln_n, rp_0, rp_s, rt_0, rt_1, rt_20, rt_21, rt_2, rt_3, rt_4, rt_4n, rt_4q, nl_0, nl_1, nl_2, nl_3, nl_4, nl_5, nl_6, nl_7, nl_8, nl_9, nlB_i, nlB_r, nlB_n, nlB_f, nlB_q, ↓reduceIte, reduceCtorEq, Nat.reduceAdd, Nat.reduceSub, Nat.reduceEqDiff, Nat.reduceLeDiff, Nat.reduceBEq, ite_true, ite_false, dt_t, Bool.not_true, Bool.not_false, Bool.false_eq_true, Nat.le_refl, true_and, and_true, true_or, or_true, false_or, or_false, false_and, and_false, qEq, qNe, qLt, qGe, qGt, qLe, hlt, e, hn, rD_of (d_has _ _ _), hb2, b32_ne, sT_35 hS, sT_36 hS, sT_37 hS, sT_38 hS, sT_39 hS, sT_40 hS, sT_41 hS, sT_42 hS, sT_43 hS, sT_44 hS, sT_45 hS, sT_46 hS, sT_47 hS, sT_48 hS, sT_49 hS, sT_50 hS, sT_51 hS, sT_52 hS, sT_53 hS, sT_54 hS, sT_55 hS, sT_56 hS, sT_57 hS, sT_58 hS, sT_59 hS, sT_60 hS, sT_61 hS, sT_62 hS, sT_63 hS, sT_64 hS, sT_65 hS, sL_36 hS, sL_37 hS, sL_38 hS, sL_39 hS, sL_40 hS, sL_41 hS, sL_42 hS, sL_43 hS, sL_44 hS, sL_45 hS, sL_46 hS, sL_47 hS, sL_48 hS, sL_49 hS, sL_50 hS, sL_51 hS, sL_52 hS, sL_53 hS, sL_54 hS, sL_55 hS, sL_56 hS, sL_57 hS, sL_58 hS, sL_59 hS, sL_60 hS, sL_61 hS, sL_62 hS, sL_63 hS, sL_64 hS, sL_65 hS, sR_35_1 hS, sR_35_2 hS, sR_35_3 hS, sR_35_4 hS, sR_35_5 hS, sR_35_6 hS, sR_35_7 hS, sR_35_11 hS, sR_35_21 hS, sR_35_22 hS, sR_35_23 hS, sR_35_24 hS, sR_35_25 hS, sR_35_26 hS, sR_35_27 hS, sR_35_28 hS, sR_35_29 hS, sR_35_30 hS, sR_35_31 hS, sR_35_32 hS, sR_35_35 hS, sR_35_37 hS, sR_35_38 hS, sR_35_39 hS, sR_35_40 hS, sR_35_41 hS, sR_35_42 hS, sR_35_46 hS, sR_35_50 hS, sR_35_52 hS, e8, bA, cA, hMA.1, h6, cA6, nI_shl (show i < 8 by omega), nI_sdx, bC, cC, hMC.1, h6C, c, ho, hf, hll, d, nI_1]
            · have hk : bsI (dok M A) (dlt M A) (i + 1) = some b := by rw [bs_keep (fun q => by rw [hq] at q; exact d (of_decide_eq_true q.2)), hq]
              refine ⟨[.ref 35, .int (oI (some b)), .int (nI (M A) - nI (M (sd A (2 ^ b)))), .int (nI (i + 1)), .int (nI (M (sd A (2 ^ i)))), .int (nI (M A) - nI (M (sd A (2 ^ i))))], t, ?_, e, rfl, .int (nI (M (sd A (2 ^ i)))), .int (nI (M A) - nI (M (sd A (2 ^ i)))), nlB_i, by rw [hk]; rfl⟩
              simp only [lpStep, ↓rE_eK, ↓rE_eLi, ↓rE_eLj, ↓rE_eLa, ↓rE_eU, ↓rE_eB, ↓rE_eG, ↓rE_eIF, ↓rE_eAI, ↓rE_eAX, ↓rE_eAJ, ↓rE_eAR, ↓rE_eLen, ↓rE_eSI, ↓rE_eC, ↓rE_eCall, ↓rE_eNew, ↓rE_eNewA, ↓rE_eInst, ↓rC_cI, ↓rC_cZ0, ↓rC_cN, ↓rC_cNot, ↓rC_cAnd, ↓rC_cOr, ↓rA_aN, ↓rA_aC, ↓rS_sP, ↓rS_sUF, ↓rS_sAI, ↓rS_sAJ, ↓rS_sAR, ↓rS_sUA, ↓rS_sCall, ↓rS_sObj, ↓rS_sSi, ↓rS_sSa, ↓rS_sSj, ↓rS_sInc, ↓rS_sSkip, ↓rS_sSeq, ↓rS_sIf, ↓rS_sRetI, ↓rS_sRetJ, ↓rS_sRetA, ↓rS_sRetV, ↓rS_sSw, ↓rD_meth, ↓rD_on, ↓kR_ref, ↓kI_int, ↓kJ_long, ↓kN_null, ↓kN_ref, ↓kN_rf, ↓kQ_ref, ↓kQ_null, ↓kQ_rf, o1_i, o1ij_i, o1ji_i, o2_i, o2d_i, o2j_i, o2ji_i, o2c_i, fv_0, fv_1, fv_2, fv_3, pf_0, pf_2, pf_3, pf_4, rf_s, rf_n, is_self, ge_0, ge_s, ge_n, gd_s, gd_n, se_0, se_s, ag_0, ex_n, ex_i, ex_r, ex_0, ex_j, ex_q, ap_c, ap_n, List.append_nil, ln_c, ln_n, rp_0, rp_s, rt_0, rt_1, rt_20, rt_21, rt_2, rt_3, rt_4, rt_4n, rt_4q, nl_0, nl_1, nl_2, nl_3, nl_4, nl_5, nl_6, nl_7, nl_8, nl_9, nlB_i, nlB_r, nlB_n, nlB_f, nlB_q, ↓reduceIte, reduceCtorEq, Nat.reduceAdd, Nat.reduceSub, Nat.reduceEqDiff, Nat.reduceLeDiff, Nat.reduceBEq, ite_true, ite_false, dt_t, Bool.not_true, Bool.not_false, Bool.false_eq_true, Nat.le_refl, true_and, and_true, true_or, or_true, false_or, or_false, false_and, and_false, qEq, qNe, qLt, qGe, qGt, qLe, hlt, e, hn, rD_of (d_has _ _ _), hb2, b32_ne, sT_35 hS, sT_36 hS, sT_37 hS, sT_38 hS, sT_39 hS, sT_40 hS, sT_41 hS, sT_42 hS, sT_43 hS, sT_44 hS, sT_45 hS, sT_46 hS, sT_47 hS, sT_48 hS, sT_49 hS, sT_50 hS, sT_51 hS, sT_52 hS, sT_53 hS, sT_54 hS, sT_55 hS, sT_56 hS, sT_57 hS, sT_58 hS, sT_59 hS, sT_60 hS, sT_61 hS, sT_62 hS, sT_63 hS, sT_64 hS, sT_65 hS, sL_36 hS, sL_37 hS, sL_38 hS, sL_39 hS, sL_40 hS, sL_41 hS, sL_42 hS, sL_43 hS, sL_44 hS, sL_45 hS, sL_46 hS, sL_47 hS, sL_48 hS, sL_49 hS, sL_50 hS, sL_51 hS, sL_52 hS, sL_53 hS, sL_54 hS, sL_55 hS, sL_56 hS, sL_57 hS, sL_58 hS, sL_59 hS, sL_60 hS, sL_61 hS, sL_62 hS, sL_63 hS, sL_64 hS, sL_65 hS, sR_35_1 hS, sR_35_2 hS, sR_35_3 hS, sR_35_4 hS, sR_35_5 hS, sR_35_6 hS, sR_35_7 hS, sR_35_11 hS, sR_35_21 hS, sR_35_22 hS, sR_35_23 hS, sR_35_24 hS, sR_35_25 hS, sR_35_26 hS, sR_35_27 hS, sR_35_28 hS, sR_35_29 hS, sR_35_30 hS, sR_35_31 hS, sR_35_32 hS, sR_35_35 hS, sR_35_37 hS, sR_35_38 hS, sR_35_39 hS, sR_35_40 hS, sR_35_41 hS, sR_35_42 hS, sR_35_46 hS, sR_35_50 hS, sR_35_52 hS, e8, bA, cA, hMA.1, h6, cA6, nI_shl (show i < 8 by omega), nI_sdx, bC, cC, hMC.1, h6C, c, ho, hf, hll, d, nI_1]
        · have hk : bsI (dok M A) (dlt M A) (i + 1) = bsI (dok M A) (dlt M A) i := bs_keep (fun q => c (dok_iff.mp q.1).2.2)
          refine ⟨[.ref 35, .int (oI (bsI (dok M A) (dlt M A) i)), .int (fe (fun b => nI (M A) - nI (M (sd A (2 ^ b)))) (bsI (dok M A) (dlt M A) i)), .int (nI (i + 1)), .int (nI (M (sd A (2 ^ i)))), .int (nI (M A) - nI (M (sd A (2 ^ i))))], t, ?_, e, rfl, .int (nI (M (sd A (2 ^ i)))), .int (nI (M A) - nI (M (sd A (2 ^ i)))), nlB_i, by rw [hk]⟩
          simp only [lpStep, ↓rE_eK, ↓rE_eLi, ↓rE_eLj, ↓rE_eLa, ↓rE_eU, ↓rE_eB, ↓rE_eG, ↓rE_eIF, ↓rE_eAI, ↓rE_eAX, ↓rE_eAJ, ↓rE_eAR, ↓rE_eLen, ↓rE_eSI, ↓rE_eC, ↓rE_eCall, ↓rE_eNew, ↓rE_eNewA, ↓rE_eInst, ↓rC_cI, ↓rC_cZ0, ↓rC_cN, ↓rC_cNot, ↓rC_cAnd, ↓rC_cOr, ↓rA_aN, ↓rA_aC, ↓rS_sP, ↓rS_sUF, ↓rS_sAI, ↓rS_sAJ, ↓rS_sAR, ↓rS_sUA, ↓rS_sCall, ↓rS_sObj, ↓rS_sSi, ↓rS_sSa, ↓rS_sSj, ↓rS_sInc, ↓rS_sSkip, ↓rS_sSeq, ↓rS_sIf, ↓rS_sRetI, ↓rS_sRetJ, ↓rS_sRetA, ↓rS_sRetV, ↓rS_sSw, ↓rD_meth, ↓rD_on, ↓kR_ref, ↓kI_int, ↓kJ_long, ↓kN_null, ↓kN_ref, ↓kN_rf, ↓kQ_ref, ↓kQ_null, ↓kQ_rf, o1_i, o1ij_i, o1ji_i, o2_i, o2d_i, o2j_i, o2ji_i, o2c_i, fv_0, fv_1, fv_2, fv_3, pf_0, pf_2, pf_3, pf_4, rf_s, rf_n, is_self, ge_0, ge_s, ge_n, gd_s, gd_n, se_0, se_s, ag_0, ex_n, ex_i, ex_r, ex_0, ex_j, ex_q, ap_c, ap_n, List.append_nil, ln_c, ln_n, rp_0, rp_s, rt_0, rt_1, rt_20, rt_21, rt_2, rt_3, rt_4, rt_4n, rt_4q, nl_0, nl_1, nl_2, nl_3, nl_4, nl_5, nl_6, nl_7, nl_8, nl_9, nlB_i, nlB_r, nlB_n, nlB_f, nlB_q, ↓reduceIte, reduceCtorEq, Nat.reduceAdd, Nat.reduceSub, Nat.reduceEqDiff, Nat.reduceLeDiff, Nat.reduceBEq, ite_true, ite_false, dt_t, Bool.not_true, Bool.not_false, Bool.false_eq_true, Nat.le_refl, true_and, and_true, true_or, or_true, false_or, or_false, false_and, and_false, qEq, qNe, qLt, qGe, qGt, qLe, hlt, e, hn, rD_of (d_has _ _ _), hb2, b32_ne, sT_35 hS, sT_36 hS, sT_37 hS, sT_38 hS, sT_39 hS, sT_40 hS, sT_41 hS, sT_42 hS, sT_43 hS, sT_44 hS, sT_45 hS, sT_46 hS, sT_47 hS, sT_48 hS, sT_49 hS, sT_50 hS, sT_51 hS, sT_52 hS, sT_53 hS, sT_54 hS, sT_55 hS, sT_56 hS, sT_57 hS, sT_58 hS, sT_59 hS, sT_60 hS, sT_61 hS, sT_62 hS, sT_63 hS, sT_64 hS, sT_65 hS, sL_36 hS, sL_37 hS, sL_38 hS, sL_39 hS, sL_40 hS, sL_41 hS, sL_42 hS, sL_43 hS, sL_44 hS, sL_45 hS, sL_46 hS, sL_47 hS, sL_48 hS, sL_49 hS, sL_50 hS, sL_51 hS, sL_52 hS, sL_53 hS, sL_54 hS, sL_55 hS, sL_56 hS, sL_57 hS, sL_58 hS, sL_59 hS, sL_60 hS, sL_61 hS, sL_62 hS, sL_63 hS, sL_64 hS, sL_65 hS, sR_35_1 hS, sR_35_2 hS, sR_35_3 hS, sR_35_4 hS, sR_35_5 hS, sR_35_6 hS, sR_35_7 hS, sR_35_11 hS, sR_35_21 hS, sR_35_22 hS, sR_35_23 hS, sR_35_24 hS, sR_35_25 hS, sR_35_26 hS, sR_35_27 hS, sR_35_28 hS, sR_35_29 hS, sR_35_30 hS, sR_35_31 hS, sR_35_32 hS, sR_35_35 hS, sR_35_37 hS, sR_35_38 hS, sR_35_39 hS, sR_35_40 hS, sR_35_41 hS, sR_35_42 hS, sR_35_46 hS, sR_35_50 hS, sR_35_52 hS, e8, bA, cA, hMA.1, h6, cA6, nI_shl (show i < 8 by omega), nI_sdx, bC, cC, hMC.1, h6C, c, nI_1]
      · have hk : bsI (dok M A) (dlt M A) (i + 1) = bsI (dok M A) (dlt M A) i := bs_keep (fun q => cA6 (dok_iff.mp q.1).2.1)
        refine ⟨[.ref 35, .int (oI (bsI (dok M A) (dlt M A) i)), .int (fe (fun b => nI (M A) - nI (M (sd A (2 ^ b)))) (bsI (dok M A) (dlt M A) i)), .int (nI (i + 1)), .int 1000000, .int (nI (M A) - 1000000)], t, ?_, e, rfl, .int 1000000, .int (nI (M A) - 1000000), nlB_i, by rw [hk]⟩
        simp only [lpStep, ↓rE_eK, ↓rE_eLi, ↓rE_eLj, ↓rE_eLa, ↓rE_eU, ↓rE_eB, ↓rE_eG, ↓rE_eIF, ↓rE_eAI, ↓rE_eAX, ↓rE_eAJ, ↓rE_eAR, ↓rE_eLen, ↓rE_eSI, ↓rE_eC, ↓rE_eCall, ↓rE_eNew, ↓rE_eNewA, ↓rE_eInst, ↓rC_cI, ↓rC_cZ0, ↓rC_cN, ↓rC_cNot, ↓rC_cAnd, ↓rC_cOr, ↓rA_aN, ↓rA_aC, ↓rS_sP, ↓rS_sUF, ↓rS_sAI, ↓rS_sAJ, ↓rS_sAR, ↓rS_sUA, ↓rS_sCall, ↓rS_sObj, ↓rS_sSi, ↓rS_sSa, ↓rS_sSj, ↓rS_sInc, ↓rS_sSkip, ↓rS_sSeq, ↓rS_sIf, ↓rS_sRetI, ↓rS_sRetJ, ↓rS_sRetA, ↓rS_sRetV, ↓rS_sSw, ↓rD_meth, ↓rD_on, ↓kR_ref, ↓kI_int, ↓kJ_long, ↓kN_null, ↓kN_ref, ↓kN_rf, ↓kQ_ref, ↓kQ_null, ↓kQ_rf, o1_i, o1ij_i, o1ji_i, o2_i, o2d_i, o2j_i, o2ji_i, o2c_i, fv_0, fv_1, fv_2, fv_3, pf_0, pf_2, pf_3, pf_4, rf_s, rf_n, is_self, ge_0, ge_s, ge_n, gd_s, gd_n, se_0, se_s, ag_0, ex_n, ex_i, ex_r, ex_0, ex_j, ex_q, ap_c, ap_n, List.append_nil, ln_c, ln_n, rp_0, rp_s, rt_0, rt_1, rt_20, rt_21, rt_2, rt_3, rt_4, rt_4n, rt_4q, nl_0, nl_1, nl_2, nl_3, nl_4, nl_5, nl_6, nl_7, nl_8, nl_9, nlB_i, nlB_r, nlB_n, nlB_f, nlB_q, ↓reduceIte, reduceCtorEq, Nat.reduceAdd, Nat.reduceSub, Nat.reduceEqDiff, Nat.reduceLeDiff, Nat.reduceBEq, ite_true, ite_false, dt_t, Bool.not_true, Bool.not_false, Bool.false_eq_true, Nat.le_refl, true_and, and_true, true_or, or_true, false_or, or_false, false_and, and_false, qEq, qNe, qLt, qGe, qGt, qLe, hlt, e, hn, rD_of (d_has _ _ _), hb2, b32_ne, sT_35 hS, sT_36 hS, sT_37 hS, sT_38 hS, sT_39 hS, sT_40 hS, sT_41 hS, sT_42 hS, sT_43 hS, sT_44 hS, sT_45 hS, sT_46 hS, sT_47 hS, sT_48 hS, sT_49 hS, sT_50 hS, sT_51 hS, sT_52 hS, sT_53 hS, sT_54 hS, sT_55 hS, sT_56 hS, sT_57 hS, sT_58 hS, sT_59 hS, sT_60 hS, sT_61 hS, sT_62 hS, sT_63 hS, sT_64 hS, sT_65 hS, sL_36 hS, sL_37 hS, sL_38 hS, sL_39 hS, sL_40 hS, sL_41 hS, sL_42 hS, sL_43 hS, sL_44 hS, sL_45 hS, sL_46 hS, sL_47 hS, sL_48 hS, sL_49 hS, sL_50 hS, sL_51 hS, sL_52 hS, sL_53 hS, sL_54 hS, sL_55 hS, sL_56 hS, sL_57 hS, sL_58 hS, sL_59 hS, sL_60 hS, sL_61 hS, sL_62 hS, sL_63 hS, sL_64 hS, sL_65 hS, sR_35_1 hS, sR_35_2 hS, sR_35_3 hS, sR_35_4 hS, sR_35_5 hS, sR_35_6 hS, sR_35_7 hS, sR_35_11 hS, sR_35_21 hS, sR_35_22 hS, sR_35_23 hS, sR_35_24 hS, sR_35_25 hS, sR_35_26 hS, sR_35_27 hS, sR_35_28 hS, sR_35_29 hS, sR_35_30 hS, sR_35_31 hS, sR_35_32 hS, sR_35_35 hS, sR_35_37 hS, sR_35_38 hS, sR_35_39 hS, sR_35_40 hS, sR_35_41 hS, sR_35_42 hS, sR_35_46 hS, sR_35_50 hS, sR_35_52 hS, e8, bA, cA, hMA.1, h6, cA6, hff, nI_1]
    · rw [if_neg hw] at hb2
      have hk : bsI (dok M A) (dlt M A) (i + 1) = bsI (dok M A) (dlt M A) i := bs_keep (fun q => hw (dok_iff.mp q.1).1)
      refine ⟨[.ref 35, .int (oI (bsI (dok M A) (dlt M A) i)), .int (fe (fun b => nI (M A) - nI (M (sd A (2 ^ b)))) (bsI (dok M A) (dlt M A) i)), .int (nI (i + 1)), .int 1000000, .int (nI (M A) - 1000000)], t, ?_, e, rfl, .int 1000000, .int (nI (M A) - 1000000), nlB_i, by rw [hk]⟩
      simp only [lpStep, ↓rE_eK, ↓rE_eLi, ↓rE_eLj, ↓rE_eLa, ↓rE_eU, ↓rE_eB, ↓rE_eG, ↓rE_eIF, ↓rE_eAI, ↓rE_eAX, ↓rE_eAJ, ↓rE_eAR, ↓rE_eLen, ↓rE_eSI, ↓rE_eC, ↓rE_eCall, ↓rE_eNew, ↓rE_eNewA, ↓rE_eInst, ↓rC_cI, ↓rC_cZ0, ↓rC_cN, ↓rC_cNot, ↓rC_cAnd, ↓rC_cOr, ↓rA_aN, ↓rA_aC, ↓rS_sP, ↓rS_sUF, ↓rS_sAI, ↓rS_sAJ, ↓rS_sAR, ↓rS_sUA, ↓rS_sCall, ↓rS_sObj, ↓rS_sSi, ↓rS_sSa, ↓rS_sSj, ↓rS_sInc, ↓rS_sSkip, ↓rS_sSeq, ↓rS_sIf, ↓rS_sRetI, ↓rS_sRetJ, ↓rS_sRetA, ↓rS_sRetV, ↓rS_sSw, ↓rD_meth, ↓rD_on, ↓kR_ref, ↓kI_int, ↓kJ_long, ↓kN_null, ↓kN_ref, ↓kN_rf, ↓kQ_ref, ↓kQ_null, ↓kQ_rf, o1_i, o1ij_i, o1ji_i, o2_i, o2d_i, o2j_i, o2ji_i, o2c_i, fv_0, fv_1, fv_2, fv_3, pf_0, pf_2, pf_3, pf_4, rf_s, rf_n, is_self, ge_0, ge_s, ge_n, gd_s, gd_n, se_0, se_s, ag_0, ex_n, ex_i, ex_r, ex_0, ex_j, ex_q, ap_c, ap_n, List.append_nil, ln_c, ln_n, rp_0, rp_s, rt_0, rt_1, rt_20, rt_21, rt_2, rt_3, rt_4, rt_4n, rt_4q, nl_0, nl_1, nl_2, nl_3, nl_4, nl_5, nl_6, nl_7, nl_8, nl_9, nlB_i, nlB_r, nlB_n, nlB_f, nlB_q, ↓reduceIte, reduceCtorEq, Nat.reduceAdd, Nat.reduceSub, Nat.reduceEqDiff, Nat.reduceLeDiff, Nat.reduceBEq, ite_true, ite_false, dt_t, Bool.not_true, Bool.not_false, Bool.false_eq_true, Nat.le_refl, true_and, and_true, true_or, or_true, false_or, or_false, false_and, and_false, qEq, qNe, qLt, qGe, qGt, qLe, hlt, e, hn, rD_of (d_has _ _ _), hb2, h01, b32_ne, sT_35 hS, sT_36 hS, sT_37 hS, sT_38 hS, sT_39 hS, sT_40 hS, sT_41 hS, sT_42 hS, sT_43 hS, sT_44 hS, sT_45 hS, sT_46 hS, sT_47 hS, sT_48 hS, sT_49 hS, sT_50 hS, sT_51 hS, sT_52 hS, sT_53 hS, sT_54 hS, sT_55 hS, sT_56 hS, sT_57 hS, sT_58 hS, sT_59 hS, sT_60 hS, sT_61 hS, sT_62 hS, sT_63 hS, sT_64 hS, sT_65 hS, sL_36 hS, sL_37 hS, sL_38 hS, sL_39 hS, sL_40 hS, sL_41 hS, sL_42 hS, sL_43 hS, sL_44 hS, sL_45 hS, sL_46 hS, sL_47 hS, sL_48 hS, sL_49 hS, sL_50 hS, sL_51 hS, sL_52 hS, sL_53 hS, sL_54 hS, sL_55 hS, sL_56 hS, sL_57 hS, sL_58 hS, sL_59 hS, sL_60 hS, sL_61 hS, sL_62 hS, sL_63 hS, sL_64 hS, sL_65 hS, sR_35_1 hS, sR_35_2 hS, sR_35_3 hS, sR_35_4 hS, sR_35_5 hS, sR_35_6 hS, sR_35_7 hS, sR_35_11 hS, sR_35_21 hS, sR_35_22 hS, sR_35_23 hS, sR_35_24 hS, sR_35_25 hS, sR_35_26 hS, sR_35_27 hS, sR_35_28 hS, sR_35_29 hS, sR_35_30 hS, sR_35_31 hS, sR_35_32 hS, sR_35_35 hS, sR_35_37 hS, sR_35_38 hS, sR_35_39 hS, sR_35_40 hS, sR_35_41 hS, sR_35_42 hS, sR_35_46 hS, sR_35_50 hS, sR_35_52 hS, e8, bA, cA, hMA.1, hff, nI_1]
  · right
    have : i = n := by omega
    subst this
    refine ⟨.inl [.ref 35, .int (oI (bsI (dok M A) (dlt M A) i)), .int (fe (fun b => nI (M A) - nI (M (sd A (2 ^ b)))) (bsI (dok M A) (dlt M A) i)), .int (nI i), w4, w5], _, ?_, rfl, _, _, _, _, rfl⟩
    simp only [lpStep, ↓rE_eK, ↓rE_eLi, ↓rE_eLj, ↓rE_eLa, ↓rE_eU, ↓rE_eB, ↓rE_eG, ↓rE_eIF, ↓rE_eAI, ↓rE_eAX, ↓rE_eAJ, ↓rE_eAR, ↓rE_eLen, ↓rE_eSI, ↓rE_eC, ↓rE_eCall, ↓rE_eNew, ↓rE_eNewA, ↓rE_eInst, ↓rC_cI, ↓rC_cZ0, ↓rC_cN, ↓rC_cNot, ↓rC_cAnd, ↓rC_cOr, ↓rA_aN, ↓rA_aC, ↓rS_sP, ↓rS_sUF, ↓rS_sAI, ↓rS_sAJ, ↓rS_sAR, ↓rS_sUA, ↓rS_sCall, ↓rS_sObj, ↓rS_sSi, ↓rS_sSa, ↓rS_sSj, ↓rS_sInc, ↓rS_sSkip, ↓rS_sSeq, ↓rS_sIf, ↓rS_sRetI, ↓rS_sRetJ, ↓rS_sRetA, ↓rS_sRetV, ↓rS_sSw, ↓rD_meth, ↓rD_on, ↓kR_ref, ↓kI_int, ↓kJ_long, ↓kN_null, ↓kN_ref, ↓kN_rf, ↓kQ_ref, ↓kQ_null, ↓kQ_rf, o1_i, o1ij_i, o1ji_i, o2_i, o2d_i, o2j_i, o2ji_i, o2c_i, fv_0, fv_1, fv_2, fv_3, pf_0, pf_2, pf_3, pf_4, rf_s, rf_n, is_self, ge_0, ge_s, ge_n, gd_s, gd_n, se_0, se_s, ag_0, ex_n, ex_i, ex_r, ex_0, ex_j, ex_q, ap_c, ap_n, List.append_nil, ln_c, ln_n, rp_0, rp_s, rt_0, rt_1, rt_20, rt_21, rt_2, rt_3, rt_4, rt_4n, rt_4q, nl_0, nl_1, nl_2, nl_3, nl_4, nl_5, nl_6, nl_7, nl_8, nl_9, nlB_i, nlB_r, nlB_n, nlB_f, nlB_q, ↓reduceIte, reduceCtorEq, Nat.reduceAdd, Nat.reduceSub, Nat.reduceEqDiff, Nat.reduceLeDiff, Nat.reduceBEq, ite_true, ite_false, dt_t, Bool.not_true, Bool.not_false, Bool.false_eq_true, Nat.le_refl, true_and, and_true, true_or, or_true, false_or, or_false, false_and, and_false, qEq, qNe, qLt, qGe, qGt, qLe, hlt, Nat.lt_irrefl, hn, sT_35 hS, sT_36 hS, sT_37 hS, sT_38 hS, sT_39 hS, sT_40 hS, sT_41 hS, sT_42 hS, sT_43 hS, sT_44 hS, sT_45 hS, sT_46 hS, sT_47 hS, sT_48 hS, sT_49 hS, sT_50 hS, sT_51 hS, sT_52 hS, sT_53 hS, sT_54 hS, sT_55 hS, sT_56 hS, sT_57 hS, sT_58 hS, sT_59 hS, sT_60 hS, sT_61 hS, sT_62 hS, sT_63 hS, sT_64 hS, sT_65 hS, sL_36 hS, sL_37 hS, sL_38 hS, sL_39 hS, sL_40 hS, sL_41 hS, sL_42 hS, sL_43 hS, sL_44 hS, sL_45 hS, sL_46 hS, sL_47 hS, sL_48 hS, sL_49 hS, sL_50 hS, sL_51 hS, sL_52 hS, sL_53 hS, sL_54 hS, sL_55 hS, sL_56 hS, sL_57 hS, sL_58 hS, sL_59 hS, sL_60 hS, sL_61 hS, sL_62 hS, sL_63 hS, sL_64 hS, sL_65 hS, sR_35_1 hS, sR_35_2 hS, sR_35_3 hS, sR_35_4 hS, sR_35_5 hS, sR_35_6 hS, sR_35_7 hS, sR_35_11 hS, sR_35_21 hS, sR_35_22 hS, sR_35_23 hS, sR_35_24 hS, sR_35_25 hS, sR_35_26 hS, sR_35_27 hS, sR_35_28 hS, sR_35_29 hS, sR_35_30 hS, sR_35_31 hS, sR_35_32 hS, sR_35_35 hS, sR_35_37 hS, sR_35_38 hS, sR_35_39 hS, sR_35_40 hS, sR_35_41 hS, sR_35_42 hS, sR_35_46 hS, sR_35_50 hS, sR_35_52 hS]
theorem dok_far {M : Nat → Nat} {A n : Nat} (hA : A < 2 ^ n) : ∀ i, n ≤ i → dok M A i = false := fun i hi => by
  unfold dok
  cases q : A.testBit i with
  | false => rfl
  | true => have := bitlt hA q; omega
theorem step_dearest {σ : pm_H} {n : Nat} (h : Rel (RkT Q) σ n) : Step (RkT Q) D_X11_dearest D_X12_dearest [] σ := by
  have hS := Rel_Sh h
  have hv := Rel_VR h
  have hr := Rel_nr h
  have hn := Rel_n h
  have h8 := Rel_8 h
  have hm := VR_mOk hv
  obtain ⟨A, hA, eA, -⟩ := VR_A hv
  have hA8 := Nat.lt_of_lt_of_le hA (p2n h8)
  obtain ⟨s, N, V, M, S, R, B, Y, d1, ⟨d2, d3, d4, d5⟩, t1, t2, -, t4, t5⟩ := d_leastC h hA eA
  have hF := OC_Fr d2
  have hss := Fr_Sh hF hS
  have hvs := Fr_VR hF hv
  have hrs : pR s 11 0 = some (nowA σ) := by rw [d2.1.2.2.1]; exact hr
  have hcu := Fr_cur hF
  have hns : pI s 35 0 = nI n := by rw [d2.2 35 (by omega)]; exact hn
  obtain ⟨τ, M', f1, f2, -, f4, f5⟩ := d_findLeast hss (sl := -1) (la := -1) hns (by rw [hcu]; exact hm)
  rw [hcu, baR_m1] at f5
  obtain ⟨a1, -⟩ := tab_all hA8 (fun C hC => baE_255 (by have := sub_le hC; omega)) t5
  have hMM := Ch_uniq (Ch_congr t1 t2 a1) (Ch_sub f5 (sub_ones.mpr hA))
  obtain ⟨r1, r2, r3⟩ := fin_q h d2 d3 d5 f2
  have hsτ := Fr_Sh (OD_Fr f2) hss
  have e8 : pI τ 35 8 = nI A := by rw [f2.2.2 8 (by decide) (by decide), d2.2 35 (by omega)]; exact eA
  have hnτ : pI τ 35 0 = nI n := by rw [f2.2.2 0 (by decide) (by decide)]; exact hns
  obtain ⟨rm, σm, m1, rfl, x, y, z, w, rfl⟩ := d_dear_m hsτ h8 hnτ hA e8 f4
  have hbs : bsI (dok M A) (dlt M A) n = bsI (dok M' A) (dlt M' A) n := bsI_congr n (fun i _ => by unfold dok; rw [hMM A (sub_rfl A), hMM _ (sd_sub A _)]) (fun i b _ _ => by unfold dlt; rw [hMM _ (sd_sub A _), hMM _ (sd_sub A _)])
  refine ⟨oI (bsI (dok M A) (dlt M A) n), s, σm, n, ?_, ?_, r1, by omega, by omega⟩
  · refine rD_un.trans ?_
    have q1 := d_awakeSet hvs
    rw [eA] at q1
    by_cases c : M A = 1000000
    · rw [if_pos c] at d1
      have hno : oI (bsI (dok M A) (dlt M A) n) = -3 := by
        rw [bsI_no (fun i => ?_) n]
        · rfl
        · cases q : dok M A i with
          | false => rfl
          | true => have := (dok_iff.mp q).2.1; omega
      rw [hno]
      simp only [D_X11_dearest, B_X11_dearest, ↓rE_eK, ↓rE_eLi, ↓rE_eLj, ↓rE_eLa, ↓rE_eU, ↓rE_eB, ↓rE_eG, ↓rE_eIF, ↓rE_eAI, ↓rE_eAX, ↓rE_eAJ, ↓rE_eAR, ↓rE_eLen, ↓rE_eSI, ↓rE_eC, ↓rE_eCall, ↓rE_eNew, ↓rE_eNewA, ↓rE_eInst, ↓rC_cI, ↓rC_cZ0, ↓rC_cN, ↓rC_cNot, ↓rC_cAnd, ↓rC_cOr, ↓rA_aN, ↓rA_aC, ↓rS_sP, ↓rS_sUF, ↓rS_sAI, ↓rS_sAJ, ↓rS_sAR, ↓rS_sUA, ↓rS_sCall, ↓rS_sObj, ↓rS_sSi, ↓rS_sSa, ↓rS_sSj, ↓rS_sInc, ↓rS_sSkip, ↓rS_sSeq, ↓rS_sIf, ↓rS_sRetI, ↓rS_sRetJ, ↓rS_sRetA, ↓rS_sRetV, ↓rS_sSw, ↓rD_meth, ↓rD_on, ↓kR_ref, ↓kI_int, ↓kJ_long, ↓kN_null, ↓kN_ref, ↓kN_rf, ↓kQ_ref, ↓kQ_null, ↓kQ_rf, o1_i, o1ij_i, o1ji_i, o2_i, o2d_i, o2j_i, o2ji_i, o2c_i, fv_0, fv_1, fv_2, fv_3, pf_0, pf_2, pf_3, pf_4, rf_s, rf_n, is_self, ge_0, ge_s, ge_n, gd_s, gd_n, se_0, se_s, ag_0, ex_n, ex_i, ex_r, ex_0, ex_j, ex_q, ap_c, ap_n, List.append_nil, ln_c, ln_n, rp_0, rp_s, rt_0, rt_1, rt_20, rt_21, rt_2, rt_3, rt_4, rt_4n, rt_4q, nl_0, nl_1, nl_2, nl_3, nl_4, nl_5, nl_6, nl_7, nl_8, nl_9, nlB_i, nlB_r, nlB_n, nlB_f, nlB_q, ↓reduceIte, reduceCtorEq, Nat.reduceAdd, Nat.reduceSub, Nat.reduceEqDiff, Nat.reduceLeDiff, Nat.reduceBEq, ite_true, ite_false, dt_t, Bool.not_true, Bool.not_false, Bool.false_eq_true, Nat.le_refl, true_and, and_true, true_or, or_true, false_or, or_false, false_and, and_false, qEq, qNe, qLt, qGe, qGt, qLe, rD_tb1 (sT_11 hS), rD_of d1]
    · have hM6 := (t4 A (sub_rfl A)).1.2.1
      rw [if_neg c] at d1
      have hc3' := nI_x3 (show M A < 1000000 by omega)
      obtain ⟨rc, σc, c1, rfl, x, y, z, rfl⟩ := d_dear_c hss hA8 d4 (show M A < 1000000 by omega) t4
      have h8n := bsI_le (lt := dlt M A) (dok_far (M := M) hA) 8 h8
      rw [h8n] at c1
      simp only [D_X11_dearest, B_X11_dearest, ↓rE_eK, ↓rE_eLi, ↓rE_eLj, ↓rE_eLa, ↓rE_eU, ↓rE_eB, ↓rE_eG, ↓rE_eIF, ↓rE_eAI, ↓rE_eAX, ↓rE_eAJ, ↓rE_eAR, ↓rE_eLen, ↓rE_eSI, ↓rE_eC, ↓rE_eCall, ↓rE_eNew, ↓rE_eNewA, ↓rE_eInst, ↓rC_cI, ↓rC_cZ0, ↓rC_cN, ↓rC_cNot, ↓rC_cAnd, ↓rC_cOr, ↓rA_aN, ↓rA_aC, ↓rS_sP, ↓rS_sUF, ↓rS_sAI, ↓rS_sAJ, ↓rS_sAR, ↓rS_sUA, ↓rS_sCall, ↓rS_sObj, ↓rS_sSi, ↓rS_sSa, ↓rS_sSj, ↓rS_sInc, ↓rS_sSkip, ↓rS_sSeq, ↓rS_sIf, ↓rS_sRetI, ↓rS_sRetJ, ↓rS_sRetA, ↓rS_sRetV, ↓rS_sSw, ↓rD_meth, ↓rD_on, ↓kR_ref, ↓kI_int, ↓kJ_long, ↓kN_null, ↓kN_ref, ↓kN_rf, ↓kQ_ref, ↓kQ_null, ↓kQ_rf, o1_i, o1ij_i, o1ji_i, o2_i, o2d_i, o2j_i, o2ji_i, o2c_i, fv_0, fv_1, fv_2, fv_3, pf_0, pf_2, pf_3, pf_4, rf_s, rf_n, is_self, ge_0, ge_s, ge_n, gd_s, gd_n, se_0, se_s, ag_0, ex_n, ex_i, ex_r, ex_0, ex_j, ex_q, ap_c, ap_n, List.append_nil, ln_c, ln_n, rp_0, rp_s, rt_0, rt_1, rt_20, rt_21, rt_2, rt_3, rt_4, rt_4n, rt_4q, nl_0, nl_1, nl_2, nl_3, nl_4, nl_5, nl_6, nl_7, nl_8, nl_9, nlB_i, nlB_r, nlB_n, nlB_f, nlB_q, ↓reduceIte, reduceCtorEq, Nat.reduceAdd, Nat.reduceSub, Nat.reduceEqDiff, Nat.reduceLeDiff, Nat.reduceBEq, ite_true, ite_false, dt_t, Bool.not_true, Bool.not_false, Bool.false_eq_true, Nat.le_refl, true_and, and_true, true_or, or_true, false_or, or_false, false_and, and_false, qEq, qNe, qLt, qGe, qGt, qLe, rD_tb1 (sT_11 hS), rD_of d1, hc3', sT_11 hss, sT_12 hss, sT_13 hss, sT_14 hss, sT_15 hss, sT_16 hss, sT_17 hss, sT_18 hss, sT_19 hss, sT_20 hss, sT_21 hss, sT_22 hss, sT_23 hss, sT_24 hss, sT_25 hss, sT_26 hss, sT_27 hss, sT_28 hss, sT_29 hss, sT_30 hss, sT_31 hss, sT_32 hss, sT_33 hss, sT_34 hss, sL_13 hss, sL_14 hss, sL_16 hss, sL_17 hss, sL_18 hss, sL_19 hss, sL_20 hss, sL_21 hss, sL_22 hss, sL_23 hss, sL_24 hss, sL_25 hss, sL_26 hss, sL_28 hss, sL_30 hss, sL_31 hss, sL_32 hss, sL_33 hss, sL_34 hss, sR_11_2 hss, sR_11_3 hss, sR_11_4 hss, sR_11_5 hss, sR_11_7 hss, sR_11_8 hss, sR_11_9 hss, sR_27_0 hss, sR_29_0 hss, sR_15_0 hss, sR_15_3 hss, sR_15_5 hss, sR_15_6 hss, sR_15_7 hss, sR_15_8 hss, sR_15_9 hss, sR_15_10 hss, sR_15_11 hss, sR_15_12 hss, sR_15_13 hss, hrs, rD_tb1 (VR_T hvs), rD_of q1, rS_inl c1]
  · refine rD_un.trans ?_
    rw [hbs]
    simp only [D_X12_dearest, B_X12_dearest, ↓rE_eK, ↓rE_eLi, ↓rE_eLj, ↓rE_eLa, ↓rE_eU, ↓rE_eB, ↓rE_eG, ↓rE_eIF, ↓rE_eAI, ↓rE_eAX, ↓rE_eAJ, ↓rE_eAR, ↓rE_eLen, ↓rE_eSI, ↓rE_eC, ↓rE_eCall, ↓rE_eNew, ↓rE_eNewA, ↓rE_eInst, ↓rC_cI, ↓rC_cZ0, ↓rC_cN, ↓rC_cNot, ↓rC_cAnd, ↓rC_cOr, ↓rA_aN, ↓rA_aC, ↓rS_sP, ↓rS_sUF, ↓rS_sAI, ↓rS_sAJ, ↓rS_sAR, ↓rS_sUA, ↓rS_sCall, ↓rS_sObj, ↓rS_sSi, ↓rS_sSa, ↓rS_sSj, ↓rS_sInc, ↓rS_sSkip, ↓rS_sSeq, ↓rS_sIf, ↓rS_sRetI, ↓rS_sRetJ, ↓rS_sRetA, ↓rS_sRetV, ↓rS_sSw, ↓rD_meth, ↓rD_on, ↓kR_ref, ↓kI_int, ↓kJ_long, ↓kN_null, ↓kN_ref, ↓kN_rf, ↓kQ_ref, ↓kQ_null, ↓kQ_rf, o1_i, o1ij_i, o1ji_i, o2_i, o2d_i, o2j_i, o2ji_i, o2c_i, fv_0, fv_1, fv_2, fv_3, pf_0, pf_2, pf_3, pf_4, rf_s, rf_n, is_self, ge_0, ge_s, ge_n, gd_s, gd_n, se_0, se_s, ag_0, ex_n, ex_i, ex_r, ex_0, ex_j, ex_q, ap_c, ap_n, List.append_nil, ln_c, ln_n, rp_0, rp_s, rt_0, rt_1, rt_20, rt_21, rt_2, rt_3, rt_4, rt_4n, rt_4q, nl_0, nl_1, nl_2, nl_3, nl_4, nl_5, nl_6, nl_7, nl_8, nl_9, nlB_i, nlB_r, nlB_n, nlB_f, nlB_q, ↓reduceIte, reduceCtorEq, Nat.reduceAdd, Nat.reduceSub, Nat.reduceEqDiff, Nat.reduceLeDiff, Nat.reduceBEq, ite_true, ite_false, dt_t, Bool.not_true, Bool.not_false, Bool.false_eq_true, Nat.le_refl, true_and, and_true, true_or, or_true, false_or, or_false, false_and, and_false, qEq, qNe, qLt, qGe, qGt, qLe, rD_tb1 (sT_35 hss), rD_of f1, rS_inl m1]
