/-! How long a song lasts. -/
/-- the minutes that one needs, as a number -/
def nN (vd : Nat → Int32) (i : Nat) : Nat := (nd vd i).toInt.toNat
theorem ndk_dec : ∀ (k : Fin 6) (g : Fin 91), 1 ≤ g.val → ndk (nI k.val) (nI g.val) = nI (ndk (nI k.val) (nI g.val)).toInt.toNat ∧ 1 ≤ (ndk (nI k.val) (nI g.val)).toInt.toNat ∧ (ndk (nI k.val) (nI g.val)).toInt.toNat ≤ 200 := by decide +kernel
theorem nd_nN {σ : pm_H} {v n : Nat} {vd : Nat → Int32} (h : VR σ v vd n) {i : Nat} (hi : i < n) : nd vd i = nI (nN vd i) ∧ 1 ≤ nN vd i ∧ nN vd i ≤ 200 := by
  obtain ⟨k, k1, k2, -⟩ := VR_k h hi
  obtain ⟨g, g1, g2, g3⟩ := (h.1.2.2.2 i hi).1
  have := ndk_dec ⟨k, k1⟩ ⟨g, by omega⟩ g1
  unfold nN nd
  rw [k2, g3]
  exact this
/-- the most that one of the first k of a set needs -/
def mx (vd : Nat → Int32) (W : Nat) : Nat → Nat
  | 0 => 0
  | k + 1 => if W.testBit k then max (mx vd W k) (nN vd k) else mx vd W k
/-- is one of the first k of a set deaf -/
def df (vd : Nat → Int32) (W : Nat) : Nat → Bool
  | 0 => false
  | k + 1 => df vd W k || (W.testBit k && decide (vd (4 + k) = 4))
theorem df_mono {vd : Nat → Int32} {W i : Nat} (h : df vd W i = true) : ∀ m, i ≤ m → df vd W m = true := by
  intro m hm
  induction m with
  | zero => have : i = 0 := by omega
            subst this; exact h
  | succ m ih =>
    by_cases e : i = m + 1
    · subst e; exact h
    · rw [df, ih (by omega)]; rfl
theorem mx_le {σ : pm_H} {v n : Nat} {vd : Nat → Int32} (h : VR σ v vd n) (W : Nat) : ∀ k, k ≤ n → mx vd W k ≤ 200 := by
  intro k hk
  induction k with
  | zero => exact Nat.zero_le _
  | succ k ih =>
    rw [mx]
    have := ih (by omega)
    have := (nd_nN h (show k < n by omega)).2.2
    split <;> omega
theorem d_max {a b : Nat} (ha : a ≤ 1000000) (hb : b ≤ 1000000) (σ : pm_H) : D_max [.int (nI a), .int (nI b)] σ = some (some (.int (nI (max a b))), σ) := by
  show some (some (Value.int (if nI a < nI b then nI b else nI a)), σ) = _
  by_cases h : a < b
  · rw [if_pos (by rw [nI_lt' (by omega) (by omega)]; exact h), Nat.max_eq_right (by omega)]
  · rw [if_neg (by rw [nI_lt' (by omega) (by omega)]; exact h), Nat.max_eq_left (by omega)]
theorem d_neededBy {σ : pm_H} {v n W : Nat} {vd : Nat → Int32} (h : VR σ v vd n) (hW : W < 256) : D_X10_neededBy [.ref v, .int (nI W)] σ = some (some (.int (nI (if 1 < pc W ∧ df vd W n = true then 0 else mx vd W n))), σ) := by
  have h8 := VR_8 h
  have hg : (1 < nI (pc W)) = (1 < pc W) := nI_lt' (a := 1) (by decide) (by have := pc_le (A := W); omega)
  have hl : ∀ sv : Int32, sv = b32 (1 < pc W) → ∃ r σ', sLoop (cI qLt (eLi 4) (eG (is 10) 0 2 (eLa 0))) (sSeq (sSeq (sSa 5 (eAR (eG (is 10) 3 0 (eLa 0)) (eLi 4))) (sIf (cAnd (cNot (cN (eLa 5))) (cI qEq (eB f_iand (eB f_ishr (eLi 1) (eLi 4)) (eK (.int 1))) (eK (.int 1)))) (sSeq (sIf (cAnd (cZ0 qNe (eLi 2)) (cZ0 qNe (eCall (pm_disp (tb6 D_X6_alone D_X1_alone D_X6_alone D_X6_alone D_X6_alone D_X6_alone)) (aC (eLa 5) (aN))))) (sRetK 1 (eK (.int 0))) sSkip) (sSi 3 (eCall D_max (aC (eLi 3) (aC (eCall (pm_disp (tb6 D_X0_minutes D_X2_minutes D_X2_minutes D_X4_minutes D_X6_minutes D_X6_minutes)) (aC (eLa 5) (aN))) (aN)))))) sSkip)) (sInc 4 1)) [.ref v, .int (nI W), .int sv, .int 0, .int 0, .float 0] σ = some (r, σ') ∧ (σ' = σ ∧ ((¬ (1 < pc W ∧ df vd W n = true) ∧ ∃ w, r = .inl [.ref v, .int (nI W), .int sv, .int (nI (mx vd W n)), .int (nI n), w]) ∨ ((1 < pc W ∧ df vd W n = true) ∧ r = .inr (some (.int 0))))) := by
    intro sv hsv
    refine loop_gen (fun i env s => s = σ ∧ ¬ (1 < pc W ∧ df vd W i = true) ∧ ∃ w, env = [.ref v, .int (nI W), .int sv, .int (nI (mx vd W i)), .int (nI i), w]) _ n (by omega) ⟨rfl, (fun q => absurd q.2 (by simp [df])), Value.float 0, by rw [nI_0]; rfl⟩ ?_
    rintro i env s hi ⟨rfl, hd, w, rfl⟩
    by_cases e : i < n
    · have hlt : nI i < nI n := by rw [nI_lt' (by omega) (by omega)]; exact e
      have hb : nI W >>> (nI i &&& 31) &&& 1 = if W.testBit i then 1 else 0 := bt_nI hW (show i < 8 by omega)
      by_cases ht : W.testBit i = true
      · rw [if_pos ht] at hb
        by_cases ha : vd (4 + i) = 4
        · by_cases hs : 1 < pc W
          · right
            refine ⟨_, s, ?_, rfl, Or.inr ⟨⟨hs, df_mono (i := i + 1) (by rw [df, ht, ha]; simp) n (by omega)⟩, rfl⟩⟩
            rw [b32_t hs] at hsv
            subst hsv
            simp only [lpStep, ↓rE_eK, ↓rE_eLi, ↓rE_eLj, ↓rE_eLa, ↓rE_eU, ↓rE_eB, ↓rE_eG, ↓rE_eIF, ↓rE_eAI, ↓rE_eAX, ↓rE_eAJ, ↓rE_eAR, ↓rE_eLen, ↓rE_eSI, ↓rE_eC, ↓rE_eCall, ↓rE_eNew, ↓rE_eNewA, ↓rE_eInst, ↓rC_cI, ↓rC_cZ0, ↓rC_cN, ↓rC_cNot, ↓rC_cAnd, ↓rC_cOr, ↓rA_aN, ↓rA_aC, ↓rS_sP, ↓rS_sUF, ↓rS_sAI, ↓rS_sAJ, ↓rS_sAR, ↓rS_sUA, ↓rS_sCall, ↓rS_sObj, ↓rS_sSi, ↓rS_sSa, ↓rS_sSj, ↓rS_sInc, ↓rS_sSkip, ↓rS_sSeq, ↓rS_sIf, ↓rS_sRetI, ↓rS_sRetJ, ↓rS_sRetA, ↓rS_sRetV, ↓rS_sSw, ↓rD_meth, ↓rD_on, ↓kR_ref, ↓kI_int, ↓kJ_long, ↓kN_null, ↓kN_ref, ↓kN_rf, ↓kQ_ref, ↓kQ_null, ↓kQ_rf, o1_i, o1ij_i, o1ji_i, o2_i, o2d_i, o2j_i, o2ji_i, o2c_i, fv_0, fv_1, fv_2, fv_3, pf_0, pf_2, pf_3, pf_4, rf_s, rf_n, is_self, ge_0, ge_s, ge_n, gd_s, gd_n, se_0, se_s, ag_0, ex_n, ex_i, ex_r, ex_0, ex_j, ex_q, ap_c, ap_n, List.append_nil, ln_c, ln_n, rp_0, rp_s, rt_0, rt_1, rt_20, rt_21, rt_2, rt_3, rt_4, rt_4n, rt_4q, nl_0, nl_1, nl_2, nl_3, nl_4, nl_5, nl_6, nl_7, nl_8, nl_9, nlB_i, nlB_r, nlB_n, nlB_f, nlB_q, ↓reduceIte, reduceCtorEq, Nat.reduceAdd, Nat.reduceSub, Nat.reduceEqDiff, Nat.reduceLeDiff, Nat.reduceBEq, ite_true, ite_false, dt_t, Bool.not_true, Bool.not_false, Bool.false_eq_true, Nat.le_refl, true_and, and_true, true_or, or_true, false_or, or_false, false_and, and_false, qEq, qNe, qLt, qGe, qGt, qLe, VR_T h, VR_s h, hlt, VR_r0 h, VR_PT h, VR_PL h, ib_nI (show i < 8 by omega) (by decide), nI_cl (show i < 2147483648 by omega), VR_q h e, VR_slp h e, hb, rD_of (v_alone h e), b32_ne, ha, one_ne0, not_false_eq_true]
          · left
            rw [b32_f hs] at hsv
            subst hsv
            refine ⟨[.ref v, .int (nI W), .int 0, .int (nI (mx vd W (i + 1))), .int (nI (i + 1)), .ref (vQ s v i)], s, ?_, e, rfl, fun q => hs q.1, _, rfl⟩
            obtain ⟨q1, q2, q3⟩ := nd_nN h e
            simp only [lpStep, ↓rE_eK, ↓rE_eLi, ↓rE_eLj, ↓rE_eLa, ↓rE_eU, ↓rE_eB, ↓rE_eG, ↓rE_eIF, ↓rE_eAI, ↓rE_eAX, ↓rE_eAJ, ↓rE_eAR, ↓rE_eLen, ↓rE_eSI, ↓rE_eC, ↓rE_eCall, ↓rE_eNew, ↓rE_eNewA, ↓rE_eInst, ↓rC_cI, ↓rC_cZ0, ↓rC_cN, ↓rC_cNot, ↓rC_cAnd, ↓rC_cOr, ↓rA_aN, ↓rA_aC, ↓rS_sP, ↓rS_sUF, ↓rS_sAI, ↓rS_sAJ, ↓rS_sAR, ↓rS_sUA, ↓rS_sCall, ↓rS_sObj, ↓rS_sSi, ↓rS_sSa, ↓rS_sSj, ↓rS_sInc, ↓rS_sSkip, ↓rS_sSeq, ↓rS_sIf, ↓rS_sRetI, ↓rS_sRetJ, ↓rS_sRetA, ↓rS_sRetV, ↓rS_sSw, ↓rD_meth, ↓rD_on, ↓kR_ref, ↓kI_int, ↓kJ_long, ↓kN_null, ↓kN_ref, ↓kN_rf, ↓kQ_ref, ↓kQ_null, ↓kQ_rf, o1_i, o1ij_i, o1ji_i, o2_i, o2d_i, o2j_i, o2ji_i, o2c_i, fv_0, fv_1, fv_2, fv_3, pf_0, pf_2, pf_3, pf_4, rf_s, rf_n, is_self, ge_0, ge_s, ge_n, gd_s, gd_n, se_0, se_s, ag_0, ex_n, ex_i, ex_r, ex_0, ex_j, ex_q, ap_c, ap_n, List.append_nil, ln_c, ln_n, rp_0, rp_s, rt_0, rt_1, rt_20, rt_21, rt_2, rt_3, rt_4, rt_4n, rt_4q, nl_0, nl_1, nl_2, nl_3, nl_4, nl_5, nl_6, nl_7, nl_8, nl_9, nlB_i, nlB_r, nlB_n, nlB_f, nlB_q, ↓reduceIte, reduceCtorEq, Nat.reduceAdd, Nat.reduceSub, Nat.reduceEqDiff, Nat.reduceLeDiff, Nat.reduceBEq, ite_true, ite_false, dt_t, Bool.not_true, Bool.not_false, Bool.false_eq_true, Nat.le_refl, true_and, and_true, true_or, or_true, false_or, or_false, false_and, and_false, qEq, qNe, qLt, qGe, qGt, qLe, VR_T h, VR_s h, hlt, VR_r0 h, VR_PT h, VR_PL h, ib_nI (show i < 8 by omega) (by decide), nI_cl (show i < 2147483648 by omega), VR_q h e, VR_slp h e, hb, not_true, rD_of (v_minutes h e), q1, rD_of (d_max (show mx vd W i ≤ 1000000 by have := mx_le h W i (by omega); omega) (show nN vd i ≤ 1000000 by omega) _), mx, ht, nI_1]
        · left
          refine ⟨[.ref v, .int (nI W), .int sv, .int (nI (mx vd W (i + 1))), .int (nI (i + 1)), .ref (vQ s v i)], s, ?_, e, rfl, fun q => hd ⟨q.1, by have := q.2; rw [df] at this; simpa [ha] using this⟩, _, rfl⟩
          obtain ⟨q1, q2, q3⟩ := nd_nN h e
          by_cases hs : sv = 0
          · simp only [lpStep, ↓rE_eK, ↓rE_eLi, ↓rE_eLj, ↓rE_eLa, ↓rE_eU, ↓rE_eB, ↓rE_eG, ↓rE_eIF, ↓rE_eAI, ↓rE_eAX, ↓rE_eAJ, ↓rE_eAR, ↓rE_eLen, ↓rE_eSI, ↓rE_eC, ↓rE_eCall, ↓rE_eNew, ↓rE_eNewA, ↓rE_eInst, ↓rC_cI, ↓rC_cZ0, ↓rC_cN, ↓rC_cNot, ↓rC_cAnd, ↓rC_cOr, ↓rA_aN, ↓rA_aC, ↓rS_sP, ↓rS_sUF, ↓rS_sAI, ↓rS_sAJ, ↓rS_sAR, ↓rS_sUA, ↓rS_sCall, ↓rS_sObj, ↓rS_sSi, ↓rS_sSa, ↓rS_sSj, ↓rS_sInc, ↓rS_sSkip, ↓rS_sSeq, ↓rS_sIf, ↓rS_sRetI, ↓rS_sRetJ, ↓rS_sRetA, ↓rS_sRetV, ↓rS_sSw, ↓rD_meth, ↓rD_on, ↓kR_ref, ↓kI_int, ↓kJ_long, ↓kN_null, ↓kN_ref, ↓kN_rf, ↓kQ_ref, ↓kQ_null, ↓kQ_rf, o1_i, o1ij_i, o1ji_i, o2_i, o2d_i, o2j_i, o2ji_i, o2c_i, fv_0, fv_1, fv_2, fv_3, pf_0, pf_2, pf_3, pf_4, rf_s, rf_n, is_self, ge_0, ge_s, ge_n, gd_s, gd_n, se_0, se_s, ag_0, ex_n, ex_i, ex_r, ex_0, ex_j, ex_q, ap_c, ap_n, List.append_nil, ln_c, ln_n, rp_0, rp_s, rt_0, rt_1, rt_20, rt_21, rt_2, rt_3, rt_4, rt_4n, rt_4q, nl_0, nl_1, nl_2, nl_3, nl_4, nl_5, nl_6, nl_7, nl_8, nl_9, nlB_i, nlB_r, nlB_n, nlB_f, nlB_q, ↓reduceIte, reduceCtorEq, Nat.reduceAdd, Nat.reduceSub, Nat.reduceEqDiff, Nat.reduceLeDiff, Nat.reduceBEq, ite_true, ite_false, dt_t, Bool.not_true, Bool.not_false, Bool.false_eq_true, Nat.le_refl, true_and, and_true, true_or, or_true, false_or, or_false, false_and, and_false, qEq, qNe, qLt, qGe, qGt, qLe, VR_T h, VR_s h, hlt, VR_r0 h, VR_PT h, VR_PL h, ib_nI (show i < 8 by omega) (by decide), nI_cl (show i < 2147483648 by omega), VR_q h e, VR_slp h e, hb, hs, not_true, rD_of (v_minutes h e), q1, rD_of (d_max (show mx vd W i ≤ 1000000 by have := mx_le h W i (by omega); omega) (show nN vd i ≤ 1000000 by omega) _), mx, ht, nI_1]
          · simp only [lpStep, ↓rE_eK, ↓rE_eLi, ↓rE_eLj, ↓rE_eLa, ↓rE_eU, ↓rE_eB, ↓rE_eG, ↓rE_eIF, ↓rE_eAI, ↓rE_eAX, ↓rE_eAJ, ↓rE_eAR, ↓rE_eLen, ↓rE_eSI, ↓rE_eC, ↓rE_eCall, ↓rE_eNew, ↓rE_eNewA, ↓rE_eInst, ↓rC_cI, ↓rC_cZ0, ↓rC_cN, ↓rC_cNot, ↓rC_cAnd, ↓rC_cOr, ↓rA_aN, ↓rA_aC, ↓rS_sP, ↓rS_sUF, ↓rS_sAI, ↓rS_sAJ, ↓rS_sAR, ↓rS_sUA, ↓rS_sCall, ↓rS_sObj, ↓rS_sSi, ↓rS_sSa, ↓rS_sSj, ↓rS_sInc, ↓rS_sSkip, ↓rS_sSeq, ↓rS_sIf, ↓rS_sRetI, ↓rS_sRetJ, ↓rS_sRetA, ↓rS_sRetV, ↓rS_sSw, ↓rD_meth, ↓rD_on, ↓kR_ref, ↓kI_int, ↓kJ_long, ↓kN_null, ↓kN_ref, ↓kN_rf, ↓kQ_ref, ↓kQ_null, ↓kQ_rf, o1_i, o1ij_i, o1ji_i, o2_i, o2d_i, o2j_i, o2ji_i, o2c_i, fv_0, fv_1, fv_2, fv_3, pf_0, pf_2, pf_3, pf_4, rf_s, rf_n, is_self, ge_0, ge_s, ge_n, gd_s, gd_n, se_0, se_s, ag_0, ex_n, ex_i, ex_r, ex_0, ex_j, ex_q, ap_c, ap_n, List.append_nil, ln_c, ln_n, rp_0, rp_s, rt_0, rt_1, rt_20, rt_21, rt_2, rt_3, rt_4, rt_4n, rt_4q, nl_0, nl_1, nl_2, nl_3, nl_4, nl_5, nl_6, nl_7, nl_8, nl_9, nlB_i, nlB_r, nlB_n, nlB_f, nlB_q, ↓reduceIte, reduceCtorEq, Nat.reduceAdd, Nat.reduceSub, Nat.reduceEqDiff, Nat.reduceLeDiff, Nat.reduceBEq, ite_true, ite_false, dt_t, Bool.not_true, Bool.not_false, Bool.false_eq_true, Nat.le_refl, true_and, and_true, true_or, or_true, false_or, or_false, false_and, and_false, qEq, qNe, qLt, qGe, qGt, qLe, VR_T h, VR_s h, hlt, VR_r0 h, VR_PT h, VR_PL h, ib_nI (show i < 8 by omega) (by decide), nI_cl (show i < 2147483648 by omega), VR_q h e, VR_slp h e, hb, hs, not_false_eq_true, rD_of (v_alone h e), b32_ne, ha, rD_of (v_minutes h e), q1, rD_of (d_max (show mx vd W i ≤ 1000000 by have := mx_le h W i (by omega); omega) (show nN vd i ≤ 1000000 by omega) _), mx, ht, nI_1]
      · left
        rw [if_neg ht] at hb
        refine ⟨[.ref v, .int (nI W), .int sv, .int (nI (mx vd W (i + 1))), .int (nI (i + 1)), .ref (vQ s v i)], s, ?_, e, rfl, fun q => hd ⟨q.1, by have := q.2; rw [df] at this; simpa [ht] using this⟩, _, rfl⟩
        have h01 : ¬ (0 : Int32) = 1 := by decide
        simp only [lpStep, ↓rE_eK, ↓rE_eLi, ↓rE_eLj, ↓rE_eLa, ↓rE_eU, ↓rE_eB, ↓rE_eG, ↓rE_eIF, ↓rE_eAI, ↓rE_eAX, ↓rE_eAJ, ↓rE_eAR, ↓rE_eLen, ↓rE_eSI, ↓rE_eC, ↓rE_eCall, ↓rE_eNew, ↓rE_eNewA, ↓rE_eInst, ↓rC_cI, ↓rC_cZ0, ↓rC_cN, ↓rC_cNot, ↓rC_cAnd, ↓rC_cOr, ↓rA_aN, ↓rA_aC, ↓rS_sP, ↓rS_sUF, ↓rS_sAI, ↓rS_sAJ, ↓rS_sAR, ↓rS_sUA, ↓rS_sCall, ↓rS_sObj, ↓rS_sSi, ↓rS_sSa, ↓rS_sSj, ↓rS_sInc, ↓rS_sSkip, ↓rS_sSeq, ↓rS_sIf, ↓rS_sRetI, ↓rS_sRetJ, ↓rS_sRetA, ↓rS_sRetV, ↓rS_sSw, ↓rD_meth, ↓rD_on, ↓kR_ref, ↓kI_int, ↓kJ_long, ↓kN_null, ↓kN_ref, ↓kN_rf, ↓kQ_ref, ↓kQ_null, ↓kQ_rf, o1_i, o1ij_i, o1ji_i, o2_i, o2d_i, o2j_i, o2ji_i, o2c_i, fv_0, fv_1, fv_2, fv_3, pf_0, pf_2, pf_3, pf_4, rf_s, rf_n, is_self, ge_0, ge_s, ge_n, gd_s, gd_n, se_0, se_s, ag_0, ex_n, ex_i, ex_r, ex_0, ex_j, ex_q, ap_c, ap_n, List.append_nil, ln_c, ln_n, rp_0, rp_s, rt_0, rt_1, rt_20, rt_21, rt_2, rt_3, rt_4, rt_4n, rt_4q, nl_0, nl_1, nl_2, nl_3, nl_4, nl_5, nl_6, nl_7, nl_8, nl_9, nlB_i, nlB_r, nlB_n, nlB_f, nlB_q, ↓reduceIte, reduceCtorEq, Nat.reduceAdd, Nat.reduceSub, Nat.reduceEqDiff, Nat.reduceLeDiff, Nat.reduceBEq, ite_true, ite_false, dt_t, Bool.not_true, Bool.not_false, Bool.false_eq_true, Nat.le_refl, true_and, and_true, true_or, or_true, false_or, or_false, false_and, and_false, qEq, qNe, qLt, qGe, qGt, qLe, VR_T h, VR_s h, hlt, VR_r0 h, VR_PT h, VR_PL h, ib_nI (show i < 8 by omega) (by decide), nI_cl (show i < 2147483648 by omega), VR_q h e, VR_slp h e, hb, h01, mx, ht, nI_1]
    · right
      have : i = n := by omega
      subst this
      have hlt : ¬ nI i < nI i := by rw [nI_lt' (by omega) (by omega)]; omega
      refine ⟨_, _, ?_, rfl, Or.inl ⟨hd, w, rfl⟩⟩
      simp only [lpStep, ↓rE_eK, ↓rE_eLi, ↓rE_eLj, ↓rE_eLa, ↓rE_eU, ↓rE_eB, ↓rE_eG, ↓rE_eIF, ↓rE_eAI, ↓rE_eAX, ↓rE_eAJ, ↓rE_eAR, ↓rE_eLen, ↓rE_eSI, ↓rE_eC, ↓rE_eCall, ↓rE_eNew, ↓rE_eNewA, ↓rE_eInst, ↓rC_cI, ↓rC_cZ0, ↓rC_cN, ↓rC_cNot, ↓rC_cAnd, ↓rC_cOr, ↓rA_aN, ↓rA_aC, ↓rS_sP, ↓rS_sUF, ↓rS_sAI, ↓rS_sAJ, ↓rS_sAR, ↓rS_sUA, ↓rS_sCall, ↓rS_sObj, ↓rS_sSi, ↓rS_sSa, ↓rS_sSj, ↓rS_sInc, ↓rS_sSkip, ↓rS_sSeq, ↓rS_sIf, ↓rS_sRetI, ↓rS_sRetJ, ↓rS_sRetA, ↓rS_sRetV, ↓rS_sSw, ↓rD_meth, ↓rD_on, ↓kR_ref, ↓kI_int, ↓kJ_long, ↓kN_null, ↓kN_ref, ↓kN_rf, ↓kQ_ref, ↓kQ_null, ↓kQ_rf, o1_i, o1ij_i, o1ji_i, o2_i, o2d_i, o2j_i, o2ji_i, o2c_i, fv_0, fv_1, fv_2, fv_3, pf_0, pf_2, pf_3, pf_4, rf_s, rf_n, is_self, ge_0, ge_s, ge_n, gd_s, gd_n, se_0, se_s, ag_0, ex_n, ex_i, ex_r, ex_0, ex_j, ex_q, ap_c, ap_n, List.append_nil, ln_c, ln_n, rp_0, rp_s, rt_0, rt_1, rt_20, rt_21, rt_2, rt_3, rt_4, rt_4n, rt_4q, nl_0, nl_1, nl_2, nl_3, nl_4, nl_5, nl_6, nl_7, nl_8, nl_9, nlB_i, nlB_r, nlB_n, nlB_f, nlB_q, ↓reduceIte, reduceCtorEq, Nat.reduceAdd, Nat.reduceSub, Nat.reduceEqDiff, Nat.reduceLeDiff, Nat.reduceBEq, ite_true, ite_false, dt_t, Bool.not_true, Bool.not_false, Bool.false_eq_true, Nat.le_refl, true_and, and_true, true_or, or_true, false_or, or_false, false_and, and_false, qEq, qNe, qLt, qGe, qGt, qLe, VR_T h, VR_s h, hlt]
  refine rD_un.trans ?_
  by_cases hs : 1 < pc W
  · obtain ⟨r, σ', h1, rfl, ⟨h2, w, rfl⟩ | ⟨h2, rfl⟩⟩ := hl 1 (b32_t hs).symm
    · rw [if_neg h2]
      simp only [D_X10_neededBy, B_X10_neededBy, ↓rE_eK, ↓rE_eLi, ↓rE_eLj, ↓rE_eLa, ↓rE_eU, ↓rE_eB, ↓rE_eG, ↓rE_eIF, ↓rE_eAI, ↓rE_eAX, ↓rE_eAJ, ↓rE_eAR, ↓rE_eLen, ↓rE_eSI, ↓rE_eC, ↓rE_eCall, ↓rE_eNew, ↓rE_eNewA, ↓rE_eInst, ↓rC_cI, ↓rC_cZ0, ↓rC_cN, ↓rC_cNot, ↓rC_cAnd, ↓rC_cOr, ↓rA_aN, ↓rA_aC, ↓rS_sP, ↓rS_sUF, ↓rS_sAI, ↓rS_sAJ, ↓rS_sAR, ↓rS_sUA, ↓rS_sCall, ↓rS_sObj, ↓rS_sSi, ↓rS_sSa, ↓rS_sSj, ↓rS_sInc, ↓rS_sSkip, ↓rS_sSeq, ↓rS_sIf, ↓rS_sRetI, ↓rS_sRetJ, ↓rS_sRetA, ↓rS_sRetV, ↓rS_sSw, ↓rD_meth, ↓rD_on, ↓kR_ref, ↓kI_int, ↓kJ_long, ↓kN_null, ↓kN_ref, ↓kN_rf, ↓kQ_ref, ↓kQ_null, ↓kQ_rf, o1_i, o1ij_i, o1ji_i, o2_i, o2d_i, o2j_i, o2ji_i, o2c_i, fv_0, fv_1, fv_2, fv_3, pf_0, pf_2, pf_3, pf_4, rf_s, rf_n, is_self, ge_0, ge_s, ge_n, gd_s, gd_n, se_0, se_s, ag_0, ex_n, ex_i, ex_r, ex_0, ex_j, ex_q, ap_c, ap_n, List.append_nil, ln_c, ln_n, rp_0, rp_s, rt_0, rt_1, rt_20, rt_21, rt_2, rt_3, rt_4, rt_4n, rt_4q, nl_0, nl_1, nl_2, nl_3, nl_4, nl_5, nl_6, nl_7, nl_8, nl_9, nlB_i, nlB_r, nlB_n, nlB_f, nlB_q, ↓reduceIte, reduceCtorEq, Nat.reduceAdd, Nat.reduceSub, Nat.reduceEqDiff, Nat.reduceLeDiff, Nat.reduceBEq, ite_true, ite_false, dt_t, Bool.not_true, Bool.not_false, Bool.false_eq_true, Nat.le_refl, true_and, and_true, true_or, or_true, false_or, or_false, false_and, and_false, qEq, qNe, qLt, qGe, qGt, qLe, rD_of (d_bc _ _), bc_nI hW, hg, hs, rS_inl h1]
    · rw [if_pos h2, nI_0]
      simp only [D_X10_neededBy, B_X10_neededBy, ↓rE_eK, ↓rE_eLi, ↓rE_eLj, ↓rE_eLa, ↓rE_eU, ↓rE_eB, ↓rE_eG, ↓rE_eIF, ↓rE_eAI, ↓rE_eAX, ↓rE_eAJ, ↓rE_eAR, ↓rE_eLen, ↓rE_eSI, ↓rE_eC, ↓rE_eCall, ↓rE_eNew, ↓rE_eNewA, ↓rE_eInst, ↓rC_cI, ↓rC_cZ0, ↓rC_cN, ↓rC_cNot, ↓rC_cAnd, ↓rC_cOr, ↓rA_aN, ↓rA_aC, ↓rS_sP, ↓rS_sUF, ↓rS_sAI, ↓rS_sAJ, ↓rS_sAR, ↓rS_sUA, ↓rS_sCall, ↓rS_sObj, ↓rS_sSi, ↓rS_sSa, ↓rS_sSj, ↓rS_sInc, ↓rS_sSkip, ↓rS_sSeq, ↓rS_sIf, ↓rS_sRetI, ↓rS_sRetJ, ↓rS_sRetA, ↓rS_sRetV, ↓rS_sSw, ↓rD_meth, ↓rD_on, ↓kR_ref, ↓kI_int, ↓kJ_long, ↓kN_null, ↓kN_ref, ↓kN_rf, ↓kQ_ref, ↓kQ_null, ↓kQ_rf, o1_i, o1ij_i, o1ji_i, o2_i, o2d_i, o2j_i, o2ji_i, o2c_i, fv_0, fv_1, fv_2, fv_3, pf_0, pf_2, pf_3, pf_4, rf_s, rf_n, is_self, ge_0, ge_s, ge_n, gd_s, gd_n, se_0, se_s, ag_0, ex_n, ex_i, ex_r, ex_0, ex_j, ex_q, ap_c, ap_n, List.append_nil, ln_c, ln_n, rp_0, rp_s, rt_0, rt_1, rt_20, rt_21, rt_2, rt_3, rt_4, rt_4n, rt_4q, nl_0, nl_1, nl_2, nl_3, nl_4, nl_5, nl_6, nl_7, nl_8, nl_9, nlB_i, nlB_r, nlB_n, nlB_f, nlB_q, ↓reduceIte, reduceCtorEq, Nat.reduceAdd, Nat.reduceSub, Nat.reduceEqDiff, Nat.reduceLeDiff, Nat.reduceBEq, ite_true, ite_false, dt_t, Bool.not_true, Bool.not_false, Bool.false_eq_true, Nat.le_refl, true_and, and_true, true_or, or_true, false_or, or_false, false_and, and_false, qEq, qNe, qLt, qGe, qGt, qLe, rD_of (d_bc _ _), bc_nI hW, hg, hs, rS_inr h1]
  · obtain ⟨r, σ', h1, rfl, ⟨h2, w, rfl⟩ | ⟨h2, rfl⟩⟩ := hl 0 (b32_f hs).symm
    · rw [if_neg h2]
      simp only [D_X10_neededBy, B_X10_neededBy, ↓rE_eK, ↓rE_eLi, ↓rE_eLj, ↓rE_eLa, ↓rE_eU, ↓rE_eB, ↓rE_eG, ↓rE_eIF, ↓rE_eAI, ↓rE_eAX, ↓rE_eAJ, ↓rE_eAR, ↓rE_eLen, ↓rE_eSI, ↓rE_eC, ↓rE_eCall, ↓rE_eNew, ↓rE_eNewA, ↓rE_eInst, ↓rC_cI, ↓rC_cZ0, ↓rC_cN, ↓rC_cNot, ↓rC_cAnd, ↓rC_cOr, ↓rA_aN, ↓rA_aC, ↓rS_sP, ↓rS_sUF, ↓rS_sAI, ↓rS_sAJ, ↓rS_sAR, ↓rS_sUA, ↓rS_sCall, ↓rS_sObj, ↓rS_sSi, ↓rS_sSa, ↓rS_sSj, ↓rS_sInc, ↓rS_sSkip, ↓rS_sSeq, ↓rS_sIf, ↓rS_sRetI, ↓rS_sRetJ, ↓rS_sRetA, ↓rS_sRetV, ↓rS_sSw, ↓rD_meth, ↓rD_on, ↓kR_ref, ↓kI_int, ↓kJ_long, ↓kN_null, ↓kN_ref, ↓kN_rf, ↓kQ_ref, ↓kQ_null, ↓kQ_rf, o1_i, o1ij_i, o1ji_i, o2_i, o2d_i, o2j_i, o2ji_i, o2c_i, fv_0, fv_1, fv_2, fv_3, pf_0, pf_2, pf_3, pf_4, rf_s, rf_n, is_self, ge_0, ge_s, ge_n, gd_s, gd_n, se_0, se_s, ag_0, ex_n, ex_i, ex_r, ex_0, ex_j, ex_q, ap_c, ap_n, List.append_nil, ln_c, ln_n, rp_0, rp_s, rt_0, rt_1, rt_20, rt_21, rt_2, rt_3, rt_4, rt_4n, rt_4q, nl_0, nl_1, nl_2, nl_3, nl_4, nl_5, nl_6, nl_7, nl_8, nl_9, nlB_i, nlB_r, nlB_n, nlB_f, nlB_q, ↓reduceIte, reduceCtorEq, Nat.reduceAdd, Nat.reduceSub, Nat.reduceEqDiff, Nat.reduceLeDiff, Nat.reduceBEq, ite_true, ite_false, dt_t, Bool.not_true, Bool.not_false, Bool.false_eq_true, Nat.le_refl, true_and, and_true, true_or, or_true, false_or, or_false, false_and, and_false, qEq, qNe, qLt, qGe, qGt, qLe, rD_of (d_bc _ _), bc_nI hW, hg, hs, rS_inl h1]
    · exact absurd h2.1 hs
