/-! The class's reckoner: the songs are listed. -/
/-- only the reckoner is written -/
def OC (σ s : pm_H) : Prop := Pl σ s ∧ ∀ a, ¬ (15 ≤ a ∧ a ≤ 26) → pI s a = pI σ a
theorem OC_rfl {σ : pm_H} : OC σ σ := ⟨⟨rfl, rfl, rfl, rfl, rfl, rfl⟩, fun _ _ => rfl⟩
theorem OC_tr {σ s t : pm_H} (h : OC σ s) (h' : OC s t) : OC σ t := ⟨Pl_tr h.1 h'.1, fun a q => (h'.2 a q).trans (h.2 a q)⟩
theorem OC_uI {σ s : pm_H} (h : OC σ s) {a k : Nat} {x : Int32} (ha : 15 ≤ a ∧ a ≤ 26) : OC σ (uI s a k x) := ⟨h.1, fun b q => by rw [pI_uI_ne _ _ _ (by omega)]; exact h.2 b q⟩
theorem OC_Fr {σ s : pm_H} (h : OC σ s) : Fr σ s := ⟨h.1.1, h.1.2.1, h.1.2.2.1, h.1.2.2.2.1, h.1.2.2.2.2.1, fun a _ => by rw [h.1.2.2.2.2.2], fun a k q => by
  rw [h.2 a (fun e => q (by unfold scr; omega))]⟩
def mxA (N : Nat → Nat) (W : Nat) : Nat → Nat
  | 0 => 0
  | k + 1 => if W.testBit k then max (mxA N W k) (N k) else mxA N W k
theorem mxA_le {N : Nat → Nat} (h : ∀ i, i < 8 → N i ≤ 200) (W : Nat) : ∀ k, k ≤ 8 → mxA N W k ≤ 200 := by
  intro k hk
  induction k with
  | zero => exact Nat.zero_le _
  | succ k ih =>
    rw [mxA]
    have := ih (by omega)
    have := h k (by omega)
    split <;> omega
theorem mxA_del {N : Nat → Nat} {W t : Nat} (ht : W.testBit t = true) : ∀ k, (t < k → mxA N W k = max (mxA N (sd W (2 ^ t)) k) (N t)) ∧ (k ≤ t → mxA N W k = mxA N (sd W (2 ^ t)) k) := by
  intro k
  induction k with
  | zero => exact ⟨fun h => by omega, fun _ => rfl⟩
  | succ k ih =>
    obtain ⟨i1, i2⟩ := ih
    have hb : (sd W (2 ^ t)).testBit k = (W.testBit k && !decide (t = k)) := by rw [sd_bit, pw_bit]
    rw [mxA, mxA]
    by_cases e : t = k
    · subst e
      rw [if_pos ht, hb]
      simp only [decide_true, Bool.not_true, Bool.and_false, Bool.false_eq_true, if_false]
      exact ⟨fun _ => by rw [i2 (Nat.le_refl _)], fun h => by omega⟩
    · have hb' : (sd W (2 ^ t)).testBit k = W.testBit k := by rw [hb]; simp [e]
      rw [hb']
      constructor
      · intro h
        have := i1 (by omega)
        split <;> omega
      · intro h
        have := i2 (by omega)
        split <;> omega
theorem mxA_pos {N : Nat → Nat} {W i : Nat} (h : W.testBit i = true) (hN : 0 < N i) : ∀ k, i < k → 0 < mxA N W k := by
  intro k hk
  induction k with
  | zero => omega
  | succ k ih =>
    rw [mxA]
    by_cases e : i = k
    · subst e; rw [if_pos h]; omega
    · have := ih (by omega)
      split <;> omega
/-- a song to all of W can be -/
def vlA (L W : Nat) : Bool := decide (0 < W) && (decide (pc W = 1) || (decide (pc W ≤ 3) && decide (W &&& L = 0)))
theorem vlA_iff {L W : Nat} : vlA L W = true ↔ 0 < W ∧ (pc W = 1 ∨ (pc W ≤ 3 ∧ W &&& L = 0)) := by
  unfold vlA
  simp only [Bool.and_eq_true, Bool.or_eq_true, decide_eq_true_eq]
def lnA (N : Nat → Nat) (L W : Nat) : Nat := if vlA L W = true then mxA N W 8 else 0
def sgA (N : Nat → Nat) (V : Nat → Int32) (L s W : Nat) : Bool := decide (nI (lnA N L W) ≤ V s)
/-- the question that stands -/
def QA (σ : pm_H) (N : Nat → Nat) (V : Nat → Int32) (E L U : Nat) : Prop := (∀ i, i < 8 → pI σ 16 i = nI (N i) ∧ N i ≤ 200 ∧ pI σ 16 (8 + i) = V i) ∧ (pI σ 16 16 = nI E ∧ pI σ 16 17 = nI L ∧ pI σ 15 1 = nI U ∧ pI σ 15 2 = nI L) ∧ (E < 256 ∧ L < 256 ∧ U < 256) ∧ ∀ i, i < 8 → (U.testBit i = true ↔ 0 < N i)
def cntV (p : Nat → Bool) : Nat → Nat
  | 0 => 0
  | i + 1 => cntV p i + if p i = true then 1 else 0
theorem cntV_mono {p q : Nat → Bool} (h : ∀ i, p i = true → q i = true) : ∀ i, cntV p i ≤ cntV q i := by
  intro i
  induction i with
  | zero => exact Nat.le_refl _
  | succ i ih =>
    rw [cntV, cntV]
    by_cases c : p i = true
    · rw [if_pos c, if_pos (h i c)]; omega
    · rw [if_neg c]; split <;> omega
theorem cntV_le {p : Nat → Bool} {i j : Nat} (h : i ≤ j) : cntV p i ≤ cntV p j := by
  induction j with
  | zero => have : i = 0 := by omega
            rw [this]; exact Nat.le_refl _
  | succ j ih =>
    by_cases e : i = j + 1
    · rw [e]; exact Nat.le_refl _
    · have := ih (by omega)
      rw [cntV]; omega
theorem cnt92 : cntV (fun W => decide (1 ≤ pc W ∧ pc W ≤ 3)) 256 = 92 := by decide +kernel
theorem vl_pc {L W : Nat} (hW : W < 256) (h : vlA L W = true) : 1 ≤ pc W ∧ pc W ≤ 3 := by
  obtain ⟨h1, h2⟩ := vlA_iff.mp h
  have := pc_pos hW h1
  omega
def vlU (L U W : Nat) : Bool := vlA L W && decide (sd W U = 0)
theorem vlU_iff {L U W : Nat} : vlU L U W = true ↔ vlA L W = true ∧ sub W U := by
  unfold vlU
  rw [Bool.and_eq_true, decide_eq_true_eq, sub_sd]
theorem cnt_lt {L U i : Nat} (hU : U < 256) (hi : i < 256) (h : vlU L U i = true) : cntV (vlU L U) i < 92 := by
  have h1 : cntV (vlU L U) (i + 1) = cntV (vlU L U) i + 1 := by rw [cntV, if_pos h]
  have h2 : cntV (vlU L U) (i + 1) ≤ cntV (vlU L U) 256 := cntV_le (by omega)
  have h3 : cntV (vlU L U) 256 ≤ cntV (fun W => decide (1 ≤ pc W ∧ pc W ≤ 3)) 256 := cntV_mono (fun W q => by
    obtain ⟨q1, q2⟩ := vlU_iff.mp q
    have := sub_le q2
    simpa using vl_pc (by omega) q1) 256
  rw [cnt92] at h3
  omega
theorem cnt_92 {L U : Nat} (hU : U < 256) : cntV (vlU L U) 256 ≤ 92 := by
  have h3 : cntV (vlU L U) 256 ≤ cntV (fun W => decide (1 ≤ pc W ∧ pc W ≤ 3)) 256 := cntV_mono (fun W q => by
    obtain ⟨q1, q2⟩ := vlU_iff.mp q
    have := sub_le q2
    simpa using vl_pc (by omega) q1) 256
  rw [cnt92] at h3
  exact h3
/-- those that can sing m minutes -/
def abN (V : Nat → Int32) (m : Nat) : Nat → Nat
  | 0 => 0
  | k + 1 => if nI m ≤ V k then abN V m k ||| 2 ^ k else abN V m k
theorem abN_bit {V : Nat → Int32} {m i : Nat} : ∀ k, (abN V m k).testBit i = true ↔ i < k ∧ nI m ≤ V i := by
  intro k
  induction k with
  | zero => rw [abN, Nat.zero_testBit]; exact ⟨fun h => absurd h (by decide), fun h => by omega⟩
  | succ k ih =>
    rw [abN]
    by_cases c : nI m ≤ V k
    · rw [if_pos c, Nat.testBit_or, Bool.or_eq_true, ih, pw_bit, decide_eq_true_eq]
      constructor
      · rintro (⟨h1, h2⟩ | rfl)
        · exact ⟨by omega, h2⟩
        · exact ⟨by omega, c⟩
      · rintro ⟨h1, h2⟩
        by_cases e : k = i
        · exact Or.inr e
        · exact Or.inl ⟨by omega, h2⟩
    · rw [if_neg c, ih]
      constructor
      · rintro ⟨h1, h2⟩; exact ⟨by omega, h2⟩
      · rintro ⟨h1, h2⟩
        refine ⟨?_, h2⟩
        by_cases e : k = i
        · rw [e] at c; exact absurd h2 c
        · omega
theorem abN_lt {V : Nat → Int32} {m : Nat} : abN V m 8 < 256 := lt_of_bits (n := 8) fun i hi => ((abN_bit 8).mp hi).1
theorem d_isSungTo {σ : pm_H} (hS : Sh σ) {L W : Nat} (hW : W < 256) (h0 : 0 < W) (hL : L < 256) (eL : pI σ 15 2 = nI L) : D_X3_isSungTo [.ref 15, .int (nI W)] σ = some (some (.int (b32 (vlA L W = true))), σ) := by
  have hpc := pc_le (A := W)
  have e1 : (nI (pc W) = 1) = (pc W = 1) := nI_inj (b := 1) (by omega) (by decide)
  have e3 : (nI (pc W) ≤ 3) = (pc W ≤ 3) := nI_le' (b := 3) (by omega) (by decide)
  have e0 : (nI (W &&& L) = 0) = (W &&& L = 0) := by
    have := nI_inj (a := W &&& L) (b := 0) (by have := Nat.and_le_left (n := W) (m := L); omega) (by decide)
    rw [nI_0] at this; exact this
  refine rD_un.trans ?_
  by_cases c1 : pc W = 1
  · have t1 : (nI (pc W) = 1) = True := by rw [e1]; exact eq_true c1
    rw [b32_t (vlA_iff.mpr ⟨h0, Or.inl c1⟩)]
    simp only [D_X3_isSungTo, B_X3_isSungTo, ↓rE_eK, ↓rE_eLi, ↓rE_eLj, ↓rE_eLa, ↓rE_eU, ↓rE_eB, ↓rE_eG, ↓rE_eIF, ↓rE_eAI, ↓rE_eAX, ↓rE_eAJ, ↓rE_eAR, ↓rE_eLen, ↓rE_eSI, ↓rE_eC, ↓rE_eCall, ↓rE_eNew, ↓rE_eNewA, ↓rE_eInst, ↓rC_cI, ↓rC_cZ0, ↓rC_cN, ↓rC_cNot, ↓rC_cAnd, ↓rC_cOr, ↓rA_aN, ↓rA_aC, ↓rS_sP, ↓rS_sUF, ↓rS_sAI, ↓rS_sAJ, ↓rS_sAR, ↓rS_sUA, ↓rS_sCall, ↓rS_sObj, ↓rS_sSi, ↓rS_sSa, ↓rS_sSj, ↓rS_sInc, ↓rS_sSkip, ↓rS_sSeq, ↓rS_sIf, ↓rS_sRetI, ↓rS_sRetJ, ↓rS_sRetA, ↓rS_sRetV, ↓rS_sSw, ↓rD_meth, ↓rD_on, ↓kR_ref, ↓kI_int, ↓kJ_long, ↓kN_null, ↓kN_ref, ↓kN_rf, ↓kQ_ref, ↓kQ_null, ↓kQ_rf, o1_i, o1ij_i, o1ji_i, o2_i, o2d_i, o2j_i, o2ji_i, o2c_i, fv_0, fv_1, fv_2, fv_3, pf_0, pf_2, pf_3, pf_4, rf_s, rf_n, is_self, ge_0, ge_s, ge_n, gd_s, gd_n, se_0, se_s, ag_0, ex_n, ex_i, ex_r, ex_0, ex_j, ex_q, ap_c, ap_n, List.append_nil, ln_c, ln_n, rp_0, rp_s, rt_0, rt_1, rt_20, rt_21, rt_2, rt_3, rt_4, rt_4n, rt_4q, nl_0, nl_1, nl_2, nl_3, nl_4, nl_5, nl_6, nl_7, nl_8, nl_9, nlB_i, nlB_r, nlB_n, nlB_f, nlB_q, ↓reduceIte, reduceCtorEq, Nat.reduceAdd, Nat.reduceSub, Nat.reduceEqDiff, Nat.reduceLeDiff, Nat.reduceBEq, ite_true, ite_false, dt_t, Bool.not_true, Bool.not_false, Bool.false_eq_true, Nat.le_refl, true_and, and_true, true_or, or_true, false_or, or_false, false_and, and_false, qEq, qNe, qLt, qGe, qGt, qLe, rD_of (d_bc _ _), bc_nI hW, t1]
  · by_cases c3 : pc W ≤ 3
    · by_cases c0 : W &&& L = 0
      · rw [b32_t (vlA_iff.mpr ⟨h0, Or.inr ⟨c3, c0⟩⟩)]
        have t0 : (nI (W &&& L) = 0) = True := by rw [e0]; exact eq_true c0
        simp only [D_X3_isSungTo, B_X3_isSungTo, ↓rE_eK, ↓rE_eLi, ↓rE_eLj, ↓rE_eLa, ↓rE_eU, ↓rE_eB, ↓rE_eG, ↓rE_eIF, ↓rE_eAI, ↓rE_eAX, ↓rE_eAJ, ↓rE_eAR, ↓rE_eLen, ↓rE_eSI, ↓rE_eC, ↓rE_eCall, ↓rE_eNew, ↓rE_eNewA, ↓rE_eInst, ↓rC_cI, ↓rC_cZ0, ↓rC_cN, ↓rC_cNot, ↓rC_cAnd, ↓rC_cOr, ↓rA_aN, ↓rA_aC, ↓rS_sP, ↓rS_sUF, ↓rS_sAI, ↓rS_sAJ, ↓rS_sAR, ↓rS_sUA, ↓rS_sCall, ↓rS_sObj, ↓rS_sSi, ↓rS_sSa, ↓rS_sSj, ↓rS_sInc, ↓rS_sSkip, ↓rS_sSeq, ↓rS_sIf, ↓rS_sRetI, ↓rS_sRetJ, ↓rS_sRetA, ↓rS_sRetV, ↓rS_sSw, ↓rD_meth, ↓rD_on, ↓kR_ref, ↓kI_int, ↓kJ_long, ↓kN_null, ↓kN_ref, ↓kN_rf, ↓kQ_ref, ↓kQ_null, ↓kQ_rf, o1_i, o1ij_i, o1ji_i, o2_i, o2d_i, o2j_i, o2ji_i, o2c_i, fv_0, fv_1, fv_2, fv_3, pf_0, pf_2, pf_3, pf_4, rf_s, rf_n, is_self, ge_0, ge_s, ge_n, gd_s, gd_n, se_0, se_s, ag_0, ex_n, ex_i, ex_r, ex_0, ex_j, ex_q, ap_c, ap_n, List.append_nil, ln_c, ln_n, rp_0, rp_s, rt_0, rt_1, rt_20, rt_21, rt_2, rt_3, rt_4, rt_4n, rt_4q, nl_0, nl_1, nl_2, nl_3, nl_4, nl_5, nl_6, nl_7, nl_8, nl_9, nlB_i, nlB_r, nlB_n, nlB_f, nlB_q, ↓reduceIte, reduceCtorEq, Nat.reduceAdd, Nat.reduceSub, Nat.reduceEqDiff, Nat.reduceLeDiff, Nat.reduceBEq, ite_true, ite_false, dt_t, Bool.not_true, Bool.not_false, Bool.false_eq_true, Nat.le_refl, true_and, and_true, true_or, or_true, false_or, or_false, false_and, and_false, qEq, qNe, qLt, qGe, qGt, qLe, sT_11 hS, sT_12 hS, sT_13 hS, sT_14 hS, sT_15 hS, sT_16 hS, sT_17 hS, sT_18 hS, sT_19 hS, sT_20 hS, sT_21 hS, sT_22 hS, sT_23 hS, sT_24 hS, sT_25 hS, sT_26 hS, sT_27 hS, sT_28 hS, sT_29 hS, sT_30 hS, sT_31 hS, sT_32 hS, sT_33 hS, sT_34 hS, sL_13 hS, sL_14 hS, sL_16 hS, sL_17 hS, sL_18 hS, sL_19 hS, sL_20 hS, sL_21 hS, sL_22 hS, sL_23 hS, sL_24 hS, sL_25 hS, sL_26 hS, sL_28 hS, sL_30 hS, sL_31 hS, sL_32 hS, sL_33 hS, sL_34 hS, sR_11_2 hS, sR_11_3 hS, sR_11_4 hS, sR_11_5 hS, sR_11_7 hS, sR_11_8 hS, sR_11_9 hS, sR_27_0 hS, sR_29_0 hS, sR_15_0 hS, sR_15_3 hS, sR_15_5 hS, sR_15_6 hS, sR_15_7 hS, sR_15_8 hS, sR_15_9 hS, sR_15_10 hS, sR_15_11 hS, sR_15_12 hS, sR_15_13 hS, rD_of (d_bc _ _), bc_nI hW, e1, c1, e3, c3, eL, nI_and, t0]
      · rw [b32_f (fun q => (vlA_iff.mp q).2.elim c1 (fun q => c0 q.2))]
        simp only [D_X3_isSungTo, B_X3_isSungTo, ↓rE_eK, ↓rE_eLi, ↓rE_eLj, ↓rE_eLa, ↓rE_eU, ↓rE_eB, ↓rE_eG, ↓rE_eIF, ↓rE_eAI, ↓rE_eAX, ↓rE_eAJ, ↓rE_eAR, ↓rE_eLen, ↓rE_eSI, ↓rE_eC, ↓rE_eCall, ↓rE_eNew, ↓rE_eNewA, ↓rE_eInst, ↓rC_cI, ↓rC_cZ0, ↓rC_cN, ↓rC_cNot, ↓rC_cAnd, ↓rC_cOr, ↓rA_aN, ↓rA_aC, ↓rS_sP, ↓rS_sUF, ↓rS_sAI, ↓rS_sAJ, ↓rS_sAR, ↓rS_sUA, ↓rS_sCall, ↓rS_sObj, ↓rS_sSi, ↓rS_sSa, ↓rS_sSj, ↓rS_sInc, ↓rS_sSkip, ↓rS_sSeq, ↓rS_sIf, ↓rS_sRetI, ↓rS_sRetJ, ↓rS_sRetA, ↓rS_sRetV, ↓rS_sSw, ↓rD_meth, ↓rD_on, ↓kR_ref, ↓kI_int, ↓kJ_long, ↓kN_null, ↓kN_ref, ↓kN_rf, ↓kQ_ref, ↓kQ_null, ↓kQ_rf, o1_i, o1ij_i, o1ji_i, o2_i, o2d_i, o2j_i, o2ji_i, o2c_i, fv_0, fv_1, fv_2, fv_3, pf_0, pf_2, pf_3, pf_4, rf_s, rf_n, is_self, ge_0, ge_s, ge_n, gd_s, gd_n, se_0, se_s, ag_0, ex_n, ex_i, ex_r, ex_0, ex_j, ex_q, ap_c, ap_n, List.append_nil, ln_c, ln_n, rp_0, rp_s, rt_0, rt_1, rt_20, rt_21, rt_2, rt_3, rt_4, rt_4n, rt_4q, nl_0, nl_1, nl_2, nl_3, nl_4, nl_5, nl_6, nl_7, nl_8, nl_9, nlB_i, nlB_r, nlB_n, nlB_f, nlB_q, ↓reduceIte, reduceCtorEq, Nat.reduceAdd, Nat.reduceSub, Nat.reduceEqDiff, Nat.reduceLeDiff, Nat.reduceBEq, ite_true, ite_false, dt_t, Bool.not_true, Bool.not_false, Bool.false_eq_true, Nat.le_refl, true_and, and_true, true_or, or_true, false_or, or_false, false_and, and_false, qEq, qNe, qLt, qGe, qGt, qLe, sT_11 hS, sT_12 hS, sT_13 hS, sT_14 hS, sT_15 hS, sT_16 hS, sT_17 hS, sT_18 hS, sT_19 hS, sT_20 hS, sT_21 hS, sT_22 hS, sT_23 hS, sT_24 hS, sT_25 hS, sT_26 hS, sT_27 hS, sT_28 hS, sT_29 hS, sT_30 hS, sT_31 hS, sT_32 hS, sT_33 hS, sT_34 hS, sL_13 hS, sL_14 hS, sL_16 hS, sL_17 hS, sL_18 hS, sL_19 hS, sL_20 hS, sL_21 hS, sL_22 hS, sL_23 hS, sL_24 hS, sL_25 hS, sL_26 hS, sL_28 hS, sL_30 hS, sL_31 hS, sL_32 hS, sL_33 hS, sL_34 hS, sR_11_2 hS, sR_11_3 hS, sR_11_4 hS, sR_11_5 hS, sR_11_7 hS, sR_11_8 hS, sR_11_9 hS, sR_27_0 hS, sR_29_0 hS, sR_15_0 hS, sR_15_3 hS, sR_15_5 hS, sR_15_6 hS, sR_15_7 hS, sR_15_8 hS, sR_15_9 hS, sR_15_10 hS, sR_15_11 hS, sR_15_12 hS, sR_15_13 hS, rD_of (d_bc _ _), bc_nI hW, e1, c1, e3, c3, eL, nI_and, e0, c0]
    · rw [b32_f (fun q => (vlA_iff.mp q).2.elim c1 (fun q => c3 q.1))]
      simp only [D_X3_isSungTo, B_X3_isSungTo, ↓rE_eK, ↓rE_eLi, ↓rE_eLj, ↓rE_eLa, ↓rE_eU, ↓rE_eB, ↓rE_eG, ↓rE_eIF, ↓rE_eAI, ↓rE_eAX, ↓rE_eAJ, ↓rE_eAR, ↓rE_eLen, ↓rE_eSI, ↓rE_eC, ↓rE_eCall, ↓rE_eNew, ↓rE_eNewA, ↓rE_eInst, ↓rC_cI, ↓rC_cZ0, ↓rC_cN, ↓rC_cNot, ↓rC_cAnd, ↓rC_cOr, ↓rA_aN, ↓rA_aC, ↓rS_sP, ↓rS_sUF, ↓rS_sAI, ↓rS_sAJ, ↓rS_sAR, ↓rS_sUA, ↓rS_sCall, ↓rS_sObj, ↓rS_sSi, ↓rS_sSa, ↓rS_sSj, ↓rS_sInc, ↓rS_sSkip, ↓rS_sSeq, ↓rS_sIf, ↓rS_sRetI, ↓rS_sRetJ, ↓rS_sRetA, ↓rS_sRetV, ↓rS_sSw, ↓rD_meth, ↓rD_on, ↓kR_ref, ↓kI_int, ↓kJ_long, ↓kN_null, ↓kN_ref, ↓kN_rf, ↓kQ_ref, ↓kQ_null, ↓kQ_rf, o1_i, o1ij_i, o1ji_i, o2_i, o2d_i, o2j_i, o2ji_i, o2c_i, fv_0, fv_1, fv_2, fv_3, pf_0, pf_2, pf_3, pf_4, rf_s, rf_n, is_self, ge_0, ge_s, ge_n, gd_s, gd_n, se_0, se_s, ag_0, ex_n, ex_i, ex_r, ex_0, ex_j, ex_q, ap_c, ap_n, List.append_nil, ln_c, ln_n, rp_0, rp_s, rt_0, rt_1, rt_20, rt_21, rt_2, rt_3, rt_4, rt_4n, rt_4q, nl_0, nl_1, nl_2, nl_3, nl_4, nl_5, nl_6, nl_7, nl_8, nl_9, nlB_i, nlB_r, nlB_n, nlB_f, nlB_q, ↓reduceIte, reduceCtorEq, Nat.reduceAdd, Nat.reduceSub, Nat.reduceEqDiff, Nat.reduceLeDiff, Nat.reduceBEq, ite_true, ite_false, dt_t, Bool.not_true, Bool.not_false, Bool.false_eq_true, Nat.le_refl, true_and, and_true, true_or, or_true, false_or, or_false, false_and, and_false, qEq, qNe, qLt, qGe, qGt, qLe, sT_11 hS, sT_12 hS, sT_13 hS, sT_14 hS, sT_15 hS, sT_16 hS, sT_17 hS, sT_18 hS, sT_19 hS, sT_20 hS, sT_21 hS, sT_22 hS, sT_23 hS, sT_24 hS, sT_25 hS, sT_26 hS, sT_27 hS, sT_28 hS, sT_29 hS, sT_30 hS, sT_31 hS, sT_32 hS, sT_33 hS, sT_34 hS, sL_13 hS, sL_14 hS, sL_16 hS, sL_17 hS, sL_18 hS, sL_19 hS, sL_20 hS, sL_21 hS, sL_22 hS, sL_23 hS, sL_24 hS, sL_25 hS, sL_26 hS, sL_28 hS, sL_30 hS, sL_31 hS, sL_32 hS, sL_33 hS, sL_34 hS, sR_11_2 hS, sR_11_3 hS, sR_11_4 hS, sR_11_5 hS, sR_11_7 hS, sR_11_8 hS, sR_11_9 hS, sR_27_0 hS, sR_29_0 hS, sR_15_0 hS, sR_15_3 hS, sR_15_5 hS, sR_15_6 hS, sR_15_7 hS, sR_15_8 hS, sR_15_9 hS, sR_15_10 hS, sR_15_11 hS, sR_15_12 hS, sR_15_13 hS, rD_of (d_bc _ _), bc_nI hW, e1, c1, e3, c3]
theorem d_ableFor {σ : pm_H} (hS : Sh σ) {V : Nat → Int32} {m : Nat} (hV : ∀ i, i < 8 → pI σ 16 (8 + i) = V i) : D_X3_ableFor [.ref 15, .int (nI m)] σ = some (some (.int (nI (abN V m 8))), σ) := by
  have hl : ∃ r s, sLoop (cI qLt (eLi 3) (eK (.int 8))) (sSeq (sIf (cI qGe (eAI (eG (is 3) 3 0 (eLa 0)) (eB f_iadd (eK (.int 8)) (eLi 3))) (eLi 1)) (sSi 2 (eB f_ior (eLi 2) (eB f_ishl (eK (.int 1)) (eLi 3)))) sSkip) (sInc 3 1)) [.ref 15, .int (nI m), .int 0, .int 0] σ = some (r, s) ∧ (s = σ ∧ r = .inl [.ref 15, .int (nI m), .int (nI (abN V m 8)), .int (nI 8)]) := by
    refine loop_gen (fun i env s => s = σ ∧ env = [.ref 15, .int (nI m), .int (nI (abN V m i)), .int (nI i)]) _ 8 (by omega) ⟨rfl, by rw [nI_0]; rfl⟩ ?_
    rintro i env s hi ⟨rfl, rfl⟩
    have hlt : (nI i < 8) = (i < 8) := nI_lt' (b := 8) (by omega) (by decide)
    by_cases e : i < 8
    · left
      have ei : (8 : Int32) + nI i = nI (8 + i) := nI_ad 8 i
      have hib := ib_nI (show 8 + i < 18 by omega) (by decide)
      have hcl := nI_cl (show 8 + i < 2147483648 by omega)
      refine ⟨_, _, ?_, e, rfl, rfl⟩
      rw [abN]
      by_cases c : nI m ≤ V i
      · rw [if_pos c]
        simp only [lpStep, ↓rE_eK, ↓rE_eLi, ↓rE_eLj, ↓rE_eLa, ↓rE_eU, ↓rE_eB, ↓rE_eG, ↓rE_eIF, ↓rE_eAI, ↓rE_eAX, ↓rE_eAJ, ↓rE_eAR, ↓rE_eLen, ↓rE_eSI, ↓rE_eC, ↓rE_eCall, ↓rE_eNew, ↓rE_eNewA, ↓rE_eInst, ↓rC_cI, ↓rC_cZ0, ↓rC_cN, ↓rC_cNot, ↓rC_cAnd, ↓rC_cOr, ↓rA_aN, ↓rA_aC, ↓rS_sP, ↓rS_sUF, ↓rS_sAI, ↓rS_sAJ, ↓rS_sAR, ↓rS_sUA, ↓rS_sCall, ↓rS_sObj, ↓rS_sSi, ↓rS_sSa, ↓rS_sSj, ↓rS_sInc, ↓rS_sSkip, ↓rS_sSeq, ↓rS_sIf, ↓rS_sRetI, ↓rS_sRetJ, ↓rS_sRetA, ↓rS_sRetV, ↓rS_sSw, ↓rD_meth, ↓rD_on, ↓kR_ref, ↓kI_int, ↓kJ_long, ↓kN_null, ↓kN_ref, ↓kN_rf, ↓kQ_ref, ↓kQ_null, ↓kQ_rf, o1_i, o1ij_i, o1ji_i, o2_i, o2d_i, o2j_i, o2ji_i, o2c_i, fv_0, fv_1, fv_2, fv_3, pf_0, pf_2, pf_3, pf_4, rf_s, rf_n, is_self, ge_0, ge_s, ge_n, gd_s, gd_n, se_0, se_s, ag_0, ex_n, ex_i, ex_r, ex_0, ex_j, ex_q, ap_c, ap_n, List.append_nil, ln_c, ln_n, rp_0, rp_s, rt_0, rt_1, rt_20, rt_21, rt_2, rt_3, rt_4, rt_4n, rt_4q, nl_0, nl_1, nl_2, nl_3, nl_4, nl_5, nl_6, nl_7, nl_8, nl_9, nlB_i, nlB_r, nlB_n, nlB_f, nlB_q, ↓reduceIte, reduceCtorEq, Nat.reduceAdd, Nat.reduceSub, Nat.reduceEqDiff, Nat.reduceLeDiff, Nat.reduceBEq, ite_true, ite_false, dt_t, Bool.not_true, Bool.not_false, Bool.false_eq_true, Nat.le_refl, true_and, and_true, true_or, or_true, false_or, or_false, false_and, and_false, qEq, qNe, qLt, qGe, qGt, qLe, sT_11 hS, sT_12 hS, sT_13 hS, sT_14 hS, sT_15 hS, sT_16 hS, sT_17 hS, sT_18 hS, sT_19 hS, sT_20 hS, sT_21 hS, sT_22 hS, sT_23 hS, sT_24 hS, sT_25 hS, sT_26 hS, sT_27 hS, sT_28 hS, sT_29 hS, sT_30 hS, sT_31 hS, sT_32 hS, sT_33 hS, sT_34 hS, sL_13 hS, sL_14 hS, sL_16 hS, sL_17 hS, sL_18 hS, sL_19 hS, sL_20 hS, sL_21 hS, sL_22 hS, sL_23 hS, sL_24 hS, sL_25 hS, sL_26 hS, sL_28 hS, sL_30 hS, sL_31 hS, sL_32 hS, sL_33 hS, sL_34 hS, sR_11_2 hS, sR_11_3 hS, sR_11_4 hS, sR_11_5 hS, sR_11_7 hS, sR_11_8 hS, sR_11_9 hS, sR_27_0 hS, sR_29_0 hS, sR_15_0 hS, sR_15_3 hS, sR_15_5 hS, sR_15_6 hS, sR_15_7 hS, sR_15_8 hS, sR_15_9 hS, sR_15_10 hS, sR_15_11 hS, sR_15_12 hS, sR_15_13 hS, hlt, e, ei, hib, hcl, hV i e, c, nI_shl e, nI_or, nI_1]
      · rw [if_neg c]
        simp only [lpStep, ↓rE_eK, ↓rE_eLi, ↓rE_eLj, ↓rE_eLa, ↓rE_eU, ↓rE_eB, ↓rE_eG, ↓rE_eIF, ↓rE_eAI, ↓rE_eAX, ↓rE_eAJ, ↓rE_eAR, ↓rE_eLen, ↓rE_eSI, ↓rE_eC, ↓rE_eCall, ↓rE_eNew, ↓rE_eNewA, ↓rE_eInst, ↓rC_cI, ↓rC_cZ0, ↓rC_cN, ↓rC_cNot, ↓rC_cAnd, ↓rC_cOr, ↓rA_aN, ↓rA_aC, ↓rS_sP, ↓rS_sUF, ↓rS_sAI, ↓rS_sAJ, ↓rS_sAR, ↓rS_sUA, ↓rS_sCall, ↓rS_sObj, ↓rS_sSi, ↓rS_sSa, ↓rS_sSj, ↓rS_sInc, ↓rS_sSkip, ↓rS_sSeq, ↓rS_sIf, ↓rS_sRetI, ↓rS_sRetJ, ↓rS_sRetA, ↓rS_sRetV, ↓rS_sSw, ↓rD_meth, ↓rD_on, ↓kR_ref, ↓kI_int, ↓kJ_long, ↓kN_null, ↓kN_ref, ↓kN_rf, ↓kQ_ref, ↓kQ_null, ↓kQ_rf, o1_i, o1ij_i, o1ji_i, o2_i, o2d_i, o2j_i, o2ji_i, o2c_i, fv_0, fv_1, fv_2, fv_3, pf_0, pf_2, pf_3, pf_4, rf_s, rf_n, is_self, ge_0, ge_s, ge_n, gd_s, gd_n, se_0, se_s, ag_0, ex_n, ex_i, ex_r, ex_0, ex_j, ex_q, ap_c, ap_n, List.append_nil, ln_c, ln_n, rp_0, rp_s, rt_0, rt_1, rt_20, rt_21, rt_2, rt_3, rt_4, rt_4n, rt_4q, nl_0, nl_1, nl_2, nl_3, nl_4, nl_5, nl_6, nl_7, nl_8, nl_9, nlB_i, nlB_r, nlB_n, nlB_f, nlB_q, ↓reduceIte, reduceCtorEq, Nat.reduceAdd, Nat.reduceSub, Nat.reduceEqDiff, Nat.reduceLeDiff, Nat.reduceBEq, ite_true, ite_false, dt_t, Bool.not_true, Bool.not_false, Bool.false_eq_true, Nat.le_refl, true_and, and_true, true_or, or_true, false_or, or_false, false_and, and_false, qEq, qNe, qLt, qGe, qGt, qLe, sT_11 hS, sT_12 hS, sT_13 hS, sT_14 hS, sT_15 hS, sT_16 hS, sT_17 hS, sT_18 hS, sT_19 hS, sT_20 hS, sT_21 hS, sT_22 hS, sT_23 hS, sT_24 hS, sT_25 hS, sT_26 hS, sT_27 hS, sT_28 hS, sT_29 hS, sT_30 hS, sT_31 hS, sT_32 hS, sT_33 hS, sT_34 hS, sL_13 hS, sL_14 hS, sL_16 hS, sL_17 hS, sL_18 hS, sL_19 hS, sL_20 hS, sL_21 hS, sL_22 hS, sL_23 hS, sL_24 hS, sL_25 hS, sL_26 hS, sL_28 hS, sL_30 hS, sL_31 hS, sL_32 hS, sL_33 hS, sL_34 hS, sR_11_2 hS, sR_11_3 hS, sR_11_4 hS, sR_11_5 hS, sR_11_7 hS, sR_11_8 hS, sR_11_9 hS, sR_27_0 hS, sR_29_0 hS, sR_15_0 hS, sR_15_3 hS, sR_15_5 hS, sR_15_6 hS, sR_15_7 hS, sR_15_8 hS, sR_15_9 hS, sR_15_10 hS, sR_15_11 hS, sR_15_12 hS, sR_15_13 hS, hlt, e, ei, hib, hcl, hV i e, c, nI_1]
    · right
      have : i = 8 := by omega
      subst this
      refine ⟨_, _, ?_, rfl, rfl⟩
      simp only [lpStep, ↓rE_eK, ↓rE_eLi, ↓rE_eLj, ↓rE_eLa, ↓rE_eU, ↓rE_eB, ↓rE_eG, ↓rE_eIF, ↓rE_eAI, ↓rE_eAX, ↓rE_eAJ, ↓rE_eAR, ↓rE_eLen, ↓rE_eSI, ↓rE_eC, ↓rE_eCall, ↓rE_eNew, ↓rE_eNewA, ↓rE_eInst, ↓rC_cI, ↓rC_cZ0, ↓rC_cN, ↓rC_cNot, ↓rC_cAnd, ↓rC_cOr, ↓rA_aN, ↓rA_aC, ↓rS_sP, ↓rS_sUF, ↓rS_sAI, ↓rS_sAJ, ↓rS_sAR, ↓rS_sUA, ↓rS_sCall, ↓rS_sObj, ↓rS_sSi, ↓rS_sSa, ↓rS_sSj, ↓rS_sInc, ↓rS_sSkip, ↓rS_sSeq, ↓rS_sIf, ↓rS_sRetI, ↓rS_sRetJ, ↓rS_sRetA, ↓rS_sRetV, ↓rS_sSw, ↓rD_meth, ↓rD_on, ↓kR_ref, ↓kI_int, ↓kJ_long, ↓kN_null, ↓kN_ref, ↓kN_rf, ↓kQ_ref, ↓kQ_null, ↓kQ_rf, o1_i, o1ij_i, o1ji_i, o2_i, o2d_i, o2j_i, o2ji_i, o2c_i, fv_0, fv_1, fv_2, fv_3, pf_0, pf_2, pf_3, pf_4, rf_s, rf_n, is_self, ge_0, ge_s, ge_n, gd_s, gd_n, se_0, se_s, ag_0, ex_n, ex_i, ex_r, ex_0, ex_j, ex_q, ap_c, ap_n, List.append_nil, ln_c, ln_n, rp_0, rp_s, rt_0, rt_1, rt_20, rt_21, rt_2, rt_3, rt_4, rt_4n, rt_4q, nl_0, nl_1, nl_2, nl_3, nl_4, nl_5, nl_6, nl_7, nl_8, nl_9, nlB_i, nlB_r, nlB_n, nlB_f, nlB_q, ↓reduceIte, reduceCtorEq, Nat.reduceAdd, Nat.reduceSub, Nat.reduceEqDiff, Nat.reduceLeDiff, Nat.reduceBEq, ite_true, ite_false, dt_t, Bool.not_true, Bool.not_false, Bool.false_eq_true, Nat.le_refl, true_and, and_true, true_or, or_true, false_or, or_false, false_and, and_false, qEq, qNe, qLt, qGe, qGt, qLe, hlt, Nat.lt_irrefl]
  obtain ⟨r, s, l1, rfl, rfl⟩ := hl
  refine rD_un.trans ?_
  simp only [D_X3_ableFor, B_X3_ableFor, ↓rE_eK, ↓rE_eLi, ↓rE_eLj, ↓rE_eLa, ↓rE_eU, ↓rE_eB, ↓rE_eG, ↓rE_eIF, ↓rE_eAI, ↓rE_eAX, ↓rE_eAJ, ↓rE_eAR, ↓rE_eLen, ↓rE_eSI, ↓rE_eC, ↓rE_eCall, ↓rE_eNew, ↓rE_eNewA, ↓rE_eInst, ↓rC_cI, ↓rC_cZ0, ↓rC_cN, ↓rC_cNot, ↓rC_cAnd, ↓rC_cOr, ↓rA_aN, ↓rA_aC, ↓rS_sP, ↓rS_sUF, ↓rS_sAI, ↓rS_sAJ, ↓rS_sAR, ↓rS_sUA, ↓rS_sCall, ↓rS_sObj, ↓rS_sSi, ↓rS_sSa, ↓rS_sSj, ↓rS_sInc, ↓rS_sSkip, ↓rS_sSeq, ↓rS_sIf, ↓rS_sRetI, ↓rS_sRetJ, ↓rS_sRetA, ↓rS_sRetV, ↓rS_sSw, ↓rD_meth, ↓rD_on, ↓kR_ref, ↓kI_int, ↓kJ_long, ↓kN_null, ↓kN_ref, ↓kN_rf, ↓kQ_ref, ↓kQ_null, ↓kQ_rf, o1_i, o1ij_i, o1ji_i, o2_i, o2d_i, o2j_i, o2ji_i, o2c_i, fv_0, fv_1, fv_2, fv_3, pf_0, pf_2, pf_3, pf_4, rf_s, rf_n, is_self, ge_0, ge_s, ge_n, gd_s, gd_n, se_0, se_s, ag_0, ex_n, ex_i, ex_r, ex_0, ex_j, ex_q, ap_c, ap_n, List.append_nil, ln_c, ln_n, rp_0, rp_s, rt_0, rt_1, rt_20, rt_21, rt_2, rt_3, rt_4, rt_4n, rt_4q, nl_0, nl_1, nl_2, nl_3, nl_4, nl_5, nl_6, nl_7, nl_8, nl_9, nlB_i, nlB_r, nlB_n, nlB_f, nlB_q, ↓reduceIte, reduceCtorEq, Nat.reduceAdd, Nat.reduceSub, Nat.reduceEqDiff, Nat.reduceLeDiff, Nat.reduceBEq, ite_true, ite_false, dt_t, Bool.not_true, Bool.not_false, Bool.false_eq_true, Nat.le_refl, true_and, and_true, true_or, or_true, false_or, or_false, false_and, and_false, qEq, qNe, qLt, qGe, qGt, qLe, rS_inl l1]
/-- the list of songs below i -/
def LSg (σ : pm_H) (N : Nat → Nat) (V : Nat → Int32) (L U i : Nat) (s : pm_H) : Prop := (OC σ s ∧ (∀ a, a ≠ 15 → a ≠ 17 → a ≠ 18 → a ≠ 19 → pI s a = pI σ a) ∧ ∀ k, k ≠ 4 → pI s 15 k = pI σ 15 k) ∧ (∀ W, W < i → sub W U → pI s 18 W = nI (mxA N W 8)) ∧ (∀ W, W < i → vlU L U W = true → pI s 19 W = nI (abN V (mxA N W 8) 8)) ∧ ∃ v : Nat → Nat, pI s 15 4 = nI (cntV (vlU L U) i) ∧ (∀ k, k < cntV (vlU L U) i → pI s 17 k = nI (v k) ∧ vlU L U (v k) = true ∧ v k < i) ∧ (∀ k l, k < l → l < cntV (vlU L U) i → v k < v l) ∧ ∀ W, W < i → vlU L U W = true → ∃ k, k < cntV (vlU L U) i ∧ v k = W
theorem d_listSongs {σ : pm_H} (hS : Sh σ) {N : Nat → Nat} {V : Nat → Int32} {E L U : Nat} (hQ : QA σ N V E L U) (h0 : pI σ 18 0 = 0) : ∃ s, D_X3_listSongs [.ref 15] σ = some (none, s) ∧ LSg σ N V L U 256 s := by
  obtain ⟨q1, ⟨q2, q3, q4, q5⟩, ⟨q6, q7, q8⟩, q9⟩ := hQ
  have hN2 : ∀ i, i < 8 → N i ≤ 200 := fun i hi => (q1 i hi).2.1
  have hl : ∃ r s, sLoop (cI qLe (eLi 1) (eK (.int 255))) (sSeq (sIf (cZ0 qEq (eB f_iand (eLi 1) (eB f_ixor (eG (is 3) 0 1 (eLa 0)) (eK (.int (-1)))))) (sSeq (sSi 2 (eCall D_J6_numberOfTrailingZeros_0f7a4 (aC (eLi 1) (aN)))) (sSeq (sAI (eG (is 3) 3 5 (eLa 0)) (eLi 1) (eCall D_max (aC (eAI (eG (is 3) 3 5 (eLa 0)) (eB f_iand (eLi 1) (eB f_ixor (eB f_ishl (eK (.int 1)) (eLi 2)) (eK (.int (-1)))))) (aC (eAI (eG (is 3) 3 0 (eLa 0)) (eLi 2)) (aN))))) (sIf (cAnd (cZ0 qNe (eCall (pm_disp (tb1 3 D_X3_isSungTo)) (aC (eLa 0) (aC (eLi 1) (aN))))) (cI qLt (eG (is 3) 0 4 (eLa 0)) (eK (.int 92)))) (sSeq (sAI (eG (is 3) 3 6 (eLa 0)) (eLi 1) (eCall (pm_disp (tb1 3 D_X3_ableFor)) (aC (eLa 0) (aC (eAI (eG (is 3) 3 5 (eLa 0)) (eLi 1)) (aN))))) (sSeq (sAI (eG (is 3) 3 3 (eLa 0)) (eG (is 3) 0 4 (eLa 0)) (eLi 1)) (sUF (is 3) 0 4 f_iadd (eLa 0) (eK (.int 1))))) sSkip))) sSkip) (sInc 1 1)) [.ref 15, .int 1, .float 0] (uI σ 15 4 0) = some (r, s) ∧ (LSg σ N V L U 256 s ∧ ∃ w, r = .inl [.ref 15, .int (nI 256), w]) := by
    refine loop_gen (fun j env s => LSg σ N V L U (j + 1) s ∧ ∃ w, env = [.ref 15, .int (nI (j + 1)), w]) _ 255 (by decide) ⟨⟨⟨OC_uI OC_rfl (by omega), fun a g1 _ _ _ => pI_uI_ne _ _ _ g1, fun k hk => pI_uI_nek _ _ _ _ hk⟩, fun W hW _ => ?_, fun W hW hv => ?_, fun _ => 0, ?_⟩, .float 0, rfl⟩ ?_
    · have : W = 0 := by omega
      subst this
      rw [pI_uI_ne _ _ _ (by decide), h0]
      have : mxA N 0 8 = 0 := by
        have : ∀ k, mxA N 0 k = 0 := fun k => by
          induction k with
          | zero => rfl
          | succ k ih => rw [mxA, Nat.zero_testBit]; simp [ih]
        exact this 8
      rw [this, nI_0]
    · have : W = 0 := by omega
      subst this
      have := (vlA_iff.mp (vlU_iff.mp hv).1).1
      omega
    · have hc : cntV (vlU L U) (0 + 1) = 0 := by
        rw [cntV, if_neg (fun q => by have := (vlA_iff.mp (vlU_iff.mp q).1).1; omega)]; rfl
      rw [hc, pI_uI_at, nI_0]
      exact ⟨rfl, fun k hk => by omega, fun k l _ hl => by omega, fun W hW hv => by
        have := (vlA_iff.mp (vlU_iff.mp hv).1).1
        omega⟩
    rintro j env s hj ⟨⟨⟨o1, o2, o3⟩, t1, t2, v, v1, v2, v3, v4⟩, w, rfl⟩
    have hss := Fr_Sh (OC_Fr o1) hS
    have hle : (nI (j + 1) ≤ 255) = (j + 1 ≤ 255) := nI_le' (b := 255) (by omega) (by decide)
    have g1 : pI s 15 1 = nI U := by rw [o3 1 (by decide)]; exact q4
    have g2 : pI s 15 2 = nI L := by rw [o3 2 (by decide)]; exact q5
    have g16 : pI s 16 = pI σ 16 := o2 16 (by decide) (by decide) (by decide) (by decide)
    by_cases e : j < 255
    · left
      obtain ⟨A, eA⟩ : ∃ A, j + 1 = A := ⟨_, rfl⟩
      rw [eA] at t1 t2 v1 v2 v3 v4 hle ⊢
      have hA8 : A < 256 := by omega
      have hApos : 0 < A := by omega
      have hle' : nI A ≤ 255 := by rw [hle]; omega
      have hsb := sub0 hA8 q8
      by_cases hs : sub A U
      · have hsb' : (nI A &&& (nI U ^^^ (-1)) = 0) = True := by rw [hsb]; exact eq_true hs
        have hsb2 : (nI (sd A U) = 0) = True := by rw [← nI_sdx]; exact hsb'
        obtain ⟨-, z1, z2⟩ := tz_dec ⟨A, hA8⟩ hApos
        dsimp only at z1 z2
        have hsd : sub (2 ^ tz A) A := fun i hi => by rw [pw_bit] at hi; simp at hi; rw [← hi]; exact z2
        have hlt1 := sd_lt' (Nat.pow_pos (by decide)) hsd
        have hm1 := t1 (sd A (2 ^ tz A)) (by omega) (sub_tr (sd_sub _ _) hs)
        have hmx1 := mxA_le hN2 (sd A (2 ^ tz A)) 8 (Nat.le_refl _)
        have hNt := q1 (tz A) z1
        have hmax := (mxA_del (N := N) z2 8).1 z1
        have hib1 := ib_nI (show sd A (2 ^ tz A) < 256 by omega) (by decide)
        have hcl1 := nI_cl (show sd A (2 ^ tz A) < 2147483648 by omega)
        have hibt := ib_nI (show tz A < 18 by omega) (by decide)
        have hclt := nI_cl (show tz A < 2147483648 by omega)
        have hibA := ib_nI hA8 (show (256 : Nat) ≤ 1000000 by decide)
        have hclA := nI_cl (show A < 2147483648 by omega)
        have g16t : pI s 16 (tz A) = nI (N (tz A)) := by rw [g16]; exact hNt.1
        have dm := d_max (a := mxA N (sd A (2 ^ tz A)) 8) (b := N (tz A)) (by omega) (by omega) s
        rw [← hmax] at dm
        obtain ⟨s1, es1⟩ : ∃ s1, s1 = uI s 18 A (nI (mxA N A 8)) := ⟨_, rfl⟩
        have hss1 : Sh s1 := by rw [es1]; exact hss
        have o1' : OC σ s1 := by rw [es1]; exact OC_uI o1 (by omega)
        have k1 : pI s1 15 = pI s 15 := by rw [es1]; exact pI_uI_ne _ _ _ (by decide)
        have hst := d_isSungTo hss1 hA8 hApos q7 (by rw [k1]; exact g2)
        have k18 : pI s1 18 A = nI (mxA N A 8) := by rw [es1]; exact pI_uI_at _ _ _ _
        have k18' : ∀ W, W ≠ A → pI s1 18 W = pI s 18 W := fun W hW => by rw [es1]; exact pI_uI_nek _ _ _ _ hW
        have kO : ∀ a, a ≠ 18 → pI s1 a = pI s a := fun a ha => by rw [es1]; exact pI_uI_ne _ _ _ ha
        by_cases hv : vlA L A = true
        · have hvU : vlU L U A = true := vlU_iff.mpr ⟨hv, hs⟩
          have hcnt := cnt_lt q8 hA8 hvU
          have hb1 : (b32 (vlA L A = true) = 0) = False := eq_false (by rw [b32_t hv]; decide)
          obtain ⟨c, ec⟩ : ∃ c, cntV (vlU L U) A = c := ⟨_, rfl⟩
          have ec1 : cntV (vlU L U) (A + 1) = c + 1 := by rw [cntV, if_pos hvU, ec]
          rw [ec] at hcnt v1 v2 v3 v4
          have hlt92 : nI c < 92 := by have := nI_lt' (a := c) (b := 92) (by omega) (by decide); rw [show (92 : Int32) = nI 92 from rfl, this]; exact hcnt
          have hab := d_ableFor hss1 (V := V) (m := mxA N A 8) (fun i hi => by rw [kO 16 (by decide), g16]; exact (q1 i hi).2.2)
          have k154 : pI s1 15 4 = nI c := by rw [k1]; exact v1
          have y1 : pI (uI s1 19 A (nI (abN V (mxA N A 8) 8))) 15 4 = nI c := by rw [pI_uI_ne _ _ _ (by decide)]; exact k154
          have y2 : pI (uI (uI s1 19 A (nI (abN V (mxA N A 8) 8))) 17 c (nI A)) 15 4 = nI c := by rw [pI_uI_ne _ _ _ (by decide)]; exact y1
          have hibc := ib_nI hcnt (show (92 : Nat) ≤ 1000000 by decide)
          have hclc := nI_cl (show c < 2147483648 by omega)
          refine ⟨[.ref 15, .int (nI (A + 1)), .int (nI (tz A))], uI (uI (uI s1 19 A (nI (abN V (mxA N A 8) 8))) 17 c (nI A)) 15 4 (nI (c + 1)), ?_, by omega, ⟨⟨OC_uI (OC_uI (OC_uI o1' (by omega)) (by omega)) (by omega), fun a g1 g2 g3 g4 => ?_, fun k hk => ?_⟩, fun W hW hsW => ?_, fun W hW hvW => ?_, up1 v c A, ?_, fun k hk => ?_, fun k l hkl hl => ?_, fun W hW hvW => ?_⟩, _, rfl⟩
          · simp only [lpStep, ↓rE_eK, ↓rE_eLi, ↓rE_eLj, ↓rE_eLa, ↓rE_eU, ↓rE_eB, ↓rE_eG, ↓rE_eIF, ↓rE_eAI, ↓rE_eAX, ↓rE_eAJ, ↓rE_eAR, ↓rE_eLen, ↓rE_eSI, ↓rE_eC, ↓rE_eCall, ↓rE_eNew, ↓rE_eNewA, ↓rE_eInst, ↓rC_cI, ↓rC_cZ0, ↓rC_cN, ↓rC_cNot, ↓rC_cAnd, ↓rC_cOr, ↓rA_aN, ↓rA_aC, ↓rS_sP, ↓rS_sUF, ↓rS_sAI, ↓rS_sAJ, ↓rS_sAR, ↓rS_sUA, ↓rS_sCall, ↓rS_sObj, ↓rS_sSi, ↓rS_sSa, ↓rS_sSj, ↓rS_sInc, ↓rS_sSkip, ↓rS_sSeq, ↓rS_sIf, ↓rS_sRetI, ↓rS_sRetJ, ↓rS_sRetA, ↓rS_sRetV, ↓rS_sSw, ↓rD_meth, ↓rD_on, ↓kR_ref, ↓kI_int, ↓kJ_long, ↓kN_null, ↓kN_ref, ↓kN_rf, ↓kQ_ref, ↓kQ_null, ↓kQ_rf, o1_i, o1ij_i, o1ji_i, o2_i, o2d_i, o2j_i, o2ji_i, o2c_i, fv_0, fv_1, fv_2, fv_3, pf_0, pf_2, pf_3, pf_4, rf_s, rf_n, is_self, ge_0, ge_s, ge_n, gd_s, gd_n, se_0, se_s, ag_0, ex_n, ex_i, ex_r, ex_0, ex_j, ex_q, ap_c, ap_n, List.append_nil, ln_c, ln_n, rp_0, rp_s, rt_0, rt_1, rt_20, rt_21, rt_2, rt_3, rt_4, rt_4n, rt_4q, nl_0, nl_1, nl_2, nl_3, nl_4, nl_5, nl_6, nl_7, nl_8, nl_9, nlB_i, nlB_r, nlB_n, nlB_f, nlB_q, ↓reduceIte, reduceCtorEq, Nat.reduceAdd, Nat.reduceSub, Nat.reduceEqDiff, Nat.reduceLeDiff, Nat.reduceBEq, ite_true, ite_false, dt_t, Bool.not_true, Bool.not_false, Bool.false_eq_true, Nat.le_refl, true_and, and_true, true_or, or_true, false_or, or_false, false_and, and_false, qEq, qNe, qLt, qGe, qGt, qLe, sT_11 hss, sT_12 hss, sT_13 hss, sT_14 hss, sT_15 hss, sT_16 hss, sT_17 hss, sT_18 hss, sT_19 hss, sT_20 hss, sT_21 hss, sT_22 hss, sT_23 hss, sT_24 hss, sT_25 hss, sT_26 hss, sT_27 hss, sT_28 hss, sT_29 hss, sT_30 hss, sT_31 hss, sT_32 hss, sT_33 hss, sT_34 hss, sL_13 hss, sL_14 hss, sL_16 hss, sL_17 hss, sL_18 hss, sL_19 hss, sL_20 hss, sL_21 hss, sL_22 hss, sL_23 hss, sL_24 hss, sL_25 hss, sL_26 hss, sL_28 hss, sL_30 hss, sL_31 hss, sL_32 hss, sL_33 hss, sL_34 hss, sR_11_2 hss, sR_11_3 hss, sR_11_4 hss, sR_11_5 hss, sR_11_7 hss, sR_11_8 hss, sR_11_9 hss, sR_27_0 hss, sR_29_0 hss, sR_15_0 hss, sR_15_3 hss, sR_15_5 hss, sR_15_6 hss, sR_15_7 hss, sR_15_8 hss, sR_15_9 hss, sR_15_10 hss, sR_15_11 hss, sR_15_12 hss, sR_15_13 hss, hle', g1, hsb2, rD_of (d_ntz hApos hA8 _), nI_shl z1, nI_sdx, hib1, hcl1, hm1, hibt, hclt, g16t, rD_of dm, hibA, hclA, ← es1, rD_tb1 (sT_15 hss1), rD_of hst, hb1, not_false_eq_true, sT_11 hss1, sT_12 hss1, sT_13 hss1, sT_14 hss1, sT_15 hss1, sT_16 hss1, sT_17 hss1, sT_18 hss1, sT_19 hss1, sT_20 hss1, sT_21 hss1, sT_22 hss1, sT_23 hss1, sT_24 hss1, sT_25 hss1, sT_26 hss1, sT_27 hss1, sT_28 hss1, sT_29 hss1, sT_30 hss1, sT_31 hss1, sT_32 hss1, sT_33 hss1, sT_34 hss1, sL_13 hss1, sL_14 hss1, sL_16 hss1, sL_17 hss1, sL_18 hss1, sL_19 hss1, sL_20 hss1, sL_21 hss1, sL_22 hss1, sL_23 hss1, sL_24 hss1, sL_25 hss1, sL_26 hss1, sL_28 hss1, sL_30 hss1, sL_31 hss1, sL_32 hss1, sL_33 hss1, sL_34 hss1, sR_11_2 hss1, sR_11_3 hss1, sR_11_4 hss1, sR_11_5 hss1, sR_11_7 hss1, sR_11_8 hss1, sR_11_9 hss1, sR_27_0 hss1, sR_29_0 hss1, sR_15_0 hss1, sR_15_3 hss1, sR_15_5 hss1, sR_15_6 hss1, sR_15_7 hss1, sR_15_8 hss1, sR_15_9 hss1, sR_15_10 hss1, sR_15_11 hss1, sR_15_12 hss1, sR_15_13 hss1, k154, hlt92, k18, rD_of hab, pT_uI, pL_uI, pR_uI, y1, hibc, hclc, y2, nI_1]
          · rw [pI_uI_ne _ _ _ g1, pI_uI_ne _ _ _ g2, pI_uI_ne _ _ _ g4, kO a g3]; exact o2 a g1 g2 g3 g4
          · rw [pI_uI_nek _ _ _ _ hk, pI_uI_ne _ _ _ (by decide), pI_uI_ne _ _ _ (by decide), k1]; exact o3 k hk
          · rw [pI_uI_ne _ _ _ (by decide), pI_uI_ne _ _ _ (by decide), pI_uI_ne _ _ _ (by decide)]
            by_cases d : W = A
            · rw [d]; exact k18
            · rw [k18' W d]; exact t1 W (by omega) hsW
          · rw [pI_uI_ne _ _ _ (by decide), pI_uI_ne _ _ _ (by decide), pI_uI]
            by_cases d : W = A
            · rw [if_pos ⟨rfl, d⟩, d]
            · rw [if_neg (fun q => d q.2), kO 19 (by decide)]; exact t2 W (by omega) hvW
          · rw [ec1, pI_uI_at]
          · rw [ec1] at hk
            rw [pI_uI_ne _ _ _ (by decide), pI_uI]
            by_cases d : k = c
            · subst d
              rw [if_pos ⟨rfl, rfl⟩, up1_at]; exact ⟨rfl, hvU, by omega⟩
            · obtain ⟨u1, u2, u3⟩ := v2 k (by omega)
              rw [if_neg (fun q => d q.2), up1_ne _ d, pI_uI_ne _ _ _ (by decide), kO 17 (by decide)]
              exact ⟨u1, u2, by omega⟩
          · rw [ec1] at hl
            by_cases d : l = c
            · subst d
              rw [up1_at, up1_ne _ (by omega)]
              exact (v2 k (by omega)).2.2
            · rw [up1_ne _ d, up1_ne _ (by omega)]; exact v3 k l hkl (by omega)
          · rw [ec1]
            by_cases d : W = A
            · exact ⟨c, by omega, by rw [up1_at, d]⟩
            · obtain ⟨k, hk, ek⟩ := v4 W (by omega) hvW
              exact ⟨k, by omega, by rw [up1_ne _ (by omega)]; exact ek⟩
        · have hb0 : (b32 (vlA L A = true) = 0) = True := eq_true (b32_f hv)
          have hvU : ¬ vlU L U A = true := fun q => hv (vlU_iff.mp q).1
          have ec1 : cntV (vlU L U) (A + 1) = cntV (vlU L U) A := by rw [cntV, if_neg hvU]; rfl
          refine ⟨[.ref 15, .int (nI (A + 1)), .int (nI (tz A))], s1, ?_, by omega, ⟨⟨o1', fun a g1 g2 g3 g4 => by rw [kO a g3]; exact o2 a g1 g2 g3 g4, fun k hk => by rw [k1]; exact o3 k hk⟩, fun W hW hsW => ?_, fun W hW hvW => ?_, v, by rw [ec1, k1]; exact v1, fun k hk => ?_, fun k l hkl hl => by rw [ec1] at hl; exact v3 k l hkl hl, fun W hW hvW => ?_⟩, _, rfl⟩
          · simp only [lpStep, ↓rE_eK, ↓rE_eLi, ↓rE_eLj, ↓rE_eLa, ↓rE_eU, ↓rE_eB, ↓rE_eG, ↓rE_eIF, ↓rE_eAI, ↓rE_eAX, ↓rE_eAJ, ↓rE_eAR, ↓rE_eLen, ↓rE_eSI, ↓rE_eC, ↓rE_eCall, ↓rE_eNew, ↓rE_eNewA, ↓rE_eInst, ↓rC_cI, ↓rC_cZ0, ↓rC_cN, ↓rC_cNot, ↓rC_cAnd, ↓rC_cOr, ↓rA_aN, ↓rA_aC, ↓rS_sP, ↓rS_sUF, ↓rS_sAI, ↓rS_sAJ, ↓rS_sAR, ↓rS_sUA, ↓rS_sCall, ↓rS_sObj, ↓rS_sSi, ↓rS_sSa, ↓rS_sSj, ↓rS_sInc, ↓rS_sSkip, ↓rS_sSeq, ↓rS_sIf, ↓rS_sRetI, ↓rS_sRetJ, ↓rS_sRetA, ↓rS_sRetV, ↓rS_sSw, ↓rD_meth, ↓rD_on, ↓kR_ref, ↓kI_int, ↓kJ_long, ↓kN_null, ↓kN_ref, ↓kN_rf, ↓kQ_ref, ↓kQ_null, ↓kQ_rf, o1_i, o1ij_i, o1ji_i, o2_i, o2d_i, o2j_i, o2ji_i, o2c_i, fv_0, fv_1, fv_2, fv_3, pf_0, pf_2, pf_3, pf_4, rf_s, rf_n, is_self, ge_0, ge_s, ge_n, gd_s, gd_n, se_0, se_s, ag_0, ex_n, ex_i, ex_r, ex_0, ex_j, ex_q, ap_c, ap_n, List.append_nil, ln_c, ln_n, rp_0, rp_s, rt_0, rt_1, rt_20, rt_21, rt_2, rt_3, rt_4, rt_4n, rt_4q, nl_0, nl_1, nl_2, nl_3, nl_4, nl_5, nl_6, nl_7, nl_8, nl_9, nlB_i, nlB_r, nlB_n, nlB_f, nlB_q, ↓reduceIte, reduceCtorEq, Nat.reduceAdd, Nat.reduceSub, Nat.reduceEqDiff, Nat.reduceLeDiff, Nat.reduceBEq, ite_true, ite_false, dt_t, Bool.not_true, Bool.not_false, Bool.false_eq_true, Nat.le_refl, true_and, and_true, true_or, or_true, false_or, or_false, false_and, and_false, qEq, qNe, qLt, qGe, qGt, qLe, sT_11 hss, sT_12 hss, sT_13 hss, sT_14 hss, sT_15 hss, sT_16 hss, sT_17 hss, sT_18 hss, sT_19 hss, sT_20 hss, sT_21 hss, sT_22 hss, sT_23 hss, sT_24 hss, sT_25 hss, sT_26 hss, sT_27 hss, sT_28 hss, sT_29 hss, sT_30 hss, sT_31 hss, sT_32 hss, sT_33 hss, sT_34 hss, sL_13 hss, sL_14 hss, sL_16 hss, sL_17 hss, sL_18 hss, sL_19 hss, sL_20 hss, sL_21 hss, sL_22 hss, sL_23 hss, sL_24 hss, sL_25 hss, sL_26 hss, sL_28 hss, sL_30 hss, sL_31 hss, sL_32 hss, sL_33 hss, sL_34 hss, sR_11_2 hss, sR_11_3 hss, sR_11_4 hss, sR_11_5 hss, sR_11_7 hss, sR_11_8 hss, sR_11_9 hss, sR_27_0 hss, sR_29_0 hss, sR_15_0 hss, sR_15_3 hss, sR_15_5 hss, sR_15_6 hss, sR_15_7 hss, sR_15_8 hss, sR_15_9 hss, sR_15_10 hss, sR_15_11 hss, sR_15_12 hss, sR_15_13 hss, hle', g1, hsb2, rD_of (d_ntz hApos hA8 _), nI_shl z1, nI_sdx, hib1, hcl1, hm1, hibt, hclt, g16t, rD_of dm, hibA, hclA, ← es1, rD_tb1 (sT_15 hss1), rD_of hst, hb0, not_true, nI_1]
          · by_cases d : W = A
            · rw [d]; exact k18
            · rw [k18' W d]; exact t1 W (by omega) hsW
          · have d : W ≠ A := fun q => hvU (by rw [← q]; exact hvW)
            rw [kO 19 (by decide)]; exact t2 W (by omega) hvW
          · rw [ec1] at hk
            obtain ⟨u1, u2, u3⟩ := v2 k hk
            rw [kO 17 (by decide)]
            exact ⟨u1, u2, by omega⟩
          · have d : W ≠ A := fun q => hvU (by rw [← q]; exact hvW)
            rw [ec1]
            exact v4 W (by omega) hvW
      · have hsb' : ¬ nI A &&& (nI U ^^^ (-1)) = 0 := by rw [hsb]; exact hs
        have hvU : ¬ vlU L U A = true := fun q => hs (vlU_iff.mp q).2
        have ec1 : cntV (vlU L U) (A + 1) = cntV (vlU L U) A := by rw [cntV, if_neg hvU]; rfl
        refine ⟨[.ref 15, .int (nI (A + 1)), w], s, ?_, by omega, ⟨⟨o1, o2, o3⟩, fun W hW hsW => ?_, fun W hW hvW => ?_, v, by rw [ec1]; exact v1, fun k hk => ?_, fun k l hkl hl => by rw [ec1] at hl; exact v3 k l hkl hl, fun W hW hvW => ?_⟩, _, rfl⟩
        · simp only [lpStep, ↓rE_eK, ↓rE_eLi, ↓rE_eLj, ↓rE_eLa, ↓rE_eU, ↓rE_eB, ↓rE_eG, ↓rE_eIF, ↓rE_eAI, ↓rE_eAX, ↓rE_eAJ, ↓rE_eAR, ↓rE_eLen, ↓rE_eSI, ↓rE_eC, ↓rE_eCall, ↓rE_eNew, ↓rE_eNewA, ↓rE_eInst, ↓rC_cI, ↓rC_cZ0, ↓rC_cN, ↓rC_cNot, ↓rC_cAnd, ↓rC_cOr, ↓rA_aN, ↓rA_aC, ↓rS_sP, ↓rS_sUF, ↓rS_sAI, ↓rS_sAJ, ↓rS_sAR, ↓rS_sUA, ↓rS_sCall, ↓rS_sObj, ↓rS_sSi, ↓rS_sSa, ↓rS_sSj, ↓rS_sInc, ↓rS_sSkip, ↓rS_sSeq, ↓rS_sIf, ↓rS_sRetI, ↓rS_sRetJ, ↓rS_sRetA, ↓rS_sRetV, ↓rS_sSw, ↓rD_meth, ↓rD_on, ↓kR_ref, ↓kI_int, ↓kJ_long, ↓kN_null, ↓kN_ref, ↓kN_rf, ↓kQ_ref, ↓kQ_null, ↓kQ_rf, o1_i, o1ij_i, o1ji_i, o2_i, o2d_i, o2j_i, o2ji_i, o2c_i, fv_0, fv_1, fv_2, fv_3, pf_0, pf_2, pf_3, pf_4, rf_s, rf_n, is_self, ge_0, ge_s, ge_n, gd_s, gd_n, se_0, se_s, ag_0, ex_n, ex_i, ex_r, ex_0, ex_j, ex_q, ap_c, ap_n, List.append_nil, ln_c, ln_n, rp_0, rp_s, rt_0, rt_1, rt_20, rt_21, rt_2, rt_3, rt_4, rt_4n, rt_4q, nl_0, nl_1, nl_2, nl_3, nl_4, nl_5, nl_6, nl_7, nl_8, nl_9, nlB_i, nlB_r, nlB_n, nlB_f, nlB_q, ↓reduceIte, reduceCtorEq, Nat.reduceAdd, Nat.reduceSub, Nat.reduceEqDiff, Nat.reduceLeDiff, Nat.reduceBEq, ite_true, ite_false, dt_t, Bool.not_true, Bool.not_false, Bool.false_eq_true, Nat.le_refl, true_and, and_true, true_or, or_true, false_or, or_false, false_and, and_false, qEq, qNe, qLt, qGe, qGt, qLe, sT_11 hss, sT_12 hss, sT_13 hss, sT_14 hss, sT_15 hss, sT_16 hss, sT_17 hss, sT_18 hss, sT_19 hss, sT_20 hss, sT_21 hss, sT_22 hss, sT_23 hss, sT_24 hss, sT_25 hss, sT_26 hss, sT_27 hss, sT_28 hss, sT_29 hss, sT_30 hss, sT_31 hss, sT_32 hss, sT_33 hss, sT_34 hss, sL_13 hss, sL_14 hss, sL_16 hss, sL_17 hss, sL_18 hss, sL_19 hss, sL_20 hss, sL_21 hss, sL_22 hss, sL_23 hss, sL_24 hss, sL_25 hss, sL_26 hss, sL_28 hss, sL_30 hss, sL_31 hss, sL_32 hss, sL_33 hss, sL_34 hss, sR_11_2 hss, sR_11_3 hss, sR_11_4 hss, sR_11_5 hss, sR_11_7 hss, sR_11_8 hss, sR_11_9 hss, sR_27_0 hss, sR_29_0 hss, sR_15_0 hss, sR_15_3 hss, sR_15_5 hss, sR_15_6 hss, sR_15_7 hss, sR_15_8 hss, sR_15_9 hss, sR_15_10 hss, sR_15_11 hss, sR_15_12 hss, sR_15_13 hss, hle', g1, hsb', nI_1]
        · exact t1 W (by have : W ≠ A := fun q => hs (by rw [← q]; exact hsW)
                         omega) hsW
        · exact t2 W (by have : W ≠ A := fun q => hvU (by rw [← q]; exact hvW)
                         omega) hvW
        · rw [ec1] at hk
          obtain ⟨u1, u2, u3⟩ := v2 k hk
          exact ⟨u1, u2, by omega⟩
        · have d : W ≠ A := fun q => hvU (by rw [← q]; exact hvW)
          rw [ec1]
          exact v4 W (by omega) hvW
    · right
      have : j = 255 := by omega
      subst this
      refine ⟨_, _, ?_, ⟨⟨o1, o2, o3⟩, t1, t2, v, v1, v2, v3, v4⟩, w, rfl⟩
      simp only [lpStep, ↓rE_eK, ↓rE_eLi, ↓rE_eLj, ↓rE_eLa, ↓rE_eU, ↓rE_eB, ↓rE_eG, ↓rE_eIF, ↓rE_eAI, ↓rE_eAX, ↓rE_eAJ, ↓rE_eAR, ↓rE_eLen, ↓rE_eSI, ↓rE_eC, ↓rE_eCall, ↓rE_eNew, ↓rE_eNewA, ↓rE_eInst, ↓rC_cI, ↓rC_cZ0, ↓rC_cN, ↓rC_cNot, ↓rC_cAnd, ↓rC_cOr, ↓rA_aN, ↓rA_aC, ↓rS_sP, ↓rS_sUF, ↓rS_sAI, ↓rS_sAJ, ↓rS_sAR, ↓rS_sUA, ↓rS_sCall, ↓rS_sObj, ↓rS_sSi, ↓rS_sSa, ↓rS_sSj, ↓rS_sInc, ↓rS_sSkip, ↓rS_sSeq, ↓rS_sIf, ↓rS_sRetI, ↓rS_sRetJ, ↓rS_sRetA, ↓rS_sRetV, ↓rS_sSw, ↓rD_meth, ↓rD_on, ↓kR_ref, ↓kI_int, ↓kJ_long, ↓kN_null, ↓kN_ref, ↓kN_rf, ↓kQ_ref, ↓kQ_null, ↓kQ_rf, o1_i, o1ij_i, o1ji_i, o2_i, o2d_i, o2j_i, o2ji_i, o2c_i, fv_0, fv_1, fv_2, fv_3, pf_0, pf_2, pf_3, pf_4, rf_s, rf_n, is_self, ge_0, ge_s, ge_n, gd_s, gd_n, se_0, se_s, ag_0, ex_n, ex_i, ex_r, ex_0, ex_j, ex_q, ap_c, ap_n, List.append_nil, ln_c, ln_n, rp_0, rp_s, rt_0, rt_1, rt_20, rt_21, rt_2, rt_3, rt_4, rt_4n, rt_4q, nl_0, nl_1, nl_2, nl_3, nl_4, nl_5, nl_6, nl_7, nl_8, nl_9, nlB_i, nlB_r, nlB_n, nlB_f, nlB_q, ↓reduceIte, reduceCtorEq, Nat.reduceAdd, Nat.reduceSub, Nat.reduceEqDiff, Nat.reduceLeDiff, Nat.reduceBEq, ite_true, ite_false, dt_t, Bool.not_true, Bool.not_false, Bool.false_eq_true, Nat.le_refl, true_and, and_true, true_or, or_true, false_or, or_false, false_and, and_false, qEq, qNe, qLt, qGe, qGt, qLe, hle, show ¬ 255 + 1 ≤ 255 from by omega]
  obtain ⟨r, s, l1, hL, w, rfl⟩ := hl
  refine ⟨s, ?_, hL⟩
  refine rD_un.trans ?_
  simp only [D_X3_listSongs, B_X3_listSongs, ↓rE_eK, ↓rE_eLi, ↓rE_eLj, ↓rE_eLa, ↓rE_eU, ↓rE_eB, ↓rE_eG, ↓rE_eIF, ↓rE_eAI, ↓rE_eAX, ↓rE_eAJ, ↓rE_eAR, ↓rE_eLen, ↓rE_eSI, ↓rE_eC, ↓rE_eCall, ↓rE_eNew, ↓rE_eNewA, ↓rE_eInst, ↓rC_cI, ↓rC_cZ0, ↓rC_cN, ↓rC_cNot, ↓rC_cAnd, ↓rC_cOr, ↓rA_aN, ↓rA_aC, ↓rS_sP, ↓rS_sUF, ↓rS_sAI, ↓rS_sAJ, ↓rS_sAR, ↓rS_sUA, ↓rS_sCall, ↓rS_sObj, ↓rS_sSi, ↓rS_sSa, ↓rS_sSj, ↓rS_sInc, ↓rS_sSkip, ↓rS_sSeq, ↓rS_sIf, ↓rS_sRetI, ↓rS_sRetJ, ↓rS_sRetA, ↓rS_sRetV, ↓rS_sSw, ↓rD_meth, ↓rD_on, ↓kR_ref, ↓kI_int, ↓kJ_long, ↓kN_null, ↓kN_ref, ↓kN_rf, ↓kQ_ref, ↓kQ_null, ↓kQ_rf, o1_i, o1ij_i, o1ji_i, o2_i, o2d_i, o2j_i, o2ji_i, o2c_i, fv_0, fv_1, fv_2, fv_3, pf_0, pf_2, pf_3, pf_4, rf_s, rf_n, is_self, ge_0, ge_s, ge_n, gd_s, gd_n, se_0, se_s, ag_0, ex_n, ex_i, ex_r, ex_0, ex_j, ex_q, ap_c, ap_n, List.append_nil, ln_c, ln_n, rp_0, rp_s, rt_0, rt_1, rt_20, rt_21, rt_2, rt_3, rt_4, rt_4n, rt_4q, nl_0, nl_1, nl_2, nl_3, nl_4, nl_5, nl_6, nl_7, nl_8, nl_9, nlB_i, nlB_r, nlB_n, nlB_f, nlB_q, ↓reduceIte, reduceCtorEq, Nat.reduceAdd, Nat.reduceSub, Nat.reduceEqDiff, Nat.reduceLeDiff, Nat.reduceBEq, ite_true, ite_false, dt_t, Bool.not_true, Bool.not_false, Bool.false_eq_true, Nat.le_refl, true_and, and_true, true_or, or_true, false_or, or_false, false_and, and_false, qEq, qNe, qLt, qGe, qGt, qLe, sT_11 hS, sT_12 hS, sT_13 hS, sT_14 hS, sT_15 hS, sT_16 hS, sT_17 hS, sT_18 hS, sT_19 hS, sT_20 hS, sT_21 hS, sT_22 hS, sT_23 hS, sT_24 hS, sT_25 hS, sT_26 hS, sT_27 hS, sT_28 hS, sT_29 hS, sT_30 hS, sT_31 hS, sT_32 hS, sT_33 hS, sT_34 hS, sL_13 hS, sL_14 hS, sL_16 hS, sL_17 hS, sL_18 hS, sL_19 hS, sL_20 hS, sL_21 hS, sL_22 hS, sL_23 hS, sL_24 hS, sL_25 hS, sL_26 hS, sL_28 hS, sL_30 hS, sL_31 hS, sL_32 hS, sL_33 hS, sL_34 hS, sR_11_2 hS, sR_11_3 hS, sR_11_4 hS, sR_11_5 hS, sR_11_7 hS, sR_11_8 hS, sR_11_9 hS, sR_27_0 hS, sR_29_0 hS, sR_15_0 hS, sR_15_3 hS, sR_15_5 hS, sR_15_6 hS, sR_15_7 hS, sR_15_8 hS, sR_15_9 hS, sR_15_10 hS, sR_15_11 hS, sR_15_12 hS, sR_15_13 hS, rS_inl l1]
