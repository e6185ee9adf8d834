/-! What a song asks; may. -/
theorem nI_sdx (a b : Nat) : nI a &&& (nI b ^^^ (-1)) = nI (sd a b) := by
  have : ∀ x : Int32, x ^^^ (-1) = ~~~ x := fun x => by
    apply Int32.toBitVec_inj.mp
    show x.toBitVec ^^^ BitVec.allOnes 32 = ~~~ x.toBitVec
    exact BitVec.xor_allOnes
  rw [this, nI_sd]
theorem all_n {n : Nat} (h : n ≤ 8) : (1 : Int32) <<< (nI n &&& 31) - 1 = nI (2 ^ n - 1) := by
  have : ∀ n : Fin 9, (1 : Int32) <<< (nI n.val &&& 31) - 1 = nI (2 ^ n.val - 1) := by decide +kernel
  exact this ⟨n, by omega⟩
theorem ones_bit (n i : Nat) : (2 ^ n - 1).testBit i = decide (i < n) := Nat.testBit_two_pow_sub_one n i
theorem sd0 {W A n : Nat} (hW : W < 2 ^ n) : sd W A = 0 ↔ ∀ i, i < n → W.testBit i = true → A.testBit i = true := by
  constructor
  · intro h i _ hi
    have := sd_bit W A i
    rw [h, Nat.zero_testBit, hi] at this
    simpa using this.symm
  · intro h
    apply Nat.eq_of_testBit_eq
    intro i
    rw [sd_bit, Nat.zero_testBit]
    cases e : W.testBit i with
    | false => rfl
    | true => rw [h i (bitlt hW e) e]; rfl
/-- a number that has no place above n is a set of the first n -/
theorem in_set {w : Int32} {n : Nat} (hn : n ≤ 8) : w &&& (nI (2 ^ n - 1) ^^^ (-1)) = 0 ↔ ∃ W, W < 2 ^ n ∧ w = nI W := by
  have hw : w = nI w.toBitVec.toNat := by
    apply Int32.toBitVec_inj.mp
    show w.toBitVec = BitVec.ofNat 32 w.toBitVec.toNat
    simp
  constructor
  · intro h
    refine ⟨w.toBitVec.toNat, lt_of_bits fun i hi => ?_, hw⟩
    rw [hw, nI_sdx] at h
    have h2 := congrArg (fun x : Int32 => x.toBitVec.toNat) h
    have hlt : sd w.toBitVec.toNat (2 ^ n - 1) < 2 ^ 32 := sd_lt w.toBitVec.isLt
    have h3 : sd w.toBitVec.toNat (2 ^ n - 1) = 0 := by
      have : (nI (sd w.toBitVec.toNat (2 ^ n - 1))).toBitVec.toNat = sd w.toBitVec.toNat (2 ^ n - 1) := by
        show (BitVec.ofNat 32 _).toNat = _
        rw [BitVec.toNat_ofNat, Nat.mod_eq_of_lt hlt]
      rw [← this]; exact h2
    have h4 := sd_bit w.toBitVec.toNat (2 ^ n - 1) i
    rw [h3, Nat.zero_testBit, hi, ones_bit] at h4
    simpa using h4.symm
  · rintro ⟨W, hW, rfl⟩
    rw [nI_sdx, (sd0 hW).mpr (fun i hi _ => by rw [ones_bit]; simpa using hi), nI_0]
theorem mx_ge {vd : Nat → Int32} {W i : Nat} (ht : W.testBit i = true) : ∀ k, i < k → nN vd i ≤ mx vd W k := by
  intro k hk
  induction k with
  | zero => omega
  | succ k ih =>
    rw [mx]
    by_cases e : i = k
    · subst e; rw [if_pos ht]; exact Nat.le_max_right _ _
    · have := ih (by omega)
      split
      · exact Nat.le_trans this (Nat.le_max_left _ _)
      · exact this
theorem mx_pos {σ : pm_H} {v n : Nat} {vd : Nat → Int32} (h : VR σ v vd n) {W : Nat} (h0 : 0 < W) (hW : W < 2 ^ n) : 1 ≤ mx vd W n := by
  obtain ⟨i, hi⟩ := ne0_bit h0
  have := mx_ge (vd := vd) hi n (bitlt hW hi)
  have := (nd_nN h (bitlt hW hi)).2.1
  omega
/-- what can be sung: by i, to W, while A are awake -/
def canB (vd : Nat → Int32) (n A i W : Nat) : Prop := A.testBit i = true ∧ ¬ W.testBit i = true ∧ sd W A = 0 ∧ ¬ (1 < pc W ∧ df vd W n = true) ∧ nI (mx vd W n) ≤ vd (20 + i)
/-- what is asked for at all -/
def isA (n : Nat) (s w : Int32) : Prop := ib s n = true ∧ ∃ W, 0 < W ∧ W < 2 ^ n ∧ w = nI W ∧ pc W ≤ 3
theorem pc0 {A : Nat} (hA : A < 256) : (pc A = 0) = (A = 0) := propext (pc_dec ⟨A, hA⟩).1.symm
theorem and_bit {A i : Nat} (hA : A < 256) (hi : i < 8) : nI A &&& nI (2 ^ i) = 0 ↔ ¬ A.testBit i = true := by
  have : ∀ (A : Fin 256) (i : Fin 8), nI A.val &&& nI (2 ^ i.val) = 0 ↔ ¬ A.val.testBit i.val = true := by decide +kernel
  exact this ⟨A, hA⟩ ⟨i, hi⟩
theorem d_song_bad {σ : pm_H} {v n : Nat} {vd : Nat → Int32} (h : VR σ v vd n) {a s w : Int32} (hb : ¬ isA n s w) : D_X10_songMinutes [.ref v, .int a, .int s, .int w] σ = some (some (.int (-1)), σ) := by
  have h8 := VR_8 h
  refine rD_un.trans ?_
  by_cases hs : ib s n = true
  · by_cases h1 : bc w < 1
    · simp only [D_X10_songMinutes, B_X10_songMinutes, ↓rE_eK, ↓rE_eLi, ↓rE_eLj, ↓rE_eLa, ↓rE_eU, ↓rE_eB, ↓rE_eG, ↓rE_eIF, ↓rE_eAI, ↓rE_eAX, ↓rE_eAJ, ↓rE_eAR, ↓rE_eLen, ↓rE_eSI, ↓rE_eC, ↓rE_eCall, ↓rE_eNew, ↓rE_eNewA, ↓rE_eInst, ↓rC_cI, ↓rC_cZ0, ↓rC_cN, ↓rC_cNot, ↓rC_cAnd, ↓rC_cOr, ↓rA_aN, ↓rA_aC, ↓rS_sP, ↓rS_sUF, ↓rS_sAI, ↓rS_sAJ, ↓rS_sAR, ↓rS_sUA, ↓rS_sCall, ↓rS_sObj, ↓rS_sSi, ↓rS_sSa, ↓rS_sSj, ↓rS_sInc, ↓rS_sSkip, ↓rS_sSeq, ↓rS_sIf, ↓rS_sRetI, ↓rS_sRetJ, ↓rS_sRetA, ↓rS_sRetV, ↓rS_sSw, ↓rD_meth, ↓rD_on, ↓kR_ref, ↓kI_int, ↓kJ_long, ↓kN_null, ↓kN_ref, ↓kN_rf, ↓kQ_ref, ↓kQ_null, ↓kQ_rf, o1_i, o1ij_i, o1ji_i, o2_i, o2d_i, o2j_i, o2ji_i, o2c_i, fv_0, fv_1, fv_2, fv_3, pf_0, pf_2, pf_3, pf_4, rf_s, rf_n, is_self, ge_0, ge_s, ge_n, gd_s, gd_n, se_0, se_s, ag_0, ex_n, ex_i, ex_r, ex_0, ex_j, ex_q, ap_c, ap_n, List.append_nil, ln_c, ln_n, rp_0, rp_s, rt_0, rt_1, rt_20, rt_21, rt_2, rt_3, rt_4, rt_4n, rt_4q, nl_0, nl_1, nl_2, nl_3, nl_4, nl_5, nl_6, nl_7, nl_8, nl_9, nlB_i, nlB_r, nlB_n, nlB_f, nlB_q, ↓reduceIte, reduceCtorEq, Nat.reduceAdd, Nat.reduceSub, Nat.reduceEqDiff, Nat.reduceLeDiff, Nat.reduceBEq, ite_true, ite_false, dt_t, Bool.not_true, Bool.not_false, Bool.false_eq_true, Nat.le_refl, true_and, and_true, true_or, or_true, false_or, or_false, false_and, and_false, qEq, qNe, qLt, qGe, qGt, qLe, rD_tb1 (VR_T h), rD_of (d_at_t h hs), rD_of (d_bc _ _), VR_T h, VR_s h, h1]
    · by_cases h2 : 3 < bc w
      · simp only [D_X10_songMinutes, B_X10_songMinutes, ↓rE_eK, ↓rE_eLi, ↓rE_eLj, ↓rE_eLa, ↓rE_eU, ↓rE_eB, ↓rE_eG, ↓rE_eIF, ↓rE_eAI, ↓rE_eAX, ↓rE_eAJ, ↓rE_eAR, ↓rE_eLen, ↓rE_eSI, ↓rE_eC, ↓rE_eCall, ↓rE_eNew, ↓rE_eNewA, ↓rE_eInst, ↓rC_cI, ↓rC_cZ0, ↓rC_cN, ↓rC_cNot, ↓rC_cAnd, ↓rC_cOr, ↓rA_aN, ↓rA_aC, ↓rS_sP, ↓rS_sUF, ↓rS_sAI, ↓rS_sAJ, ↓rS_sAR, ↓rS_sUA, ↓rS_sCall, ↓rS_sObj, ↓rS_sSi, ↓rS_sSa, ↓rS_sSj, ↓rS_sInc, ↓rS_sSkip, ↓rS_sSeq, ↓rS_sIf, ↓rS_sRetI, ↓rS_sRetJ, ↓rS_sRetA, ↓rS_sRetV, ↓rS_sSw, ↓rD_meth, ↓rD_on, ↓kR_ref, ↓kI_int, ↓kJ_long, ↓kN_null, ↓kN_ref, ↓kN_rf, ↓kQ_ref, ↓kQ_null, ↓kQ_rf, o1_i, o1ij_i, o1ji_i, o2_i, o2d_i, o2j_i, o2ji_i, o2c_i, fv_0, fv_1, fv_2, fv_3, pf_0, pf_2, pf_3, pf_4, rf_s, rf_n, is_self, ge_0, ge_s, ge_n, gd_s, gd_n, se_0, se_s, ag_0, ex_n, ex_i, ex_r, ex_0, ex_j, ex_q, ap_c, ap_n, List.append_nil, ln_c, ln_n, rp_0, rp_s, rt_0, rt_1, rt_20, rt_21, rt_2, rt_3, rt_4, rt_4n, rt_4q, nl_0, nl_1, nl_2, nl_3, nl_4, nl_5, nl_6, nl_7, nl_8, nl_9, nlB_i, nlB_r, nlB_n, nlB_f, nlB_q, ↓reduceIte, reduceCtorEq, Nat.reduceAdd, Nat.reduceSub, Nat.reduceEqDiff, Nat.reduceLeDiff, Nat.reduceBEq, ite_true, ite_false, dt_t, Bool.not_true, Bool.not_false, Bool.false_eq_true, Nat.le_refl, true_and, and_true, true_or, or_true, false_or, or_false, false_and, and_false, qEq, qNe, qLt, qGe, qGt, qLe, rD_tb1 (VR_T h), rD_of (d_at_t h hs), rD_of (d_bc _ _), VR_T h, VR_s h, h1, h2]
      · have h3 : ¬ w &&& (nI (2 ^ n - 1) ^^^ (-1)) = 0 := fun q => by
          obtain ⟨W, hW, rfl⟩ := (in_set h8).mp q
          have hW8 := Nat.lt_of_lt_of_le hW (p2n h8)
          have hp := pc_le (A := W)
          rw [bc_nI hW8] at h1 h2
          have e1 : (nI (pc W) < 1) = (pc W < 1) := nI_lt' (b := 1) (by omega) (by decide)
          have e2 : (3 < nI (pc W)) = (3 < pc W) := nI_lt' (a := 3) (by decide) (by omega)
          rw [e1] at h1
          rw [e2] at h2
          refine hb ⟨hs, W, ?_, hW, rfl, by omega⟩
          rcases Nat.eq_zero_or_pos W with e | e
          · subst e; exact absurd (by decide +kernel : pc 0 = 0) (by omega)
          · exact e
        simp only [D_X10_songMinutes, B_X10_songMinutes, ↓rE_eK, ↓rE_eLi, ↓rE_eLj, ↓rE_eLa, ↓rE_eU, ↓rE_eB, ↓rE_eG, ↓rE_eIF, ↓rE_eAI, ↓rE_eAX, ↓rE_eAJ, ↓rE_eAR, ↓rE_eLen, ↓rE_eSI, ↓rE_eC, ↓rE_eCall, ↓rE_eNew, ↓rE_eNewA, ↓rE_eInst, ↓rC_cI, ↓rC_cZ0, ↓rC_cN, ↓rC_cNot, ↓rC_cAnd, ↓rC_cOr, ↓rA_aN, ↓rA_aC, ↓rS_sP, ↓rS_sUF, ↓rS_sAI, ↓rS_sAJ, ↓rS_sAR, ↓rS_sUA, ↓rS_sCall, ↓rS_sObj, ↓rS_sSi, ↓rS_sSa, ↓rS_sSj, ↓rS_sInc, ↓rS_sSkip, ↓rS_sSeq, ↓rS_sIf, ↓rS_sRetI, ↓rS_sRetJ, ↓rS_sRetA, ↓rS_sRetV, ↓rS_sSw, ↓rD_meth, ↓rD_on, ↓kR_ref, ↓kI_int, ↓kJ_long, ↓kN_null, ↓kN_ref, ↓kN_rf, ↓kQ_ref, ↓kQ_null, ↓kQ_rf, o1_i, o1ij_i, o1ji_i, o2_i, o2d_i, o2j_i, o2ji_i, o2c_i, fv_0, fv_1, fv_2, fv_3, pf_0, pf_2, pf_3, pf_4, rf_s, rf_n, is_self, ge_0, ge_s, ge_n, gd_s, gd_n, se_0, se_s, ag_0, ex_n, ex_i, ex_r, ex_0, ex_j, ex_q, ap_c, ap_n, List.append_nil, ln_c, ln_n, rp_0, rp_s, rt_0, rt_1, rt_20, rt_21, rt_2, rt_3, rt_4, rt_4n, rt_4q, nl_0, nl_1, nl_2, nl_3, nl_4, nl_5, nl_6, nl_7, nl_8, nl_9, nlB_i, nlB_r, nlB_n, nlB_f, nlB_q, ↓reduceIte, reduceCtorEq, Nat.reduceAdd, Nat.reduceSub, Nat.reduceEqDiff, Nat.reduceLeDiff, Nat.reduceBEq, ite_true, ite_false, dt_t, Bool.not_true, Bool.not_false, Bool.false_eq_true, Nat.le_refl, true_and, and_true, true_or, or_true, false_or, or_false, false_and, and_false, qEq, qNe, qLt, qGe, qGt, qLe, rD_tb1 (VR_T h), rD_of (d_at_t h hs), rD_of (d_bc _ _), VR_T h, VR_s h, h1, h2, all_n h8, h3, not_false_eq_true]
  · simp only [D_X10_songMinutes, B_X10_songMinutes, ↓rE_eK, ↓rE_eLi, ↓rE_eLj, ↓rE_eLa, ↓rE_eU, ↓rE_eB, ↓rE_eG, ↓rE_eIF, ↓rE_eAI, ↓rE_eAX, ↓rE_eAJ, ↓rE_eAR, ↓rE_eLen, ↓rE_eSI, ↓rE_eC, ↓rE_eCall, ↓rE_eNew, ↓rE_eNewA, ↓rE_eInst, ↓rC_cI, ↓rC_cZ0, ↓rC_cN, ↓rC_cNot, ↓rC_cAnd, ↓rC_cOr, ↓rA_aN, ↓rA_aC, ↓rS_sP, ↓rS_sUF, ↓rS_sAI, ↓rS_sAJ, ↓rS_sAR, ↓rS_sUA, ↓rS_sCall, ↓rS_sObj, ↓rS_sSi, ↓rS_sSa, ↓rS_sSj, ↓rS_sInc, ↓rS_sSkip, ↓rS_sSeq, ↓rS_sIf, ↓rS_sRetI, ↓rS_sRetJ, ↓rS_sRetA, ↓rS_sRetV, ↓rS_sSw, ↓rD_meth, ↓rD_on, ↓kR_ref, ↓kI_int, ↓kJ_long, ↓kN_null, ↓kN_ref, ↓kN_rf, ↓kQ_ref, ↓kQ_null, ↓kQ_rf, o1_i, o1ij_i, o1ji_i, o2_i, o2d_i, o2j_i, o2ji_i, o2c_i, fv_0, fv_1, fv_2, fv_3, pf_0, pf_2, pf_3, pf_4, rf_s, rf_n, is_self, ge_0, ge_s, ge_n, gd_s, gd_n, se_0, se_s, ag_0, ex_n, ex_i, ex_r, ex_0, ex_j, ex_q, ap_c, ap_n, List.append_nil, ln_c, ln_n, rp_0, rp_s, rt_0, rt_1, rt_20, rt_21, rt_2, rt_3, rt_4, rt_4n, rt_4q, nl_0, nl_1, nl_2, nl_3, nl_4, nl_5, nl_6, nl_7, nl_8, nl_9, nlB_i, nlB_r, nlB_n, nlB_f, nlB_q, ↓reduceIte, reduceCtorEq, Nat.reduceAdd, Nat.reduceSub, Nat.reduceEqDiff, Nat.reduceLeDiff, Nat.reduceBEq, ite_true, ite_false, dt_t, Bool.not_true, Bool.not_false, Bool.false_eq_true, Nat.le_refl, true_and, and_true, true_or, or_true, false_or, or_false, false_and, and_false, qEq, qNe, qLt, qGe, qGt, qLe, rD_tb1 (VR_T h), rD_of (d_at_f h hs), rD_of (d_bc _ _), VR_T h, VR_s h]
theorem d_song {σ : pm_H} {v n : Nat} {vd : Nat → Int32} (h : VR σ v vd n) {A i W : Nat} (hA : A < 256) (hi : i < n) (h0 : 0 < W) (hW : W < 2 ^ n) (h3 : pc W ≤ 3) : (canB vd n A i W → D_X10_songMinutes [.ref v, .int (nI A), .int (nI i), .int (nI W)] σ = some (some (.int (nI (mx vd W n))), σ)) ∧ (¬ canB vd n A i W → D_X10_songMinutes [.ref v, .int (nI A), .int (nI i), .int (nI W)] σ = some (some (.int (-4)), σ)) := by
  have h8 := VR_8 h
  have hW8 := Nat.lt_of_lt_of_le hW (p2n h8)
  have hp : 0 < pc W := by rcases Nat.eq_zero_or_pos (pc W) with e | e
                           · rw [pc0 hW8] at e; omega
                           · exact e
  have e1 : ¬ nI (pc W) < 1 := by rw [show (nI (pc W) < 1) = (pc W < 1) from nI_lt' (b := 1) (by omega) (by decide)]; omega
  have e2 : ¬ 3 < nI (pc W) := by rw [show (3 < nI (pc W)) = (3 < pc W) from nI_lt' (a := 3) (by decide) (by omega)]; omega
  have e3 : nI W &&& (nI (2 ^ n - 1) ^^^ (-1)) = 0 := (in_set h8).mpr ⟨W, hW, rfl⟩
  have hib := ib_nI hi (show n ≤ 1000000 by omega)
  have hcl := nI_cl (show i < 2147483648 by omega)
  have i8 : i < 8 := by omega
  have b1 := and_bit hA i8
  have b2 := and_bit hW8 i8
  have b3 := nI_sdx W A
  have hsl : sd W A < 2 ^ n := sd_lt hW
  have hs256 := Nat.lt_of_lt_of_le hsl (p2n h8)
  have b4 : nI (sd W A) = 0 ↔ sd W A = 0 := by
    have := nI_inj (a := sd W A) (b := 0) (by omega) (by decide)
    rw [nI_0] at this
    rw [this]
  have hm := mx_pos h h0 hW
  have hm2 := mx_le h W n (Nat.le_refl _)
  have m1 : ¬ nI (mx vd W n) < 1 := by rw [show (nI (mx vd W n) < 1) = (mx vd W n < 1) from nI_lt' (b := 1) (by omega) (by decide)]; omega
  constructor
  · rintro ⟨c1, c2, c3, c4, c5⟩
    refine rD_un.trans ?_
    have d1 : ¬ nI A &&& nI (2 ^ i) = 0 := fun q => b1.mp q c1
    have d2 := b2.mpr c2
    have m2 : ¬ vd (20 + i) < nI (mx vd W n) := by rw [Int32.not_lt]; exact c5
    simp only [D_X10_songMinutes, B_X10_songMinutes, ↓rE_eK, ↓rE_eLi, ↓rE_eLj, ↓rE_eLa, ↓rE_eU, ↓rE_eB, ↓rE_eG, ↓rE_eIF, ↓rE_eAI, ↓rE_eAX, ↓rE_eAJ, ↓rE_eAR, ↓rE_eLen, ↓rE_eSI, ↓rE_eC, ↓rE_eCall, ↓rE_eNew, ↓rE_eNewA, ↓rE_eInst, ↓rC_cI, ↓rC_cZ0, ↓rC_cN, ↓rC_cNot, ↓rC_cAnd, ↓rC_cOr, ↓rA_aN, ↓rA_aC, ↓rS_sP, ↓rS_sUF, ↓rS_sAI, ↓rS_sAJ, ↓rS_sAR, ↓rS_sUA, ↓rS_sCall, ↓rS_sObj, ↓rS_sSi, ↓rS_sSa, ↓rS_sSj, ↓rS_sInc, ↓rS_sSkip, ↓rS_sSeq, ↓rS_sIf, ↓rS_sRetI, ↓rS_sRetJ, ↓rS_sRetA, ↓rS_sRetV, ↓rS_sSw, ↓rD_meth, ↓rD_on, ↓kR_ref, ↓kI_int, ↓kJ_long, ↓kN_null, ↓kN_ref, ↓kN_rf, ↓kQ_ref, ↓kQ_null, ↓kQ_rf, o1_i, o1ij_i, o1ji_i, o2_i, o2d_i, o2j_i, o2ji_i, o2c_i, fv_0, fv_1, fv_2, fv_3, pf_0, pf_2, pf_3, pf_4, rf_s, rf_n, is_self, ge_0, ge_s, ge_n, gd_s, gd_n, se_0, se_s, ag_0, ex_n, ex_i, ex_r, ex_0, ex_j, ex_q, ap_c, ap_n, List.append_nil, ln_c, ln_n, rp_0, rp_s, rt_0, rt_1, rt_20, rt_21, rt_2, rt_3, rt_4, rt_4n, rt_4q, nl_0, nl_1, nl_2, nl_3, nl_4, nl_5, nl_6, nl_7, nl_8, nl_9, nlB_i, nlB_r, nlB_n, nlB_f, nlB_q, ↓reduceIte, reduceCtorEq, Nat.reduceAdd, Nat.reduceSub, Nat.reduceEqDiff, Nat.reduceLeDiff, Nat.reduceBEq, ite_true, ite_false, dt_t, Bool.not_true, Bool.not_false, Bool.false_eq_true, Nat.le_refl, true_and, and_true, true_or, or_true, false_or, or_false, false_and, and_false, qEq, qNe, qLt, qGe, qGt, qLe, rD_tb1 (VR_T h), rD_of (d_at_t h hib), rD_of (d_bc _ _), bc_nI hW8, VR_T h, VR_s h, e1, e2, all_n h8, e3, not_true, nI_shl i8, d1, d2, b3, c3, nI_0, rD_of (d_neededBy h hW8), c4, hcl, VR_slp h hi, VR_f2 h hi, m1, m2]
  · intro hc
    refine rD_un.trans ?_
    by_cases c1 : A.testBit i = true
    · have d1 : ¬ nI A &&& nI (2 ^ i) = 0 := fun q => b1.mp q c1
      by_cases c2 : W.testBit i = true
      · have d2 : ¬ nI W &&& nI (2 ^ i) = 0 := fun q => b2.mp q c2
        simp only [D_X10_songMinutes, B_X10_songMinutes, ↓rE_eK, ↓rE_eLi, ↓rE_eLj, ↓rE_eLa, ↓rE_eU, ↓rE_eB, ↓rE_eG, ↓rE_eIF, ↓rE_eAI, ↓rE_eAX, ↓rE_eAJ, ↓rE_eAR, ↓rE_eLen, ↓rE_eSI, ↓rE_eC, ↓rE_eCall, ↓rE_eNew, ↓rE_eNewA, ↓rE_eInst, ↓rC_cI, ↓rC_cZ0, ↓rC_cN, ↓rC_cNot, ↓rC_cAnd, ↓rC_cOr, ↓rA_aN, ↓rA_aC, ↓rS_sP, ↓rS_sUF, ↓rS_sAI, ↓rS_sAJ, ↓rS_sAR, ↓rS_sUA, ↓rS_sCall, ↓rS_sObj, ↓rS_sSi, ↓rS_sSa, ↓rS_sSj, ↓rS_sInc, ↓rS_sSkip, ↓rS_sSeq, ↓rS_sIf, ↓rS_sRetI, ↓rS_sRetJ, ↓rS_sRetA, ↓rS_sRetV, ↓rS_sSw, ↓rD_meth, ↓rD_on, ↓kR_ref, ↓kI_int, ↓kJ_long, ↓kN_null, ↓kN_ref, ↓kN_rf, ↓kQ_ref, ↓kQ_null, ↓kQ_rf, o1_i, o1ij_i, o1ji_i, o2_i, o2d_i, o2j_i, o2ji_i, o2c_i, fv_0, fv_1, fv_2, fv_3, pf_0, pf_2, pf_3, pf_4, rf_s, rf_n, is_self, ge_0, ge_s, ge_n, gd_s, gd_n, se_0, se_s, ag_0, ex_n, ex_i, ex_r, ex_0, ex_j, ex_q, ap_c, ap_n, List.append_nil, ln_c, ln_n, rp_0, rp_s, rt_0, rt_1, rt_20, rt_21, rt_2, rt_3, rt_4, rt_4n, rt_4q, nl_0, nl_1, nl_2, nl_3, nl_4, nl_5, nl_6, nl_7, nl_8, nl_9, nlB_i, nlB_r, nlB_n, nlB_f, nlB_q, ↓reduceIte, reduceCtorEq, Nat.reduceAdd, Nat.reduceSub, Nat.reduceEqDiff, Nat.reduceLeDiff, Nat.reduceBEq, ite_true, ite_false, dt_t, Bool.not_true, Bool.not_false, Bool.false_eq_true, Nat.le_refl, true_and, and_true, true_or, or_true, false_or, or_false, false_and, and_false, qEq, qNe, qLt, qGe, qGt, qLe, rD_tb1 (VR_T h), rD_of (d_at_t h hib), rD_of (d_bc _ _), bc_nI hW8, VR_T h, VR_s h, e1, e2, all_n h8, e3, not_true, nI_shl i8, d1, d2, not_false_eq_true]
      · have d2 := b2.mpr c2
        by_cases c3 : sd W A = 0
        · by_cases c4 : 1 < pc W ∧ df vd W n = true
          · have z1 : (0 : Int32) < 1 := by decide
            simp only [D_X10_songMinutes, B_X10_songMinutes, ↓rE_eK, ↓rE_eLi, ↓rE_eLj, ↓rE_eLa, ↓rE_eU, ↓rE_eB, ↓rE_eG, ↓rE_eIF, ↓rE_eAI, ↓rE_eAX, ↓rE_eAJ, ↓rE_eAR, ↓rE_eLen, ↓rE_eSI, ↓rE_eC, ↓rE_eCall, ↓rE_eNew, ↓rE_eNewA, ↓rE_eInst, ↓rC_cI, ↓rC_cZ0, ↓rC_cN, ↓rC_cNot, ↓rC_cAnd, ↓rC_cOr, ↓rA_aN, ↓rA_aC, ↓rS_sP, ↓rS_sUF, ↓rS_sAI, ↓rS_sAJ, ↓rS_sAR, ↓rS_sUA, ↓rS_sCall, ↓rS_sObj, ↓rS_sSi, ↓rS_sSa, ↓rS_sSj, ↓rS_sInc, ↓rS_sSkip, ↓rS_sSeq, ↓rS_sIf, ↓rS_sRetI, ↓rS_sRetJ, ↓rS_sRetA, ↓rS_sRetV, ↓rS_sSw, ↓rD_meth, ↓rD_on, ↓kR_ref, ↓kI_int, ↓kJ_long, ↓kN_null, ↓kN_ref, ↓kN_rf, ↓kQ_ref, ↓kQ_null, ↓kQ_rf, o1_i, o1ij_i, o1ji_i, o2_i, o2d_i, o2j_i, o2ji_i, o2c_i, fv_0, fv_1, fv_2, fv_3, pf_0, pf_2, pf_3, pf_4, rf_s, rf_n, is_self, ge_0, ge_s, ge_n, gd_s, gd_n, se_0, se_s, ag_0, ex_n, ex_i, ex_r, ex_0, ex_j, ex_q, ap_c, ap_n, List.append_nil, ln_c, ln_n, rp_0, rp_s, rt_0, rt_1, rt_20, rt_21, rt_2, rt_3, rt_4, rt_4n, rt_4q, nl_0, nl_1, nl_2, nl_3, nl_4, nl_5, nl_6, nl_7, nl_8, nl_9, nlB_i, nlB_r, nlB_n, nlB_f, nlB_q, ↓reduceIte, reduceCtorEq, Nat.reduceAdd, Nat.reduceSub, Nat.reduceEqDiff, Nat.reduceLeDiff, Nat.reduceBEq, ite_true, ite_false, dt_t, Bool.not_true, Bool.not_false, Bool.false_eq_true, Nat.le_refl, true_and, and_true, true_or, or_true, false_or, or_false, false_and, and_false, qEq, qNe, qLt, qGe, qGt, qLe, rD_tb1 (VR_T h), rD_of (d_at_t h hib), rD_of (d_bc _ _), bc_nI hW8, VR_T h, VR_s h, e1, e2, all_n h8, e3, not_true, nI_shl i8, d1, d2, b3, c3, nI_0, rD_of (d_neededBy h hW8), c4, z1]
          · have m2 : vd (20 + i) < nI (mx vd W n) := by
              rw [← Int32.not_le]; exact fun q => hc ⟨c1, c2, c3, c4, q⟩
            simp only [D_X10_songMinutes, B_X10_songMinutes, ↓rE_eK, ↓rE_eLi, ↓rE_eLj, ↓rE_eLa, ↓rE_eU, ↓rE_eB, ↓rE_eG, ↓rE_eIF, ↓rE_eAI, ↓rE_eAX, ↓rE_eAJ, ↓rE_eAR, ↓rE_eLen, ↓rE_eSI, ↓rE_eC, ↓rE_eCall, ↓rE_eNew, ↓rE_eNewA, ↓rE_eInst, ↓rC_cI, ↓rC_cZ0, ↓rC_cN, ↓rC_cNot, ↓rC_cAnd, ↓rC_cOr, ↓rA_aN, ↓rA_aC, ↓rS_sP, ↓rS_sUF, ↓rS_sAI, ↓rS_sAJ, ↓rS_sAR, ↓rS_sUA, ↓rS_sCall, ↓rS_sObj, ↓rS_sSi, ↓rS_sSa, ↓rS_sSj, ↓rS_sInc, ↓rS_sSkip, ↓rS_sSeq, ↓rS_sIf, ↓rS_sRetI, ↓rS_sRetJ, ↓rS_sRetA, ↓rS_sRetV, ↓rS_sSw, ↓rD_meth, ↓rD_on, ↓kR_ref, ↓kI_int, ↓kJ_long, ↓kN_null, ↓kN_ref, ↓kN_rf, ↓kQ_ref, ↓kQ_null, ↓kQ_rf, o1_i, o1ij_i, o1ji_i, o2_i, o2d_i, o2j_i, o2ji_i, o2c_i, fv_0, fv_1, fv_2, fv_3, pf_0, pf_2, pf_3, pf_4, rf_s, rf_n, is_self, ge_0, ge_s, ge_n, gd_s, gd_n, se_0, se_s, ag_0, ex_n, ex_i, ex_r, ex_0, ex_j, ex_q, ap_c, ap_n, List.append_nil, ln_c, ln_n, rp_0, rp_s, rt_0, rt_1, rt_20, rt_21, rt_2, rt_3, rt_4, rt_4n, rt_4q, nl_0, nl_1, nl_2, nl_3, nl_4, nl_5, nl_6, nl_7, nl_8, nl_9, nlB_i, nlB_r, nlB_n, nlB_f, nlB_q, ↓reduceIte, reduceCtorEq, Nat.reduceAdd, Nat.reduceSub, Nat.reduceEqDiff, Nat.reduceLeDiff, Nat.reduceBEq, ite_true, ite_false, dt_t, Bool.not_true, Bool.not_false, Bool.false_eq_true, Nat.le_refl, true_and, and_true, true_or, or_true, false_or, or_false, false_and, and_false, qEq, qNe, qLt, qGe, qGt, qLe, rD_tb1 (VR_T h), rD_of (d_at_t h hib), rD_of (d_bc _ _), bc_nI hW8, VR_T h, VR_s h, e1, e2, all_n h8, e3, not_true, nI_shl i8, d1, d2, b3, c3, nI_0, rD_of (d_neededBy h hW8), c4, hcl, VR_slp h hi, VR_f2 h hi, m1, m2]
        · have d3 : ¬ nI (sd W A) = 0 := fun q => c3 (b4.mp q)
          simp only [D_X10_songMinutes, B_X10_songMinutes, ↓rE_eK, ↓rE_eLi, ↓rE_eLj, ↓rE_eLa, ↓rE_eU, ↓rE_eB, ↓rE_eG, ↓rE_eIF, ↓rE_eAI, ↓rE_eAX, ↓rE_eAJ, ↓rE_eAR, ↓rE_eLen, ↓rE_eSI, ↓rE_eC, ↓rE_eCall, ↓rE_eNew, ↓rE_eNewA, ↓rE_eInst, ↓rC_cI, ↓rC_cZ0, ↓rC_cN, ↓rC_cNot, ↓rC_cAnd, ↓rC_cOr, ↓rA_aN, ↓rA_aC, ↓rS_sP, ↓rS_sUF, ↓rS_sAI, ↓rS_sAJ, ↓rS_sAR, ↓rS_sUA, ↓rS_sCall, ↓rS_sObj, ↓rS_sSi, ↓rS_sSa, ↓rS_sSj, ↓rS_sInc, ↓rS_sSkip, ↓rS_sSeq, ↓rS_sIf, ↓rS_sRetI, ↓rS_sRetJ, ↓rS_sRetA, ↓rS_sRetV, ↓rS_sSw, ↓rD_meth, ↓rD_on, ↓kR_ref, ↓kI_int, ↓kJ_long, ↓kN_null, ↓kN_ref, ↓kN_rf, ↓kQ_ref, ↓kQ_null, ↓kQ_rf, o1_i, o1ij_i, o1ji_i, o2_i, o2d_i, o2j_i, o2ji_i, o2c_i, fv_0, fv_1, fv_2, fv_3, pf_0, pf_2, pf_3, pf_4, rf_s, rf_n, is_self, ge_0, ge_s, ge_n, gd_s, gd_n, se_0, se_s, ag_0, ex_n, ex_i, ex_r, ex_0, ex_j, ex_q, ap_c, ap_n, List.append_nil, ln_c, ln_n, rp_0, rp_s, rt_0, rt_1, rt_20, rt_21, rt_2, rt_3, rt_4, rt_4n, rt_4q, nl_0, nl_1, nl_2, nl_3, nl_4, nl_5, nl_6, nl_7, nl_8, nl_9, nlB_i, nlB_r, nlB_n, nlB_f, nlB_q, ↓reduceIte, reduceCtorEq, Nat.reduceAdd, Nat.reduceSub, Nat.reduceEqDiff, Nat.reduceLeDiff, Nat.reduceBEq, ite_true, ite_false, dt_t, Bool.not_true, Bool.not_false, Bool.false_eq_true, Nat.le_refl, true_and, and_true, true_or, or_true, false_or, or_false, false_and, and_false, qEq, qNe, qLt, qGe, qGt, qLe, rD_tb1 (VR_T h), rD_of (d_at_t h hib), rD_of (d_bc _ _), bc_nI hW8, VR_T h, VR_s h, e1, e2, all_n h8, e3, not_true, nI_shl i8, d1, d2, b3, d3, not_false_eq_true]
    · have d1 := b1.mpr c1
      simp only [D_X10_songMinutes, B_X10_songMinutes, ↓rE_eK, ↓rE_eLi, ↓rE_eLj, ↓rE_eLa, ↓rE_eU, ↓rE_eB, ↓rE_eG, ↓rE_eIF, ↓rE_eAI, ↓rE_eAX, ↓rE_eAJ, ↓rE_eAR, ↓rE_eLen, ↓rE_eSI, ↓rE_eC, ↓rE_eCall, ↓rE_eNew, ↓rE_eNewA, ↓rE_eInst, ↓rC_cI, ↓rC_cZ0, ↓rC_cN, ↓rC_cNot, ↓rC_cAnd, ↓rC_cOr, ↓rA_aN, ↓rA_aC, ↓rS_sP, ↓rS_sUF, ↓rS_sAI, ↓rS_sAJ, ↓rS_sAR, ↓rS_sUA, ↓rS_sCall, ↓rS_sObj, ↓rS_sSi, ↓rS_sSa, ↓rS_sSj, ↓rS_sInc, ↓rS_sSkip, ↓rS_sSeq, ↓rS_sIf, ↓rS_sRetI, ↓rS_sRetJ, ↓rS_sRetA, ↓rS_sRetV, ↓rS_sSw, ↓rD_meth, ↓rD_on, ↓kR_ref, ↓kI_int, ↓kJ_long, ↓kN_null, ↓kN_ref, ↓kN_rf, ↓kQ_ref, ↓kQ_null, ↓kQ_rf, o1_i, o1ij_i, o1ji_i, o2_i, o2d_i, o2j_i, o2ji_i, o2c_i, fv_0, fv_1, fv_2, fv_3, pf_0, pf_2, pf_3, pf_4, rf_s, rf_n, is_self, ge_0, ge_s, ge_n, gd_s, gd_n, se_0, se_s, ag_0, ex_n, ex_i, ex_r, ex_0, ex_j, ex_q, ap_c, ap_n, List.append_nil, ln_c, ln_n, rp_0, rp_s, rt_0, rt_1, rt_20, rt_21, rt_2, rt_3, rt_4, rt_4n, rt_4q, nl_0, nl_1, nl_2, nl_3, nl_4, nl_5, nl_6, nl_7, nl_8, nl_9, nlB_i, nlB_r, nlB_n, nlB_f, nlB_q, ↓reduceIte, reduceCtorEq, Nat.reduceAdd, Nat.reduceSub, Nat.reduceEqDiff, Nat.reduceLeDiff, Nat.reduceBEq, ite_true, ite_false, dt_t, Bool.not_true, Bool.not_false, Bool.false_eq_true, Nat.le_refl, true_and, and_true, true_or, or_true, false_or, or_false, false_and, and_false, qEq, qNe, qLt, qGe, qGt, qLe, rD_tb1 (VR_T h), rD_of (d_at_t h hib), rD_of (d_bc _ _), bc_nI hW8, VR_T h, VR_s h, e1, e2, all_n h8, e3, not_true, nI_shl i8, d1]
