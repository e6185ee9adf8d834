/-! The class's reckoner: weigh, reckonSet, reckon. -/
theorem d_min2 {a b : Nat} (ha : a < 2147483648) (hb : b < 2147483648) (σ : pm_H) : D_min [.int (nI a), .int (nI b)] σ = some (some (.int (nI (min a b))), σ) := by
  show some (some (Value.int (if nI b < nI a then nI b else nI a)), σ) = _
  by_cases h : b < a
  · rw [if_pos (by rw [nI_lt' (by omega) (by omega)]; exact h), Nat.min_eq_right (by omega)]
  · rw [if_neg (by rw [nI_lt' (by omega) (by omega)]; exact h), Nat.min_eq_left (by omega)]
theorem st5_T (σ : pm_H) (A : Nat) (x s r b y : Int32) : pT (st5 σ A x s r b y) = pT σ := rfl
theorem st5_L (σ : pm_H) (A : Nat) (x s r b y : Int32) : pL (st5 σ A x s r b y) = pL σ := rfl
theorem st5_R (σ : pm_H) (A : Nat) (x s r b y : Int32) : pR (st5 σ A x s r b y) = pR σ := rfl
/-- the tables at B -/
def T5 (σ : pm_H) (M S R B Y : Nat → Nat) (C : Nat) : Prop := (pI σ 20 C = nI (M C) ∧ M C ≤ 1000000 ∧ (M C < 1000000 → M C ≤ 1600)) ∧ (pI σ 21 C = nI (S C) ∧ S C ≤ 8) ∧ (pI σ 22 C = nI (R C) ∧ R C ≤ 1000000) ∧ (pI σ 23 C = nI (B C) ∧ B C < 256) ∧ (pI σ 24 C = nI (Y C) ∧ Y C < 256)
theorem cd_X {N : Nat → Nat} {V : Nat → Int32} {L U A w : Nat} (hA : A < 256) (hv : vlA L w = true) (hwA : sub w A) (hpos : 0 < mxA N w 8) (s : Nat) : cdB (lnA N L) (sgA N V L) A s w = true ↔ (abN V (mxA N w 8) 8 &&& sd A w).testBit s = true := by
  have hl : lnA N L w = mxA N w 8 := by unfold lnA; rw [if_pos hv]
  rw [cd_iff, Nat.testBit_and, Bool.and_eq_true, abN_bit, sd_bit_t]
  unfold sgA
  rw [hl, decide_eq_true_eq]
  constructor
  · rintro ⟨h1, h2, h3, h4, h5, h6⟩
    exact ⟨⟨bitlt (n := 8) hA h1, h6⟩, h1, h2⟩
  · rintro ⟨⟨h1, h2⟩, h3, h4⟩
    exact ⟨h3, h4, (vlA_iff.mp hv).1, hwA, hpos, h2⟩
set_option maxRecDepth 20000 in
theorem d_weigh {σ : pm_H} (hS : Sh σ) {N : Nat → Nat} {V : Nat → Int32} {L U A w x s' r b y : Nat} {M S R B Y : Nat → Nat} (hU : U < 256) (hN : ∀ i, i < 8 → N i ≤ 200) (hpos : 0 < mxA N w 8) (hAU : sub A U) (hv : vlA L w = true) (hwA : sub w A) (h18 : pI σ 18 w = nI (mxA N w 8)) (h19 : pI σ 19 w = nI (abN V (mxA N w 8) 8)) (hT : ∀ C, C < A → sub C U → T5 σ M S R B Y C) (h : CWi (lnA N L) (sgA N V L) M S R B Y A w x s' r b y) : ∃ x2 s2 r2 b2 y2, D_X3_weigh [.ref 15, .int (nI A), .int (nI w)] (st5 σ A (nI x) (nI s') (nI r) (nI b) (nI y)) = some (none, st5 σ A (nI x2) (nI s2) (nI r2) (nI b2) (nI y2)) ∧ CWi (lnA N L) (sgA N V L) M S R B Y A (w + 1) x2 s2 r2 b2 y2 := by
  have hA8 : A < 256 := by have := sub_le hAU; omega
  have h0w := (vlA_iff.mp hv).1
  have hw8 : w < 256 := by have := sub_le hwA; omega
  have hl : lnA N L w = mxA N w 8 := by unfold lnA; rw [if_pos hv]
  obtain ⟨m, em⟩ : ∃ m, mxA N w 8 = m := ⟨_, rfl⟩
  have hm200 : m ≤ 200 := by rw [← em]; exact mxA_le hN w 8 (Nat.le_refl _)
  have hlt := sd_lt' h0w hwA
  obtain ⟨C, eC⟩ : ∃ C, sd A w = C := ⟨_, rfl⟩
  have hC8 : C < 256 := by omega
  obtain ⟨⟨a1, a2, a3⟩, ⟨a4, a5⟩, ⟨a6, a7⟩, ⟨a8, a9⟩, ⟨a10, a11⟩⟩ := hT C (by omega) (by rw [← eC]; exact sub_tr (sd_sub A w) hAU)
  obtain ⟨X, eX⟩ : ∃ X, abN V m 8 &&& C = X := ⟨_, rfl⟩
  have hX8 : X < 256 := by rw [← eX]; have := Nat.and_le_right (n := abN V m 8) (m := C); omega
  have hX : ∀ s, cdB (lnA N L) (sgA N V L) A s w = true ↔ X.testBit s = true := fun s => by rw [cd_X (U := U) hA8 hv hwA hpos s, em, eC, eX]
  rw [em] at hl h18 h19
  have hpcX := pc_le (A := X)
  obtain ⟨⟨x6, -⟩, ⟨y8, -⟩, ⟨s8, b8, r6⟩, -⟩ := id h
  have i18 : ∀ {x s r b y : Int32}, pI (st5 σ A x s r b y) 18 w = nI m := fun {x s r b y} => by rw [st5_I _ _ _ _ _ _ _ (by omega)]; exact h18
  have i19 : ∀ {x s r b y : Int32}, pI (st5 σ A x s r b y) 19 w = nI (abN V m 8) := fun {x s r b y} => by rw [st5_I _ _ _ _ _ _ _ (by omega)]; exact h19
  have i20 : ∀ {x s r b y : Int32}, pI (st5 σ A x s r b y) 20 C = nI (M C) := fun {x s r b y} => by rw [st5_I _ _ _ _ _ _ _ (by omega)]; exact a1
  have i21 : ∀ {x s r b y : Int32}, pI (st5 σ A x s r b y) 21 C = nI (S C) := fun {x s r b y} => by rw [st5_I _ _ _ _ _ _ _ (by omega)]; exact a4
  have i22 : ∀ {x s r b y : Int32}, pI (st5 σ A x s r b y) 22 C = nI (R C) := fun {x s r b y} => by rw [st5_I _ _ _ _ _ _ _ (by omega)]; exact a6
  have i23 : ∀ {x s r b y : Int32}, pI (st5 σ A x s r b y) 23 C = nI (B C) := fun {x s r b y} => by rw [st5_I _ _ _ _ _ _ _ (by omega)]; exact a8
  have i24 : ∀ {x s r b y : Int32}, pI (st5 σ A x s r b y) 24 C = nI (Y C) := fun {x s r b y} => by rw [st5_I _ _ _ _ _ _ _ (by omega)]; exact a10
  have j20 : ∀ {x s r b y : Int32}, pI (st5 σ A x s r b y) 20 A = x := fun {x s r b y} => (st5_a σ A x s r b y).1
  have j21 : ∀ {x s r b y : Int32}, pI (st5 σ A x s r b y) 21 A = s := fun {x s r b y} => (st5_a σ A x s r b y).2.1
  have j22 : ∀ {x s r b y : Int32}, pI (st5 σ A x s r b y) 22 A = r := fun {x s r b y} => (st5_a σ A x s r b y).2.2.1
  have j23 : ∀ {x s r b y : Int32}, pI (st5 σ A x s r b y) 23 A = b := fun {x s r b y} => (st5_a σ A x s r b y).2.2.2.1
  have j24 : ∀ {x s r b y : Int32}, pI (st5 σ A x s r b y) 24 A = y := fun {x s r b y} => (st5_a σ A x s r b y).2.2.2.2
  have bA := ib_nI hA8 (show (256 : Nat) ≤ 1000000 by decide)
  have cA := nI_cl (show A < 2147483648 by omega)
  have bw := ib_nI hw8 (show (256 : Nat) ≤ 1000000 by decide)
  have cw := nI_cl (show w < 2147483648 by omega)
  have bC := ib_nI hC8 (show (256 : Nat) ≤ 1000000 by decide)
  have cC := nI_cl (show C < 2147483648 by omega)
  have esd : nI A &&& (nI w ^^^ (-1)) = nI C := by rw [nI_sdx, eC]
  have eand : nI (abN V m 8) &&& nI C = nI X := by rw [nI_and, eX]
  have hp0 : (nI (pc X) = 0) = (pc X = 0) := by have := nI_inj (a := pc X) (b := 0) (by omega) (by decide); rw [nI_0] at this; exact this
  have hM6 : (nI (M C) = 1000000) = (M C = 1000000) := nI_inj (b := 1000000) (by omega) (by decide)
  by_cases hX0 : X = 0
  · have t0 : (nI (pc X) = 0) = True := by rw [hp0, pc0 hX8]; exact eq_true hX0
    refine ⟨x, s', r, b, y, ?_, CW_skip h (fun s q => ?_)⟩
    · refine rD_un.trans ?_
      simp only [D_X3_weigh, B_X3_weigh, ↓rE_eK, ↓rE_eLi, ↓rE_eLj, ↓rE_eLa, ↓rE_eU, ↓rE_eB, ↓rE_eG, ↓rE_eIF, ↓rE_eAI, ↓rE_eAX, ↓rE_eAJ, ↓rE_eAR, ↓rE_eLen, ↓rE_eSI, ↓rE_eC, ↓rE_eCall, ↓rE_eNew, ↓rE_eNewA, ↓rE_eInst, ↓rC_cI, ↓rC_cZ0, ↓rC_cN, ↓rC_cNot, ↓rC_cAnd, ↓rC_cOr, ↓rA_aN, ↓rA_aC, ↓rS_sP, ↓rS_sUF, ↓rS_sAI, ↓rS_sAJ, ↓rS_sAR, ↓rS_sUA, ↓rS_sCall, ↓rS_sObj, ↓rS_sSi, ↓rS_sSa, ↓rS_sSj, ↓rS_sInc, ↓rS_sSkip, ↓rS_sSeq, ↓rS_sIf, ↓rS_sRetI, ↓rS_sRetJ, ↓rS_sRetA, ↓rS_sRetV, ↓rS_sSw, ↓rD_meth, ↓rD_on, ↓kR_ref, ↓kI_int, ↓kJ_long, ↓kN_null, ↓kN_ref, ↓kN_rf, ↓kQ_ref, ↓kQ_null, ↓kQ_rf, o1_i, o1ij_i, o1ji_i, o2_i, o2d_i, o2j_i, o2ji_i, o2c_i, fv_0, fv_1, fv_2, fv_3, pf_0, pf_2, pf_3, pf_4, rf_s, rf_n, is_self, ge_0, ge_s, ge_n, gd_s, gd_n, se_0, se_s, ag_0, ex_n, ex_i, ex_r, ex_0, ex_j, ex_q, ap_c, ap_n, List.append_nil, ln_c, ln_n, rp_0, rp_s, rt_0, rt_1, rt_20, rt_21, rt_2, rt_3, rt_4, rt_4n, rt_4q, nl_0, nl_1, nl_2, nl_3, nl_4, nl_5, nl_6, nl_7, nl_8, nl_9, nlB_i, nlB_r, nlB_n, nlB_f, nlB_q, ↓reduceIte, reduceCtorEq, Nat.reduceAdd, Nat.reduceSub, Nat.reduceEqDiff, Nat.reduceLeDiff, Nat.reduceBEq, ite_true, ite_false, dt_t, Bool.not_true, Bool.not_false, Bool.false_eq_true, Nat.le_refl, true_and, and_true, true_or, or_true, false_or, or_false, false_and, and_false, qEq, qNe, qLt, qGe, qGt, qLe, esd, st5_T, st5_L, st5_R, sT_11 hS, sT_12 hS, sT_13 hS, sT_14 hS, sT_15 hS, sT_16 hS, sT_17 hS, sT_18 hS, sT_19 hS, sT_20 hS, sT_21 hS, sT_22 hS, sT_23 hS, sT_24 hS, sT_25 hS, sT_26 hS, sT_27 hS, sT_28 hS, sT_29 hS, sT_30 hS, sT_31 hS, sT_32 hS, sT_33 hS, sT_34 hS, sL_13 hS, sL_14 hS, sL_16 hS, sL_17 hS, sL_18 hS, sL_19 hS, sL_20 hS, sL_21 hS, sL_22 hS, sL_23 hS, sL_24 hS, sL_25 hS, sL_26 hS, sL_28 hS, sL_30 hS, sL_31 hS, sL_32 hS, sL_33 hS, sL_34 hS, sR_11_2 hS, sR_11_3 hS, sR_11_4 hS, sR_11_5 hS, sR_11_7 hS, sR_11_8 hS, sR_11_9 hS, sR_27_0 hS, sR_29_0 hS, sR_15_0 hS, sR_15_3 hS, sR_15_5 hS, sR_15_6 hS, sR_15_7 hS, sR_15_8 hS, sR_15_9 hS, sR_15_10 hS, sR_15_11 hS, sR_15_12 hS, sR_15_13 hS, bw, cw, i19, eand, rD_of (d_bc _ _), bc_nI hX8, t0]
    · have := (hX s).mp q
      rw [hX0, Nat.zero_testBit] at this; cases this
  · have hXp : ¬ pc X = 0 := by rw [pc0 hX8]; exact hX0
    obtain ⟨s0, hs0⟩ := ne0_bit (show 0 < X by omega)
    have hcd := (hX s0).mpr hs0
    by_cases hMC : M C = 1000000
    · have t6 : (nI (M C) = 1000000) = True := by rw [hM6]; exact eq_true hMC
      refine ⟨x, s', r, b, y, ?_, CW_skip h (fun s q => ⟨by rw [eC]; omega, by rw [hl]; omega⟩)⟩
      refine rD_un.trans ?_
      simp only [D_X3_weigh, B_X3_weigh, ↓rE_eK, ↓rE_eLi, ↓rE_eLj, ↓rE_eLa, ↓rE_eU, ↓rE_eB, ↓rE_eG, ↓rE_eIF, ↓rE_eAI, ↓rE_eAX, ↓rE_eAJ, ↓rE_eAR, ↓rE_eLen, ↓rE_eSI, ↓rE_eC, ↓rE_eCall, ↓rE_eNew, ↓rE_eNewA, ↓rE_eInst, ↓rC_cI, ↓rC_cZ0, ↓rC_cN, ↓rC_cNot, ↓rC_cAnd, ↓rC_cOr, ↓rA_aN, ↓rA_aC, ↓rS_sP, ↓rS_sUF, ↓rS_sAI, ↓rS_sAJ, ↓rS_sAR, ↓rS_sUA, ↓rS_sCall, ↓rS_sObj, ↓rS_sSi, ↓rS_sSa, ↓rS_sSj, ↓rS_sInc, ↓rS_sSkip, ↓rS_sSeq, ↓rS_sIf, ↓rS_sRetI, ↓rS_sRetJ, ↓rS_sRetA, ↓rS_sRetV, ↓rS_sSw, ↓rD_meth, ↓rD_on, ↓kR_ref, ↓kI_int, ↓kJ_long, ↓kN_null, ↓kN_ref, ↓kN_rf, ↓kQ_ref, ↓kQ_null, ↓kQ_rf, o1_i, o1ij_i, o1ji_i, o2_i, o2d_i, o2j_i, o2ji_i, o2c_i, fv_0, fv_1, fv_2, fv_3, pf_0, pf_2, pf_3, pf_4, rf_s, rf_n, is_self, ge_0, ge_s, ge_n, gd_s, gd_n, se_0, se_s, ag_0, ex_n, ex_i, ex_r, ex_0, ex_j, ex_q, ap_c, ap_n, List.append_nil, ln_c, ln_n, rp_0, rp_s, rt_0, rt_1, rt_20, rt_21, rt_2, rt_3, rt_4, rt_4n, rt_4q, nl_0, nl_1, nl_2, nl_3, nl_4, nl_5, nl_6, nl_7, nl_8, nl_9, nlB_i, nlB_r, nlB_n, nlB_f, nlB_q, ↓reduceIte, reduceCtorEq, Nat.reduceAdd, Nat.reduceSub, Nat.reduceEqDiff, Nat.reduceLeDiff, Nat.reduceBEq, ite_true, ite_false, dt_t, Bool.not_true, Bool.not_false, Bool.false_eq_true, Nat.le_refl, true_and, and_true, true_or, or_true, false_or, or_false, false_and, and_false, qEq, qNe, qLt, qGe, qGt, qLe, esd, st5_T, st5_L, st5_R, sT_11 hS, sT_12 hS, sT_13 hS, sT_14 hS, sT_15 hS, sT_16 hS, sT_17 hS, sT_18 hS, sT_19 hS, sT_20 hS, sT_21 hS, sT_22 hS, sT_23 hS, sT_24 hS, sT_25 hS, sT_26 hS, sT_27 hS, sT_28 hS, sT_29 hS, sT_30 hS, sT_31 hS, sT_32 hS, sT_33 hS, sT_34 hS, sL_13 hS, sL_14 hS, sL_16 hS, sL_17 hS, sL_18 hS, sL_19 hS, sL_20 hS, sL_21 hS, sL_22 hS, sL_23 hS, sL_24 hS, sL_25 hS, sL_26 hS, sL_28 hS, sL_30 hS, sL_31 hS, sL_32 hS, sL_33 hS, sL_34 hS, sR_11_2 hS, sR_11_3 hS, sR_11_4 hS, sR_11_5 hS, sR_11_7 hS, sR_11_8 hS, sR_11_9 hS, sR_27_0 hS, sR_29_0 hS, sR_15_0 hS, sR_15_3 hS, sR_15_5 hS, sR_15_6 hS, sR_15_7 hS, sR_15_8 hS, sR_15_9 hS, sR_15_10 hS, sR_15_11 hS, sR_15_12 hS, sR_15_13 hS, bw, cw, i19, eand, rD_of (d_bc _ _), bc_nI hX8, hp0, hXp, bC, cC, i20, t6]
    · have hMlt : M C < 1000000 := by omega
      have hMs := a3 hMlt
      have hMlt' : M (sd A w) < 1000000 := by rw [eC]; exact hMlt
      have hY' : Y (sd A w) < 256 := by rw [eC]; exact a11
      have hB' : B (sd A w) < 256 := by rw [eC]; exact a9
      have hgt : (nI x < nI (m + M C)) = (x < m + M C) := nI_lt' (by omega) (by omega)
      have hltx : (nI (m + M C) < nI x) = (m + M C < x) := nI_lt' (by omega) (by omega)
      by_cases c1 : x < m + M C
      · have hcw := CW_gt h hcd hMlt' hY' (by rw [hl, eC]; exact c1)
        rw [eC] at hcw
        refine ⟨x, s', r, b, y ||| Y C, ?_, hcw⟩
        refine rD_un.trans ?_
        simp only [D_X3_weigh, B_X3_weigh, ↓rE_eK, ↓rE_eLi, ↓rE_eLj, ↓rE_eLa, ↓rE_eU, ↓rE_eB, ↓rE_eG, ↓rE_eIF, ↓rE_eAI, ↓rE_eAX, ↓rE_eAJ, ↓rE_eAR, ↓rE_eLen, ↓rE_eSI, ↓rE_eC, ↓rE_eCall, ↓rE_eNew, ↓rE_eNewA, ↓rE_eInst, ↓rC_cI, ↓rC_cZ0, ↓rC_cN, ↓rC_cNot, ↓rC_cAnd, ↓rC_cOr, ↓rA_aN, ↓rA_aC, ↓rS_sP, ↓rS_sUF, ↓rS_sAI, ↓rS_sAJ, ↓rS_sAR, ↓rS_sUA, ↓rS_sCall, ↓rS_sObj, ↓rS_sSi, ↓rS_sSa, ↓rS_sSj, ↓rS_sInc, ↓rS_sSkip, ↓rS_sSeq, ↓rS_sIf, ↓rS_sRetI, ↓rS_sRetJ, ↓rS_sRetA, ↓rS_sRetV, ↓rS_sSw, ↓rD_meth, ↓rD_on, ↓kR_ref, ↓kI_int, ↓kJ_long, ↓kN_null, ↓kN_ref, ↓kN_rf, ↓kQ_ref, ↓kQ_null, ↓kQ_rf, o1_i, o1ij_i, o1ji_i, o2_i, o2d_i, o2j_i, o2ji_i, o2c_i, fv_0, fv_1, fv_2, fv_3, pf_0, pf_2, pf_3, pf_4, rf_s, rf_n, is_self, ge_0, ge_s, ge_n, gd_s, gd_n, se_0, se_s, ag_0, ex_n, ex_i, ex_r, ex_0, ex_j, ex_q, ap_c, ap_n, List.append_nil, ln_c, ln_n, rp_0, rp_s, rt_0, rt_1, rt_20, rt_21, rt_2, rt_3, rt_4, rt_4n, rt_4q, nl_0, nl_1, nl_2, nl_3, nl_4, nl_5, nl_6, nl_7, nl_8, nl_9, nlB_i, nlB_r, nlB_n, nlB_f, nlB_q, ↓reduceIte, reduceCtorEq, Nat.reduceAdd, Nat.reduceSub, Nat.reduceEqDiff, Nat.reduceLeDiff, Nat.reduceBEq, ite_true, ite_false, dt_t, Bool.not_true, Bool.not_false, Bool.false_eq_true, Nat.le_refl, true_and, and_true, true_or, or_true, false_or, or_false, false_and, and_false, qEq, qNe, qLt, qGe, qGt, qLe, esd, st5_T, st5_L, st5_R, sT_11 hS, sT_12 hS, sT_13 hS, sT_14 hS, sT_15 hS, sT_16 hS, sT_17 hS, sT_18 hS, sT_19 hS, sT_20 hS, sT_21 hS, sT_22 hS, sT_23 hS, sT_24 hS, sT_25 hS, sT_26 hS, sT_27 hS, sT_28 hS, sT_29 hS, sT_30 hS, sT_31 hS, sT_32 hS, sT_33 hS, sT_34 hS, sL_13 hS, sL_14 hS, sL_16 hS, sL_17 hS, sL_18 hS, sL_19 hS, sL_20 hS, sL_21 hS, sL_22 hS, sL_23 hS, sL_24 hS, sL_25 hS, sL_26 hS, sL_28 hS, sL_30 hS, sL_31 hS, sL_32 hS, sL_33 hS, sL_34 hS, sR_11_2 hS, sR_11_3 hS, sR_11_4 hS, sR_11_5 hS, sR_11_7 hS, sR_11_8 hS, sR_11_9 hS, sR_27_0 hS, sR_29_0 hS, sR_15_0 hS, sR_15_3 hS, sR_15_5 hS, sR_15_6 hS, sR_15_7 hS, sR_15_8 hS, sR_15_9 hS, sR_15_10 hS, sR_15_11 hS, sR_15_12 hS, sR_15_13 hS, bw, cw, i19, eand, rD_of (d_bc _ _), bc_nI hX8, hp0, hXp, bC, cC, i20, hM6, hMC, bA, cA, i24, j24, nI_or, st5_24, i18, nI_ad, j20, hgt, c1]
      · have hmul : pc X * R C ≤ 8 * 1000000 := Nat.mul_le_mul hpcX a7
        obtain ⟨K, eK⟩ : ∃ K, pc X * R C = K := ⟨_, rfl⟩
        have emul : nI (pc X) * nI (R C) = nI K := by rw [nI_ml, eK]
        rw [eK] at hmul
        have eS1 : nI (S C) + 1 = nI (S C + 1) := nI_1 _
        by_cases c2 : m + M C < x
        · have hcw := CW_lt hX8 hX h hcd hMlt' hY' hB' (by rw [hl, eC]; exact c2)
          rw [eC, hl, eK] at hcw
          have dm8 : ∀ t : pm_H, D_min [.int 8, .int (nI (S C + 1))] t = some (some (.int (nI (min 8 (S C + 1)))), t) := fun t => d_min2 (a := 8) (by decide) (by omega) t
          have e0 : (0 : Int32) + nI K = nI (0 + K) := nI_ad 0 K
          have dm6 : ∀ t : pm_H, D_min [.int 1000000, .int (nI (0 + K))] t = some (some (.int (nI (min 1000000 (0 + K)))), t) := fun t => d_min2 (a := 1000000) (by decide) (by omega) t
          have eor : (0 : Int32) ||| nI (B C) = nI (0 ||| B C) := nI_or 0 (B C)
          refine ⟨m + M C, min 8 (S C + 1), min 1000000 (0 + K), 0 ||| B C, y ||| Y C, ?_, hcw⟩
          refine rD_un.trans ?_
          simp only [D_X3_weigh, B_X3_weigh, ↓rE_eK, ↓rE_eLi, ↓rE_eLj, ↓rE_eLa, ↓rE_eU, ↓rE_eB, ↓rE_eG, ↓rE_eIF, ↓rE_eAI, ↓rE_eAX, ↓rE_eAJ, ↓rE_eAR, ↓rE_eLen, ↓rE_eSI, ↓rE_eC, ↓rE_eCall, ↓rE_eNew, ↓rE_eNewA, ↓rE_eInst, ↓rC_cI, ↓rC_cZ0, ↓rC_cN, ↓rC_cNot, ↓rC_cAnd, ↓rC_cOr, ↓rA_aN, ↓rA_aC, ↓rS_sP, ↓rS_sUF, ↓rS_sAI, ↓rS_sAJ, ↓rS_sAR, ↓rS_sUA, ↓rS_sCall, ↓rS_sObj, ↓rS_sSi, ↓rS_sSa, ↓rS_sSj, ↓rS_sInc, ↓rS_sSkip, ↓rS_sSeq, ↓rS_sIf, ↓rS_sRetI, ↓rS_sRetJ, ↓rS_sRetA, ↓rS_sRetV, ↓rS_sSw, ↓rD_meth, ↓rD_on, ↓kR_ref, ↓kI_int, ↓kJ_long, ↓kN_null, ↓kN_ref, ↓kN_rf, ↓kQ_ref, ↓kQ_null, ↓kQ_rf, o1_i, o1ij_i, o1ji_i, o2_i, o2d_i, o2j_i, o2ji_i, o2c_i, fv_0, fv_1, fv_2, fv_3, pf_0, pf_2, pf_3, pf_4, rf_s, rf_n, is_self, ge_0, ge_s, ge_n, gd_s, gd_n, se_0, se_s, ag_0, ex_n, ex_i, ex_r, ex_0, ex_j, ex_q, ap_c, ap_n, List.append_nil, ln_c, ln_n, rp_0, rp_s, rt_0, rt_1, rt_20, rt_21, rt_2, rt_3, rt_4, rt_4n, rt_4q, nl_0, nl_1, nl_2, nl_3, nl_4, nl_5, nl_6, nl_7, nl_8, nl_9, nlB_i, nlB_r, nlB_n, nlB_f, nlB_q, ↓reduceIte, reduceCtorEq, Nat.reduceAdd, Nat.reduceSub, Nat.reduceEqDiff, Nat.reduceLeDiff, Nat.reduceBEq, ite_true, ite_false, dt_t, Bool.not_true, Bool.not_false, Bool.false_eq_true, Nat.le_refl, true_and, and_true, true_or, or_true, false_or, or_false, false_and, and_false, qEq, qNe, qLt, qGe, qGt, qLe, esd, st5_T, st5_L, st5_R, sT_11 hS, sT_12 hS, sT_13 hS, sT_14 hS, sT_15 hS, sT_16 hS, sT_17 hS, sT_18 hS, sT_19 hS, sT_20 hS, sT_21 hS, sT_22 hS, sT_23 hS, sT_24 hS, sT_25 hS, sT_26 hS, sT_27 hS, sT_28 hS, sT_29 hS, sT_30 hS, sT_31 hS, sT_32 hS, sT_33 hS, sT_34 hS, sL_13 hS, sL_14 hS, sL_16 hS, sL_17 hS, sL_18 hS, sL_19 hS, sL_20 hS, sL_21 hS, sL_22 hS, sL_23 hS, sL_24 hS, sL_25 hS, sL_26 hS, sL_28 hS, sL_30 hS, sL_31 hS, sL_32 hS, sL_33 hS, sL_34 hS, sR_11_2 hS, sR_11_3 hS, sR_11_4 hS, sR_11_5 hS, sR_11_7 hS, sR_11_8 hS, sR_11_9 hS, sR_27_0 hS, sR_29_0 hS, sR_15_0 hS, sR_15_3 hS, sR_15_5 hS, sR_15_6 hS, sR_15_7 hS, sR_15_8 hS, sR_15_9 hS, sR_15_10 hS, sR_15_11 hS, sR_15_12 hS, sR_15_13 hS, bw, cw, i19, eand, rD_of (d_bc _ _), bc_nI hX8, hp0, hXp, bC, cC, i20, hM6, hMC, bA, cA, i24, j24, nI_or, st5_24, i18, nI_ad, j20, hgt, c1, hltx, c2, st5_20, st5_21, st5_22, st5_23, j21, i21, eS1, rD_of (dm8 _), j22, i22, emul, e0, rD_of (dm6 _), j23, i23, eor]
        · have he : m + M C = x := by omega
          have hcw := CW_eq hX8 hX h hcd hMlt' hY' hB' (by rw [hl, eC]; exact he) (by omega)
          rw [eC, eK] at hcw
          have dm8 : ∀ t : pm_H, D_min [.int (nI s'), .int (nI (S C + 1))] t = some (some (.int (nI (min s' (S C + 1)))), t) := fun t => d_min2 (by omega) (by omega) t
          have dm6 : ∀ t : pm_H, D_min [.int 1000000, .int (nI (r + K))] t = some (some (.int (nI (min 1000000 (r + K)))), t) := fun t => d_min2 (a := 1000000) (by decide) (by omega) t
          refine ⟨x, min s' (S C + 1), min 1000000 (r + K), b ||| B C, y ||| Y C, ?_, hcw⟩
          refine rD_un.trans ?_
          simp only [D_X3_weigh, B_X3_weigh, ↓rE_eK, ↓rE_eLi, ↓rE_eLj, ↓rE_eLa, ↓rE_eU, ↓rE_eB, ↓rE_eG, ↓rE_eIF, ↓rE_eAI, ↓rE_eAX, ↓rE_eAJ, ↓rE_eAR, ↓rE_eLen, ↓rE_eSI, ↓rE_eC, ↓rE_eCall, ↓rE_eNew, ↓rE_eNewA, ↓rE_eInst, ↓rC_cI, ↓rC_cZ0, ↓rC_cN, ↓rC_cNot, ↓rC_cAnd, ↓rC_cOr, ↓rA_aN, ↓rA_aC, ↓rS_sP, ↓rS_sUF, ↓rS_sAI, ↓rS_sAJ, ↓rS_sAR, ↓rS_sUA, ↓rS_sCall, ↓rS_sObj, ↓rS_sSi, ↓rS_sSa, ↓rS_sSj, ↓rS_sInc, ↓rS_sSkip, ↓rS_sSeq, ↓rS_sIf, ↓rS_sRetI, ↓rS_sRetJ, ↓rS_sRetA, ↓rS_sRetV, ↓rS_sSw, ↓rD_meth, ↓rD_on, ↓kR_ref, ↓kI_int, ↓kJ_long, ↓kN_null, ↓kN_ref, ↓kN_rf, ↓kQ_ref, ↓kQ_null, ↓kQ_rf, o1_i, o1ij_i, o1ji_i, o2_i, o2d_i, o2j_i, o2ji_i, o2c_i, fv_0, fv_1, fv_2, fv_3, pf_0, pf_2, pf_3, pf_4, rf_s, rf_n, is_self, ge_0, ge_s, ge_n, gd_s, gd_n, se_0, se_s, ag_0, ex_n, ex_i, ex_r, ex_0, ex_j, ex_q, ap_c, ap_n, List.append_nil, ln_c, ln_n, rp_0, rp_s, rt_0, rt_1, rt_20, rt_21, rt_2, rt_3, rt_4, rt_4n, rt_4q, nl_0, nl_1, nl_2, nl_3, nl_4, nl_5, nl_6, nl_7, nl_8, nl_9, nlB_i, nlB_r, nlB_n, nlB_f, nlB_q, ↓reduceIte, reduceCtorEq, Nat.reduceAdd, Nat.reduceSub, Nat.reduceEqDiff, Nat.reduceLeDiff, Nat.reduceBEq, ite_true, ite_false, dt_t, Bool.not_true, Bool.not_false, Bool.false_eq_true, Nat.le_refl, true_and, and_true, true_or, or_true, false_or, or_false, false_and, and_false, qEq, qNe, qLt, qGe, qGt, qLe, esd, st5_T, st5_L, st5_R, sT_11 hS, sT_12 hS, sT_13 hS, sT_14 hS, sT_15 hS, sT_16 hS, sT_17 hS, sT_18 hS, sT_19 hS, sT_20 hS, sT_21 hS, sT_22 hS, sT_23 hS, sT_24 hS, sT_25 hS, sT_26 hS, sT_27 hS, sT_28 hS, sT_29 hS, sT_30 hS, sT_31 hS, sT_32 hS, sT_33 hS, sT_34 hS, sL_13 hS, sL_14 hS, sL_16 hS, sL_17 hS, sL_18 hS, sL_19 hS, sL_20 hS, sL_21 hS, sL_22 hS, sL_23 hS, sL_24 hS, sL_25 hS, sL_26 hS, sL_28 hS, sL_30 hS, sL_31 hS, sL_32 hS, sL_33 hS, sL_34 hS, sR_11_2 hS, sR_11_3 hS, sR_11_4 hS, sR_11_5 hS, sR_11_7 hS, sR_11_8 hS, sR_11_9 hS, sR_27_0 hS, sR_29_0 hS, sR_15_0 hS, sR_15_3 hS, sR_15_5 hS, sR_15_6 hS, sR_15_7 hS, sR_15_8 hS, sR_15_9 hS, sR_15_10 hS, sR_15_11 hS, sR_15_12 hS, sR_15_13 hS, bw, cw, i19, eand, rD_of (d_bc _ _), bc_nI hX8, hp0, hXp, bC, cC, i20, hM6, hMC, bA, cA, i24, j24, nI_or, st5_24, i18, nI_ad, j20, hgt, c1, hltx, c2, st5_21, st5_22, st5_23, j21, i21, eS1, rD_of (dm8 _), j22, i22, emul, rD_of (dm6 _), j23, i23]
/-- who may be last, in the class -/
def baE (E A : Nat) : Nat := if A = 0 ∨ A &&& E ≠ 0 then 0 else 1000000
/-- what is asked of the tables at A -/
def c5 (ln : Nat → Nat) (sg : Nat → Nat → Bool) (E : Nat) (M S R B Y : Nat → Nat) (A : Nat) : Prop := (pc A < 2 → M A = baE E A ∧ S A = 0 ∧ R A = (if M A = 0 then 1 else 0) ∧ B A = (if M A = 0 then A else 0) ∧ Y A = B A) ∧ (2 ≤ pc A → CWi ln sg M S R B Y A 256 (M A) (S A) (R A) (B A) (Y A))
theorem cd_none {ln : Nat → Nat} {sg : Nat → Nat → Bool} {A s W : Nat} (h : A ≤ W) : cdB ln sg A s W = false := by
  cases q : cdB ln sg A s W with
  | false => rfl
  | true =>
    obtain ⟨c1, c2, c3, c4, -⟩ := cd_iff.mp q
    have h1 := sub_le c4
    have : W = A := by omega
    subst this
    exact absurd c1 c2
/-- the list of songs, with its end -/
theorem nx_ex {L U c : Nat} {v : Nat → Nat} (hU : U < 256) (v2 : ∀ k, k < c → vlU L U (v k) = true) (v3 : ∀ k l, k < l → l < c → v k < v l) (v4 : ∀ W, W < 256 → vlU L U W = true → ∃ k, k < c ∧ v k = W) : ∃ nx : Nat → Nat, (∀ k, k < c → nx k = v k) ∧ nx c = 256 ∧ (∀ W, vlU L U W = true → nx 0 ≤ W) ∧ (∀ k, k < c → nx k < nx (k + 1) ∧ ∀ W, nx k < W → W < nx (k + 1) → ¬ vlU L U W = true) ∧ ∀ k, k ≤ c → nx k ≤ 256 := by
  have hlt : ∀ W, vlU L U W = true → W < 256 := fun W q => by have := sub_le (vlU_iff.mp q).2; omega
  have mono : ∀ k l, k < c → l < c → v k < v l → k < l := fun k l hk hl q => by
    rcases Nat.lt_or_ge k l with d | d
    · exact d
    · by_cases e : k = l
      · subst e; omega
      · have := v3 l k (by omega) hk; omega
  refine ⟨fun k => if k < c then v k else 256, fun k hk => if_pos hk, if_neg (Nat.lt_irrefl c), fun W hW => ?_, fun k hk => ?_, fun k hk => ?_⟩
  · obtain ⟨k, hk, rfl⟩ := v4 W (hlt W hW) hW
    show (if 0 < c then v 0 else 256) ≤ v k
    rw [if_pos (by omega)]
    by_cases e : k = 0
    · subst e; exact Nat.le_refl _
    · exact Nat.le_of_lt (v3 0 k (by omega) hk)
  · show (if k < c then v k else 256) < (if k + 1 < c then v (k + 1) else 256) ∧ ∀ W, (if k < c then v k else 256) < W → W < (if k + 1 < c then v (k + 1) else 256) → _
    rw [if_pos hk]
    by_cases e : k + 1 < c
    · rw [if_pos e]
      refine ⟨v3 k (k + 1) (by omega) e, fun W q1 q2 q3 => ?_⟩
      obtain ⟨j, hj, rfl⟩ := v4 W (hlt W q3) q3
      have := mono k j hk hj q1
      have := mono j (k + 1) hj e q2
      omega
    · rw [if_neg e]
      refine ⟨hlt _ (v2 k hk), fun W q1 q2 q3 => ?_⟩
      obtain ⟨j, hj, rfl⟩ := v4 W q2 q3
      have := mono k j hk hj q1
      omega
  · show (if k < c then v k else 256) ≤ 256
    by_cases e : k < c
    · rw [if_pos e]; exact Nat.le_of_lt (hlt _ (v2 k e))
    · rw [if_neg e]; exact Nat.le_refl _
