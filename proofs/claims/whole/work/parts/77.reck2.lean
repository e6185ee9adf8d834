/-! The class's reckoner: reckonSet, reckon. -/
theorem cd_sdlt {ln : Nat → Nat} {sg : Nat → Nat → Bool} {A s W : Nat} (q : cdB ln sg A s W = true) : sd A W < A := by
  obtain ⟨-, -, q3, q4, -⟩ := cd_iff.mp q
  exact sd_lt' q3 q4
theorem be_ext {ln : Nat → Nat} {sg : Nat → Nat → Bool} {M M' : Nat → Nat} {A x s W : Nat} (e : ∀ D, D < A → M' D = M D) : beB ln sg M' A x s W = beB ln sg M A x s W := by
  unfold beB
  cases q : cdB ln sg A s W with
  | false => rfl
  | true => rw [e _ (cd_sdlt q)]
theorem hW_ext {ln : Nat → Nat} {sg : Nat → Nat → Bool} {M R M' R' : Nat → Nat} {A x : Nat} (e1 : ∀ D, D < A → M' D = M D) (e3 : ∀ D, D < A → R' D = R D) (W : Nat) : hW ln sg M' R' A x W = hW ln sg M R A x W := by
  unfold hW
  refine sumN_congr 8 (fun s _ => ?_)
  rw [be_ext e1]
  by_cases q : beB ln sg M A x s W = true
  · rw [if_pos q, if_pos q]; exact e3 _ (cd_sdlt (be_iff.mp q).1)
  · rw [if_neg q, if_neg q]
theorem CW_ext {ln : Nat → Nat} {sg : Nat → Nat → Bool} {M S R B Y M' S' R' B' Y' : Nat → Nat} {A w x s r b y : Nat} (h : CWi ln sg M S R B Y A w x s r b y) (e1 : ∀ D, D < A → M' D = M D) (e2 : ∀ D, D < A → S' D = S D) (e3 : ∀ D, D < A → R' D = R D) (e4 : ∀ D, D < A → B' D = B D) (e5 : ∀ D, D < A → Y' D = Y D) : CWi ln sg M' S' R' B' Y' A w x s r b y := by
  obtain ⟨⟨a1, a2, a3⟩, ⟨y1, y2⟩, c1, c2⟩ := h
  have hb : ∀ s W, beB ln sg M' A x s W = beB ln sg M A x s W := fun s W => be_ext e1
  refine ⟨⟨a1, fun s W q1 q2 => by rw [e1 _ (cd_sdlt q2)]; exact a2 s W q1 q2, ?_⟩, ⟨y1, fun p => ?_⟩, c1, fun hx => ?_⟩
  · rcases a3 with c | ⟨s, W, q1, q2, q3⟩
    · exact Or.inl c
    · exact Or.inr ⟨s, W, q1, q2, by rw [e1 _ (cd_sdlt q2)]; exact q3⟩
  · rw [y2 p]
    exact ⟨fun ⟨s, W, q1, q2, q3, q4⟩ => ⟨s, W, q1, q2, by rw [e1 _ (cd_sdlt q2)]; exact q3, by rw [e5 _ (cd_sdlt q2)]; exact q4⟩, fun ⟨s, W, q1, q2, q3, q4⟩ => ⟨s, W, q1, q2, by rw [← e1 _ (cd_sdlt q2)]; exact q3, by rw [← e5 _ (cd_sdlt q2)]; exact q4⟩⟩
  · obtain ⟨d1, d2, d3, d4⟩ := c2 hx
    have hlt : ∀ s W, beB ln sg M A x s W = true → sd A W < A := fun s W q => cd_sdlt (be_iff.mp q).1
    refine ⟨fun s W q1 q2 => ?_, ?_, fun p => ?_, ?_⟩
    · rw [hb] at q2; rw [e2 _ (hlt s W q2)]; exact d1 s W q1 q2
    · rcases d2 with c | ⟨s, W, q1, q2, q3⟩
      · exact Or.inl c
      · exact Or.inr ⟨s, W, q1, by rw [hb]; exact q2, by rw [e2 _ (hlt s W q2)]; exact q3⟩
    · rw [d3 p]
      exact ⟨fun ⟨s, W, q1, q2, q3⟩ => ⟨s, W, q1, by rw [hb]; exact q2, by rw [e4 _ (hlt s W q2)]; exact q3⟩, fun ⟨s, W, q1, q2, q3⟩ => by
        rw [hb] at q2
        exact ⟨s, W, q1, q2, by rw [← e4 _ (hlt s W q2)]; exact q3⟩⟩
    · rw [d4, sumN_congr w (fun W _ => (hW_ext (x := x) e1 e3 W).symm)]
theorem c5_ext {ln : Nat → Nat} {sg : Nat → Nat → Bool} {E : Nat} {M S R B Y M' S' R' B' Y' : Nat → Nat} {A : Nat} (h : c5 ln sg E M S R B Y A) (e1 : ∀ D, D ≤ A → M' D = M D) (e2 : ∀ D, D ≤ A → S' D = S D) (e3 : ∀ D, D ≤ A → R' D = R D) (e4 : ∀ D, D ≤ A → B' D = B D) (e5 : ∀ D, D ≤ A → Y' D = Y D) : c5 ln sg E M' S' R' B' Y' A := by
  refine ⟨fun hp => ?_, fun hp => ?_⟩
  · rw [e1 A (Nat.le_refl _), e2 A (Nat.le_refl _), e3 A (Nat.le_refl _), e4 A (Nat.le_refl _), e5 A (Nat.le_refl _)]; exact h.1 hp
  · rw [e1 A (Nat.le_refl _), e2 A (Nat.le_refl _), e3 A (Nat.le_refl _), e4 A (Nat.le_refl _), e5 A (Nat.le_refl _)]
    exact CW_ext (h.2 hp) (fun D hD => e1 D (by omega)) (fun D hD => e2 D (by omega)) (fun D hD => e3 D (by omega)) (fun D hD => e4 D (by omega)) (fun D hD => e5 D (by omega))
/-- the list of songs stands -/
def LL (σ : pm_H) (N : Nat → Nat) (V : Nat → Int32) (L U : Nat) (c : Nat) (v : Nat → Nat) : Prop := (pI σ 15 4 = nI c ∧ c ≤ 92) ∧ (∀ k, k < c → pI σ 17 k = nI (v k) ∧ vlU L U (v k) = true) ∧ (∀ k l, k < l → l < c → v k < v l) ∧ (∀ W, W < 256 → vlU L U W = true → ∃ k, k < c ∧ v k = W) ∧ ∀ W, vlU L U W = true → pI σ 18 W = nI (mxA N W 8) ∧ pI σ 19 W = nI (abN V (mxA N W 8) 8)
theorem cd_vl {N : Nat → Nat} {V : Nat → Int32} {L U A s W : Nat} (hA : sub A U) (q : cdB (lnA N L) (sgA N V L) A s W = true) : vlU L U W = true := by
  obtain ⟨-, -, -, c4, c5, -⟩ := cd_iff.mp q
  refine vlU_iff.mpr ⟨?_, sub_tr c4 hA⟩
  unfold lnA at c5
  by_cases h : vlA L W = true
  · exact h
  · rw [if_neg h] at c5; omega
set_option maxRecDepth 20000 in
theorem d_reckonSet {σ : pm_H} (hS : Sh σ) {N : Nat → Nat} {V : Nat → Int32} {E L U A c : Nat} {v : Nat → Nat} {M S R B Y : Nat → Nat} (hU : U < 256) (hE : E < 256) (hN : ∀ i, i < 8 → N i ≤ 200) (hNU : ∀ i, i < 8 → (U.testBit i = true ↔ 0 < N i)) (hL : LL σ N V L U c v) (hAU : sub A U) (hT : ∀ C, C < A → sub C U → T5 σ M S R B Y C) : ∃ x s r b y, D_X3_reckonSet [.ref 15, .int (nI A), .int (nI E)] σ = some (none, st5 σ A (nI x) (nI s) (nI r) (nI b) (nI y)) ∧ (x ≤ 1000000 ∧ s ≤ 8 ∧ r ≤ 1000000 ∧ b < 256 ∧ y < 256) ∧ (pc A < 2 → x = baE E A ∧ s = 0 ∧ r = (if x = 0 then 1 else 0) ∧ b = (if x = 0 then A else 0) ∧ y = b) ∧ (2 ≤ pc A → CWi (lnA N L) (sgA N V L) M S R B Y A 256 x s r b y) := by
  have hA8 : A < 256 := by have := sub_le hAU; omega
  obtain ⟨⟨l1, l2⟩, l3, l4, l5, l6⟩ := hL
  have bA := ib_nI hA8 (show (256 : Nat) ≤ 1000000 by decide)
  have cA := nI_cl (show A < 2147483648 by omega)
  have hz : (nI A = 0) = (A = 0) := by have := nI_inj (a := A) (b := 0) (by omega) (by decide); rw [nI_0] at this; exact this
  have hand : (nI (A &&& E) = 0) = (A &&& E = 0) := by have := nI_inj (a := A &&& E) (b := 0) (by have := Nat.and_le_left (n := A) (m := E); omega) (by decide); rw [nI_0] at this; exact this
  have ov := d_isOver hA8
  have z23 : ∀ (b : Int32) (t : pm_H), pI (uI t 23 A b) 23 A = b := fun b t => pI_uI_at _ _ _ _
  by_cases hp : pc A ≤ 1
  · have hov : (b32 (pc A ≤ 1) = 0) = False := eq_false (by rw [b32_t hp]; decide)
    by_cases he : A = 0 ∨ A &&& E ≠ 0
    · refine ⟨0, 0, 1, A, A, ?_, ⟨by omega, by omega, by omega, hA8, hA8⟩, fun _ => ⟨by unfold baE; rw [if_pos he], rfl, rfl, rfl, rfl⟩, fun q => by omega⟩
      refine rD_un.trans ?_
      have es : uI (uI (uI (uI (uI σ 20 A 0) 21 A 0) 22 A 1) 23 A (nI A)) 24 A (nI A) = st5 σ A (nI 0) (nI 0) (nI 1) (nI A) (nI A) := rfl
      by_cases h0 : A = 0
      · have t0 : (nI A = 0) = True := by rw [hz]; exact eq_true h0
        simp only [D_X3_reckonSet, B_X3_reckonSet, ↓rE_eK, ↓rE_eLi, ↓rE_eLj, ↓rE_eLa, ↓rE_eU, ↓rE_eB, ↓rE_eG, ↓rE_eIF, ↓rE_eAI, ↓rE_eAX, ↓rE_eAJ, ↓rE_eAR, ↓rE_eLen, ↓rE_eSI, ↓rE_eC, ↓rE_eCall, ↓rE_eNew, ↓rE_eNewA, ↓rE_eInst, ↓rC_cI, ↓rC_cZ0, ↓rC_cN, ↓rC_cNot, ↓rC_cAnd, ↓rC_cOr, ↓rA_aN, ↓rA_aC, ↓rS_sP, ↓rS_sUF, ↓rS_sAI, ↓rS_sAJ, ↓rS_sAR, ↓rS_sUA, ↓rS_sCall, ↓rS_sObj, ↓rS_sSi, ↓rS_sSa, ↓rS_sSj, ↓rS_sInc, ↓rS_sSkip, ↓rS_sSeq, ↓rS_sIf, ↓rS_sRetI, ↓rS_sRetJ, ↓rS_sRetA, ↓rS_sRetV, ↓rS_sSw, ↓rD_meth, ↓rD_on, ↓kR_ref, ↓kI_int, ↓kJ_long, ↓kN_null, ↓kN_ref, ↓kN_rf, ↓kQ_ref, ↓kQ_null, ↓kQ_rf, o1_i, o1ij_i, o1ji_i, o2_i, o2d_i, o2j_i, o2ji_i, o2c_i, fv_0, fv_1, fv_2, fv_3, pf_0, pf_2, pf_3, pf_4, rf_s, rf_n, is_self, ge_0, ge_s, ge_n, gd_s, gd_n, se_0, se_s, ag_0, ex_n, ex_i, ex_r, ex_0, ex_j, ex_q, ap_c, ap_n, List.append_nil, ln_c, ln_n, rp_0, rp_s, rt_0, rt_1, rt_20, rt_21, rt_2, rt_3, rt_4, rt_4n, rt_4q, nl_0, nl_1, nl_2, nl_3, nl_4, nl_5, nl_6, nl_7, nl_8, nl_9, nlB_i, nlB_r, nlB_n, nlB_f, nlB_q, ↓reduceIte, reduceCtorEq, Nat.reduceAdd, Nat.reduceSub, Nat.reduceEqDiff, Nat.reduceLeDiff, Nat.reduceBEq, ite_true, ite_false, dt_t, Bool.not_true, Bool.not_false, Bool.false_eq_true, Nat.le_refl, true_and, and_true, true_or, or_true, false_or, or_false, false_and, and_false, qEq, qNe, qLt, qGe, qGt, qLe, rD_of (ov _), hov, not_false_eq_true, t0, sT_11 hS, sT_12 hS, sT_13 hS, sT_14 hS, sT_15 hS, sT_16 hS, sT_17 hS, sT_18 hS, sT_19 hS, sT_20 hS, sT_21 hS, sT_22 hS, sT_23 hS, sT_24 hS, sT_25 hS, sT_26 hS, sT_27 hS, sT_28 hS, sT_29 hS, sT_30 hS, sT_31 hS, sT_32 hS, sT_33 hS, sT_34 hS, sL_13 hS, sL_14 hS, sL_16 hS, sL_17 hS, sL_18 hS, sL_19 hS, sL_20 hS, sL_21 hS, sL_22 hS, sL_23 hS, sL_24 hS, sL_25 hS, sL_26 hS, sL_28 hS, sL_30 hS, sL_31 hS, sL_32 hS, sL_33 hS, sL_34 hS, sR_11_2 hS, sR_11_3 hS, sR_11_4 hS, sR_11_5 hS, sR_11_7 hS, sR_11_8 hS, sR_11_9 hS, sR_27_0 hS, sR_29_0 hS, sR_15_0 hS, sR_15_3 hS, sR_15_5 hS, sR_15_6 hS, sR_15_7 hS, sR_15_8 hS, sR_15_9 hS, sR_15_10 hS, sR_15_11 hS, sR_15_12 hS, sR_15_13 hS, bA, cA, one_ne0, pT_uI, pL_uI, pR_uI, z23, es]
      · have hne : ¬ A &&& E = 0 := he.resolve_left h0
        simp only [D_X3_reckonSet, B_X3_reckonSet, ↓rE_eK, ↓rE_eLi, ↓rE_eLj, ↓rE_eLa, ↓rE_eU, ↓rE_eB, ↓rE_eG, ↓rE_eIF, ↓rE_eAI, ↓rE_eAX, ↓rE_eAJ, ↓rE_eAR, ↓rE_eLen, ↓rE_eSI, ↓rE_eC, ↓rE_eCall, ↓rE_eNew, ↓rE_eNewA, ↓rE_eInst, ↓rC_cI, ↓rC_cZ0, ↓rC_cN, ↓rC_cNot, ↓rC_cAnd, ↓rC_cOr, ↓rA_aN, ↓rA_aC, ↓rS_sP, ↓rS_sUF, ↓rS_sAI, ↓rS_sAJ, ↓rS_sAR, ↓rS_sUA, ↓rS_sCall, ↓rS_sObj, ↓rS_sSi, ↓rS_sSa, ↓rS_sSj, ↓rS_sInc, ↓rS_sSkip, ↓rS_sSeq, ↓rS_sIf, ↓rS_sRetI, ↓rS_sRetJ, ↓rS_sRetA, ↓rS_sRetV, ↓rS_sSw, ↓rD_meth, ↓rD_on, ↓kR_ref, ↓kI_int, ↓kJ_long, ↓kN_null, ↓kN_ref, ↓kN_rf, ↓kQ_ref, ↓kQ_null, ↓kQ_rf, o1_i, o1ij_i, o1ji_i, o2_i, o2d_i, o2j_i, o2ji_i, o2c_i, fv_0, fv_1, fv_2, fv_3, pf_0, pf_2, pf_3, pf_4, rf_s, rf_n, is_self, ge_0, ge_s, ge_n, gd_s, gd_n, se_0, se_s, ag_0, ex_n, ex_i, ex_r, ex_0, ex_j, ex_q, ap_c, ap_n, List.append_nil, ln_c, ln_n, rp_0, rp_s, rt_0, rt_1, rt_20, rt_21, rt_2, rt_3, rt_4, rt_4n, rt_4q, nl_0, nl_1, nl_2, nl_3, nl_4, nl_5, nl_6, nl_7, nl_8, nl_9, nlB_i, nlB_r, nlB_n, nlB_f, nlB_q, ↓reduceIte, reduceCtorEq, Nat.reduceAdd, Nat.reduceSub, Nat.reduceEqDiff, Nat.reduceLeDiff, Nat.reduceBEq, ite_true, ite_false, dt_t, Bool.not_true, Bool.not_false, Bool.false_eq_true, Nat.le_refl, true_and, and_true, true_or, or_true, false_or, or_false, false_and, and_false, qEq, qNe, qLt, qGe, qGt, qLe, rD_of (ov _), hov, not_false_eq_true, hz, h0, nI_and, hand, hne, sT_11 hS, sT_12 hS, sT_13 hS, sT_14 hS, sT_15 hS, sT_16 hS, sT_17 hS, sT_18 hS, sT_19 hS, sT_20 hS, sT_21 hS, sT_22 hS, sT_23 hS, sT_24 hS, sT_25 hS, sT_26 hS, sT_27 hS, sT_28 hS, sT_29 hS, sT_30 hS, sT_31 hS, sT_32 hS, sT_33 hS, sT_34 hS, sL_13 hS, sL_14 hS, sL_16 hS, sL_17 hS, sL_18 hS, sL_19 hS, sL_20 hS, sL_21 hS, sL_22 hS, sL_23 hS, sL_24 hS, sL_25 hS, sL_26 hS, sL_28 hS, sL_30 hS, sL_31 hS, sL_32 hS, sL_33 hS, sL_34 hS, sR_11_2 hS, sR_11_3 hS, sR_11_4 hS, sR_11_5 hS, sR_11_7 hS, sR_11_8 hS, sR_11_9 hS, sR_27_0 hS, sR_29_0 hS, sR_15_0 hS, sR_15_3 hS, sR_15_5 hS, sR_15_6 hS, sR_15_7 hS, sR_15_8 hS, sR_15_9 hS, sR_15_10 hS, sR_15_11 hS, sR_15_12 hS, sR_15_13 hS, bA, cA, one_ne0, pT_uI, pL_uI, pR_uI, z23, es]
    · refine ⟨1000000, 0, 0, 0, 0, ?_, ⟨by omega, by omega, by omega, by omega, by omega⟩, fun _ => ⟨by unfold baE; rw [if_neg he], rfl, rfl, rfl, rfl⟩, fun q => by omega⟩
      refine rD_un.trans ?_
      have es : uI (uI (uI (uI (uI σ 20 A 1000000) 21 A 0) 22 A 0) 23 A 0) 24 A 0 = st5 σ A (nI 1000000) (nI 0) (nI 0) (nI 0) (nI 0) := rfl
      have h0 : ¬ A = 0 := fun q => he (Or.inl q)
      have hne : A &&& E = 0 := by
        by_cases q : A &&& E = 0
        · exact q
        · exact absurd (Or.inr q) he
      have hne' : (nI (A &&& E) = 0) = True := by rw [hand]; exact eq_true hne
      simp only [D_X3_reckonSet, B_X3_reckonSet, ↓rE_eK, ↓rE_eLi, ↓rE_eLj, ↓rE_eLa, ↓rE_eU, ↓rE_eB, ↓rE_eG, ↓rE_eIF, ↓rE_eAI, ↓rE_eAX, ↓rE_eAJ, ↓rE_eAR, ↓rE_eLen, ↓rE_eSI, ↓rE_eC, ↓rE_eCall, ↓rE_eNew, ↓rE_eNewA, ↓rE_eInst, ↓rC_cI, ↓rC_cZ0, ↓rC_cN, ↓rC_cNot, ↓rC_cAnd, ↓rC_cOr, ↓rA_aN, ↓rA_aC, ↓rS_sP, ↓rS_sUF, ↓rS_sAI, ↓rS_sAJ, ↓rS_sAR, ↓rS_sUA, ↓rS_sCall, ↓rS_sObj, ↓rS_sSi, ↓rS_sSa, ↓rS_sSj, ↓rS_sInc, ↓rS_sSkip, ↓rS_sSeq, ↓rS_sIf, ↓rS_sRetI, ↓rS_sRetJ, ↓rS_sRetA, ↓rS_sRetV, ↓rS_sSw, ↓rD_meth, ↓rD_on, ↓kR_ref, ↓kI_int, ↓kJ_long, ↓kN_null, ↓kN_ref, ↓kN_rf, ↓kQ_ref, ↓kQ_null, ↓kQ_rf, o1_i, o1ij_i, o1ji_i, o2_i, o2d_i, o2j_i, o2ji_i, o2c_i, fv_0, fv_1, fv_2, fv_3, pf_0, pf_2, pf_3, pf_4, rf_s, rf_n, is_self, ge_0, ge_s, ge_n, gd_s, gd_n, se_0, se_s, ag_0, ex_n, ex_i, ex_r, ex_0, ex_j, ex_q, ap_c, ap_n, List.append_nil, ln_c, ln_n, rp_0, rp_s, rt_0, rt_1, rt_20, rt_21, rt_2, rt_3, rt_4, rt_4n, rt_4q, nl_0, nl_1, nl_2, nl_3, nl_4, nl_5, nl_6, nl_7, nl_8, nl_9, nlB_i, nlB_r, nlB_n, nlB_f, nlB_q, ↓reduceIte, reduceCtorEq, Nat.reduceAdd, Nat.reduceSub, Nat.reduceEqDiff, Nat.reduceLeDiff, Nat.reduceBEq, ite_true, ite_false, dt_t, Bool.not_true, Bool.not_false, Bool.false_eq_true, Nat.le_refl, true_and, and_true, true_or, or_true, false_or, or_false, false_and, and_false, qEq, qNe, qLt, qGe, qGt, qLe, rD_of (ov _), hov, not_false_eq_true, hz, h0, nI_and, hne', not_true, sT_11 hS, sT_12 hS, sT_13 hS, sT_14 hS, sT_15 hS, sT_16 hS, sT_17 hS, sT_18 hS, sT_19 hS, sT_20 hS, sT_21 hS, sT_22 hS, sT_23 hS, sT_24 hS, sT_25 hS, sT_26 hS, sT_27 hS, sT_28 hS, sT_29 hS, sT_30 hS, sT_31 hS, sT_32 hS, sT_33 hS, sT_34 hS, sL_13 hS, sL_14 hS, sL_16 hS, sL_17 hS, sL_18 hS, sL_19 hS, sL_20 hS, sL_21 hS, sL_22 hS, sL_23 hS, sL_24 hS, sL_25 hS, sL_26 hS, sL_28 hS, sL_30 hS, sL_31 hS, sL_32 hS, sL_33 hS, sL_34 hS, sR_11_2 hS, sR_11_3 hS, sR_11_4 hS, sR_11_5 hS, sR_11_7 hS, sR_11_8 hS, sR_11_9 hS, sR_27_0 hS, sR_29_0 hS, sR_15_0 hS, sR_15_3 hS, sR_15_5 hS, sR_15_6 hS, sR_15_7 hS, sR_15_8 hS, sR_15_9 hS, sR_15_10 hS, sR_15_11 hS, sR_15_12 hS, sR_15_13 hS, bA, cA, pT_uI, pL_uI, pR_uI, z23, es]
  · have hov : (b32 (pc A ≤ 1) = 0) = True := eq_true (b32_f hp)
    have es : uI (uI (uI (uI (uI σ 20 A 1000000) 21 A 0) 22 A 0) 23 A 0) 24 A 0 = st5 σ A (nI 1000000) (nI 0) (nI 0) (nI 0) (nI 0) := rfl
    obtain ⟨nx, n1, n2, n3, n4, n5⟩ := nx_ex hU (fun k hk => (l3 k hk).2) l4 l5
    have hnv : ∀ W, ¬ vlU L U W = true → ∀ s, cdB (lnA N L) (sgA N V L) A s W = false := fun W hW s => by
      cases q : cdB (lnA N L) (sgA N V L) A s W with
      | false => rfl
      | true => exact absurd (cd_vl hAU q) hW
    have h00 : CWi (lnA N L) (sgA N V L) M S R B Y A 0 1000000 0 0 0 0 := ⟨⟨Nat.le_refl _, fun s W q => by omega, Or.inl rfl⟩, ⟨by decide, fun p => ⟨fun q => (by rw [Nat.zero_testBit] at q; exact absurd q (by decide)), fun ⟨s, W, q, _⟩ => (by omega)⟩⟩, ⟨by omega, by omega, by omega⟩, fun q => by omega⟩
    have h0n : CWi (lnA N L) (sgA N V L) M S R B Y A (nx 0) 1000000 0 0 0 0 := CW_gap h00 (nx 0) (Nat.zero_le _) (fun W _ q2 s => hnv W (fun q => by have := n3 W q; omega) s)
    have hl : ∃ q t, sLoop (cAnd (cI qLt (eLi 4) (eG (is 3) 0 4 (eLa 0))) (cI qLt (eAI (eG (is 3) 3 3 (eLa 0)) (eLi 4)) (eLi 1))) (sSeq (sIf (cZ0 qEq (eB f_iand (eAI (eG (is 3) 3 3 (eLa 0)) (eLi 4)) (eB f_ixor (eLi 1) (eK (.int (-1)))))) (sCall (pm_disp (tb1 3 D_X3_weigh)) (aC (eLa 0) (aC (eLi 1) (aC (eAI (eG (is 3) 3 3 (eLa 0)) (eLi 4)) (aN))))) sSkip) (sInc 4 1)) [.ref 15, .int (nI A), .int (nI E), .int 0, .int 0] (st5 σ A (nI 1000000) (nI 0) (nI 0) (nI 0) (nI 0)) = some (q, t) ∧ (∃ x s r b y k, CWi (lnA N L) (sgA N V L) M S R B Y A 256 x s r b y ∧ t = st5 σ A (nI x) (nI s) (nI r) (nI b) (nI y) ∧ q = .inl [.ref 15, .int (nI A), .int (nI E), .int 0, .int (nI k)]) := by
      refine loop_gen (fun k env t => ∃ x s r b y, CWi (lnA N L) (sgA N V L) M S R B Y A (nx k) x s r b y ∧ t = st5 σ A (nI x) (nI s) (nI r) (nI b) (nI y) ∧ env = [.ref 15, .int (nI A), .int (nI E), .int 0, .int (nI k)]) _ c (by omega) ⟨1000000, 0, 0, 0, 0, h0n, rfl, by rw [nI_0]⟩ ?_
      rintro k env t hk ⟨x, s, r, b, y, hC, rfl, rfl⟩
      have i15 : pI (st5 σ A (nI x) (nI s) (nI r) (nI b) (nI y)) 15 4 = nI c := by rw [st5_I _ _ _ _ _ _ _ (by omega)]; exact l1
      have hltc : (nI k < nI c) = (k < c) := nI_lt' (by omega) (by omega)
      by_cases e : k < c
      · obtain ⟨g1, g2⟩ := l3 k e
        have hvk8 : v k < 256 := by have := sub_le (vlU_iff.mp g2).2; omega
        have i17 : pI (st5 σ A (nI x) (nI s) (nI r) (nI b) (nI y)) 17 k = nI (v k) := by rw [st5_I _ _ _ _ _ _ _ (by omega)]; exact g1
        have bk := ib_nI (show k < 92 by omega) (by decide)
        have ck := nI_cl (show k < 2147483648 by omega)
        have hltA : (nI (v k) < nI A) = (v k < A) := nI_lt' (by omega) (by omega)
        by_cases d : v k < A
        · left
          obtain ⟨n4a, n4b⟩ := n4 k e
          rw [n1 k e] at n4a n4b hC
          have hsb := sub0 hvk8 hA8
          by_cases hs : sub (v k) A
          · have hsb' : (nI (v k) &&& (nI A ^^^ (-1)) = 0) = True := by rw [hsb]; exact eq_true hs
            obtain ⟨vA, -⟩ := vlU_iff.mp g2
            obtain ⟨i, hi⟩ := ne0_bit (vlA_iff.mp vA).1
            have hi8 : i < 8 := bitlt (n := 8) hvk8 hi
            have hpos := mxA_pos (N := N) hi ((hNU i hi8).mp ((vlU_iff.mp g2).2 i hi)) 8 hi8
            obtain ⟨x2, s2, r2, b2, y2, w1, w2⟩ := d_weigh hS hU hN hpos hAU vA hs (l6 _ g2).1 (l6 _ g2).2 hT hC
            have w3 := CW_gap w2 (nx (k + 1)) (by omega) (fun W q1 q2 s => hnv W (n4b W (by omega) q2) s)
            refine ⟨[.ref 15, .int (nI A), .int (nI E), .int 0, .int (nI (k + 1))], _, ?_, e, x2, s2, r2, b2, y2, w3, rfl, rfl⟩
            have hT15 : pT (st5 σ A (nI x) (nI s) (nI r) (nI b) (nI y)) 15 = 3 := sT_15 hS
            simp only [lpStep, ↓rE_eK, ↓rE_eLi, ↓rE_eLj, ↓rE_eLa, ↓rE_eU, ↓rE_eB, ↓rE_eG, ↓rE_eIF, ↓rE_eAI, ↓rE_eAX, ↓rE_eAJ, ↓rE_eAR, ↓rE_eLen, ↓rE_eSI, ↓rE_eC, ↓rE_eCall, ↓rE_eNew, ↓rE_eNewA, ↓rE_eInst, ↓rC_cI, ↓rC_cZ0, ↓rC_cN, ↓rC_cNot, ↓rC_cAnd, ↓rC_cOr, ↓rA_aN, ↓rA_aC, ↓rS_sP, ↓rS_sUF, ↓rS_sAI, ↓rS_sAJ, ↓rS_sAR, ↓rS_sUA, ↓rS_sCall, ↓rS_sObj, ↓rS_sSi, ↓rS_sSa, ↓rS_sSj, ↓rS_sInc, ↓rS_sSkip, ↓rS_sSeq, ↓rS_sIf, ↓rS_sRetI, ↓rS_sRetJ, ↓rS_sRetA, ↓rS_sRetV, ↓rS_sSw, ↓rD_meth, ↓rD_on, ↓kR_ref, ↓kI_int, ↓kJ_long, ↓kN_null, ↓kN_ref, ↓kN_rf, ↓kQ_ref, ↓kQ_null, ↓kQ_rf, o1_i, o1ij_i, o1ji_i, o2_i, o2d_i, o2j_i, o2ji_i, o2c_i, fv_0, fv_1, fv_2, fv_3, pf_0, pf_2, pf_3, pf_4, rf_s, rf_n, is_self, ge_0, ge_s, ge_n, gd_s, gd_n, se_0, se_s, ag_0, ex_n, ex_i, ex_r, ex_0, ex_j, ex_q, ap_c, ap_n, List.append_nil, ln_c, ln_n, rp_0, rp_s, rt_0, rt_1, rt_20, rt_21, rt_2, rt_3, rt_4, rt_4n, rt_4q, nl_0, nl_1, nl_2, nl_3, nl_4, nl_5, nl_6, nl_7, nl_8, nl_9, nlB_i, nlB_r, nlB_n, nlB_f, nlB_q, ↓reduceIte, reduceCtorEq, Nat.reduceAdd, Nat.reduceSub, Nat.reduceEqDiff, Nat.reduceLeDiff, Nat.reduceBEq, ite_true, ite_false, dt_t, Bool.not_true, Bool.not_false, Bool.false_eq_true, Nat.le_refl, true_and, and_true, true_or, or_true, false_or, or_false, false_and, and_false, qEq, qNe, qLt, qGe, qGt, qLe, st5_T, st5_L, st5_R, sT_11 hS, sT_12 hS, sT_13 hS, sT_14 hS, sT_15 hS, sT_16 hS, sT_17 hS, sT_18 hS, sT_19 hS, sT_20 hS, sT_21 hS, sT_22 hS, sT_23 hS, sT_24 hS, sT_25 hS, sT_26 hS, sT_27 hS, sT_28 hS, sT_29 hS, sT_30 hS, sT_31 hS, sT_32 hS, sT_33 hS, sT_34 hS, sL_13 hS, sL_14 hS, sL_16 hS, sL_17 hS, sL_18 hS, sL_19 hS, sL_20 hS, sL_21 hS, sL_22 hS, sL_23 hS, sL_24 hS, sL_25 hS, sL_26 hS, sL_28 hS, sL_30 hS, sL_31 hS, sL_32 hS, sL_33 hS, sL_34 hS, sR_11_2 hS, sR_11_3 hS, sR_11_4 hS, sR_11_5 hS, sR_11_7 hS, sR_11_8 hS, sR_11_9 hS, sR_27_0 hS, sR_29_0 hS, sR_15_0 hS, sR_15_3 hS, sR_15_5 hS, sR_15_6 hS, sR_15_7 hS, sR_15_8 hS, sR_15_9 hS, sR_15_10 hS, sR_15_11 hS, sR_15_12 hS, sR_15_13 hS, i15, hltc, e, bk, ck, i17, hltA, d, hsb', rD_tb1 hT15, rD_of w1, nI_1]
          · have hsb' : ¬ nI (v k) &&& (nI A ^^^ (-1)) = 0 := by rw [hsb]; exact hs
            have w3 := CW_gap hC (nx (k + 1)) (by omega) (fun W q1 q2 s => by
              by_cases q : W = v k
              · cases p : cdB (lnA N L) (sgA N V L) A s W with
                | false => rfl
                | true => rw [q] at p; exact absurd (cd_iff.mp p).2.2.2.1 hs
              · exact hnv W (n4b W (by omega) q2) s)
            refine ⟨[.ref 15, .int (nI A), .int (nI E), .int 0, .int (nI (k + 1))], _, ?_, e, x, s, r, b, y, w3, rfl, rfl⟩
            simp only [lpStep, ↓rE_eK, ↓rE_eLi, ↓rE_eLj, ↓rE_eLa, ↓rE_eU, ↓rE_eB, ↓rE_eG, ↓rE_eIF, ↓rE_eAI, ↓rE_eAX, ↓rE_eAJ, ↓rE_eAR, ↓rE_eLen, ↓rE_eSI, ↓rE_eC, ↓rE_eCall, ↓rE_eNew, ↓rE_eNewA, ↓rE_eInst, ↓rC_cI, ↓rC_cZ0, ↓rC_cN, ↓rC_cNot, ↓rC_cAnd, ↓rC_cOr, ↓rA_aN, ↓rA_aC, ↓rS_sP, ↓rS_sUF, ↓rS_sAI, ↓rS_sAJ, ↓rS_sAR, ↓rS_sUA, ↓rS_sCall, ↓rS_sObj, ↓rS_sSi, ↓rS_sSa, ↓rS_sSj, ↓rS_sInc, ↓rS_sSkip, ↓rS_sSeq, ↓rS_sIf, ↓rS_sRetI, ↓rS_sRetJ, ↓rS_sRetA, ↓rS_sRetV, ↓rS_sSw, ↓rD_meth, ↓rD_on, ↓kR_ref, ↓kI_int, ↓kJ_long, ↓kN_null, ↓kN_ref, ↓kN_rf, ↓kQ_ref, ↓kQ_null, ↓kQ_rf, o1_i, o1ij_i, o1ji_i, o2_i, o2d_i, o2j_i, o2ji_i, o2c_i, fv_0, fv_1, fv_2, fv_3, pf_0, pf_2, pf_3, pf_4, rf_s, rf_n, is_self, ge_0, ge_s, ge_n, gd_s, gd_n, se_0, se_s, ag_0, ex_n, ex_i, ex_r, ex_0, ex_j, ex_q, ap_c, ap_n, List.append_nil, ln_c, ln_n, rp_0, rp_s, rt_0, rt_1, rt_20, rt_21, rt_2, rt_3, rt_4, rt_4n, rt_4q, nl_0, nl_1, nl_2, nl_3, nl_4, nl_5, nl_6, nl_7, nl_8, nl_9, nlB_i, nlB_r, nlB_n, nlB_f, nlB_q, ↓reduceIte, reduceCtorEq, Nat.reduceAdd, Nat.reduceSub, Nat.reduceEqDiff, Nat.reduceLeDiff, Nat.reduceBEq, ite_true, ite_false, dt_t, Bool.not_true, Bool.not_false, Bool.false_eq_true, Nat.le_refl, true_and, and_true, true_or, or_true, false_or, or_false, false_and, and_false, qEq, qNe, qLt, qGe, qGt, qLe, st5_T, st5_L, st5_R, sT_11 hS, sT_12 hS, sT_13 hS, sT_14 hS, sT_15 hS, sT_16 hS, sT_17 hS, sT_18 hS, sT_19 hS, sT_20 hS, sT_21 hS, sT_22 hS, sT_23 hS, sT_24 hS, sT_25 hS, sT_26 hS, sT_27 hS, sT_28 hS, sT_29 hS, sT_30 hS, sT_31 hS, sT_32 hS, sT_33 hS, sT_34 hS, sL_13 hS, sL_14 hS, sL_16 hS, sL_17 hS, sL_18 hS, sL_19 hS, sL_20 hS, sL_21 hS, sL_22 hS, sL_23 hS, sL_24 hS, sL_25 hS, sL_26 hS, sL_28 hS, sL_30 hS, sL_31 hS, sL_32 hS, sL_33 hS, sL_34 hS, sR_11_2 hS, sR_11_3 hS, sR_11_4 hS, sR_11_5 hS, sR_11_7 hS, sR_11_8 hS, sR_11_9 hS, sR_27_0 hS, sR_29_0 hS, sR_15_0 hS, sR_15_3 hS, sR_15_5 hS, sR_15_6 hS, sR_15_7 hS, sR_15_8 hS, sR_15_9 hS, sR_15_10 hS, sR_15_11 hS, sR_15_12 hS, sR_15_13 hS, i15, hltc, e, bk, ck, i17, hltA, d, hsb', nI_1]
        · right
          rw [n1 k e] at hC
          refine ⟨_, _, ?_, x, s, r, b, y, k, CW_gap hC 256 (by omega) (fun W q1 _ s => cd_none (by omega)), rfl, rfl⟩
          simp only [lpStep, ↓rE_eK, ↓rE_eLi, ↓rE_eLj, ↓rE_eLa, ↓rE_eU, ↓rE_eB, ↓rE_eG, ↓rE_eIF, ↓rE_eAI, ↓rE_eAX, ↓rE_eAJ, ↓rE_eAR, ↓rE_eLen, ↓rE_eSI, ↓rE_eC, ↓rE_eCall, ↓rE_eNew, ↓rE_eNewA, ↓rE_eInst, ↓rC_cI, ↓rC_cZ0, ↓rC_cN, ↓rC_cNot, ↓rC_cAnd, ↓rC_cOr, ↓rA_aN, ↓rA_aC, ↓rS_sP, ↓rS_sUF, ↓rS_sAI, ↓rS_sAJ, ↓rS_sAR, ↓rS_sUA, ↓rS_sCall, ↓rS_sObj, ↓rS_sSi, ↓rS_sSa, ↓rS_sSj, ↓rS_sInc, ↓rS_sSkip, ↓rS_sSeq, ↓rS_sIf, ↓rS_sRetI, ↓rS_sRetJ, ↓rS_sRetA, ↓rS_sRetV, ↓rS_sSw, ↓rD_meth, ↓rD_on, ↓kR_ref, ↓kI_int, ↓kJ_long, ↓kN_null, ↓kN_ref, ↓kN_rf, ↓kQ_ref, ↓kQ_null, ↓kQ_rf, o1_i, o1ij_i, o1ji_i, o2_i, o2d_i, o2j_i, o2ji_i, o2c_i, fv_0, fv_1, fv_2, fv_3, pf_0, pf_2, pf_3, pf_4, rf_s, rf_n, is_self, ge_0, ge_s, ge_n, gd_s, gd_n, se_0, se_s, ag_0, ex_n, ex_i, ex_r, ex_0, ex_j, ex_q, ap_c, ap_n, List.append_nil, ln_c, ln_n, rp_0, rp_s, rt_0, rt_1, rt_20, rt_21, rt_2, rt_3, rt_4, rt_4n, rt_4q, nl_0, nl_1, nl_2, nl_3, nl_4, nl_5, nl_6, nl_7, nl_8, nl_9, nlB_i, nlB_r, nlB_n, nlB_f, nlB_q, ↓reduceIte, reduceCtorEq, Nat.reduceAdd, Nat.reduceSub, Nat.reduceEqDiff, Nat.reduceLeDiff, Nat.reduceBEq, ite_true, ite_false, dt_t, Bool.not_true, Bool.not_false, Bool.false_eq_true, Nat.le_refl, true_and, and_true, true_or, or_true, false_or, or_false, false_and, and_false, qEq, qNe, qLt, qGe, qGt, qLe, st5_T, st5_L, st5_R, sT_11 hS, sT_12 hS, sT_13 hS, sT_14 hS, sT_15 hS, sT_16 hS, sT_17 hS, sT_18 hS, sT_19 hS, sT_20 hS, sT_21 hS, sT_22 hS, sT_23 hS, sT_24 hS, sT_25 hS, sT_26 hS, sT_27 hS, sT_28 hS, sT_29 hS, sT_30 hS, sT_31 hS, sT_32 hS, sT_33 hS, sT_34 hS, sL_13 hS, sL_14 hS, sL_16 hS, sL_17 hS, sL_18 hS, sL_19 hS, sL_20 hS, sL_21 hS, sL_22 hS, sL_23 hS, sL_24 hS, sL_25 hS, sL_26 hS, sL_28 hS, sL_30 hS, sL_31 hS, sL_32 hS, sL_33 hS, sL_34 hS, sR_11_2 hS, sR_11_3 hS, sR_11_4 hS, sR_11_5 hS, sR_11_7 hS, sR_11_8 hS, sR_11_9 hS, sR_27_0 hS, sR_29_0 hS, sR_15_0 hS, sR_15_3 hS, sR_15_5 hS, sR_15_6 hS, sR_15_7 hS, sR_15_8 hS, sR_15_9 hS, sR_15_10 hS, sR_15_11 hS, sR_15_12 hS, sR_15_13 hS, i15, hltc, e, bk, ck, i17, hltA, d]
      · right
        have ek : k = c := by omega
        rw [ek, n2] at hC
        refine ⟨_, _, ?_, x, s, r, b, y, k, hC, rfl, rfl⟩
        simp only [lpStep, ↓rE_eK, ↓rE_eLi, ↓rE_eLj, ↓rE_eLa, ↓rE_eU, ↓rE_eB, ↓rE_eG, ↓rE_eIF, ↓rE_eAI, ↓rE_eAX, ↓rE_eAJ, ↓rE_eAR, ↓rE_eLen, ↓rE_eSI, ↓rE_eC, ↓rE_eCall, ↓rE_eNew, ↓rE_eNewA, ↓rE_eInst, ↓rC_cI, ↓rC_cZ0, ↓rC_cN, ↓rC_cNot, ↓rC_cAnd, ↓rC_cOr, ↓rA_aN, ↓rA_aC, ↓rS_sP, ↓rS_sUF, ↓rS_sAI, ↓rS_sAJ, ↓rS_sAR, ↓rS_sUA, ↓rS_sCall, ↓rS_sObj, ↓rS_sSi, ↓rS_sSa, ↓rS_sSj, ↓rS_sInc, ↓rS_sSkip, ↓rS_sSeq, ↓rS_sIf, ↓rS_sRetI, ↓rS_sRetJ, ↓rS_sRetA, ↓rS_sRetV, ↓rS_sSw, ↓rD_meth, ↓rD_on, ↓kR_ref, ↓kI_int, ↓kJ_long, ↓kN_null, ↓kN_ref, ↓kN_rf, ↓kQ_ref, ↓kQ_null, ↓kQ_rf, o1_i, o1ij_i, o1ji_i, o2_i, o2d_i, o2j_i, o2ji_i, o2c_i, fv_0, fv_1, fv_2, fv_3, pf_0, pf_2, pf_3, pf_4, rf_s, rf_n, is_self, ge_0, ge_s, ge_n, gd_s, gd_n, se_0, se_s, ag_0, ex_n, ex_i, ex_r, ex_0, ex_j, ex_q, ap_c, ap_n, List.append_nil, ln_c, ln_n, rp_0, rp_s, rt_0, rt_1, rt_20, rt_21, rt_2, rt_3, rt_4, rt_4n, rt_4q, nl_0, nl_1, nl_2, nl_3, nl_4, nl_5, nl_6, nl_7, nl_8, nl_9, nlB_i, nlB_r, nlB_n, nlB_f, nlB_q, ↓reduceIte, reduceCtorEq, Nat.reduceAdd, Nat.reduceSub, Nat.reduceEqDiff, Nat.reduceLeDiff, Nat.reduceBEq, ite_true, ite_false, dt_t, Bool.not_true, Bool.not_false, Bool.false_eq_true, Nat.le_refl, true_and, and_true, true_or, or_true, false_or, or_false, false_and, and_false, qEq, qNe, qLt, qGe, qGt, qLe, st5_T, st5_L, st5_R, sT_11 hS, sT_12 hS, sT_13 hS, sT_14 hS, sT_15 hS, sT_16 hS, sT_17 hS, sT_18 hS, sT_19 hS, sT_20 hS, sT_21 hS, sT_22 hS, sT_23 hS, sT_24 hS, sT_25 hS, sT_26 hS, sT_27 hS, sT_28 hS, sT_29 hS, sT_30 hS, sT_31 hS, sT_32 hS, sT_33 hS, sT_34 hS, sL_13 hS, sL_14 hS, sL_16 hS, sL_17 hS, sL_18 hS, sL_19 hS, sL_20 hS, sL_21 hS, sL_22 hS, sL_23 hS, sL_24 hS, sL_25 hS, sL_26 hS, sL_28 hS, sL_30 hS, sL_31 hS, sL_32 hS, sL_33 hS, sL_34 hS, sR_11_2 hS, sR_11_3 hS, sR_11_4 hS, sR_11_5 hS, sR_11_7 hS, sR_11_8 hS, sR_11_9 hS, sR_27_0 hS, sR_29_0 hS, sR_15_0 hS, sR_15_3 hS, sR_15_5 hS, sR_15_6 hS, sR_15_7 hS, sR_15_8 hS, sR_15_9 hS, sR_15_10 hS, sR_15_11 hS, sR_15_12 hS, sR_15_13 hS, i15, hltc, e]
    obtain ⟨q, t, k1, x, s, r, b, y, k, hC, rfl, rfl⟩ := hl
    obtain ⟨⟨x6, -⟩, ⟨y8, -⟩, ⟨s8, b8, r6⟩, -⟩ := id hC
    refine ⟨x, s, r, b, y, ?_, ⟨x6, s8, r6, b8, y8⟩, fun q => by omega, fun _ => hC⟩
    refine rD_un.trans ?_
    simp only [D_X3_reckonSet, B_X3_reckonSet, ↓rE_eK, ↓rE_eLi, ↓rE_eLj, ↓rE_eLa, ↓rE_eU, ↓rE_eB, ↓rE_eG, ↓rE_eIF, ↓rE_eAI, ↓rE_eAX, ↓rE_eAJ, ↓rE_eAR, ↓rE_eLen, ↓rE_eSI, ↓rE_eC, ↓rE_eCall, ↓rE_eNew, ↓rE_eNewA, ↓rE_eInst, ↓rC_cI, ↓rC_cZ0, ↓rC_cN, ↓rC_cNot, ↓rC_cAnd, ↓rC_cOr, ↓rA_aN, ↓rA_aC, ↓rS_sP, ↓rS_sUF, ↓rS_sAI, ↓rS_sAJ, ↓rS_sAR, ↓rS_sUA, ↓rS_sCall, ↓rS_sObj, ↓rS_sSi, ↓rS_sSa, ↓rS_sSj, ↓rS_sInc, ↓rS_sSkip, ↓rS_sSeq, ↓rS_sIf, ↓rS_sRetI, ↓rS_sRetJ, ↓rS_sRetA, ↓rS_sRetV, ↓rS_sSw, ↓rD_meth, ↓rD_on, ↓kR_ref, ↓kI_int, ↓kJ_long, ↓kN_null, ↓kN_ref, ↓kN_rf, ↓kQ_ref, ↓kQ_null, ↓kQ_rf, o1_i, o1ij_i, o1ji_i, o2_i, o2d_i, o2j_i, o2ji_i, o2c_i, fv_0, fv_1, fv_2, fv_3, pf_0, pf_2, pf_3, pf_4, rf_s, rf_n, is_self, ge_0, ge_s, ge_n, gd_s, gd_n, se_0, se_s, ag_0, ex_n, ex_i, ex_r, ex_0, ex_j, ex_q, ap_c, ap_n, List.append_nil, ln_c, ln_n, rp_0, rp_s, rt_0, rt_1, rt_20, rt_21, rt_2, rt_3, rt_4, rt_4n, rt_4q, nl_0, nl_1, nl_2, nl_3, nl_4, nl_5, nl_6, nl_7, nl_8, nl_9, nlB_i, nlB_r, nlB_n, nlB_f, nlB_q, ↓reduceIte, reduceCtorEq, Nat.reduceAdd, Nat.reduceSub, Nat.reduceEqDiff, Nat.reduceLeDiff, Nat.reduceBEq, ite_true, ite_false, dt_t, Bool.not_true, Bool.not_false, Bool.false_eq_true, Nat.le_refl, true_and, and_true, true_or, or_true, false_or, or_false, false_and, and_false, qEq, qNe, qLt, qGe, qGt, qLe, rD_of (ov _), hov, not_true, sT_11 hS, sT_12 hS, sT_13 hS, sT_14 hS, sT_15 hS, sT_16 hS, sT_17 hS, sT_18 hS, sT_19 hS, sT_20 hS, sT_21 hS, sT_22 hS, sT_23 hS, sT_24 hS, sT_25 hS, sT_26 hS, sT_27 hS, sT_28 hS, sT_29 hS, sT_30 hS, sT_31 hS, sT_32 hS, sT_33 hS, sT_34 hS, sL_13 hS, sL_14 hS, sL_16 hS, sL_17 hS, sL_18 hS, sL_19 hS, sL_20 hS, sL_21 hS, sL_22 hS, sL_23 hS, sL_24 hS, sL_25 hS, sL_26 hS, sL_28 hS, sL_30 hS, sL_31 hS, sL_32 hS, sL_33 hS, sL_34 hS, sR_11_2 hS, sR_11_3 hS, sR_11_4 hS, sR_11_5 hS, sR_11_7 hS, sR_11_8 hS, sR_11_9 hS, sR_27_0 hS, sR_29_0 hS, sR_15_0 hS, sR_15_3 hS, sR_15_5 hS, sR_15_6 hS, sR_15_7 hS, sR_15_8 hS, sR_15_9 hS, sR_15_10 hS, sR_15_11 hS, sR_15_12 hS, sR_15_13 hS, bA, cA, pT_uI, pL_uI, pR_uI, z23, es, rS_inl k1]
/-- what the class's tables hold -/
def CTb (σ : pm_H) (N : Nat → Nat) (V : Nat → Int32) (E L U : Nat) : Prop := (∃ c v, LL σ N V L U c v) ∧ ∃ M S R B Y : Nat → Nat, ∀ A, sub A U → (T5 σ M S R B Y A ∧ (M A < 1000000 → M A ≤ 200 * pc A)) ∧ c5 (lnA N L) (sgA N V L) E M S R B Y A
theorem d_reckon {σ : pm_H} (hS : Sh σ) {N : Nat → Nat} {V : Nat → Int32} {E L U : Nat} (hQ : QA σ N V E L U) (h0 : pI σ 18 0 = 0) : ∃ s, D_X3_reckon [.ref 15, .int (nI E)] σ = some (none, s) ∧ OC σ s ∧ (pI s 16 = pI σ 16 ∧ (∀ k, k ≠ 4 → pI s 15 k = pI σ 15 k) ∧ pI s 18 0 = 0 ∧ pI s 25 = pI σ 25 ∧ pI s 26 = pI σ 26) ∧ CTb s N V E L U := by
  obtain ⟨s0, f1, ⟨o1, o2, o3⟩, t1, t2, v, v1, v2, v3, v4⟩ := d_listSongs hS hQ h0
  obtain ⟨q1, ⟨q2, q3, q4, q5⟩, ⟨q6, q7, q8⟩, q9⟩ := hQ
  have hN2 : ∀ i, i < 8 → N i ≤ 200 := fun i hi => (q1 i hi).2.1
  have hS0 := Fr_Sh (OC_Fr o1) hS
  have hl200 : ∀ W, lnA N L W ≤ 200 := fun W => by
    unfold lnA
    split
    · exact mxA_le hN2 W 8 (Nat.le_refl _)
    · omega
  have hLL0 : LL s0 N V L U (cntV (vlU L U) 256) v := ⟨⟨v1, cnt_92 q8⟩, fun k hk => ⟨(v2 k hk).1, (v2 k hk).2.1⟩, v3, v4, fun W hW => by
    have hW8 : W < 256 := by have := sub_le (vlU_iff.mp hW).2; omega
    exact ⟨t1 W hW8 (vlU_iff.mp hW).2, t2 W hW8 hW⟩⟩
  have hl : ∃ r s, sLoop (cI qLe (eLi 2) (eK (.int 255))) (sSeq (sIf (cZ0 qEq (eB f_iand (eLi 2) (eB f_ixor (eG (is 3) 0 1 (eLa 0)) (eK (.int (-1)))))) (sCall (pm_disp (tb1 3 D_X3_reckonSet)) (aC (eLa 0) (aC (eLi 2) (aC (eLi 1) (aN))))) sSkip) (sInc 2 1)) [.ref 15, .int (nI E), .int 0] s0 = some (r, s) ∧ (∃ M S R B Y : Nat → Nat, OC s0 s ∧ (∀ a, ¬ (20 ≤ a ∧ a ≤ 24) → pI s a = pI s0 a) ∧ (∀ A, A < 256 → sub A U → (T5 s M S R B Y A ∧ (M A < 1000000 → M A ≤ 200 * pc A)) ∧ c5 (lnA N L) (sgA N V L) E M S R B Y A) ∧ r = .inl [.ref 15, .int (nI E), .int (nI 256)]) := by
    refine loop_gen (fun i env s => ∃ M S R B Y : Nat → Nat, OC s0 s ∧ (∀ a, ¬ (20 ≤ a ∧ a ≤ 24) → pI s a = pI s0 a) ∧ (∀ A, A < i → sub A U → (T5 s M S R B Y A ∧ (M A < 1000000 → M A ≤ 200 * pc A)) ∧ c5 (lnA N L) (sgA N V L) E M S R B Y A) ∧ env = [.ref 15, .int (nI E), .int (nI i)]) _ 256 (by decide) ⟨fun _ => 0, fun _ => 0, fun _ => 0, fun _ => 0, fun _ => 0, OC_rfl, fun _ _ => rfl, fun A hA => by omega, by rw [nI_0]⟩ ?_
    rintro i env s hi ⟨M, S, R, B, Y, hO, hE, hT, rfl⟩
    have hss := Fr_Sh (OC_Fr hO) hS0
    have hle : (nI i ≤ 255) = (i ≤ 255) := nI_le' (b := 255) (by omega) (by decide)
    have g1 : pI s 15 1 = nI U := by rw [hE 15 (by omega), o3 1 (by decide)]; exact q4
    by_cases e : i < 256
    · left
      have hle' : i ≤ 255 := by omega
      have hsb := sub0 e q8
      by_cases hs : sub i U
      · have hsb' : (nI i &&& (nI U ^^^ (-1)) = 0) = True := by rw [hsb]; exact eq_true hs
        have hLLs : LL s N V L U (cntV (vlU L U) 256) v := by
          unfold LL
          rw [hE 15 (by omega), hE 17 (by omega), hE 18 (by omega), hE 19 (by omega)]
          exact hLL0
        obtain ⟨x, sn, r, b, y, w1, ⟨w2, w3, w4, w5, w6⟩, w7, w8⟩ := d_reckonSet hss (E := E) q8 q6 hN2 q9 hLLs hs (fun C hC hCU => (hT C hC hCU).1.1)
        refine ⟨[.ref 15, .int (nI E), .int (nI (i + 1))], st5 s i (nI x) (nI sn) (nI r) (nI b) (nI y), ?_, e, up1 M i x, up1 S i sn, up1 R i r, up1 B i b, up1 Y i y, st5_OC hO _ _ _ _ _ _, fun a ha => by rw [← hE a ha]; exact funext fun k => st5_I _ _ _ _ _ _ _ (by omega), fun A hA hAU => ?_, rfl⟩
        · simp only [lpStep, ↓rE_eK, ↓rE_eLi, ↓rE_eLj, ↓rE_eLa, ↓rE_eU, ↓rE_eB, ↓rE_eG, ↓rE_eIF, ↓rE_eAI, ↓rE_eAX, ↓rE_eAJ, ↓rE_eAR, ↓rE_eLen, ↓rE_eSI, ↓rE_eC, ↓rE_eCall, ↓rE_eNew, ↓rE_eNewA, ↓rE_eInst, ↓rC_cI, ↓rC_cZ0, ↓rC_cN, ↓rC_cNot, ↓rC_cAnd, ↓rC_cOr, ↓rA_aN, ↓rA_aC, ↓rS_sP, ↓rS_sUF, ↓rS_sAI, ↓rS_sAJ, ↓rS_sAR, ↓rS_sUA, ↓rS_sCall, ↓rS_sObj, ↓rS_sSi, ↓rS_sSa, ↓rS_sSj, ↓rS_sInc, ↓rS_sSkip, ↓rS_sSeq, ↓rS_sIf, ↓rS_sRetI, ↓rS_sRetJ, ↓rS_sRetA, ↓rS_sRetV, ↓rS_sSw, ↓rD_meth, ↓rD_on, ↓kR_ref, ↓kI_int, ↓kJ_long, ↓kN_null, ↓kN_ref, ↓kN_rf, ↓kQ_ref, ↓kQ_null, ↓kQ_rf, o1_i, o1ij_i, o1ji_i, o2_i, o2d_i, o2j_i, o2ji_i, o2c_i, fv_0, fv_1, fv_2, fv_3, pf_0, pf_2, pf_3, pf_4, rf_s, rf_n, is_self, ge_0, ge_s, ge_n, gd_s, gd_n, se_0, se_s, ag_0, ex_n, ex_i, ex_r, ex_0, ex_j, ex_q, ap_c, ap_n, List.append_nil, ln_c, ln_n, rp_0, rp_s, rt_0, rt_1, rt_20, rt_21, rt_2, rt_3, rt_4, rt_4n, rt_4q, nl_0, nl_1, nl_2, nl_3, nl_4, nl_5, nl_6, nl_7, nl_8, nl_9, nlB_i, nlB_r, nlB_n, nlB_f, nlB_q, ↓reduceIte, reduceCtorEq, Nat.reduceAdd, Nat.reduceSub, Nat.reduceEqDiff, Nat.reduceLeDiff, Nat.reduceBEq, ite_true, ite_false, dt_t, Bool.not_true, Bool.not_false, Bool.false_eq_true, Nat.le_refl, true_and, and_true, true_or, or_true, false_or, or_false, false_and, and_false, qEq, qNe, qLt, qGe, qGt, qLe, hle, hle', sT_11 hss, sT_12 hss, sT_13 hss, sT_14 hss, sT_15 hss, sT_16 hss, sT_17 hss, sT_18 hss, sT_19 hss, sT_20 hss, sT_21 hss, sT_22 hss, sT_23 hss, sT_24 hss, sT_25 hss, sT_26 hss, sT_27 hss, sT_28 hss, sT_29 hss, sT_30 hss, sT_31 hss, sT_32 hss, sT_33 hss, sT_34 hss, sL_13 hss, sL_14 hss, sL_16 hss, sL_17 hss, sL_18 hss, sL_19 hss, sL_20 hss, sL_21 hss, sL_22 hss, sL_23 hss, sL_24 hss, sL_25 hss, sL_26 hss, sL_28 hss, sL_30 hss, sL_31 hss, sL_32 hss, sL_33 hss, sL_34 hss, sR_11_2 hss, sR_11_3 hss, sR_11_4 hss, sR_11_5 hss, sR_11_7 hss, sR_11_8 hss, sR_11_9 hss, sR_27_0 hss, sR_29_0 hss, sR_15_0 hss, sR_15_3 hss, sR_15_5 hss, sR_15_6 hss, sR_15_7 hss, sR_15_8 hss, sR_15_9 hss, sR_15_10 hss, sR_15_11 hss, sR_15_12 hss, sR_15_13 hss, g1, hsb', rD_tb1 (sT_15 hss), rD_of w1, nI_1]
        · by_cases c : A = i
          · subst c
            obtain ⟨j1, j2, j3, j4, j5⟩ := st5_a s A (nI x) (nI sn) (nI r) (nI b) (nI y)
            have hsm : x < 1000000 → x ≤ 200 * pc A := fun hx => by
              by_cases hp : pc A < 2
              · have h1 := (w7 hp).1
                unfold baE at h1
                split at h1 <;> omega
              · obtain ⟨⟨-, -, a3⟩, -⟩ := w8 (by omega)
                rcases a3 with a3 | ⟨s', W, p1, p2, p3⟩
                · omega
                · have h2 := cd_sdlt p2
                  obtain ⟨-, -, p5, p6, -⟩ := cd_iff.mp p2
                  have h3 := (hT (sd A W) h2 (sub_tr (sd_sub A W) hs)).1.2 (by omega)
                  have h4 := pc_sd p6
                  have h5 := pc_pos (show W < 256 by have := sub_le p6; omega) p5
                  have h6 := hl200 W
                  omega
            have hpc := pc_le (A := A)
            unfold T5
            rw [up1_at, up1_at, up1_at, up1_at, up1_at]
            refine ⟨⟨⟨⟨j1, w2, fun q => by have := hsm q; omega⟩, ⟨j2, w3⟩, ⟨j3, w4⟩, ⟨j4, w5⟩, ⟨j5, w6⟩⟩, hsm⟩, fun hp => ?_, fun hp => ?_⟩
            · rw [up1_at, up1_at, up1_at, up1_at, up1_at]; exact w7 hp
            · rw [up1_at, up1_at, up1_at, up1_at, up1_at]
              exact CW_ext (w8 hp) (fun D hD => up1_ne _ (by omega)) (fun D hD => up1_ne _ (by omega)) (fun D hD => up1_ne _ (by omega)) (fun D hD => up1_ne _ (by omega)) (fun D hD => up1_ne _ (by omega))
          · obtain ⟨⟨h1, h2⟩, h3⟩ := hT A (by omega) hAU
            refine ⟨⟨?_, by rw [up1_ne _ c]; exact h2⟩, c5_ext h3 (fun D hD => up1_ne _ (by omega)) (fun D hD => up1_ne _ (by omega)) (fun D hD => up1_ne _ (by omega)) (fun D hD => up1_ne _ (by omega)) (fun D hD => up1_ne _ (by omega))⟩
            unfold T5
            rw [up1_ne _ c, up1_ne _ c, up1_ne _ c, up1_ne _ c, up1_ne _ c, st5_I _ _ _ _ _ _ _ (by omega), st5_I _ _ _ _ _ _ _ (by omega), st5_I _ _ _ _ _ _ _ (by omega), st5_I _ _ _ _ _ _ _ (by omega), st5_I _ _ _ _ _ _ _ (by omega)]
            exact h1
      · have hsb' : ¬ nI i &&& (nI U ^^^ (-1)) = 0 := by rw [hsb]; exact hs
        refine ⟨[.ref 15, .int (nI E), .int (nI (i + 1))], s, ?_, e, M, S, R, B, Y, hO, hE, fun A hA hAU => ?_, rfl⟩
        · simp only [lpStep, ↓rE_eK, ↓rE_eLi, ↓rE_eLj, ↓rE_eLa, ↓rE_eU, ↓rE_eB, ↓rE_eG, ↓rE_eIF, ↓rE_eAI, ↓rE_eAX, ↓rE_eAJ, ↓rE_eAR, ↓rE_eLen, ↓rE_eSI, ↓rE_eC, ↓rE_eCall, ↓rE_eNew, ↓rE_eNewA, ↓rE_eInst, ↓rC_cI, ↓rC_cZ0, ↓rC_cN, ↓rC_cNot, ↓rC_cAnd, ↓rC_cOr, ↓rA_aN, ↓rA_aC, ↓rS_sP, ↓rS_sUF, ↓rS_sAI, ↓rS_sAJ, ↓rS_sAR, ↓rS_sUA, ↓rS_sCall, ↓rS_sObj, ↓rS_sSi, ↓rS_sSa, ↓rS_sSj, ↓rS_sInc, ↓rS_sSkip, ↓rS_sSeq, ↓rS_sIf, ↓rS_sRetI, ↓rS_sRetJ, ↓rS_sRetA, ↓rS_sRetV, ↓rS_sSw, ↓rD_meth, ↓rD_on, ↓kR_ref, ↓kI_int, ↓kJ_long, ↓kN_null, ↓kN_ref, ↓kN_rf, ↓kQ_ref, ↓kQ_null, ↓kQ_rf, o1_i, o1ij_i, o1ji_i, o2_i, o2d_i, o2j_i, o2ji_i, o2c_i, fv_0, fv_1, fv_2, fv_3, pf_0, pf_2, pf_3, pf_4, rf_s, rf_n, is_self, ge_0, ge_s, ge_n, gd_s, gd_n, se_0, se_s, ag_0, ex_n, ex_i, ex_r, ex_0, ex_j, ex_q, ap_c, ap_n, List.append_nil, ln_c, ln_n, rp_0, rp_s, rt_0, rt_1, rt_20, rt_21, rt_2, rt_3, rt_4, rt_4n, rt_4q, nl_0, nl_1, nl_2, nl_3, nl_4, nl_5, nl_6, nl_7, nl_8, nl_9, nlB_i, nlB_r, nlB_n, nlB_f, nlB_q, ↓reduceIte, reduceCtorEq, Nat.reduceAdd, Nat.reduceSub, Nat.reduceEqDiff, Nat.reduceLeDiff, Nat.reduceBEq, ite_true, ite_false, dt_t, Bool.not_true, Bool.not_false, Bool.false_eq_true, Nat.le_refl, true_and, and_true, true_or, or_true, false_or, or_false, false_and, and_false, qEq, qNe, qLt, qGe, qGt, qLe, hle, hle', sT_11 hss, sT_12 hss, sT_13 hss, sT_14 hss, sT_15 hss, sT_16 hss, sT_17 hss, sT_18 hss, sT_19 hss, sT_20 hss, sT_21 hss, sT_22 hss, sT_23 hss, sT_24 hss, sT_25 hss, sT_26 hss, sT_27 hss, sT_28 hss, sT_29 hss, sT_30 hss, sT_31 hss, sT_32 hss, sT_33 hss, sT_34 hss, sL_13 hss, sL_14 hss, sL_16 hss, sL_17 hss, sL_18 hss, sL_19 hss, sL_20 hss, sL_21 hss, sL_22 hss, sL_23 hss, sL_24 hss, sL_25 hss, sL_26 hss, sL_28 hss, sL_30 hss, sL_31 hss, sL_32 hss, sL_33 hss, sL_34 hss, sR_11_2 hss, sR_11_3 hss, sR_11_4 hss, sR_11_5 hss, sR_11_7 hss, sR_11_8 hss, sR_11_9 hss, sR_27_0 hss, sR_29_0 hss, sR_15_0 hss, sR_15_3 hss, sR_15_5 hss, sR_15_6 hss, sR_15_7 hss, sR_15_8 hss, sR_15_9 hss, sR_15_10 hss, sR_15_11 hss, sR_15_12 hss, sR_15_13 hss, g1, hsb', nI_1]
        · exact hT A (by have : A ≠ i := fun q => hs (by rw [← q]; exact hAU)
                         omega) hAU
    · right
      have : i = 256 := by omega
      subst this
      refine ⟨_, _, ?_, M, S, R, B, Y, hO, hE, hT, rfl⟩
      simp only [lpStep, ↓rE_eK, ↓rE_eLi, ↓rE_eLj, ↓rE_eLa, ↓rE_eU, ↓rE_eB, ↓rE_eG, ↓rE_eIF, ↓rE_eAI, ↓rE_eAX, ↓rE_eAJ, ↓rE_eAR, ↓rE_eLen, ↓rE_eSI, ↓rE_eC, ↓rE_eCall, ↓rE_eNew, ↓rE_eNewA, ↓rE_eInst, ↓rC_cI, ↓rC_cZ0, ↓rC_cN, ↓rC_cNot, ↓rC_cAnd, ↓rC_cOr, ↓rA_aN, ↓rA_aC, ↓rS_sP, ↓rS_sUF, ↓rS_sAI, ↓rS_sAJ, ↓rS_sAR, ↓rS_sUA, ↓rS_sCall, ↓rS_sObj, ↓rS_sSi, ↓rS_sSa, ↓rS_sSj, ↓rS_sInc, ↓rS_sSkip, ↓rS_sSeq, ↓rS_sIf, ↓rS_sRetI, ↓rS_sRetJ, ↓rS_sRetA, ↓rS_sRetV, ↓rS_sSw, ↓rD_meth, ↓rD_on, ↓kR_ref, ↓kI_int, ↓kJ_long, ↓kN_null, ↓kN_ref, ↓kN_rf, ↓kQ_ref, ↓kQ_null, ↓kQ_rf, o1_i, o1ij_i, o1ji_i, o2_i, o2d_i, o2j_i, o2ji_i, o2c_i, fv_0, fv_1, fv_2, fv_3, pf_0, pf_2, pf_3, pf_4, rf_s, rf_n, is_self, ge_0, ge_s, ge_n, gd_s, gd_n, se_0, se_s, ag_0, ex_n, ex_i, ex_r, ex_0, ex_j, ex_q, ap_c, ap_n, List.append_nil, ln_c, ln_n, rp_0, rp_s, rt_0, rt_1, rt_20, rt_21, rt_2, rt_3, rt_4, rt_4n, rt_4q, nl_0, nl_1, nl_2, nl_3, nl_4, nl_5, nl_6, nl_7, nl_8, nl_9, nlB_i, nlB_r, nlB_n, nlB_f, nlB_q, ↓reduceIte, reduceCtorEq, Nat.reduceAdd, Nat.reduceSub, Nat.reduceEqDiff, Nat.reduceLeDiff, Nat.reduceBEq, ite_true, ite_false, dt_t, Bool.not_true, Bool.not_false, Bool.false_eq_true, Nat.le_refl, true_and, and_true, true_or, or_true, false_or, or_false, false_and, and_false, qEq, qNe, qLt, qGe, qGt, qLe, hle, show ¬ 256 ≤ 255 from by omega]
  obtain ⟨r, s, l1, M, S, R, B, Y, hO, hE, hT, rfl⟩ := hl
  refine ⟨s, ?_, OC_tr o1 hO, ⟨by rw [hE 16 (by omega)]; exact o2 16 (by decide) (by decide) (by decide) (by decide), fun k hk => by rw [hE 15 (by omega)]; exact o3 k hk, ?_, by rw [hE 25 (by omega)]; exact o2 25 (by decide) (by decide) (by decide) (by decide), by rw [hE 26 (by omega)]; exact o2 26 (by decide) (by decide) (by decide) (by decide)⟩, ⟨cntV (vlU L U) 256, v, ?_⟩, M, S, R, B, Y, fun A hA => hT A (by have := sub_le hA; omega) hA⟩
  · refine rD_un.trans ?_
    simp only [D_X3_reckon, B_X3_reckon, ↓rE_eK, ↓rE_eLi, ↓rE_eLj, ↓rE_eLa, ↓rE_eU, ↓rE_eB, ↓rE_eG, ↓rE_eIF, ↓rE_eAI, ↓rE_eAX, ↓rE_eAJ, ↓rE_eAR, ↓rE_eLen, ↓rE_eSI, ↓rE_eC, ↓rE_eCall, ↓rE_eNew, ↓rE_eNewA, ↓rE_eInst, ↓rC_cI, ↓rC_cZ0, ↓rC_cN, ↓rC_cNot, ↓rC_cAnd, ↓rC_cOr, ↓rA_aN, ↓rA_aC, ↓rS_sP, ↓rS_sUF, ↓rS_sAI, ↓rS_sAJ, ↓rS_sAR, ↓rS_sUA, ↓rS_sCall, ↓rS_sObj, ↓rS_sSi, ↓rS_sSa, ↓rS_sSj, ↓rS_sInc, ↓rS_sSkip, ↓rS_sSeq, ↓rS_sIf, ↓rS_sRetI, ↓rS_sRetJ, ↓rS_sRetA, ↓rS_sRetV, ↓rS_sSw, ↓rD_meth, ↓rD_on, ↓kR_ref, ↓kI_int, ↓kJ_long, ↓kN_null, ↓kN_ref, ↓kN_rf, ↓kQ_ref, ↓kQ_null, ↓kQ_rf, o1_i, o1ij_i, o1ji_i, o2_i, o2d_i, o2j_i, o2ji_i, o2c_i, fv_0, fv_1, fv_2, fv_3, pf_0, pf_2, pf_3, pf_4, rf_s, rf_n, is_self, ge_0, ge_s, ge_n, gd_s, gd_n, se_0, se_s, ag_0, ex_n, ex_i, ex_r, ex_0, ex_j, ex_q, ap_c, ap_n, List.append_nil, ln_c, ln_n, rp_0, rp_s, rt_0, rt_1, rt_20, rt_21, rt_2, rt_3, rt_4, rt_4n, rt_4q, nl_0, nl_1, nl_2, nl_3, nl_4, nl_5, nl_6, nl_7, nl_8, nl_9, nlB_i, nlB_r, nlB_n, nlB_f, nlB_q, ↓reduceIte, reduceCtorEq, Nat.reduceAdd, Nat.reduceSub, Nat.reduceEqDiff, Nat.reduceLeDiff, Nat.reduceBEq, ite_true, ite_false, dt_t, Bool.not_true, Bool.not_false, Bool.false_eq_true, Nat.le_refl, true_and, and_true, true_or, or_true, false_or, or_false, false_and, and_false, qEq, qNe, qLt, qGe, qGt, qLe, rD_tb1 (sT_15 hS), rD_of f1, rS_inl l1]
  · rw [hE 18 (by omega), t1 0 (by decide) (fun i hi => by rw [Nat.zero_testBit] at hi; cases hi)]
    have : ∀ k, mxA N 0 k = 0 := fun k => by
      induction k with
      | zero => rfl
      | succ k ih => rw [mxA, Nat.zero_testBit]; simp [ih]
    rw [this, nI_0]
  · unfold LL
    rw [hE 15 (by omega), hE 17 (by omega), hE 18 (by omega), hE 19 (by omega)]
    exact hLL0
