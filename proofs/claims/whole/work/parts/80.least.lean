/-! least, with, silent, tent. -/
variable {Q : (Nat → Int32) × Nat}
theorem Ch_sub {ln : Nat → Nat} {sg : Nat → Nat → Bool} {base M : Nat → Nat} {U A : Nat} (h : Ch ln sg base M U) (hA : sub A U) : Ch ln sg base M A := fun C hC => h C (sub_tr hC hA)
theorem Ch_base {ln : Nat → Nat} {sg : Nat → Nat → Bool} {base base' M : Nat → Nat} {U : Nat} (h : Ch ln sg base M U) (hb : ∀ C, sub C U → base C = base' C) : Ch ln sg base' M U := fun C hC => ⟨fun hp => by rw [← hb C hC]; exact (h C hC).1 hp, (h C hC).2⟩
theorem Ch_uniq0 {ln : Nat → Nat} {sg : Nat → Nat → Bool} {base base' M M' : Nat → Nat} {U : Nat} (h : Ch ln sg base M U) (h' : Ch ln sg base' M' U) (hb : ∀ C, sub C U → 0 < C → pc C < 2 → base C = base' C) : ∀ A, sub A U → 0 < A → M A = M' A := by
  intro A
  induction A using Nat.strongRecOn with
  | _ A ih =>
    intro hA h0
    obtain ⟨a1, a2⟩ := h A hA
    obtain ⟨b1, b2⟩ := h' A hA
    by_cases hp : pc A < 2
    · rw [a1 hp, b1 hp]; exact hb A hA h0 hp
    · obtain ⟨c1, c2, c3⟩ := a2 (by omega)
      obtain ⟨d1, d2, d3⟩ := b2 (by omega)
      have key : ∀ s W, cdB ln sg A s W = true → M (sd A W) = M' (sd A W) := fun s W q => by
        obtain ⟨q1, q2, q3, q4, -⟩ := cd_iff.mp q
        refine ih _ (sd_lt' q3 q4) (sub_tr (sd_sub A W) hA) (Nat.pos_of_ne_zero (fun z => ?_))
        have := sd_bit_t.mpr ⟨q1, q2⟩
        rw [z, Nat.zero_testBit] at this; cases this
      have le1 : M A ≤ M' A := by
        rcases d3 with e | ⟨s, W, q, e⟩
        · omega
        · have := c2 s W q
          rw [key s W q] at this; omega
      have le2 : M' A ≤ M A := by
        rcases c3 with e | ⟨s, W, q, e⟩
        · omega
        · have := d2 s W q
          rw [← key s W q] at this; omega
      omega
theorem mx_eq {N : Nat → Nat} {vd : Nat → Int32} {n A W : Nat} (h8 : n ≤ 8) (hA : A < 2 ^ n) (hN : ∀ i, i < 8 → N i = if i < n ∧ A.testBit i = true then nN vd i else 0) (hW : sub W A) : mxA N W 8 = mx vd W n := by
  have key : ∀ k, k ≤ 8 → mxA N W k = mx vd W (min k n) := by
    intro k hk
    induction k with
    | zero => rw [Nat.zero_min]; rfl
    | succ k ih =>
      rw [mxA, ih (by omega)]
      by_cases c : k < n
      · rw [Nat.min_eq_left (by omega), Nat.min_eq_left (by omega), mx]
        by_cases d : W.testBit k = true
        · rw [if_pos d, if_pos d, hN k (by omega), if_pos ⟨c, hW k d⟩]
        · rw [if_neg d, if_neg d]
      · rw [Nat.min_eq_right (by omega), Nat.min_eq_right (by omega), if_neg (fun d => by have := bitlt hA (hW k d); omega)]
  rw [key 8 (Nat.le_refl _), Nat.min_eq_right h8]
theorem df_iff {vd : Nat → Int32} {W : Nat} : ∀ k, df vd W k = true ↔ ∃ i, i < k ∧ W.testBit i = true ∧ vd (4 + i) = 4 := by
  intro k
  induction k with
  | zero => exact ⟨fun q => (by cases q), fun ⟨i, hi, _⟩ => (by omega)⟩
  | succ k ih =>
    rw [df, Bool.or_eq_true, ih, Bool.and_eq_true, decide_eq_true_eq]
    constructor
    · rintro (⟨i, h1, h2, h3⟩ | ⟨h1, h2⟩)
      · exact ⟨i, by omega, h2, h3⟩
      · exact ⟨k, by omega, h1, h2⟩
    · rintro ⟨i, h1, h2, h3⟩
      by_cases e : i = k
      · subst e; exact Or.inr ⟨h2, h3⟩
      · exact Or.inl ⟨i, by omega, h2, h3⟩
theorem df_al {vd : Nat → Int32} {W n : Nat} : df vd W n = true ↔ W &&& alS vd n ≠ 0 := by
  rw [df_iff]
  constructor
  · rintro ⟨i, h1, h2, h3⟩ z
    have : (W &&& alS vd n).testBit i = true := by rw [Nat.testBit_and, h2, (alS_bit n).mpr ⟨h1, h3⟩]; rfl
    rw [z, Nat.zero_testBit] at this; cases this
  · intro h
    obtain ⟨i, hi⟩ := ne0_bit (Nat.pos_of_ne_zero h)
    rw [Nat.testBit_and, Bool.and_eq_true] at hi
    obtain ⟨q1, q2⟩ := (alS_bit n).mp hi.2
    exact ⟨i, q1, hi.1, q2⟩
theorem ln_eq {N : Nat → Nat} {vd : Nat → Int32} {n A W : Nat} (h8 : n ≤ 8) (hA : A < 2 ^ n) (hN : ∀ i, i < 8 → N i = if i < n ∧ A.testBit i = true then nN vd i else 0) (h0 : 0 < W) (hW : sub W A) : lnA N (alS vd n) W = lnR vd n W := by
  have hW8 : W < 256 := by have := sub_le hW; have := p2n h8; omega
  have hp := pc_pos hW8 h0
  have hd := df_al (vd := vd) (W := W) (n := n)
  unfold lnA lnR
  by_cases c : vlA (alS vd n) W = true
  · rw [if_pos c, mx_eq h8 hA hN hW, if_neg]
    obtain ⟨-, c2⟩ := vlA_iff.mp c
    rintro (q | q | ⟨q1, q2⟩)
    · omega
    · omega
    · have := hd.mp q1
      rcases c2 with c2 | c2
      · omega
      · exact this c2.2
  · rw [if_neg c]
    by_cases d : W = 0 ∨ 3 < pc W ∨ (df vd W n = true ∧ 1 < pc W)
    · rw [if_pos d]
    · exfalso
      apply c
      refine vlA_iff.mpr ⟨h0, ?_⟩
      by_cases e : pc W = 1
      · exact Or.inl e
      · refine Or.inr ⟨by omega, ?_⟩
        by_cases g : W &&& alS vd n = 0
        · exact g
        · exact absurd (Or.inr (Or.inr ⟨hd.mpr g, by omega⟩)) d
/-- what the class knows when it was asked -/
theorem ask_tab {σ s : pm_H} {n A E : Nat} {sn vo : Int32} (h : Rel (RkT Q) σ n) (hA : A < 2 ^ n) (hE : E < 256) (hT : Tb s) (h7 : ∀ i, i < 8 → pI s 16 i = nqN (cur σ) n A i ∧ pI s 16 (8 + i) = nqV (cur σ) n A sn vo i) (h16 : pI s 16 16 = nI E) (h17 : pI s 16 17 = nI (alS (cur σ) n)) : ∃ (N : Nat → Nat) (V : Nat → Int32) (M S R B Y : Nat → Nat), (∀ i, i < 8 → V i = nqV (cur σ) n A sn vo i) ∧ (∀ W, 0 < W → sub W A → lnA N (alS (cur σ) n) W = lnR (cur σ) n W) ∧ (∃ c v, LL s N V (alS (cur σ) n) A c v) ∧ ∀ C, sub C A → T5 s M S R B Y C ∧ c5 (lnA N (alS (cur σ) n)) (sgA N V (alS (cur σ) n)) E M S R B Y C := by
  have hv := Rel_VR h
  have h8 := Rel_8 h
  have hm := VR_mOk hv
  have hA8 := Nat.lt_of_lt_of_le hA (p2n h8)
  have hL : alS (cur σ) n < 256 := lt_of_bits (n := 8) fun i hi => by have := ((alS_bit n).mp hi).1; omega
  have hNi : ∀ i, i < 8 → Nq (pI s 16) i = (if i < n ∧ A.testBit i = true then nN (cur σ) i else 0) := fun i hi => by
    obtain ⟨k1, k2, -⟩ := nqN_k (i := i) (A := A) hm
    exact Nq_nI (by rw [(h7 i hi).1]; exact k1) (by omega)
  have hUA : Us (pI s 16) 8 = A := by
    apply Nat.eq_of_testBit_eq
    intro i
    have e1 := Us_bit (f := pI s 16) (i := i) 8
    have e2 : (Us (pI s 16) 8).testBit i = true ↔ A.testBit i = true := by
      rw [e1]
      constructor
      · rintro ⟨q1, q2⟩
        rw [hNi i q1] at q2
        exact ((nqN_k (i := i) (A := A) hm).2.2.mp q2).2
      · intro q
        have hi := bitlt hA q
        refine ⟨by omega, ?_⟩
        rw [hNi i (by omega)]
        exact (nqN_k (i := i) (A := A) hm).2.2.mpr ⟨hi, q⟩
    cases c1 : (Us (pI s 16) 8).testBit i <;> cases c2 : A.testBit i
    · rfl
    · exact absurd (e2.mpr c2) (by rw [c1]; decide)
    · exact absurd (e2.mp c1) (by rw [c2]; decide)
    · rfl
  have hE16 : Nq (pI s 16) 16 = E := Nq_nI h16 (by omega)
  have hL17 : Nq (pI s 16) 17 = alS (cur σ) n := Nq_nI h17 (by omega)
  unfold Tb at hT
  rw [hE16, hL17, hUA] at hT
  obtain ⟨hLL, M, S, R, B, Y, hT5⟩ := hT
  exact ⟨Nq (pI s 16), Vq (pI s 16), M, S, R, B, Y, fun i hi => (h7 i hi).2, fun W q1 q2 => ln_eq h8 hA hNi q1 q2, hLL, fun C hC => ⟨(hT5 C hC).1.1, (hT5 C hC).2⟩⟩
theorem d_leastOf {s : pm_H} (hS : Sh s) {A C : Nat} {M S R B Y : Nat → Nat} (hA : A < 256) (e1 : pI s 15 1 = nI A) (hC : sub C A) (hT : T5 s M S R B Y C) : D_X3_leastOf [.ref 15, .int (nI C)] s = some (some (.int (if M C = 1000000 then -3 else nI (M C))), s) := by
  have hC8 : C < 256 := by have := sub_le hC; omega
  obtain ⟨⟨a1, a2, -⟩, -⟩ := hT
  have hsb' : (nI C &&& (nI A ^^^ (-1)) = 0) = True := by rw [sub0 hC8 hA]; exact eq_true hC
  have bC := ib_nI hC8 (show (256 : Nat) ≤ 1000000 by decide)
  have cC := nI_cl (show C < 2147483648 by omega)
  have h6 : (nI (M C) = 1000000) = (M C = 1000000) := nI_inj (b := 1000000) (by omega) (by decide)
  refine rD_un.trans ?_
  by_cases c : M C = 1000000
  · have c' : (nI (M C) = 1000000) = True := by rw [h6]; exact eq_true c
    rw [if_pos c]
    simp only [D_X3_leastOf, B_X3_leastOf, ↓rE_eK, ↓rE_eLi, ↓rE_eLj, ↓rE_eLa, ↓rE_eU, ↓rE_eB, ↓rE_eG, ↓rE_eIF, ↓rE_eAI, ↓rE_eAX, ↓rE_eAJ, ↓rE_eAR, ↓rE_eLen, ↓rE_eSI, ↓rE_eC, ↓rE_eCall, ↓rE_eNew, ↓rE_eNewA, ↓rE_eInst, ↓rC_cI, ↓rC_cZ0, ↓rC_cN, ↓rC_cNot, ↓rC_cAnd, ↓rC_cOr, ↓rA_aN, ↓rA_aC, ↓rS_sP, ↓rS_sUF, ↓rS_sAI, ↓rS_sAJ, ↓rS_sAR, ↓rS_sUA, ↓rS_sCall, ↓rS_sObj, ↓rS_sSi, ↓rS_sSa, ↓rS_sSj, ↓rS_sInc, ↓rS_sSkip, ↓rS_sSeq, ↓rS_sIf, ↓rS_sRetI, ↓rS_sRetJ, ↓rS_sRetA, ↓rS_sRetV, ↓rS_sSw, ↓rD_meth, ↓rD_on, ↓kR_ref, ↓kI_int, ↓kJ_long, ↓kN_null, ↓kN_ref, ↓kN_rf, ↓kQ_ref, ↓kQ_null, ↓kQ_rf, o1_i, o1ij_i, o1ji_i, o2_i, o2d_i, o2j_i, o2ji_i, o2c_i, fv_0, fv_1, fv_2, fv_3, pf_0, pf_2, pf_3, pf_4, rf_s, rf_n, is_self, ge_0, ge_s, ge_n, gd_s, gd_n, se_0, se_s, ag_0, ex_n, ex_i, ex_r, ex_0, ex_j, ex_q, ap_c, ap_n, List.append_nil, ln_c, ln_n, rp_0, rp_s, rt_0, rt_1, rt_20, rt_21, rt_2, rt_3, rt_4, rt_4n, rt_4q, nl_0, nl_1, nl_2, nl_3, nl_4, nl_5, nl_6, nl_7, nl_8, nl_9, nlB_i, nlB_r, nlB_n, nlB_f, nlB_q, ↓reduceIte, reduceCtorEq, Nat.reduceAdd, Nat.reduceSub, Nat.reduceEqDiff, Nat.reduceLeDiff, Nat.reduceBEq, ite_true, ite_false, dt_t, Bool.not_true, Bool.not_false, Bool.false_eq_true, Nat.le_refl, true_and, and_true, true_or, or_true, false_or, or_false, false_and, and_false, qEq, qNe, qLt, qGe, qGt, qLe, sT_11 hS, sT_12 hS, sT_13 hS, sT_14 hS, sT_15 hS, sT_16 hS, sT_17 hS, sT_18 hS, sT_19 hS, sT_20 hS, sT_21 hS, sT_22 hS, sT_23 hS, sT_24 hS, sT_25 hS, sT_26 hS, sT_27 hS, sT_28 hS, sT_29 hS, sT_30 hS, sT_31 hS, sT_32 hS, sT_33 hS, sT_34 hS, sL_13 hS, sL_14 hS, sL_16 hS, sL_17 hS, sL_18 hS, sL_19 hS, sL_20 hS, sL_21 hS, sL_22 hS, sL_23 hS, sL_24 hS, sL_25 hS, sL_26 hS, sL_28 hS, sL_30 hS, sL_31 hS, sL_32 hS, sL_33 hS, sL_34 hS, sR_11_2 hS, sR_11_3 hS, sR_11_4 hS, sR_11_5 hS, sR_11_7 hS, sR_11_8 hS, sR_11_9 hS, sR_27_0 hS, sR_29_0 hS, sR_15_0 hS, sR_15_3 hS, sR_15_5 hS, sR_15_6 hS, sR_15_7 hS, sR_15_8 hS, sR_15_9 hS, sR_15_10 hS, sR_15_11 hS, sR_15_12 hS, sR_15_13 hS, e1, hsb', bC, cC, a1, c']
  · rw [if_neg c]
    simp only [D_X3_leastOf, B_X3_leastOf, ↓rE_eK, ↓rE_eLi, ↓rE_eLj, ↓rE_eLa, ↓rE_eU, ↓rE_eB, ↓rE_eG, ↓rE_eIF, ↓rE_eAI, ↓rE_eAX, ↓rE_eAJ, ↓rE_eAR, ↓rE_eLen, ↓rE_eSI, ↓rE_eC, ↓rE_eCall, ↓rE_eNew, ↓rE_eNewA, ↓rE_eInst, ↓rC_cI, ↓rC_cZ0, ↓rC_cN, ↓rC_cNot, ↓rC_cAnd, ↓rC_cOr, ↓rA_aN, ↓rA_aC, ↓rS_sP, ↓rS_sUF, ↓rS_sAI, ↓rS_sAJ, ↓rS_sAR, ↓rS_sUA, ↓rS_sCall, ↓rS_sObj, ↓rS_sSi, ↓rS_sSa, ↓rS_sSj, ↓rS_sInc, ↓rS_sSkip, ↓rS_sSeq, ↓rS_sIf, ↓rS_sRetI, ↓rS_sRetJ, ↓rS_sRetA, ↓rS_sRetV, ↓rS_sSw, ↓rD_meth, ↓rD_on, ↓kR_ref, ↓kI_int, ↓kJ_long, ↓kN_null, ↓kN_ref, ↓kN_rf, ↓kQ_ref, ↓kQ_null, ↓kQ_rf, o1_i, o1ij_i, o1ji_i, o2_i, o2d_i, o2j_i, o2ji_i, o2c_i, fv_0, fv_1, fv_2, fv_3, pf_0, pf_2, pf_3, pf_4, rf_s, rf_n, is_self, ge_0, ge_s, ge_n, gd_s, gd_n, se_0, se_s, ag_0, ex_n, ex_i, ex_r, ex_0, ex_j, ex_q, ap_c, ap_n, List.append_nil, ln_c, ln_n, rp_0, rp_s, rt_0, rt_1, rt_20, rt_21, rt_2, rt_3, rt_4, rt_4n, rt_4q, nl_0, nl_1, nl_2, nl_3, nl_4, nl_5, nl_6, nl_7, nl_8, nl_9, nlB_i, nlB_r, nlB_n, nlB_f, nlB_q, ↓reduceIte, reduceCtorEq, Nat.reduceAdd, Nat.reduceSub, Nat.reduceEqDiff, Nat.reduceLeDiff, Nat.reduceBEq, ite_true, ite_false, dt_t, Bool.not_true, Bool.not_false, Bool.false_eq_true, Nat.le_refl, true_and, and_true, true_or, or_true, false_or, or_false, false_and, and_false, qEq, qNe, qLt, qGe, qGt, qLe, sT_11 hS, sT_12 hS, sT_13 hS, sT_14 hS, sT_15 hS, sT_16 hS, sT_17 hS, sT_18 hS, sT_19 hS, sT_20 hS, sT_21 hS, sT_22 hS, sT_23 hS, sT_24 hS, sT_25 hS, sT_26 hS, sT_27 hS, sT_28 hS, sT_29 hS, sT_30 hS, sT_31 hS, sT_32 hS, sT_33 hS, sT_34 hS, sL_13 hS, sL_14 hS, sL_16 hS, sL_17 hS, sL_18 hS, sL_19 hS, sL_20 hS, sL_21 hS, sL_22 hS, sL_23 hS, sL_24 hS, sL_25 hS, sL_26 hS, sL_28 hS, sL_30 hS, sL_31 hS, sL_32 hS, sL_33 hS, sL_34 hS, sR_11_2 hS, sR_11_3 hS, sR_11_4 hS, sR_11_5 hS, sR_11_7 hS, sR_11_8 hS, sR_11_9 hS, sR_27_0 hS, sR_29_0 hS, sR_15_0 hS, sR_15_3 hS, sR_15_5 hS, sR_15_6 hS, sR_15_7 hS, sR_15_8 hS, sR_15_9 hS, sR_15_10 hS, sR_15_11 hS, sR_15_12 hS, sR_15_13 hS, e1, hsb', bC, cC, a1, h6, c]
theorem d_told (m : Nat) (hm : m ≤ 1000000) (σ : pm_H) : D_X12_told [.int (nI m)] σ = some (some (.int (if m = 1000000 then -3 else nI m)), σ) := by
  have h6 : (1000000 ≤ nI m) = (1000000 ≤ m) := nI_le' (a := 1000000) (by decide) (by omega)
  refine rD_un.trans ?_
  by_cases c : m = 1000000
  · rw [if_pos c]
    simp only [D_X12_told, B_X12_told, ↓rE_eK, ↓rE_eLi, ↓rE_eLj, ↓rE_eLa, ↓rE_eU, ↓rE_eB, ↓rE_eG, ↓rE_eIF, ↓rE_eAI, ↓rE_eAX, ↓rE_eAJ, ↓rE_eAR, ↓rE_eLen, ↓rE_eSI, ↓rE_eC, ↓rE_eCall, ↓rE_eNew, ↓rE_eNewA, ↓rE_eInst, ↓rC_cI, ↓rC_cZ0, ↓rC_cN, ↓rC_cNot, ↓rC_cAnd, ↓rC_cOr, ↓rA_aN, ↓rA_aC, ↓rS_sP, ↓rS_sUF, ↓rS_sAI, ↓rS_sAJ, ↓rS_sAR, ↓rS_sUA, ↓rS_sCall, ↓rS_sObj, ↓rS_sSi, ↓rS_sSa, ↓rS_sSj, ↓rS_sInc, ↓rS_sSkip, ↓rS_sSeq, ↓rS_sIf, ↓rS_sRetI, ↓rS_sRetJ, ↓rS_sRetA, ↓rS_sRetV, ↓rS_sSw, ↓rD_meth, ↓rD_on, ↓kR_ref, ↓kI_int, ↓kJ_long, ↓kN_null, ↓kN_ref, ↓kN_rf, ↓kQ_ref, ↓kQ_null, ↓kQ_rf, o1_i, o1ij_i, o1ji_i, o2_i, o2d_i, o2j_i, o2ji_i, o2c_i, fv_0, fv_1, fv_2, fv_3, pf_0, pf_2, pf_3, pf_4, rf_s, rf_n, is_self, ge_0, ge_s, ge_n, gd_s, gd_n, se_0, se_s, ag_0, ex_n, ex_i, ex_r, ex_0, ex_j, ex_q, ap_c, ap_n, List.append_nil, ln_c, ln_n, rp_0, rp_s, rt_0, rt_1, rt_20, rt_21, rt_2, rt_3, rt_4, rt_4n, rt_4q, nl_0, nl_1, nl_2, nl_3, nl_4, nl_5, nl_6, nl_7, nl_8, nl_9, nlB_i, nlB_r, nlB_n, nlB_f, nlB_q, ↓reduceIte, reduceCtorEq, Nat.reduceAdd, Nat.reduceSub, Nat.reduceEqDiff, Nat.reduceLeDiff, Nat.reduceBEq, ite_true, ite_false, dt_t, Bool.not_true, Bool.not_false, Bool.false_eq_true, Nat.le_refl, true_and, and_true, true_or, or_true, false_or, or_false, false_and, and_false, qEq, qNe, qLt, qGe, qGt, qLe, h6, show 1000000 ≤ m from by omega]
  · rw [if_neg c]
    simp only [D_X12_told, B_X12_told, ↓rE_eK, ↓rE_eLi, ↓rE_eLj, ↓rE_eLa, ↓rE_eU, ↓rE_eB, ↓rE_eG, ↓rE_eIF, ↓rE_eAI, ↓rE_eAX, ↓rE_eAJ, ↓rE_eAR, ↓rE_eLen, ↓rE_eSI, ↓rE_eC, ↓rE_eCall, ↓rE_eNew, ↓rE_eNewA, ↓rE_eInst, ↓rC_cI, ↓rC_cZ0, ↓rC_cN, ↓rC_cNot, ↓rC_cAnd, ↓rC_cOr, ↓rA_aN, ↓rA_aC, ↓rS_sP, ↓rS_sUF, ↓rS_sAI, ↓rS_sAJ, ↓rS_sAR, ↓rS_sUA, ↓rS_sCall, ↓rS_sObj, ↓rS_sSi, ↓rS_sSa, ↓rS_sSj, ↓rS_sInc, ↓rS_sSkip, ↓rS_sSeq, ↓rS_sIf, ↓rS_sRetI, ↓rS_sRetJ, ↓rS_sRetA, ↓rS_sRetV, ↓rS_sSw, ↓rD_meth, ↓rD_on, ↓kR_ref, ↓kI_int, ↓kJ_long, ↓kN_null, ↓kN_ref, ↓kN_rf, ↓kQ_ref, ↓kQ_null, ↓kQ_rf, o1_i, o1ij_i, o1ji_i, o2_i, o2d_i, o2j_i, o2ji_i, o2c_i, fv_0, fv_1, fv_2, fv_3, pf_0, pf_2, pf_3, pf_4, rf_s, rf_n, is_self, ge_0, ge_s, ge_n, gd_s, gd_n, se_0, se_s, ag_0, ex_n, ex_i, ex_r, ex_0, ex_j, ex_q, ap_c, ap_n, List.append_nil, ln_c, ln_n, rp_0, rp_s, rt_0, rt_1, rt_20, rt_21, rt_2, rt_3, rt_4, rt_4n, rt_4q, nl_0, nl_1, nl_2, nl_3, nl_4, nl_5, nl_6, nl_7, nl_8, nl_9, nlB_i, nlB_r, nlB_n, nlB_f, nlB_q, ↓reduceIte, reduceCtorEq, Nat.reduceAdd, Nat.reduceSub, Nat.reduceEqDiff, Nat.reduceLeDiff, Nat.reduceBEq, ite_true, ite_false, dt_t, Bool.not_true, Bool.not_false, Bool.false_eq_true, Nat.le_refl, true_and, and_true, true_or, or_true, false_or, or_false, false_and, and_false, qEq, qNe, qLt, qGe, qGt, qLe, h6, show ¬ 1000000 ≤ m from by omega]
/-- fewestMinutes: what is asked and what it says -/
theorem d_fewM {σ : pm_H} {n : Nat} (h : Rel (RkT Q) σ n) {A E : Nat} (hA : A < 2 ^ n) (eA : cur σ 1 = nI A) (hE0 : 0 < E) (hE : E < 256) (sn vo : Int32) : ∃ s N V M S R B Y, D_X11_fewestMinutes [.ref 11, .int sn, .int vo, .int (nI E)] σ = some (some (.int (if M A = 1000000 then -3 else nI (M A))), s) ∧ (OC σ s ∧ pI s 18 0 = 0 ∧ pI s 15 1 = nI A ∧ Tb s) ∧ (∀ i, i < 8 → V i = nqV (cur σ) n A sn vo i) ∧ (∀ W, 0 < W → sub W A → lnA N (alS (cur σ) n) W = lnR (cur σ) n W) ∧ (∃ c v, LL s N V (alS (cur σ) n) A c v) ∧ ∀ C, sub C A → T5 s M S R B Y C ∧ c5 (lnA N (alS (cur σ) n)) (sgA N V (alS (cur σ) n)) E M S R B Y C := by
  have hS := Rel_Sh h
  have hr := Rel_nr h
  have hv := Rel_VR h
  have h8 := Rel_8 h
  have hA8 := Nat.lt_of_lt_of_le hA (p2n h8)
  obtain ⟨s, d1, d2, d3, d4, d5, d6, d7, d8⟩ := d_ask h hA eA hE0 hE sn vo
  obtain ⟨N, V, M, S, R, B, Y, t1, t2, t3, t4⟩ := ask_tab h hA hE d5 d6 d7 d8
  have hss := Fr_Sh (OC_Fr d2) hS
  have hvs := Fr_VR (OC_Fr d2) hv
  have hrs : pR s 11 0 = some (nowA σ) := by rw [d2.1.2.2.1]; exact hr
  refine ⟨s, N, V, M, S, R, B, Y, ?_, ⟨d2, d3, d4, d5⟩, t1, t2, t3, t4⟩
  refine rD_un.trans ?_
  have q1 := d_awakeSet hvs
  rw [eA] at q1
  have q2 := d_leastOf hss hA8 d4 (sub_rfl A) (t4 A (sub_rfl A)).1
  simp only [D_X11_fewestMinutes, B_X11_fewestMinutes, ↓rE_eK, ↓rE_eLi, ↓rE_eLj, ↓rE_eLa, ↓rE_eU, ↓rE_eB, ↓rE_eG, ↓rE_eIF, ↓rE_eAI, ↓rE_eAX, ↓rE_eAJ, ↓rE_eAR, ↓rE_eLen, ↓rE_eSI, ↓rE_eC, ↓rE_eCall, ↓rE_eNew, ↓rE_eNewA, ↓rE_eInst, ↓rC_cI, ↓rC_cZ0, ↓rC_cN, ↓rC_cNot, ↓rC_cAnd, ↓rC_cOr, ↓rA_aN, ↓rA_aC, ↓rS_sP, ↓rS_sUF, ↓rS_sAI, ↓rS_sAJ, ↓rS_sAR, ↓rS_sUA, ↓rS_sCall, ↓rS_sObj, ↓rS_sSi, ↓rS_sSa, ↓rS_sSj, ↓rS_sInc, ↓rS_sSkip, ↓rS_sSeq, ↓rS_sIf, ↓rS_sRetI, ↓rS_sRetJ, ↓rS_sRetA, ↓rS_sRetV, ↓rS_sSw, ↓rD_meth, ↓rD_on, ↓kR_ref, ↓kI_int, ↓kJ_long, ↓kN_null, ↓kN_ref, ↓kN_rf, ↓kQ_ref, ↓kQ_null, ↓kQ_rf, o1_i, o1ij_i, o1ji_i, o2_i, o2d_i, o2j_i, o2ji_i, o2c_i, fv_0, fv_1, fv_2, fv_3, pf_0, pf_2, pf_3, pf_4, rf_s, rf_n, is_self, ge_0, ge_s, ge_n, gd_s, gd_n, se_0, se_s, ag_0, ex_n, ex_i, ex_r, ex_0, ex_j, ex_q, ap_c, ap_n, List.append_nil, ln_c, ln_n, rp_0, rp_s, rt_0, rt_1, rt_20, rt_21, rt_2, rt_3, rt_4, rt_4n, rt_4q, nl_0, nl_1, nl_2, nl_3, nl_4, nl_5, nl_6, nl_7, nl_8, nl_9, nlB_i, nlB_r, nlB_n, nlB_f, nlB_q, ↓reduceIte, reduceCtorEq, Nat.reduceAdd, Nat.reduceSub, Nat.reduceEqDiff, Nat.reduceLeDiff, Nat.reduceBEq, ite_true, ite_false, dt_t, Bool.not_true, Bool.not_false, Bool.false_eq_true, Nat.le_refl, true_and, and_true, true_or, or_true, false_or, or_false, false_and, and_false, qEq, qNe, qLt, qGe, qGt, qLe, sT_11 hS, sT_12 hS, sT_13 hS, sT_14 hS, sT_15 hS, sT_16 hS, sT_17 hS, sT_18 hS, sT_19 hS, sT_20 hS, sT_21 hS, sT_22 hS, sT_23 hS, sT_24 hS, sT_25 hS, sT_26 hS, sT_27 hS, sT_28 hS, sT_29 hS, sT_30 hS, sT_31 hS, sT_32 hS, sT_33 hS, sT_34 hS, sL_13 hS, sL_14 hS, sL_16 hS, sL_17 hS, sL_18 hS, sL_19 hS, sL_20 hS, sL_21 hS, sL_22 hS, sL_23 hS, sL_24 hS, sL_25 hS, sL_26 hS, sL_28 hS, sL_30 hS, sL_31 hS, sL_32 hS, sL_33 hS, sL_34 hS, sR_11_2 hS, sR_11_3 hS, sR_11_4 hS, sR_11_5 hS, sR_11_7 hS, sR_11_8 hS, sR_11_9 hS, sR_27_0 hS, sR_29_0 hS, sR_15_0 hS, sR_15_3 hS, sR_15_5 hS, sR_15_6 hS, sR_15_7 hS, sR_15_8 hS, sR_15_9 hS, sR_15_10 hS, sR_15_11 hS, sR_15_12 hS, sR_15_13 hS, hr, rD_tb1 (sT_15 hS), rD_of d1, sT_11 hss, sT_12 hss, sT_13 hss, sT_14 hss, sT_15 hss, sT_16 hss, sT_17 hss, sT_18 hss, sT_19 hss, sT_20 hss, sT_21 hss, sT_22 hss, sT_23 hss, sT_24 hss, sT_25 hss, sT_26 hss, sT_27 hss, sT_28 hss, sT_29 hss, sT_30 hss, sT_31 hss, sT_32 hss, sT_33 hss, sT_34 hss, sL_13 hss, sL_14 hss, sL_16 hss, sL_17 hss, sL_18 hss, sL_19 hss, sL_20 hss, sL_21 hss, sL_22 hss, sL_23 hss, sL_24 hss, sL_25 hss, sL_26 hss, sL_28 hss, sL_30 hss, sL_31 hss, sL_32 hss, sL_33 hss, sL_34 hss, sR_11_2 hss, sR_11_3 hss, sR_11_4 hss, sR_11_5 hss, sR_11_7 hss, sR_11_8 hss, sR_11_9 hss, sR_27_0 hss, sR_29_0 hss, sR_15_0 hss, sR_15_3 hss, sR_15_5 hss, sR_15_6 hss, sR_15_7 hss, sR_15_8 hss, sR_15_9 hss, sR_15_10 hss, sR_15_11 hss, sR_15_12 hss, sR_15_13 hss, hrs, rD_tb1 (VR_T hvs), rD_of q1, rD_tb1 (sT_15 hss), rD_of q2]
/-- the rest of such a step -/
theorem fin_q {σ s τ : pm_H} {n : Nat} (h : Rel (RkT Q) σ n) (h1 : OC σ s) (h2 : pI s 18 0 = 0) (h3 : Tb s) (h4 : OD s τ) : Rel (RkT Q) τ n ∧ pN τ = pN σ ∧ pS τ = pS σ := by
  have hF := Fr_tr (OC_Fr h1) (OD_Fr h4)
  have hI : ∀ a, 15 ≤ a → a ≤ 26 → pI τ a = pI s a := fun a q1 q2 => h4.2.1 a (by omega) (by omega)
  refine ⟨Rel_q h hF (RkT_of (Rel_rs h) (fun a ha => by rw [h4.2.1 a (by omega) (by omega), h1.2 a (by omega)]) (by rw [h4.1.2.1, h1.1.2.1]) (by rw [hI 18 (by decide) (by decide)]; exact h2) ?_), hF.2.2.2.1, hF.2.2.2.2.1⟩
  unfold Tb at h3 ⊢
  rw [hI 16 (by decide) (by decide)]
  exact CTb_fr h3 (by rw [hI 15 (by decide) (by decide)]) (fun a q1 q2 => hI a (by omega) (by omega))
theorem baE_255 {C : Nat} (h : C < 256) : baE 255 C = 0 := by
  unfold baE
  have : ∀ C : Fin 256, C.val = 0 ∨ C.val &&& 255 ≠ 0 := by decide +kernel
  rw [if_pos (this ⟨C, h⟩)]
theorem nI_neg {l : Nat} (h : l ≤ 200) : ¬ nI l ≤ -1 := by rw [i_le, i_m1, nI_toInt (by omega)]; omega
/-- everybody sings with the own voice -/
theorem sg_own {N : Nat → Nat} {V vd : Nat → Int32} {n A : Nat} {sn sl : Int32} (hA : A < 2 ^ n) (h8 : n ≤ 8) (hm : mOk vd n) (hV : ∀ i, i < 8 → V i = nqV vd n A sn (-1) i) (hln : ∀ W, 0 < W → sub W A → lnA N (alS vd n) W = lnR vd n W) (hsl : ∀ i, i < n → (bt sn (nI i) = 1 ↔ nI i ≠ sl)) : ∀ s W, A.testBit s = true → 0 < W → sub W A → 0 < lnA N (alS vd n) W → sgA N V (alS vd n) s W = sgR vd n sl s W := by
  intro s W h1 h2 h3 _
  have hs := bitlt hA h1
  unfold sgA sgR
  rw [hln W h2 h3, hV s (by omega)]
  unfold nqV
  have hl := lnR_le hm W
  by_cases c : bt sn (nI s) = 1
  · rw [if_pos ⟨hs, h1, c⟩, if_pos rfl]
    simp [(hsl s hs).mp c]
  · rw [if_neg (fun q => c q.2.2)]
    have c2 : nI s = sl := by
      by_cases q : nI s = sl
      · exact q
      · exact absurd ((hsl s hs).mpr q) c
    simp [c2, nI_neg hl]
theorem bt_255 {i : Nat} (h : i < 8) : bt 255 (nI i) = 1 := by
  have : ∀ i : Fin 8, bt 255 (nI i.val) = 1 := by decide +kernel
  exact this ⟨i, h⟩
theorem ne_m1 {i : Nat} (h : i < 8) : nI i ≠ -1 := by rw [Ne, i_eq, i_m1, nI_toInt (by omega)]; omega
theorem step_least {σ : pm_H} {n : Nat} (h : Rel (RkT Q) σ n) : Step (RkT Q) D_X11_least D_X12_least [] σ := by
  have hS := Rel_Sh h
  have hv := Rel_VR h
  have hn := Rel_n h
  have h8 := Rel_8 h
  have hm := VR_mOk hv
  obtain ⟨A, hA, eA, -⟩ := VR_A hv
  have hA8 := Nat.lt_of_lt_of_le hA (p2n h8)
  obtain ⟨s, N, V, M, S, R, B, Y, d1, ⟨d2, d3, d4, d5⟩, t1, t2, -, t4⟩ := d_fewM h hA eA (show 0 < 255 by decide) (by decide) 255 (-1)
  have hF := OC_Fr d2
  have hss := Fr_Sh hF hS
  have hcu := Fr_cur hF
  have hns : pI s 35 0 = nI n := by rw [d2.2 35 (by omega)]; exact hn
  obtain ⟨τ, M', f1, f2, -, f4, f5⟩ := d_findLeast hss (sl := -1) (la := -1) hns (by rw [hcu]; exact hm)
  rw [hcu, baR_m1] at f5
  have hc := tab_Ch hA8 (fun C hC => (t4 C hC).2)
  have hc2 := Ch_congr t2 (sg_own hA h8 hm t1 t2 (sl := -1) (fun i hi => ⟨fun _ => ne_m1 (by omega), fun _ => bt_255 (by omega)⟩)) hc
  have hc3 := Ch_base (base' := bs0) hc2 (fun C hC => by rw [baE_255 (by have := sub_le hC; omega)]; rfl)
  have hMM := Ch_uniq hc3 (Ch_sub f5 (sub_ones.mpr hA)) A (sub_rfl A)
  obtain ⟨r1, r2, r3⟩ := fin_q h d2 d3 d5 f2
  refine ⟨if M A = 1000000 then -3 else nI (M A), s, τ, n, ?_, ?_, r1, by omega, by omega⟩
  · refine rD_un.trans ?_
    have d1' : D_X11_fewestMinutes [.ref 11, .int 255, .int (-1), .int 255] σ = some (some (.int (if M A = 1000000 then -3 else nI (M A))), s) := d1
    simp only [D_X11_least, B_X11_least, ↓rE_eK, ↓rE_eLi, ↓rE_eLj, ↓rE_eLa, ↓rE_eU, ↓rE_eB, ↓rE_eG, ↓rE_eIF, ↓rE_eAI, ↓rE_eAX, ↓rE_eAJ, ↓rE_eAR, ↓rE_eLen, ↓rE_eSI, ↓rE_eC, ↓rE_eCall, ↓rE_eNew, ↓rE_eNewA, ↓rE_eInst, ↓rC_cI, ↓rC_cZ0, ↓rC_cN, ↓rC_cNot, ↓rC_cAnd, ↓rC_cOr, ↓rA_aN, ↓rA_aC, ↓rS_sP, ↓rS_sUF, ↓rS_sAI, ↓rS_sAJ, ↓rS_sAR, ↓rS_sUA, ↓rS_sCall, ↓rS_sObj, ↓rS_sSi, ↓rS_sSa, ↓rS_sSj, ↓rS_sInc, ↓rS_sSkip, ↓rS_sSeq, ↓rS_sIf, ↓rS_sRetI, ↓rS_sRetJ, ↓rS_sRetA, ↓rS_sRetV, ↓rS_sSw, ↓rD_meth, ↓rD_on, ↓kR_ref, ↓kI_int, ↓kJ_long, ↓kN_null, ↓kN_ref, ↓kN_rf, ↓kQ_ref, ↓kQ_null, ↓kQ_rf, o1_i, o1ij_i, o1ji_i, o2_i, o2d_i, o2j_i, o2ji_i, o2c_i, fv_0, fv_1, fv_2, fv_3, pf_0, pf_2, pf_3, pf_4, rf_s, rf_n, is_self, ge_0, ge_s, ge_n, gd_s, gd_n, se_0, se_s, ag_0, ex_n, ex_i, ex_r, ex_0, ex_j, ex_q, ap_c, ap_n, List.append_nil, ln_c, ln_n, rp_0, rp_s, rt_0, rt_1, rt_20, rt_21, rt_2, rt_3, rt_4, rt_4n, rt_4q, nl_0, nl_1, nl_2, nl_3, nl_4, nl_5, nl_6, nl_7, nl_8, nl_9, nlB_i, nlB_r, nlB_n, nlB_f, nlB_q, ↓reduceIte, reduceCtorEq, Nat.reduceAdd, Nat.reduceSub, Nat.reduceEqDiff, Nat.reduceLeDiff, Nat.reduceBEq, ite_true, ite_false, dt_t, Bool.not_true, Bool.not_false, Bool.false_eq_true, Nat.le_refl, true_and, and_true, true_or, or_true, false_or, or_false, false_and, and_false, qEq, qNe, qLt, qGe, qGt, qLe, rD_tb1 (sT_11 hS), rD_of d1']
  · refine rD_un.trans ?_
    have hsτ := Fr_Sh (OD_Fr f2) hss
    have e8 : pI τ 35 8 = nI A := by rw [f2.2.2 8 (by decide) (by decide), d2.2 35 (by omega)]; exact eA
    have bA := ib_nI hA8 (show (256 : Nat) ≤ 1000000 by decide)
    have cA := nI_cl (show A < 2147483648 by omega)
    rw [hMM]
    simp only [D_X12_least, B_X12_least, ↓rE_eK, ↓rE_eLi, ↓rE_eLj, ↓rE_eLa, ↓rE_eU, ↓rE_eB, ↓rE_eG, ↓rE_eIF, ↓rE_eAI, ↓rE_eAX, ↓rE_eAJ, ↓rE_eAR, ↓rE_eLen, ↓rE_eSI, ↓rE_eC, ↓rE_eCall, ↓rE_eNew, ↓rE_eNewA, ↓rE_eInst, ↓rC_cI, ↓rC_cZ0, ↓rC_cN, ↓rC_cNot, ↓rC_cAnd, ↓rC_cOr, ↓rA_aN, ↓rA_aC, ↓rS_sP, ↓rS_sUF, ↓rS_sAI, ↓rS_sAJ, ↓rS_sAR, ↓rS_sUA, ↓rS_sCall, ↓rS_sObj, ↓rS_sSi, ↓rS_sSa, ↓rS_sSj, ↓rS_sInc, ↓rS_sSkip, ↓rS_sSeq, ↓rS_sIf, ↓rS_sRetI, ↓rS_sRetJ, ↓rS_sRetA, ↓rS_sRetV, ↓rS_sSw, ↓rD_meth, ↓rD_on, ↓kR_ref, ↓kI_int, ↓kJ_long, ↓kN_null, ↓kN_ref, ↓kN_rf, ↓kQ_ref, ↓kQ_null, ↓kQ_rf, o1_i, o1ij_i, o1ji_i, o2_i, o2d_i, o2j_i, o2ji_i, o2c_i, fv_0, fv_1, fv_2, fv_3, pf_0, pf_2, pf_3, pf_4, rf_s, rf_n, is_self, ge_0, ge_s, ge_n, gd_s, gd_n, se_0, se_s, ag_0, ex_n, ex_i, ex_r, ex_0, ex_j, ex_q, ap_c, ap_n, List.append_nil, ln_c, ln_n, rp_0, rp_s, rt_0, rt_1, rt_20, rt_21, rt_2, rt_3, rt_4, rt_4n, rt_4q, nl_0, nl_1, nl_2, nl_3, nl_4, nl_5, nl_6, nl_7, nl_8, nl_9, nlB_i, nlB_r, nlB_n, nlB_f, nlB_q, ↓reduceIte, reduceCtorEq, Nat.reduceAdd, Nat.reduceSub, Nat.reduceEqDiff, Nat.reduceLeDiff, Nat.reduceBEq, ite_true, ite_false, dt_t, Bool.not_true, Bool.not_false, Bool.false_eq_true, Nat.le_refl, true_and, and_true, true_or, or_true, false_or, or_false, false_and, and_false, qEq, qNe, qLt, qGe, qGt, qLe, rD_tb1 (sT_35 hss), rD_of f1, sT_35 hsτ, sT_36 hsτ, sT_37 hsτ, sT_38 hsτ, sT_39 hsτ, sT_40 hsτ, sT_41 hsτ, sT_42 hsτ, sT_43 hsτ, sT_44 hsτ, sT_45 hsτ, sT_46 hsτ, sT_47 hsτ, sT_48 hsτ, sT_49 hsτ, sT_50 hsτ, sT_51 hsτ, sT_52 hsτ, sT_53 hsτ, sT_54 hsτ, sT_55 hsτ, sT_56 hsτ, sT_57 hsτ, sT_58 hsτ, sT_59 hsτ, sT_60 hsτ, sT_61 hsτ, sT_62 hsτ, sT_63 hsτ, sT_64 hsτ, sT_65 hsτ, sL_36 hsτ, sL_37 hsτ, sL_38 hsτ, sL_39 hsτ, sL_40 hsτ, sL_41 hsτ, sL_42 hsτ, sL_43 hsτ, sL_44 hsτ, sL_45 hsτ, sL_46 hsτ, sL_47 hsτ, sL_48 hsτ, sL_49 hsτ, sL_50 hsτ, sL_51 hsτ, sL_52 hsτ, sL_53 hsτ, sL_54 hsτ, sL_55 hsτ, sL_56 hsτ, sL_57 hsτ, sL_58 hsτ, sL_59 hsτ, sL_60 hsτ, sL_61 hsτ, sL_62 hsτ, sL_63 hsτ, sL_64 hsτ, sL_65 hsτ, sR_35_1 hsτ, sR_35_2 hsτ, sR_35_3 hsτ, sR_35_4 hsτ, sR_35_5 hsτ, sR_35_6 hsτ, sR_35_7 hsτ, sR_35_11 hsτ, sR_35_21 hsτ, sR_35_22 hsτ, sR_35_23 hsτ, sR_35_24 hsτ, sR_35_25 hsτ, sR_35_26 hsτ, sR_35_27 hsτ, sR_35_28 hsτ, sR_35_29 hsτ, sR_35_30 hsτ, sR_35_31 hsτ, sR_35_32 hsτ, sR_35_35 hsτ, sR_35_37 hsτ, sR_35_38 hsτ, sR_35_39 hsτ, sR_35_40 hsτ, sR_35_41 hsτ, sR_35_42 hsτ, sR_35_46 hsτ, sR_35_50 hsτ, sR_35_52 hsτ, e8, bA, cA, (f4 A hA).1, rD_of (d_told _ (f4 A hA).2 _)]
theorem step_with {σ : pm_H} {n : Nat} (p : Int32) (h : Rel (RkT Q) σ n) : Step (RkT Q) D_X11_with D_X12_with [.int p] σ := by
  have hS := Rel_Sh h
  have hv := Rel_VR h
  have hn := Rel_n h
  have h8 := Rel_8 h
  have hr := Rel_nr h
  have hm := VR_mOk hv
  by_cases hp : ib p n = true
  · obtain ⟨i, hi, e1, e2⟩ := ib_ex hp
    subst e1
    obtain ⟨A, hA, eA, hA0⟩ := VR_A hv
    have hApos := hA0 (by omega)
    have hA8 := Nat.lt_of_lt_of_le hA (p2n h8)
    have h2i : 2 ^ i < 256 := by have := Nat.pow_lt_pow_right (show 1 < 2 by decide) (show i < 8 by omega); omega
    obtain ⟨s, N, V, M, S, R, B, Y, d1, ⟨d2, d3, d4, d5⟩, t1, t2, -, t4⟩ := d_fewM h hA eA (E := 2 ^ i) (Nat.pow_pos (by decide)) h2i 255 (-1)
    have hF := OC_Fr d2
    have hss := Fr_Sh hF hS
    have hcu := Fr_cur hF
    have hns : pI s 35 0 = nI n := by rw [d2.2 35 (by omega)]; exact hn
    obtain ⟨τ, M', f1, f2, -, f4, f5⟩ := d_findLeast hss (sl := -1) (la := nI i) hns (by rw [hcu]; exact hm)
    rw [hcu] at f5
    have hc := tab_Ch hA8 (fun C hC => (t4 C hC).2)
    have hc2 := Ch_congr t2 (sg_own hA h8 hm t1 t2 (sl := -1) (fun i hi => ⟨fun _ => ne_m1 (by omega), fun _ => bt_255 (by omega)⟩)) hc
    have hMM := Ch_uniq0 hc2 (Ch_sub f5 (sub_ones.mpr hA)) (fun C hC h0 hpc => by
      have hC8 : C < 256 := by have := sub_le hC; omega
      rw [baR_p (by omega) hC8]
      unfold baE bsP
      have hb := pc_two_ne ⟨C, hC8⟩ hpc ⟨i, by omega⟩
      dsimp only at hb
      by_cases c : C = 2 ^ i
      · rw [if_pos c, if_pos]
        right
        rw [c, Nat.and_self]
        exact Nat.pos_iff_ne_zero.mp (Nat.pow_pos (by decide))
      · rw [if_neg c, if_neg]
        rintro (q | q)
        · omega
        · apply c
          apply hb.mp
          obtain ⟨j, hj⟩ := ne0_bit (Nat.pos_of_ne_zero q)
          rw [Nat.testBit_and, Bool.and_eq_true, pw_bit, decide_eq_true_eq] at hj
          rw [hj.2]; exact hj.1) A (sub_rfl A) hApos
    obtain ⟨r1, r2, r3⟩ := fin_q h d2 d3 d5 f2
    refine ⟨if M A = 1000000 then -3 else nI (M A), s, τ, n, ?_, ?_, r1, by omega, by omega⟩
    · refine rD_un.trans ?_
      simp only [D_X11_with, B_X11_with, ↓rE_eK, ↓rE_eLi, ↓rE_eLj, ↓rE_eLa, ↓rE_eU, ↓rE_eB, ↓rE_eG, ↓rE_eIF, ↓rE_eAI, ↓rE_eAX, ↓rE_eAJ, ↓rE_eAR, ↓rE_eLen, ↓rE_eSI, ↓rE_eC, ↓rE_eCall, ↓rE_eNew, ↓rE_eNewA, ↓rE_eInst, ↓rC_cI, ↓rC_cZ0, ↓rC_cN, ↓rC_cNot, ↓rC_cAnd, ↓rC_cOr, ↓rA_aN, ↓rA_aC, ↓rS_sP, ↓rS_sUF, ↓rS_sAI, ↓rS_sAJ, ↓rS_sAR, ↓rS_sUA, ↓rS_sCall, ↓rS_sObj, ↓rS_sSi, ↓rS_sSa, ↓rS_sSj, ↓rS_sInc, ↓rS_sSkip, ↓rS_sSeq, ↓rS_sIf, ↓rS_sRetI, ↓rS_sRetJ, ↓rS_sRetA, ↓rS_sRetV, ↓rS_sSw, ↓rD_meth, ↓rD_on, ↓kR_ref, ↓kI_int, ↓kJ_long, ↓kN_null, ↓kN_ref, ↓kN_rf, ↓kQ_ref, ↓kQ_null, ↓kQ_rf, o1_i, o1ij_i, o1ji_i, o2_i, o2d_i, o2j_i, o2ji_i, o2c_i, fv_0, fv_1, fv_2, fv_3, pf_0, pf_2, pf_3, pf_4, rf_s, rf_n, is_self, ge_0, ge_s, ge_n, gd_s, gd_n, se_0, se_s, ag_0, ex_n, ex_i, ex_r, ex_0, ex_j, ex_q, ap_c, ap_n, List.append_nil, ln_c, ln_n, rp_0, rp_s, rt_0, rt_1, rt_20, rt_21, rt_2, rt_3, rt_4, rt_4n, rt_4q, nl_0, nl_1, nl_2, nl_3, nl_4, nl_5, nl_6, nl_7, nl_8, nl_9, nlB_i, nlB_r, nlB_n, nlB_f, nlB_q, ↓reduceIte, reduceCtorEq, Nat.reduceAdd, Nat.reduceSub, Nat.reduceEqDiff, Nat.reduceLeDiff, Nat.reduceBEq, ite_true, ite_false, dt_t, Bool.not_true, Bool.not_false, Bool.false_eq_true, Nat.le_refl, true_and, and_true, true_or, or_true, false_or, or_false, false_and, and_false, qEq, qNe, qLt, qGe, qGt, qLe, sT_11 hS, sT_12 hS, sT_13 hS, sT_14 hS, sT_15 hS, sT_16 hS, sT_17 hS, sT_18 hS, sT_19 hS, sT_20 hS, sT_21 hS, sT_22 hS, sT_23 hS, sT_24 hS, sT_25 hS, sT_26 hS, sT_27 hS, sT_28 hS, sT_29 hS, sT_30 hS, sT_31 hS, sT_32 hS, sT_33 hS, sT_34 hS, sL_13 hS, sL_14 hS, sL_16 hS, sL_17 hS, sL_18 hS, sL_19 hS, sL_20 hS, sL_21 hS, sL_22 hS, sL_23 hS, sL_24 hS, sL_25 hS, sL_26 hS, sL_28 hS, sL_30 hS, sL_31 hS, sL_32 hS, sL_33 hS, sL_34 hS, sR_11_2 hS, sR_11_3 hS, sR_11_4 hS, sR_11_5 hS, sR_11_7 hS, sR_11_8 hS, sR_11_9 hS, sR_27_0 hS, sR_29_0 hS, sR_15_0 hS, sR_15_3 hS, sR_15_5 hS, sR_15_6 hS, sR_15_7 hS, sR_15_8 hS, sR_15_9 hS, sR_15_10 hS, sR_15_11 hS, sR_15_12 hS, sR_15_13 hS, hr, rD_tb1 (VR_T hv), rD_of (d_at_t hv hp), nI_shl (show i < 8 by omega), rD_tb1 (sT_11 hS), rD_of d1]
    · refine rD_un.trans ?_
      have hsτ := Fr_Sh (OD_Fr f2) hss
      have e8 : pI τ 35 8 = nI A := by rw [f2.2.2 8 (by decide) (by decide), d2.2 35 (by omega)]; exact eA
      have bA := ib_nI hA8 (show (256 : Nat) ≤ 1000000 by decide)
      have cA := nI_cl (show A < 2147483648 by omega)
      rw [hMM]
      simp only [D_X12_with, B_X12_with, ↓rE_eK, ↓rE_eLi, ↓rE_eLj, ↓rE_eLa, ↓rE_eU, ↓rE_eB, ↓rE_eG, ↓rE_eIF, ↓rE_eAI, ↓rE_eAX, ↓rE_eAJ, ↓rE_eAR, ↓rE_eLen, ↓rE_eSI, ↓rE_eC, ↓rE_eCall, ↓rE_eNew, ↓rE_eNewA, ↓rE_eInst, ↓rC_cI, ↓rC_cZ0, ↓rC_cN, ↓rC_cNot, ↓rC_cAnd, ↓rC_cOr, ↓rA_aN, ↓rA_aC, ↓rS_sP, ↓rS_sUF, ↓rS_sAI, ↓rS_sAJ, ↓rS_sAR, ↓rS_sUA, ↓rS_sCall, ↓rS_sObj, ↓rS_sSi, ↓rS_sSa, ↓rS_sSj, ↓rS_sInc, ↓rS_sSkip, ↓rS_sSeq, ↓rS_sIf, ↓rS_sRetI, ↓rS_sRetJ, ↓rS_sRetA, ↓rS_sRetV, ↓rS_sSw, ↓rD_meth, ↓rD_on, ↓kR_ref, ↓kI_int, ↓kJ_long, ↓kN_null, ↓kN_ref, ↓kN_rf, ↓kQ_ref, ↓kQ_null, ↓kQ_rf, o1_i, o1ij_i, o1ji_i, o2_i, o2d_i, o2j_i, o2ji_i, o2c_i, fv_0, fv_1, fv_2, fv_3, pf_0, pf_2, pf_3, pf_4, rf_s, rf_n, is_self, ge_0, ge_s, ge_n, gd_s, gd_n, se_0, se_s, ag_0, ex_n, ex_i, ex_r, ex_0, ex_j, ex_q, ap_c, ap_n, List.append_nil, ln_c, ln_n, rp_0, rp_s, rt_0, rt_1, rt_20, rt_21, rt_2, rt_3, rt_4, rt_4n, rt_4q, nl_0, nl_1, nl_2, nl_3, nl_4, nl_5, nl_6, nl_7, nl_8, nl_9, nlB_i, nlB_r, nlB_n, nlB_f, nlB_q, ↓reduceIte, reduceCtorEq, Nat.reduceAdd, Nat.reduceSub, Nat.reduceEqDiff, Nat.reduceLeDiff, Nat.reduceBEq, ite_true, ite_false, dt_t, Bool.not_true, Bool.not_false, Bool.false_eq_true, Nat.le_refl, true_and, and_true, true_or, or_true, false_or, or_false, false_and, and_false, qEq, qNe, qLt, qGe, qGt, qLe, rD_tb1 (sT_35 hss), rD_of (d_isPerson _ hss hns h8), b32_ne, nt_t, hp, not_true, rD_of f1, sT_35 hsτ, sT_36 hsτ, sT_37 hsτ, sT_38 hsτ, sT_39 hsτ, sT_40 hsτ, sT_41 hsτ, sT_42 hsτ, sT_43 hsτ, sT_44 hsτ, sT_45 hsτ, sT_46 hsτ, sT_47 hsτ, sT_48 hsτ, sT_49 hsτ, sT_50 hsτ, sT_51 hsτ, sT_52 hsτ, sT_53 hsτ, sT_54 hsτ, sT_55 hsτ, sT_56 hsτ, sT_57 hsτ, sT_58 hsτ, sT_59 hsτ, sT_60 hsτ, sT_61 hsτ, sT_62 hsτ, sT_63 hsτ, sT_64 hsτ, sT_65 hsτ, sL_36 hsτ, sL_37 hsτ, sL_38 hsτ, sL_39 hsτ, sL_40 hsτ, sL_41 hsτ, sL_42 hsτ, sL_43 hsτ, sL_44 hsτ, sL_45 hsτ, sL_46 hsτ, sL_47 hsτ, sL_48 hsτ, sL_49 hsτ, sL_50 hsτ, sL_51 hsτ, sL_52 hsτ, sL_53 hsτ, sL_54 hsτ, sL_55 hsτ, sL_56 hsτ, sL_57 hsτ, sL_58 hsτ, sL_59 hsτ, sL_60 hsτ, sL_61 hsτ, sL_62 hsτ, sL_63 hsτ, sL_64 hsτ, sL_65 hsτ, sR_35_1 hsτ, sR_35_2 hsτ, sR_35_3 hsτ, sR_35_4 hsτ, sR_35_5 hsτ, sR_35_6 hsτ, sR_35_7 hsτ, sR_35_11 hsτ, sR_35_21 hsτ, sR_35_22 hsτ, sR_35_23 hsτ, sR_35_24 hsτ, sR_35_25 hsτ, sR_35_26 hsτ, sR_35_27 hsτ, sR_35_28 hsτ, sR_35_29 hsτ, sR_35_30 hsτ, sR_35_31 hsτ, sR_35_32 hsτ, sR_35_35 hsτ, sR_35_37 hsτ, sR_35_38 hsτ, sR_35_39 hsτ, sR_35_40 hsτ, sR_35_41 hsτ, sR_35_42 hsτ, sR_35_46 hsτ, sR_35_50 hsτ, sR_35_52 hsτ, e8, bA, cA, (f4 A hA).1, rD_of (d_told _ (f4 A hA).2 _)]
  · refine ⟨-1, σ, σ, n, ?_, ?_, h, by omega, by omega⟩
    · refine rD_un.trans ?_
      simp only [D_X11_with, B_X11_with, ↓rE_eK, ↓rE_eLi, ↓rE_eLj, ↓rE_eLa, ↓rE_eU, ↓rE_eB, ↓rE_eG, ↓rE_eIF, ↓rE_eAI, ↓rE_eAX, ↓rE_eAJ, ↓rE_eAR, ↓rE_eLen, ↓rE_eSI, ↓rE_eC, ↓rE_eCall, ↓rE_eNew, ↓rE_eNewA, ↓rE_eInst, ↓rC_cI, ↓rC_cZ0, ↓rC_cN, ↓rC_cNot, ↓rC_cAnd, ↓rC_cOr, ↓rA_aN, ↓rA_aC, ↓rS_sP, ↓rS_sUF, ↓rS_sAI, ↓rS_sAJ, ↓rS_sAR, ↓rS_sUA, ↓rS_sCall, ↓rS_sObj, ↓rS_sSi, ↓rS_sSa, ↓rS_sSj, ↓rS_sInc, ↓rS_sSkip, ↓rS_sSeq, ↓rS_sIf, ↓rS_sRetI, ↓rS_sRetJ, ↓rS_sRetA, ↓rS_sRetV, ↓rS_sSw, ↓rD_meth, ↓rD_on, ↓kR_ref, ↓kI_int, ↓kJ_long, ↓kN_null, ↓kN_ref, ↓kN_rf, ↓kQ_ref, ↓kQ_null, ↓kQ_rf, o1_i, o1ij_i, o1ji_i, o2_i, o2d_i, o2j_i, o2ji_i, o2c_i, fv_0, fv_1, fv_2, fv_3, pf_0, pf_2, pf_3, pf_4, rf_s, rf_n, is_self, ge_0, ge_s, ge_n, gd_s, gd_n, se_0, se_s, ag_0, ex_n, ex_i, ex_r, ex_0, ex_j, ex_q, ap_c, ap_n, List.append_nil, ln_c, ln_n, rp_0, rp_s, rt_0, rt_1, rt_20, rt_21, rt_2, rt_3, rt_4, rt_4n, rt_4q, nl_0, nl_1, nl_2, nl_3, nl_4, nl_5, nl_6, nl_7, nl_8, nl_9, nlB_i, nlB_r, nlB_n, nlB_f, nlB_q, ↓reduceIte, reduceCtorEq, Nat.reduceAdd, Nat.reduceSub, Nat.reduceEqDiff, Nat.reduceLeDiff, Nat.reduceBEq, ite_true, ite_false, dt_t, Bool.not_true, Bool.not_false, Bool.false_eq_true, Nat.le_refl, true_and, and_true, true_or, or_true, false_or, or_false, false_and, and_false, qEq, qNe, qLt, qGe, qGt, qLe, sT_11 hS, sT_12 hS, sT_13 hS, sT_14 hS, sT_15 hS, sT_16 hS, sT_17 hS, sT_18 hS, sT_19 hS, sT_20 hS, sT_21 hS, sT_22 hS, sT_23 hS, sT_24 hS, sT_25 hS, sT_26 hS, sT_27 hS, sT_28 hS, sT_29 hS, sT_30 hS, sT_31 hS, sT_32 hS, sT_33 hS, sT_34 hS, sL_13 hS, sL_14 hS, sL_16 hS, sL_17 hS, sL_18 hS, sL_19 hS, sL_20 hS, sL_21 hS, sL_22 hS, sL_23 hS, sL_24 hS, sL_25 hS, sL_26 hS, sL_28 hS, sL_30 hS, sL_31 hS, sL_32 hS, sL_33 hS, sL_34 hS, sR_11_2 hS, sR_11_3 hS, sR_11_4 hS, sR_11_5 hS, sR_11_7 hS, sR_11_8 hS, sR_11_9 hS, sR_27_0 hS, sR_29_0 hS, sR_15_0 hS, sR_15_3 hS, sR_15_5 hS, sR_15_6 hS, sR_15_7 hS, sR_15_8 hS, sR_15_9 hS, sR_15_10 hS, sR_15_11 hS, sR_15_12 hS, sR_15_13 hS, hr, rD_tb1 (VR_T hv), rD_of (d_at_f hv hp)]
    · refine rD_un.trans ?_
      simp only [D_X12_with, B_X12_with, ↓rE_eK, ↓rE_eLi, ↓rE_eLj, ↓rE_eLa, ↓rE_eU, ↓rE_eB, ↓rE_eG, ↓rE_eIF, ↓rE_eAI, ↓rE_eAX, ↓rE_eAJ, ↓rE_eAR, ↓rE_eLen, ↓rE_eSI, ↓rE_eC, ↓rE_eCall, ↓rE_eNew, ↓rE_eNewA, ↓rE_eInst, ↓rC_cI, ↓rC_cZ0, ↓rC_cN, ↓rC_cNot, ↓rC_cAnd, ↓rC_cOr, ↓rA_aN, ↓rA_aC, ↓rS_sP, ↓rS_sUF, ↓rS_sAI, ↓rS_sAJ, ↓rS_sAR, ↓rS_sUA, ↓rS_sCall, ↓rS_sObj, ↓rS_sSi, ↓rS_sSa, ↓rS_sSj, ↓rS_sInc, ↓rS_sSkip, ↓rS_sSeq, ↓rS_sIf, ↓rS_sRetI, ↓rS_sRetJ, ↓rS_sRetA, ↓rS_sRetV, ↓rS_sSw, ↓rD_meth, ↓rD_on, ↓kR_ref, ↓kI_int, ↓kJ_long, ↓kN_null, ↓kN_ref, ↓kN_rf, ↓kQ_ref, ↓kQ_null, ↓kQ_rf, o1_i, o1ij_i, o1ji_i, o2_i, o2d_i, o2j_i, o2ji_i, o2c_i, fv_0, fv_1, fv_2, fv_3, pf_0, pf_2, pf_3, pf_4, rf_s, rf_n, is_self, ge_0, ge_s, ge_n, gd_s, gd_n, se_0, se_s, ag_0, ex_n, ex_i, ex_r, ex_0, ex_j, ex_q, ap_c, ap_n, List.append_nil, ln_c, ln_n, rp_0, rp_s, rt_0, rt_1, rt_20, rt_21, rt_2, rt_3, rt_4, rt_4n, rt_4q, nl_0, nl_1, nl_2, nl_3, nl_4, nl_5, nl_6, nl_7, nl_8, nl_9, nlB_i, nlB_r, nlB_n, nlB_f, nlB_q, ↓reduceIte, reduceCtorEq, Nat.reduceAdd, Nat.reduceSub, Nat.reduceEqDiff, Nat.reduceLeDiff, Nat.reduceBEq, ite_true, ite_false, dt_t, Bool.not_true, Bool.not_false, Bool.false_eq_true, Nat.le_refl, true_and, and_true, true_or, or_true, false_or, or_false, false_and, and_false, qEq, qNe, qLt, qGe, qGt, qLe, rD_tb1 (sT_35 hS), rD_of (d_isPerson _ hS hn h8), b32_ne, nt_t, hp, not_false_eq_true]
