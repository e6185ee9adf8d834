/-! The class's question. -/
theorem tab_Ch {ln : Nat → Nat} {sg : Nat → Nat → Bool} {E U : Nat} {M S R B Y : Nat → Nat} (hU : U < 256) (h : ∀ A, sub A U → c5 ln sg E M S R B Y A) : Ch ln sg (baE E) M U := fun A hA => by
  have hA8 : A < 256 := by have := sub_le hA; omega
  obtain ⟨h1, h2⟩ := h A hA
  refine ⟨fun hp => (h1 hp).1, fun hp => ?_⟩
  obtain ⟨⟨a1, a2, a3⟩, -⟩ := h2 hp
  refine ⟨a1, fun s W q => a2 s W (by have := sub_le (cd_iff.mp q).2.2.2.1; omega) q, ?_⟩
  rcases a3 with c | ⟨s, W, -, q, e⟩
  · exact Or.inl c
  · exact Or.inr ⟨s, W, q, e⟩
theorem bs_be {ln : Nat → Nat} {sg : Nat → Nat → Bool} {M : Nat → Nat} {A s W : Nat} (hM : M A < 1000000) : bsB ln sg M A s W = beB ln sg M A (M A) s W := by
  unfold bsB beB
  simp [hM]
theorem tab_all {ln : Nat → Nat} {sg : Nat → Nat → Bool} {E U : Nat} {M S R B Y : Nat → Nat} (hU : U < 256) (hE : ∀ A, sub A U → baE E A = 0) (h : ∀ A, sub A U → c5 ln sg E M S R B Y A) : Ch ln sg bs0 M U ∧ ChS ln sg M S U ∧ ChR ln sg M R U ∧ ChB ln sg M B U ∧ ChY ln sg M Y U := by
  have hc0 := tab_Ch hU h
  have hc : Ch ln sg bs0 M U := fun A hA => ⟨fun hp => by rw [(hc0 A hA).1 hp, hE A hA]; rfl, (hc0 A hA).2⟩
  have lt : ∀ {A s W}, sub A U → cdB ln sg A s W = true → W < 256 := fun {A s W} hA q => by
    have := sub_le (cd_iff.mp q).2.2.2.1
    have := sub_le hA
    omega
  refine ⟨hc, ChS_of hU (c := 8) (Nat.le_refl _) hc (fun A hA hM => ⟨fun hp => ((h A hA).1 hp).2.1, fun hp => ?_⟩), fun A hA hM => ⟨fun hp => ?_, fun hp => ?_⟩, fun A hA hM => ⟨fun hp => ?_, fun hp p => ?_⟩, fun A hA => ⟨fun hp => ?_, fun hp p => ?_⟩⟩
  · obtain ⟨-, -, ⟨c1, -, -⟩, c2⟩ := (h A hA).2 hp
    obtain ⟨d1, d2, -, -⟩ := c2 hM
    refine ⟨c1, fun s W q => ?_, ?_⟩
    · rw [bs_be hM] at q
      exact d1 s W (lt hA (be_iff.mp q).1) q
    · rcases d2 with e | ⟨s, W, -, q, e⟩
      · exact Or.inl e
      · exact Or.inr ⟨s, W, by rw [bs_be hM]; exact q, e⟩
  · obtain ⟨e1, -, e3, -, -⟩ := (h A hA).1 hp
    rw [e3, if_pos (by rw [e1, hE A hA])]
  · obtain ⟨-, -, -, c2⟩ := (h A hA).2 hp
    obtain ⟨-, -, -, d4⟩ := c2 hM
    rw [d4]
    have e : wsum ln sg M R A = sumN (hW ln sg M R A (M A)) 256 := by
      unfold wsum
      refine sumN_congr 256 (fun W _ => ?_)
      unfold hW
      refine sumN_congr 8 (fun s _ => ?_)
      rw [bs_be hM]
    rw [e]
  · obtain ⟨e1, -, -, e4, -⟩ := (h A hA).1 hp
    rw [e4, if_pos (by rw [e1, hE A hA])]
  · obtain ⟨-, -, -, c2⟩ := (h A hA).2 hp
    obtain ⟨-, -, d3, -⟩ := c2 hM
    rw [d3 p]
    exact ⟨fun ⟨s, W, _, q2, q3⟩ => ⟨s, W, by rw [bs_be hM]; exact q2, q3⟩, fun ⟨s, W, q2, q3⟩ => by
      rw [bs_be hM] at q2
      exact ⟨s, W, lt hA (be_iff.mp q2).1, q2, q3⟩⟩
  · obtain ⟨e1, -, -, e4, e5⟩ := (h A hA).1 hp
    rw [e5, e4, if_pos (by rw [e1, hE A hA])]
  · obtain ⟨-, ⟨-, y2⟩, -⟩ := (h A hA).2 hp
    rw [y2 p]
    exact ⟨fun ⟨s, W, _, q2, q3, q4⟩ => ⟨s, W, q2, q3, q4⟩, fun ⟨s, W, q2, q3, q4⟩ => ⟨s, W, lt hA q2, q2, q3, q4⟩⟩
-- what was asked, as numbers
def Nq (f : Nat → Int32) (i : Nat) : Nat := (f i).toInt.toNat
def Vq (f : Nat → Int32) (i : Nat) : Int32 := f (8 + i)
def Us (f : Nat → Int32) : Nat → Nat
  | 0 => 0
  | k + 1 => if 0 < Nq f k then Us f k ||| 2 ^ k else Us f k
theorem Us_bit {f : Nat → Int32} {i : Nat} : ∀ k, (Us f k).testBit i = true ↔ i < k ∧ 0 < Nq f i := by
  intro k
  induction k with
  | zero => rw [Us, Nat.zero_testBit]; exact ⟨fun h => absurd h (by decide), fun h => by omega⟩
  | succ k ih =>
    rw [Us]
    by_cases c : 0 < Nq f k
    · rw [if_pos c, Nat.testBit_or, Bool.or_eq_true, ih, pw_bit, decide_eq_true_eq]
      constructor
      · rintro (⟨h1, h2⟩ | rfl)
        · exact ⟨by omega, h2⟩
        · exact ⟨by omega, c⟩
      · rintro ⟨h1, h2⟩
        by_cases e : k = i
        · exact Or.inr e
        · exact Or.inl ⟨by omega, h2⟩
    · rw [if_neg c, ih]
      constructor
      · rintro ⟨h1, h2⟩; exact ⟨by omega, h2⟩
      · rintro ⟨h1, h2⟩
        refine ⟨?_, h2⟩
        by_cases e : k = i
        · rw [e] at c; exact absurd h2 c
        · omega
/-- the tables are those of the question f -/
def Tb (σ : pm_H) : Prop := CTb σ (Nq (pI σ 16)) (Vq (pI σ 16)) (Nq (pI σ 16) 16) (Nq (pI σ 16) 17) (Us (pI σ 16) 8)
/-- the texts, and the script -/
def RsT (Q : (Nat → Int32) × Nat) (F : Nat → Nat → Int32) : Prop := (∀ i, i < 10 → F (12 + i) = st_at i) ∧ F 22 = Q.1 ∧ F 23 0 = nI Q.2
def RkT (Q : (Nat → Int32) × Nat) (F : Nat → Nat → Int32) : Prop := F 3 0 = 0 ∧ (F 1 16 = 0 ∨ ∃ τ, rkF τ = F ∧ Tb τ) ∧ RsT Q F
variable {Q : (Nat → Int32) × Nat}
theorem CTb_fr {σ s : pm_H} {N : Nat → Nat} {V : Nat → Int32} {E L U : Nat} (h : CTb σ N V E L U) (e1 : pI s 15 4 = pI σ 15 4) (e2 : ∀ a, 17 ≤ a → a ≤ 24 → pI s a = pI σ a) : CTb s N V E L U := by
  obtain ⟨⟨c, v, hL⟩, M, S, R, B, Y, hT⟩ := h
  refine ⟨⟨c, v, ?_⟩, M, S, R, B, Y, fun A hA => ⟨⟨?_, (hT A hA).1.2⟩, (hT A hA).2⟩⟩
  · unfold LL
    rw [e1, e2 17 (by decide) (by decide), e2 18 (by decide) (by decide), e2 19 (by decide) (by decide)]
    exact hL
  · unfold T5
    rw [e2 20 (by decide) (by decide), e2 21 (by decide) (by decide), e2 22 (by decide) (by decide), e2 23 (by decide) (by decide), e2 24 (by decide) (by decide)]
    exact (hT A hA).1.1
theorem rkF_eq {σ τ : pm_H} (h : rkF τ = rkF σ) {a : Nat} (h1 : 15 ≤ a) (h2 : a ≤ 26) : pI τ a = pI σ a := by
  have := congrFun h (a - 15)
  unfold rkF at this
  rw [if_pos (by omega), if_pos (by omega), show 15 + (a - 15) = a by omega] at this
  exact this
theorem rkF_a (σ : pm_H) {a : Nat} (h : a < 12) : rkF σ a = pI σ (15 + a) := by unfold rkF; rw [if_pos h]
theorem RkT_0 {σ : pm_H} (h : RkT Q (rkF σ)) : pI σ 18 0 = 0 := by have := h.1; rw [rkF_a _ (by decide)] at this; exact this
theorem RkT_Tb {σ : pm_H} (h : RkT Q (rkF σ)) (h16 : ¬ pI σ 16 16 = 0) : Tb σ := by
  rcases h.2.1 with e | ⟨τ, e1, e2⟩
  · rw [rkF_a _ (by decide)] at e; exact absurd e h16
  · unfold Tb at e2 ⊢
    rw [rkF_eq e1 (by decide) (by decide)] at e2
    exact CTb_fr e2 (by rw [rkF_eq e1 (a := 15) (by decide) (by decide)]) (fun a q1 q2 => (rkF_eq e1 (by omega) (by omega)).symm)
theorem RsT_of {σ0 σ : pm_H} (hr : RsT Q (rkF σ0)) (e : ∀ a, a ≤ 10 → pI σ a = pI σ0 a) (eL : pL σ 10 = pL σ0 10) : RsT Q (rkF σ) := by
  have k : ∀ a, 12 ≤ a → rkF σ a = rkF σ0 a := fun a ha => by
    unfold rkF
    rw [if_neg (show ¬ a < 12 by omega), if_neg (show ¬ a < 12 by omega)]
    by_cases hb : a < 23
    · rw [if_pos hb, if_pos hb]; exact e _ (by omega)
    · rw [if_neg hb, if_neg hb, eL]
  obtain ⟨h1, h2, h3⟩ := hr
  exact ⟨fun i hi => by rw [k _ (by omega)]; exact h1 i hi, by rw [k _ (by omega)]; exact h2, by rw [k _ (by omega)]; exact h3⟩
theorem RsT_at {σ : pm_H} (hr : RsT Q (rkF σ)) : (∀ i j, i < 10 → pI σ i j = st_at i j) ∧ pI σ 10 = Q.1 ∧ nI (pL σ 10) = nI Q.2 := by
  obtain ⟨h1, h2, h3⟩ := hr
  refine ⟨fun i j hi => ?_, ?_, ?_⟩
  · have := congrFun (h1 i hi) j
    unfold rkF at this
    rw [if_neg (by omega), if_pos (by omega), show 12 + i - 12 = i by omega] at this
    exact this
  · unfold rkF at h2
    rw [if_neg (by omega), if_pos (by omega)] at h2
    exact h2
  · unfold rkF at h3
    rw [if_neg (by omega), if_neg (by omega)] at h3
    exact h3
theorem RkT_of {σ0 σ : pm_H} (hr : RsT Q (rkF σ0)) (e : ∀ a, a ≤ 10 → pI σ a = pI σ0 a) (eL : pL σ 10 = pL σ0 10) (h0 : pI σ 18 0 = 0) (h : Tb σ) : RkT Q (rkF σ) := ⟨by rw [rkF_a _ (by decide)]; exact h0, Or.inr ⟨σ, rfl, h⟩, RsT_of hr e eL⟩
theorem Rel_rs {σ : pm_H} {n : Nat} (h : Rel (RkT Q) σ n) : RsT Q (rkF σ) := h.2.2.2.2.2.2.2.2.2.2
-- who must be sung to alone
def alS (vd : Nat → Int32) : Nat → Nat
  | 0 => 0
  | k + 1 => if vd (4 + k) = 4 then alS vd k ||| 2 ^ k else alS vd k
theorem alS_bit {vd : Nat → Int32} {i : Nat} : ∀ k, (alS vd k).testBit i = true ↔ i < k ∧ vd (4 + i) = 4 := by
  intro k
  induction k with
  | zero => rw [alS, Nat.zero_testBit]; exact ⟨fun h => absurd h (by decide), fun h => by omega⟩
  | succ k ih =>
    rw [alS]
    by_cases c : vd (4 + k) = 4
    · rw [if_pos c, Nat.testBit_or, Bool.or_eq_true, ih, pw_bit, decide_eq_true_eq]
      constructor
      · rintro (⟨h1, h2⟩ | rfl)
        · exact ⟨by omega, h2⟩
        · exact ⟨by omega, c⟩
      · rintro ⟨h1, h2⟩
        by_cases e : k = i
        · exact Or.inr e
        · exact Or.inl ⟨by omega, h2⟩
    · rw [if_neg c, ih]
      constructor
      · rintro ⟨h1, h2⟩; exact ⟨by omega, h2⟩
      · rintro ⟨h1, h2⟩
        refine ⟨?_, h2⟩
        by_cases e : k = i
        · rw [e] at c; exact absurd h2 c
        · omega
theorem d_aloneSet {σ : pm_H} {v n : Nat} {vd : Nat → Int32} (h : VR σ v vd n) : D_X10_aloneSet [.ref v] σ = some (some (.int (nI (alS vd n))), σ) := by
  have h8 := VR_8 h
  have hl : ∃ r σ', sLoop (cI qLt (eLi 2) (eG (is 10) 0 2 (eLa 0))) (sSeq (sSeq (sSa 3 (eAR (eG (is 10) 3 0 (eLa 0)) (eLi 2))) (sIf (cAnd (cNot (cN (eLa 3))) (cZ0 qNe (eCall (pm_disp (tb6 D_X6_alone D_X1_alone D_X6_alone D_X6_alone D_X6_alone D_X6_alone)) (aC (eLa 3) (aN))))) (sSi 1 (eB f_ior (eLi 1) (eB f_ishl (eK (.int 1)) (eLi 2)))) sSkip)) (sInc 2 1)) [.ref v, .int 0, .int 0, .float 0] σ = some (r, σ') ∧ ((∃ w, r = .inl [.ref v, .int (nI (alS vd n)), .int (nI n), w]) ∧ σ' = σ) := by
    refine loop_gen (fun i env s => s = σ ∧ ∃ w, env = [.ref v, .int (nI (alS vd i)), .int (nI i), w]) _ n (by omega) ⟨rfl, .float 0, by rw [nI_0]; rfl⟩ ?_
    rintro i env s hi ⟨rfl, w, rfl⟩
    by_cases e : i < n
    · left
      have hlt : nI i < nI n := by rw [nI_lt' (by omega) (by omega)]; exact e
      refine ⟨[.ref v, .int (nI (alS vd (i + 1))), .int (nI (i + 1)), .ref (vQ s v i)], s, ?_, e, rfl, _, rfl⟩
      rw [alS]
      by_cases c : vd (4 + i) = 4
      · rw [if_pos c]
        simp only [lpStep, ↓rE_eK, ↓rE_eLi, ↓rE_eLj, ↓rE_eLa, ↓rE_eU, ↓rE_eB, ↓rE_eG, ↓rE_eIF, ↓rE_eAI, ↓rE_eAX, ↓rE_eAJ, ↓rE_eAR, ↓rE_eLen, ↓rE_eSI, ↓rE_eC, ↓rE_eCall, ↓rE_eNew, ↓rE_eNewA, ↓rE_eInst, ↓rC_cI, ↓rC_cZ0, ↓rC_cN, ↓rC_cNot, ↓rC_cAnd, ↓rC_cOr, ↓rA_aN, ↓rA_aC, ↓rS_sP, ↓rS_sUF, ↓rS_sAI, ↓rS_sAJ, ↓rS_sAR, ↓rS_sUA, ↓rS_sCall, ↓rS_sObj, ↓rS_sSi, ↓rS_sSa, ↓rS_sSj, ↓rS_sInc, ↓rS_sSkip, ↓rS_sSeq, ↓rS_sIf, ↓rS_sRetI, ↓rS_sRetJ, ↓rS_sRetA, ↓rS_sRetV, ↓rS_sSw, ↓rD_meth, ↓rD_on, ↓kR_ref, ↓kI_int, ↓kJ_long, ↓kN_null, ↓kN_ref, ↓kN_rf, ↓kQ_ref, ↓kQ_null, ↓kQ_rf, o1_i, o1ij_i, o1ji_i, o2_i, o2d_i, o2j_i, o2ji_i, o2c_i, fv_0, fv_1, fv_2, fv_3, pf_0, pf_2, pf_3, pf_4, rf_s, rf_n, is_self, ge_0, ge_s, ge_n, gd_s, gd_n, se_0, se_s, ag_0, ex_n, ex_i, ex_r, ex_0, ex_j, ex_q, ap_c, ap_n, List.append_nil, ln_c, ln_n, rp_0, rp_s, rt_0, rt_1, rt_20, rt_21, rt_2, rt_3, rt_4, rt_4n, rt_4q, nl_0, nl_1, nl_2, nl_3, nl_4, nl_5, nl_6, nl_7, nl_8, nl_9, nlB_i, nlB_r, nlB_n, nlB_f, nlB_q, ↓reduceIte, reduceCtorEq, Nat.reduceAdd, Nat.reduceSub, Nat.reduceEqDiff, Nat.reduceLeDiff, Nat.reduceBEq, ite_true, ite_false, dt_t, Bool.not_true, Bool.not_false, Bool.false_eq_true, Nat.le_refl, true_and, and_true, true_or, or_true, false_or, or_false, false_and, and_false, qEq, qNe, qLt, qGe, qGt, qLe, VR_T h, VR_s h, hlt, VR_r0 h, VR_PT h, VR_PL h, ib_nI (show i < 8 by omega) (by decide), nI_cl (show i < 2147483648 by omega), VR_q h e, rD_of (v_alone h e), b32_ne, c, nI_shl (show i < 8 by omega), nI_or, nI_1]
      · rw [if_neg c]
        simp only [lpStep, ↓rE_eK, ↓rE_eLi, ↓rE_eLj, ↓rE_eLa, ↓rE_eU, ↓rE_eB, ↓rE_eG, ↓rE_eIF, ↓rE_eAI, ↓rE_eAX, ↓rE_eAJ, ↓rE_eAR, ↓rE_eLen, ↓rE_eSI, ↓rE_eC, ↓rE_eCall, ↓rE_eNew, ↓rE_eNewA, ↓rE_eInst, ↓rC_cI, ↓rC_cZ0, ↓rC_cN, ↓rC_cNot, ↓rC_cAnd, ↓rC_cOr, ↓rA_aN, ↓rA_aC, ↓rS_sP, ↓rS_sUF, ↓rS_sAI, ↓rS_sAJ, ↓rS_sAR, ↓rS_sUA, ↓rS_sCall, ↓rS_sObj, ↓rS_sSi, ↓rS_sSa, ↓rS_sSj, ↓rS_sInc, ↓rS_sSkip, ↓rS_sSeq, ↓rS_sIf, ↓rS_sRetI, ↓rS_sRetJ, ↓rS_sRetA, ↓rS_sRetV, ↓rS_sSw, ↓rD_meth, ↓rD_on, ↓kR_ref, ↓kI_int, ↓kJ_long, ↓kN_null, ↓kN_ref, ↓kN_rf, ↓kQ_ref, ↓kQ_null, ↓kQ_rf, o1_i, o1ij_i, o1ji_i, o2_i, o2d_i, o2j_i, o2ji_i, o2c_i, fv_0, fv_1, fv_2, fv_3, pf_0, pf_2, pf_3, pf_4, rf_s, rf_n, is_self, ge_0, ge_s, ge_n, gd_s, gd_n, se_0, se_s, ag_0, ex_n, ex_i, ex_r, ex_0, ex_j, ex_q, ap_c, ap_n, List.append_nil, ln_c, ln_n, rp_0, rp_s, rt_0, rt_1, rt_20, rt_21, rt_2, rt_3, rt_4, rt_4n, rt_4q, nl_0, nl_1, nl_2, nl_3, nl_4, nl_5, nl_6, nl_7, nl_8, nl_9, nlB_i, nlB_r, nlB_n, nlB_f, nlB_q, ↓reduceIte, reduceCtorEq, Nat.reduceAdd, Nat.reduceSub, Nat.reduceEqDiff, Nat.reduceLeDiff, Nat.reduceBEq, ite_true, ite_false, dt_t, Bool.not_true, Bool.not_false, Bool.false_eq_true, Nat.le_refl, true_and, and_true, true_or, or_true, false_or, or_false, false_and, and_false, qEq, qNe, qLt, qGe, qGt, qLe, VR_T h, VR_s h, hlt, VR_r0 h, VR_PT h, VR_PL h, ib_nI (show i < 8 by omega) (by decide), nI_cl (show i < 2147483648 by omega), VR_q h e, rD_of (v_alone h e), b32_ne, c, nI_1]
    · right
      have : i = n := by omega
      subst this
      have hlt : ¬ nI i < nI i := by rw [nI_lt' (by omega) (by omega)]; omega
      refine ⟨_, _, ?_, ⟨w, rfl⟩, rfl⟩
      simp only [lpStep, ↓rE_eK, ↓rE_eLi, ↓rE_eLj, ↓rE_eLa, ↓rE_eU, ↓rE_eB, ↓rE_eG, ↓rE_eIF, ↓rE_eAI, ↓rE_eAX, ↓rE_eAJ, ↓rE_eAR, ↓rE_eLen, ↓rE_eSI, ↓rE_eC, ↓rE_eCall, ↓rE_eNew, ↓rE_eNewA, ↓rE_eInst, ↓rC_cI, ↓rC_cZ0, ↓rC_cN, ↓rC_cNot, ↓rC_cAnd, ↓rC_cOr, ↓rA_aN, ↓rA_aC, ↓rS_sP, ↓rS_sUF, ↓rS_sAI, ↓rS_sAJ, ↓rS_sAR, ↓rS_sUA, ↓rS_sCall, ↓rS_sObj, ↓rS_sSi, ↓rS_sSa, ↓rS_sSj, ↓rS_sInc, ↓rS_sSkip, ↓rS_sSeq, ↓rS_sIf, ↓rS_sRetI, ↓rS_sRetJ, ↓rS_sRetA, ↓rS_sRetV, ↓rS_sSw, ↓rD_meth, ↓rD_on, ↓kR_ref, ↓kI_int, ↓kJ_long, ↓kN_null, ↓kN_ref, ↓kN_rf, ↓kQ_ref, ↓kQ_null, ↓kQ_rf, o1_i, o1ij_i, o1ji_i, o2_i, o2d_i, o2j_i, o2ji_i, o2c_i, fv_0, fv_1, fv_2, fv_3, pf_0, pf_2, pf_3, pf_4, rf_s, rf_n, is_self, ge_0, ge_s, ge_n, gd_s, gd_n, se_0, se_s, ag_0, ex_n, ex_i, ex_r, ex_0, ex_j, ex_q, ap_c, ap_n, List.append_nil, ln_c, ln_n, rp_0, rp_s, rt_0, rt_1, rt_20, rt_21, rt_2, rt_3, rt_4, rt_4n, rt_4q, nl_0, nl_1, nl_2, nl_3, nl_4, nl_5, nl_6, nl_7, nl_8, nl_9, nlB_i, nlB_r, nlB_n, nlB_f, nlB_q, ↓reduceIte, reduceCtorEq, Nat.reduceAdd, Nat.reduceSub, Nat.reduceEqDiff, Nat.reduceLeDiff, Nat.reduceBEq, ite_true, ite_false, dt_t, Bool.not_true, Bool.not_false, Bool.false_eq_true, Nat.le_refl, true_and, and_true, true_or, or_true, false_or, or_false, false_and, and_false, qEq, qNe, qLt, qGe, qGt, qLe, VR_T h, VR_s h, hlt]
  obtain ⟨r, σ', h1, ⟨w, rfl⟩, rfl⟩ := hl
  refine rD_un.trans ?_
  simp only [D_X10_aloneSet, B_X10_aloneSet, ↓rE_eK, ↓rE_eLi, ↓rE_eLj, ↓rE_eLa, ↓rE_eU, ↓rE_eB, ↓rE_eG, ↓rE_eIF, ↓rE_eAI, ↓rE_eAX, ↓rE_eAJ, ↓rE_eAR, ↓rE_eLen, ↓rE_eSI, ↓rE_eC, ↓rE_eCall, ↓rE_eNew, ↓rE_eNewA, ↓rE_eInst, ↓rC_cI, ↓rC_cZ0, ↓rC_cN, ↓rC_cNot, ↓rC_cAnd, ↓rC_cOr, ↓rA_aN, ↓rA_aC, ↓rS_sP, ↓rS_sUF, ↓rS_sAI, ↓rS_sAJ, ↓rS_sAR, ↓rS_sUA, ↓rS_sCall, ↓rS_sObj, ↓rS_sSi, ↓rS_sSa, ↓rS_sSj, ↓rS_sInc, ↓rS_sSkip, ↓rS_sSeq, ↓rS_sIf, ↓rS_sRetI, ↓rS_sRetJ, ↓rS_sRetA, ↓rS_sRetV, ↓rS_sSw, ↓rD_meth, ↓rD_on, ↓kR_ref, ↓kI_int, ↓kJ_long, ↓kN_null, ↓kN_ref, ↓kN_rf, ↓kQ_ref, ↓kQ_null, ↓kQ_rf, o1_i, o1ij_i, o1ji_i, o2_i, o2d_i, o2j_i, o2ji_i, o2c_i, fv_0, fv_1, fv_2, fv_3, pf_0, pf_2, pf_3, pf_4, rf_s, rf_n, is_self, ge_0, ge_s, ge_n, gd_s, gd_n, se_0, se_s, ag_0, ex_n, ex_i, ex_r, ex_0, ex_j, ex_q, ap_c, ap_n, List.append_nil, ln_c, ln_n, rp_0, rp_s, rt_0, rt_1, rt_20, rt_21, rt_2, rt_3, rt_4, rt_4n, rt_4q, nl_0, nl_1, nl_2, nl_3, nl_4, nl_5, nl_6, nl_7, nl_8, nl_9, nlB_i, nlB_r, nlB_n, nlB_f, nlB_q, ↓reduceIte, reduceCtorEq, Nat.reduceAdd, Nat.reduceSub, Nat.reduceEqDiff, Nat.reduceLeDiff, Nat.reduceBEq, ite_true, ite_false, dt_t, Bool.not_true, Bool.not_false, Bool.false_eq_true, Nat.le_refl, true_and, and_true, true_or, or_true, false_or, or_false, false_and, and_false, qEq, qNe, qLt, qGe, qGt, qLe, rS_inl h1]
theorem d_note {σ : pm_H} (hS : Sh σ) {p : Nat} (hp : p < 18) (x : Int32) : D_X3_note [.ref 15, .int (nI p), .int x] σ = some (some (.int (if pI σ 16 p = x then 0 else 1)), uI σ 16 p x) := by
  have hib := ib_nI hp (show (18 : Nat) ≤ 1000000 by decide)
  have hcl := nI_cl (show p < 2147483648 by omega)
  refine rD_un.trans ?_
  by_cases c : pI σ 16 p = x
  · rw [if_pos c]
    have c' : (pI σ 16 p = x) = True := eq_true c
    simp only [D_X3_note, B_X3_note, ↓rE_eK, ↓rE_eLi, ↓rE_eLj, ↓rE_eLa, ↓rE_eU, ↓rE_eB, ↓rE_eG, ↓rE_eIF, ↓rE_eAI, ↓rE_eAX, ↓rE_eAJ, ↓rE_eAR, ↓rE_eLen, ↓rE_eSI, ↓rE_eC, ↓rE_eCall, ↓rE_eNew, ↓rE_eNewA, ↓rE_eInst, ↓rC_cI, ↓rC_cZ0, ↓rC_cN, ↓rC_cNot, ↓rC_cAnd, ↓rC_cOr, ↓rA_aN, ↓rA_aC, ↓rS_sP, ↓rS_sUF, ↓rS_sAI, ↓rS_sAJ, ↓rS_sAR, ↓rS_sUA, ↓rS_sCall, ↓rS_sObj, ↓rS_sSi, ↓rS_sSa, ↓rS_sSj, ↓rS_sInc, ↓rS_sSkip, ↓rS_sSeq, ↓rS_sIf, ↓rS_sRetI, ↓rS_sRetJ, ↓rS_sRetA, ↓rS_sRetV, ↓rS_sSw, ↓rD_meth, ↓rD_on, ↓kR_ref, ↓kI_int, ↓kJ_long, ↓kN_null, ↓kN_ref, ↓kN_rf, ↓kQ_ref, ↓kQ_null, ↓kQ_rf, o1_i, o1ij_i, o1ji_i, o2_i, o2d_i, o2j_i, o2ji_i, o2c_i, fv_0, fv_1, fv_2, fv_3, pf_0, pf_2, pf_3, pf_4, rf_s, rf_n, is_self, ge_0, ge_s, ge_n, gd_s, gd_n, se_0, se_s, ag_0, ex_n, ex_i, ex_r, ex_0, ex_j, ex_q, ap_c, ap_n, List.append_nil, ln_c, ln_n, rp_0, rp_s, rt_0, rt_1, rt_20, rt_21, rt_2, rt_3, rt_4, rt_4n, rt_4q, nl_0, nl_1, nl_2, nl_3, nl_4, nl_5, nl_6, nl_7, nl_8, nl_9, nlB_i, nlB_r, nlB_n, nlB_f, nlB_q, ↓reduceIte, reduceCtorEq, Nat.reduceAdd, Nat.reduceSub, Nat.reduceEqDiff, Nat.reduceLeDiff, Nat.reduceBEq, ite_true, ite_false, dt_t, Bool.not_true, Bool.not_false, Bool.false_eq_true, Nat.le_refl, true_and, and_true, true_or, or_true, false_or, or_false, false_and, and_false, qEq, qNe, qLt, qGe, qGt, qLe, sT_11 hS, sT_12 hS, sT_13 hS, sT_14 hS, sT_15 hS, sT_16 hS, sT_17 hS, sT_18 hS, sT_19 hS, sT_20 hS, sT_21 hS, sT_22 hS, sT_23 hS, sT_24 hS, sT_25 hS, sT_26 hS, sT_27 hS, sT_28 hS, sT_29 hS, sT_30 hS, sT_31 hS, sT_32 hS, sT_33 hS, sT_34 hS, sL_13 hS, sL_14 hS, sL_16 hS, sL_17 hS, sL_18 hS, sL_19 hS, sL_20 hS, sL_21 hS, sL_22 hS, sL_23 hS, sL_24 hS, sL_25 hS, sL_26 hS, sL_28 hS, sL_30 hS, sL_31 hS, sL_32 hS, sL_33 hS, sL_34 hS, sR_11_2 hS, sR_11_3 hS, sR_11_4 hS, sR_11_5 hS, sR_11_7 hS, sR_11_8 hS, sR_11_9 hS, sR_27_0 hS, sR_29_0 hS, sR_15_0 hS, sR_15_3 hS, sR_15_5 hS, sR_15_6 hS, sR_15_7 hS, sR_15_8 hS, sR_15_9 hS, sR_15_10 hS, sR_15_11 hS, sR_15_12 hS, sR_15_13 hS, hib, hcl, c', not_true]
  · rw [if_neg c]
    simp only [D_X3_note, B_X3_note, ↓rE_eK, ↓rE_eLi, ↓rE_eLj, ↓rE_eLa, ↓rE_eU, ↓rE_eB, ↓rE_eG, ↓rE_eIF, ↓rE_eAI, ↓rE_eAX, ↓rE_eAJ, ↓rE_eAR, ↓rE_eLen, ↓rE_eSI, ↓rE_eC, ↓rE_eCall, ↓rE_eNew, ↓rE_eNewA, ↓rE_eInst, ↓rC_cI, ↓rC_cZ0, ↓rC_cN, ↓rC_cNot, ↓rC_cAnd, ↓rC_cOr, ↓rA_aN, ↓rA_aC, ↓rS_sP, ↓rS_sUF, ↓rS_sAI, ↓rS_sAJ, ↓rS_sAR, ↓rS_sUA, ↓rS_sCall, ↓rS_sObj, ↓rS_sSi, ↓rS_sSa, ↓rS_sSj, ↓rS_sInc, ↓rS_sSkip, ↓rS_sSeq, ↓rS_sIf, ↓rS_sRetI, ↓rS_sRetJ, ↓rS_sRetA, ↓rS_sRetV, ↓rS_sSw, ↓rD_meth, ↓rD_on, ↓kR_ref, ↓kI_int, ↓kJ_long, ↓kN_null, ↓kN_ref, ↓kN_rf, ↓kQ_ref, ↓kQ_null, ↓kQ_rf, o1_i, o1ij_i, o1ji_i, o2_i, o2d_i, o2j_i, o2ji_i, o2c_i, fv_0, fv_1, fv_2, fv_3, pf_0, pf_2, pf_3, pf_4, rf_s, rf_n, is_self, ge_0, ge_s, ge_n, gd_s, gd_n, se_0, se_s, ag_0, ex_n, ex_i, ex_r, ex_0, ex_j, ex_q, ap_c, ap_n, List.append_nil, ln_c, ln_n, rp_0, rp_s, rt_0, rt_1, rt_20, rt_21, rt_2, rt_3, rt_4, rt_4n, rt_4q, nl_0, nl_1, nl_2, nl_3, nl_4, nl_5, nl_6, nl_7, nl_8, nl_9, nlB_i, nlB_r, nlB_n, nlB_f, nlB_q, ↓reduceIte, reduceCtorEq, Nat.reduceAdd, Nat.reduceSub, Nat.reduceEqDiff, Nat.reduceLeDiff, Nat.reduceBEq, ite_true, ite_false, dt_t, Bool.not_true, Bool.not_false, Bool.false_eq_true, Nat.le_refl, true_and, and_true, true_or, or_true, false_or, or_false, false_and, and_false, qEq, qNe, qLt, qGe, qGt, qLe, sT_11 hS, sT_12 hS, sT_13 hS, sT_14 hS, sT_15 hS, sT_16 hS, sT_17 hS, sT_18 hS, sT_19 hS, sT_20 hS, sT_21 hS, sT_22 hS, sT_23 hS, sT_24 hS, sT_25 hS, sT_26 hS, sT_27 hS, sT_28 hS, sT_29 hS, sT_30 hS, sT_31 hS, sT_32 hS, sT_33 hS, sT_34 hS, sL_13 hS, sL_14 hS, sL_16 hS, sL_17 hS, sL_18 hS, sL_19 hS, sL_20 hS, sL_21 hS, sL_22 hS, sL_23 hS, sL_24 hS, sL_25 hS, sL_26 hS, sL_28 hS, sL_30 hS, sL_31 hS, sL_32 hS, sL_33 hS, sL_34 hS, sR_11_2 hS, sR_11_3 hS, sR_11_4 hS, sR_11_5 hS, sR_11_7 hS, sR_11_8 hS, sR_11_9 hS, sR_27_0 hS, sR_29_0 hS, sR_15_0 hS, sR_15_3 hS, sR_15_5 hS, sR_15_6 hS, sR_15_7 hS, sR_15_8 hS, sR_15_9 hS, sR_15_10 hS, sR_15_11 hS, sR_15_12 hS, sR_15_13 hS, hib, hcl, c, not_false_eq_true]
/-- what is noted of person i -/
def nqN (vd : Nat → Int32) (n A i : Nat) : Int32 := if i < n ∧ A.testBit i = true then nd vd i else 0
def nqV (vd : Nat → Int32) (n A : Nat) (sn vo : Int32) (i : Nat) : Int32 := if i < n ∧ A.testBit i = true ∧ bt sn (nI i) = 1 then (if vo = -1 then vd (20 + i) else vo) else -1
theorem fr_or {f g : Int32} (hf : f = 0 ∨ f = 1) (hg : g = 0 ∨ g = 1) : (f ||| g = 0 ∨ f ||| g = 1) ∧ (f ||| g = 0 → f = 0 ∧ g = 0) := by
  rcases hf with rfl | rfl <;> rcases hg with rfl | rfl <;> decide
