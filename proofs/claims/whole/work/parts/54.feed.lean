/-! feed, ages. -/
theorem lg_3 (a b : Int64) : (a < b ∧ ¬ b < a ∧ ¬ a = b ∧ lg_cmp a b = -1) ∨ (a = b ∧ lg_cmp a b = 0) ∨ (b < a ∧ ¬ a < b ∧ ¬ a = b ∧ lg_cmp a b = 1) := by
  unfold lg_cmp
  by_cases h1 : b < a
  · have h2 : ¬ a < b := by rw [Int64.not_lt]; exact Int64.le_of_lt h1
    exact Or.inr (Or.inr ⟨h1, h2, fun e => by subst e; exact h2 h1, if_pos h1⟩)
  · by_cases h2 : a = b
    · exact Or.inr (Or.inl ⟨h2, by rw [if_neg h1, if_pos h2]⟩)
    · have h3 : a < b := by
        rw [Int64.not_lt] at h1
        exact Int64.lt_of_le_of_ne h1 h2
      exact Or.inl ⟨h3, h1, h2, by rw [if_neg h1, if_neg h2]⟩
theorem lg_lt {a b : Int64} : (lg_cmp a b < 0) = (a < b) := by
  apply propext
  rcases lg_3 a b with ⟨h1, -, -, e⟩ | ⟨h1, e⟩ | ⟨h1, h2, -, e⟩
  · rw [e]; exact ⟨fun _ => h1, fun _ => by decide⟩
  · rw [e]; exact ⟨fun q => absurd q (by decide), fun q => by subst h1; exact absurd q (Int64.lt_irrefl)⟩
  · rw [e]; exact ⟨fun q => absurd q (by decide), fun q => absurd q h2⟩
theorem lg_gt {a b : Int64} : (0 < lg_cmp a b) = (b < a) := by
  apply propext
  rcases lg_3 a b with ⟨-, h1, -, e⟩ | ⟨h1, e⟩ | ⟨h1, h2, -, e⟩
  · rw [e]; exact ⟨fun q => absurd q (by decide), fun q => absurd q h1⟩
  · rw [e]; exact ⟨fun q => absurd q (by decide), fun q => by subst h1; exact absurd q (Int64.lt_irrefl)⟩
  · rw [e]; exact ⟨fun _ => h1, fun _ => by decide⟩
theorem lg_0 {a b : Int64} : (lg_cmp a b = 0) = (a = b) := by
  apply propext
  rcases lg_3 a b with ⟨-, -, h1, e⟩ | ⟨h1, e⟩ | ⟨-, -, h2, e⟩
  · rw [e]; exact ⟨fun q => absurd q (by decide), fun q => absurd q h1⟩
  · rw [e]; exact ⟨fun _ => h1, fun _ => rfl⟩
  · rw [e]; exact ⟨fun q => absurd q (by decide), fun q => absurd q h2⟩
theorem by8 (x : Int64) (k : Nat) (hk : k < 57) (s : Int64) (u : UInt64) (hs : s.toBitVec = BitVec.ofNat 64 k) (hu : u.toBitVec = BitVec.ofNat 64 k) : ((x.toUInt64 >>> u).toInt64.toInt32 &&& 255) = ((x >>> s) &&& 255).toInt32 ∧ ∃ b, b < 256 ∧ ((x >>> s) &&& 255).toInt32 = Int32.ofNat b := by
  have e1 : ((x >>> s) &&& 255).toInt32.toBitVec = (x.toBitVec.sshiftRight k &&& 255#64).setWidth 32 := by
    rw [Int64.toBitVec_toInt32, Int64.toBitVec_and, Int64.toBitVec_shiftRight, BitVec.signExtend_eq_setWidth_of_le _ (by decide)]
    have : (s.toBitVec.smod 64) = BitVec.ofNat 64 k := by
      rw [hs]
      have : ∀ k : Fin 64, (BitVec.ofNat 64 k.val).smod 64 = BitVec.ofNat 64 k.val := by decide +kernel
      exact this ⟨k, by omega⟩
    rw [this]
    congr 1
    show x.toBitVec.sshiftRight (BitVec.ofNat 64 k).toNat &&& _ = _
    rw [BitVec.toNat_ofNat, Nat.mod_eq_of_lt (by omega)]
    rfl
  have e2 : ((x.toUInt64 >>> u).toInt64.toInt32 &&& 255).toBitVec = (x.toBitVec >>> k).setWidth 32 &&& 255#32 := by
    rw [Int32.toBitVec_and, Int64.toBitVec_toInt32, BitVec.signExtend_eq_setWidth_of_le _ (by decide)]
    congr 1
    show ((x.toUInt64 >>> u).toBitVec).setWidth 32 = _
    rw [UInt64.toBitVec_shiftRight, hu]
    congr 1
    show x.toBitVec >>> (BitVec.ofNat 64 k % 64).toNat = _
    rw [BitVec.toNat_umod, BitVec.toNat_ofNat]
    congr 1
    show k % 2^64 % 64 = k
    omega
  have e3 : (x.toBitVec.sshiftRight k &&& 255#64).setWidth 32 = (x.toBitVec >>> k).setWidth 32 &&& 255#32 := by
    apply BitVec.eq_of_getLsbD_eq
    intro i hi
    rw [BitVec.getLsbD_setWidth, BitVec.getLsbD_and, BitVec.getLsbD_and, BitVec.getLsbD_setWidth, BitVec.getLsbD_sshiftRight, BitVec.getLsbD_ushiftRight]
    by_cases h8 : i < 8
    · have h1 : k + i < 64 := by omega
      have h2 : ¬ 64 ≤ i := by omega
      have a : (255#64).getLsbD i = true := by
        have : ∀ i : Fin 8, (255#64).getLsbD i.val = true := by decide
        exact this ⟨i, h8⟩
      have b : (255#32).getLsbD i = true := by
        have : ∀ i : Fin 8, (255#32).getLsbD i.val = true := by decide
        exact this ⟨i, h8⟩
      rw [a, b, if_pos h1, decide_eq_true hi, decide_eq_false h2]
      cases x.toBitVec.getLsbD (k + i) <;> rfl
    · have a : (255#64).getLsbD i = false := by
        have : ∀ i : Fin 64, ¬ i.val < 8 → (255#64).getLsbD i.val = false := by decide
        exact this ⟨i, by omega⟩ h8
      have b : (255#32).getLsbD i = false := by
        have : ∀ i : Fin 32, ¬ i.val < 8 → (255#32).getLsbD i.val = false := by decide
        exact this ⟨i, hi⟩ h8
      rw [a, b, Bool.and_false, Bool.and_false, Bool.and_false]
  refine ⟨Int32.toBitVec_inj.mp (by rw [e1, e2, e3]), ((x.toBitVec >>> k).setWidth 32 &&& 255#32).toNat, ?_, ?_⟩
  · rw [BitVec.toNat_and]
    exact Nat.lt_of_le_of_lt Nat.and_le_right (by decide)
  · apply Int32.toBitVec_inj.mp
    rw [e1, e3]
    show _ = BitVec.ofNat 32 _
    rw [BitVec.ofNat_toNat, BitVec.setWidth_eq]

def byt (x : Int64) (k : Nat) : Int32 := (x >>> ((8 * nI k).toInt64 &&& 63) &&& 255).toInt32
theorem byt_h (x : Int64) {k : Nat} (hk : k < 8) : ((x.toUInt64 >>> ((8 * nI k).toInt64.toUInt64 &&& Int64.toUInt64 63)).toInt64.toInt32 &&& 255) = byt x k ∧ ∃ b, b < 256 ∧ byt x k = nI b := by
  have e1 : ∀ k : Fin 8, ((8 * nI k.val).toInt64 &&& 63).toBitVec = BitVec.ofNat 64 (8 * k.val) := by decide +kernel
  have e2 : ∀ k : Fin 8, ((8 * nI k.val).toInt64.toUInt64 &&& Int64.toUInt64 63).toBitVec = BitVec.ofNat 64 (8 * k.val) := by decide +kernel
  exact by8 x (8 * k) (by omega) _ _ (e1 ⟨k, hk⟩) (e2 ⟨k, hk⟩)
/-- k numbers are written from place t on, and their count -/
def Wr (σ : pm_H) (A t k B jB : Nat) (f : Nat → Int32) (τ : pm_H) : Prop := pT τ = pT σ ∧ pL τ = pL σ ∧ pR τ = pR σ ∧ pN τ = pN σ ∧ pS τ = pS σ ∧ pJ τ = pJ σ ∧ ∀ a j, pI τ a j = if a = A ∧ t ≤ j ∧ j < t + k then f (j - t) else if a = B ∧ j = jB then nI (t + k) else pI σ a j
theorem Wr_0 {σ : pm_H} {A t B jB : Nat} {f : Nat → Int32} (h : pI σ B jB = nI t) : Wr σ A t 0 B jB f σ := by
  refine ⟨rfl, rfl, rfl, rfl, rfl, rfl, fun a j => ?_⟩
  rw [if_neg (by omega)]
  by_cases e : a = B ∧ j = jB
  · rw [if_pos e, e.1, e.2]; exact h
  · rw [if_neg e]
theorem Wr_s {σ τ : pm_H} {A t k B jB : Nat} {f : Nat → Int32} (h : Wr σ A t k B jB f τ) (hAB : A ≠ B) : Wr σ A t (k + 1) B jB f (uI (uI τ A (t + k) (f k)) B jB (nI (t + k + 1))) := by
  obtain ⟨h1, h2, h3, h4, h5, h6, h7⟩ := h
  refine ⟨h1, h2, h3, h4, h5, h6, fun a j => ?_⟩
  rw [pI_uI, pI_uI, h7]
  by_cases c1 : a = B ∧ j = jB
  · rw [if_pos c1, if_neg (by omega), if_pos c1]; rfl
  · rw [if_neg c1]
    by_cases c2 : a = A ∧ j = t + k
    · rw [if_pos c2, if_pos (by omega)]
      congr 1; omega
    · rw [if_neg c2, if_neg c1, if_neg c1]
      by_cases c3 : a = A ∧ t ≤ j ∧ j < t + k
      · rw [if_pos c3, if_pos (by omega)]
      · rw [if_neg c3, if_neg (by omega)]
theorem Wr_Sh {σ τ : pm_H} {A t k B jB : Nat} {f : Nat → Int32} (h : Wr σ A t k B jB f τ) (hS : Sh σ) : Sh τ := ⟨by rw [h.1]; exact hS.1, by rw [h.2.1]; exact hS.2.1, by rw [h.2.2.1]; exact hS.2.2.1, by rw [h.2.2.2.1]; exact hS.2.2.2⟩
theorem step_feed (Rk : (Nat → Nat → Int32) → Prop) (x : Int64) (p : Int32) {σ : pm_H} {n : Nat} (h : Rel Rk σ n) : Step Rk D_X11_feed D_X12_feed [.long x, .int p] σ := by
  have hs := Rel_Sh h
  obtain ⟨t, t2, g1, g2, g3⟩ := h.2.1
  by_cases hp : 1 ≤ p ∧ p ≤ 8
  · have c1 : ¬ p < 1 := by rw [Int32.not_lt]; exact hp.1
    have c2 : ¬ 8 < p := by rw [Int32.not_lt]; exact hp.2
    obtain ⟨m, hm, rfl⟩ := in_nI (v := p) (m := 8) (by decide) ⟨by rw [i_le] at *; rw [show (1 : Int32).toInt = 1 by decide] at hp; rw [i_0]; omega, hp.2⟩
    have hm1 : 1 ≤ m := by
      have := hp.1
      rw [i_le, show (1 : Int32).toInt = 1 by decide, nI_toInt (by omega)] at this
      omega
    have hgt : (200 < nI (t + m)) = (200 < t + m) := nI_lt' (a := 200) (by decide) (by omega)
    by_cases hf : 200 < t + m
    · refine ⟨-2, σ, σ, n, ?_, ?_, h, by omega, by omega⟩
      · refine rD_un.trans ?_
        simp only [D_X11_feed, B_X11_feed, ↓rE_eK, ↓rE_eLi, ↓rE_eLj, ↓rE_eLa, ↓rE_eU, ↓rE_eB, ↓rE_eG, ↓rE_eIF, ↓rE_eAI, ↓rE_eAX, ↓rE_eAJ, ↓rE_eAR, ↓rE_eLen, ↓rE_eSI, ↓rE_eC, ↓rE_eCall, ↓rE_eNew, ↓rE_eNewA, ↓rE_eInst, ↓rC_cI, ↓rC_cZ0, ↓rC_cN, ↓rC_cNot, ↓rC_cAnd, ↓rC_cOr, ↓rA_aN, ↓rA_aC, ↓rS_sP, ↓rS_sUF, ↓rS_sAI, ↓rS_sAJ, ↓rS_sAR, ↓rS_sUA, ↓rS_sCall, ↓rS_sObj, ↓rS_sSi, ↓rS_sSa, ↓rS_sSj, ↓rS_sInc, ↓rS_sSkip, ↓rS_sSeq, ↓rS_sIf, ↓rS_sRetI, ↓rS_sRetJ, ↓rS_sRetA, ↓rS_sRetV, ↓rS_sSw, ↓rD_meth, ↓rD_on, ↓kR_ref, ↓kI_int, ↓kJ_long, ↓kN_null, ↓kN_ref, ↓kN_rf, ↓kQ_ref, ↓kQ_null, ↓kQ_rf, o1_i, o1ij_i, o1ji_i, o2_i, o2d_i, o2j_i, o2ji_i, o2c_i, fv_0, fv_1, fv_2, fv_3, pf_0, pf_2, pf_3, pf_4, rf_s, rf_n, is_self, ge_0, ge_s, ge_n, gd_s, gd_n, se_0, se_s, ag_0, ex_n, ex_i, ex_r, ex_0, ex_j, ex_q, ap_c, ap_n, List.append_nil, ln_c, ln_n, rp_0, rp_s, rt_0, rt_1, rt_20, rt_21, rt_2, rt_3, rt_4, rt_4n, rt_4q, nl_0, nl_1, nl_2, nl_3, nl_4, nl_5, nl_6, nl_7, nl_8, nl_9, nlB_i, nlB_r, nlB_n, nlB_f, nlB_q, ↓reduceIte, reduceCtorEq, Nat.reduceAdd, Nat.reduceSub, Nat.reduceEqDiff, Nat.reduceLeDiff, Nat.reduceBEq, ite_true, ite_false, dt_t, Bool.not_true, Bool.not_false, Bool.false_eq_true, Nat.le_refl, true_and, and_true, true_or, or_true, false_or, or_false, false_and, and_false, qEq, qNe, qLt, qGe, qGt, qLe, sT_11 hs, sT_12 hs, sT_13 hs, sT_14 hs, sT_15 hs, sT_16 hs, sT_17 hs, sT_18 hs, sT_19 hs, sT_20 hs, sT_21 hs, sT_22 hs, sT_23 hs, sT_24 hs, sT_25 hs, sT_26 hs, sT_27 hs, sT_28 hs, sT_29 hs, sT_30 hs, sT_31 hs, sT_32 hs, sT_33 hs, sT_34 hs, sL_13 hs, sL_14 hs, sL_16 hs, sL_17 hs, sL_18 hs, sL_19 hs, sL_20 hs, sL_21 hs, sL_22 hs, sL_23 hs, sL_24 hs, sL_25 hs, sL_26 hs, sL_28 hs, sL_30 hs, sL_31 hs, sL_32 hs, sL_33 hs, sL_34 hs, sR_11_2 hs, sR_11_3 hs, sR_11_4 hs, sR_11_5 hs, sR_11_7 hs, sR_11_8 hs, sR_11_9 hs, sR_27_0 hs, sR_29_0 hs, sR_15_0 hs, sR_15_3 hs, sR_15_5 hs, sR_15_6 hs, sR_15_7 hs, sR_15_8 hs, sR_15_9 hs, sR_15_10 hs, sR_15_11 hs, sR_15_12 hs, sR_15_13 hs, c1, c2, g1, nI_ad, hgt, hf]
      · refine rD_un.trans ?_
        simp only [D_X12_feed, B_X12_feed, ↓rE_eK, ↓rE_eLi, ↓rE_eLj, ↓rE_eLa, ↓rE_eU, ↓rE_eB, ↓rE_eG, ↓rE_eIF, ↓rE_eAI, ↓rE_eAX, ↓rE_eAJ, ↓rE_eAR, ↓rE_eLen, ↓rE_eSI, ↓rE_eC, ↓rE_eCall, ↓rE_eNew, ↓rE_eNewA, ↓rE_eInst, ↓rC_cI, ↓rC_cZ0, ↓rC_cN, ↓rC_cNot, ↓rC_cAnd, ↓rC_cOr, ↓rA_aN, ↓rA_aC, ↓rS_sP, ↓rS_sUF, ↓rS_sAI, ↓rS_sAJ, ↓rS_sAR, ↓rS_sUA, ↓rS_sCall, ↓rS_sObj, ↓rS_sSi, ↓rS_sSa, ↓rS_sSj, ↓rS_sInc, ↓rS_sSkip, ↓rS_sSeq, ↓rS_sIf, ↓rS_sRetI, ↓rS_sRetJ, ↓rS_sRetA, ↓rS_sRetV, ↓rS_sSw, ↓rD_meth, ↓rD_on, ↓kR_ref, ↓kI_int, ↓kJ_long, ↓kN_null, ↓kN_ref, ↓kN_rf, ↓kQ_ref, ↓kQ_null, ↓kQ_rf, o1_i, o1ij_i, o1ji_i, o2_i, o2d_i, o2j_i, o2ji_i, o2c_i, fv_0, fv_1, fv_2, fv_3, pf_0, pf_2, pf_3, pf_4, rf_s, rf_n, is_self, ge_0, ge_s, ge_n, gd_s, gd_n, se_0, se_s, ag_0, ex_n, ex_i, ex_r, ex_0, ex_j, ex_q, ap_c, ap_n, List.append_nil, ln_c, ln_n, rp_0, rp_s, rt_0, rt_1, rt_20, rt_21, rt_2, rt_3, rt_4, rt_4n, rt_4q, nl_0, nl_1, nl_2, nl_3, nl_4, nl_5, nl_6, nl_7, nl_8, nl_9, nlB_i, nlB_r, nlB_n, nlB_f, nlB_q, ↓reduceIte, reduceCtorEq, Nat.reduceAdd, Nat.reduceSub, Nat.reduceEqDiff, Nat.reduceLeDiff, Nat.reduceBEq, ite_true, ite_false, dt_t, Bool.not_true, Bool.not_false, Bool.false_eq_true, Nat.le_refl, true_and, and_true, true_or, or_true, false_or, or_false, false_and, and_false, qEq, qNe, qLt, qGe, qGt, qLe, sT_35 hs, sT_36 hs, sT_37 hs, sT_38 hs, sT_39 hs, sT_40 hs, sT_41 hs, sT_42 hs, sT_43 hs, sT_44 hs, sT_45 hs, sT_46 hs, sT_47 hs, sT_48 hs, sT_49 hs, sT_50 hs, sT_51 hs, sT_52 hs, sT_53 hs, sT_54 hs, sT_55 hs, sT_56 hs, sT_57 hs, sT_58 hs, sT_59 hs, sT_60 hs, sT_61 hs, sT_62 hs, sT_63 hs, sT_64 hs, sT_65 hs, sL_36 hs, sL_37 hs, sL_38 hs, sL_39 hs, sL_40 hs, sL_41 hs, sL_42 hs, sL_43 hs, sL_44 hs, sL_45 hs, sL_46 hs, sL_47 hs, sL_48 hs, sL_49 hs, sL_50 hs, sL_51 hs, sL_52 hs, sL_53 hs, sL_54 hs, sL_55 hs, sL_56 hs, sL_57 hs, sL_58 hs, sL_59 hs, sL_60 hs, sL_61 hs, sL_62 hs, sL_63 hs, sL_64 hs, sL_65 hs, sR_35_1 hs, sR_35_2 hs, sR_35_3 hs, sR_35_4 hs, sR_35_5 hs, sR_35_6 hs, sR_35_7 hs, sR_35_11 hs, sR_35_21 hs, sR_35_22 hs, sR_35_23 hs, sR_35_24 hs, sR_35_25 hs, sR_35_26 hs, sR_35_27 hs, sR_35_28 hs, sR_35_29 hs, sR_35_30 hs, sR_35_31 hs, sR_35_32 hs, sR_35_35 hs, sR_35_37 hs, sR_35_38 hs, sR_35_39 hs, sR_35_40 hs, sR_35_41 hs, sR_35_42 hs, sR_35_46 hs, sR_35_50 hs, sR_35_52 hs, rD_of (d_in _ _ _ _), b32_ne, nt_t, hp, not_true, g2, nI_ad, hgt, hf]
    · have hl : ∃ r τ, sLoop (cI qLt (eLi 4) (eLi 3)) (sSeq (sCall (pm_disp (tb1 7 D_X7_append)) (aC (eG (is 11) 3 3 (eLa 0)) (aC (eB f_iand (eU f_l2i (eB f_lushr (eLj 1) (eB f_imul (eK (.int 8)) (eLi 4)))) (eK (.int 255))) (aN)))) (sInc 4 1)) [.ref 11, .long x, .float 0, .int (nI m), .int 0] σ = some (r, τ) ∧ (Wr σ 28 t m 27 1 (byt x) τ ∧ r = .inl [.ref 11, .long x, .float 0, .int (nI m), .int (nI m)]) := by
        refine loop_gen (fun k env s => Wr σ 28 t k 27 1 (byt x) s ∧ env = [.ref 11, .long x, .float 0, .int (nI m), .int (nI k)]) _ m (by omega) ⟨Wr_0 g1, by rw [nI_0]⟩ ?_
        rintro k env s hk ⟨hW, rfl⟩
        have hss := Wr_Sh hW hs
        by_cases e : k < m
        · left
          have hlt : nI k < nI m := by rw [nI_lt' (by omega) (by omega)]; exact e
          have hsz : pI s 27 1 = nI (t + k) := by rw [hW.2.2.2.2.2.2, if_neg (by omega), if_pos ⟨rfl, rfl⟩]
          have h200 : ¬ 200 ≤ nI (t + k) := by have := nI_le' (a := 200) (b := t + k) (by decide) (by omega); rw [show (200 : Int32) = nI 200 from rfl, this]; omega
          have hib := ib_nI (show t + k < 200 by omega) (by decide)
          have hcl := nI_cl (show t + k < 2147483648 by omega)
          refine ⟨[.ref 11, .long x, .float 0, .int (nI m), .int (nI (k + 1))], uI (uI s 28 (t + k) (byt x k)) 27 1 (nI (t + k + 1)), ?_, e, Wr_s hW (by decide), rfl⟩
          have hsz2 : pI (uI s 28 (t + k) (byt x k)) 27 1 = nI (t + k) := by rw [pI_uI_ne _ _ _ (by decide)]; exact hsz
          simp only [lpStep, ↓rE_eK, ↓rE_eLi, ↓rE_eLj, ↓rE_eLa, ↓rE_eU, ↓rE_eB, ↓rE_eG, ↓rE_eIF, ↓rE_eAI, ↓rE_eAX, ↓rE_eAJ, ↓rE_eAR, ↓rE_eLen, ↓rE_eSI, ↓rE_eC, ↓rE_eCall, ↓rE_eNew, ↓rE_eNewA, ↓rE_eInst, ↓rC_cI, ↓rC_cZ0, ↓rC_cN, ↓rC_cNot, ↓rC_cAnd, ↓rC_cOr, ↓rA_aN, ↓rA_aC, ↓rS_sP, ↓rS_sUF, ↓rS_sAI, ↓rS_sAJ, ↓rS_sAR, ↓rS_sUA, ↓rS_sCall, ↓rS_sObj, ↓rS_sSi, ↓rS_sSa, ↓rS_sSj, ↓rS_sInc, ↓rS_sSkip, ↓rS_sSeq, ↓rS_sIf, ↓rS_sRetI, ↓rS_sRetJ, ↓rS_sRetA, ↓rS_sRetV, ↓rS_sSw, ↓rD_meth, ↓rD_on, ↓kR_ref, ↓kI_int, ↓kJ_long, ↓kN_null, ↓kN_ref, ↓kN_rf, ↓kQ_ref, ↓kQ_null, ↓kQ_rf, o1_i, o1ij_i, o1ji_i, o2_i, o2d_i, o2j_i, o2ji_i, o2c_i, fv_0, fv_1, fv_2, fv_3, pf_0, pf_2, pf_3, pf_4, rf_s, rf_n, is_self, ge_0, ge_s, ge_n, gd_s, gd_n, se_0, se_s, ag_0, ex_n, ex_i, ex_r, ex_0, ex_j, ex_q, ap_c, ap_n, List.append_nil, ln_c, ln_n, rp_0, rp_s, rt_0, rt_1, rt_20, rt_21, rt_2, rt_3, rt_4, rt_4n, rt_4q, nl_0, nl_1, nl_2, nl_3, nl_4, nl_5, nl_6, nl_7, nl_8, nl_9, nlB_i, nlB_r, nlB_n, nlB_f, nlB_q, ↓reduceIte, reduceCtorEq, Nat.reduceAdd, Nat.reduceSub, Nat.reduceEqDiff, Nat.reduceLeDiff, Nat.reduceBEq, ite_true, ite_false, dt_t, Bool.not_true, Bool.not_false, Bool.false_eq_true, Nat.le_refl, true_and, and_true, true_or, or_true, false_or, or_false, false_and, and_false, qEq, qNe, qLt, qGe, qGt, qLe, sT_11 hss, sT_12 hss, sT_13 hss, sT_14 hss, sT_15 hss, sT_16 hss, sT_17 hss, sT_18 hss, sT_19 hss, sT_20 hss, sT_21 hss, sT_22 hss, sT_23 hss, sT_24 hss, sT_25 hss, sT_26 hss, sT_27 hss, sT_28 hss, sT_29 hss, sT_30 hss, sT_31 hss, sT_32 hss, sT_33 hss, sT_34 hss, sL_13 hss, sL_14 hss, sL_16 hss, sL_17 hss, sL_18 hss, sL_19 hss, sL_20 hss, sL_21 hss, sL_22 hss, sL_23 hss, sL_24 hss, sL_25 hss, sL_26 hss, sL_28 hss, sL_30 hss, sL_31 hss, sL_32 hss, sL_33 hss, sL_34 hss, sR_11_2 hss, sR_11_3 hss, sR_11_4 hss, sR_11_5 hss, sR_11_7 hss, sR_11_8 hss, sR_11_9 hss, sR_27_0 hss, sR_29_0 hss, sR_15_0 hss, sR_15_3 hss, sR_15_5 hss, sR_15_6 hss, sR_15_7 hss, sR_15_8 hss, sR_15_9 hss, sR_15_10 hss, sR_15_11 hss, sR_15_12 hss, sR_15_13 hss, hlt, rD_tb1, D_X7_append, B_X7_append, hsz, h200, hib, hcl, (byt_h x (show k < 8 by omega)).1, pT_uI, pR_uI, hsz2, nI_1]
        · right
          have : k = m := by omega
          subst this
          have hlt : ¬ nI k < nI k := by rw [nI_lt' (by omega) (by omega)]; omega
          refine ⟨_, _, ?_, hW, rfl⟩
          simp only [lpStep, ↓rE_eK, ↓rE_eLi, ↓rE_eLj, ↓rE_eLa, ↓rE_eU, ↓rE_eB, ↓rE_eG, ↓rE_eIF, ↓rE_eAI, ↓rE_eAX, ↓rE_eAJ, ↓rE_eAR, ↓rE_eLen, ↓rE_eSI, ↓rE_eC, ↓rE_eCall, ↓rE_eNew, ↓rE_eNewA, ↓rE_eInst, ↓rC_cI, ↓rC_cZ0, ↓rC_cN, ↓rC_cNot, ↓rC_cAnd, ↓rC_cOr, ↓rA_aN, ↓rA_aC, ↓rS_sP, ↓rS_sUF, ↓rS_sAI, ↓rS_sAJ, ↓rS_sAR, ↓rS_sUA, ↓rS_sCall, ↓rS_sObj, ↓rS_sSi, ↓rS_sSa, ↓rS_sSj, ↓rS_sInc, ↓rS_sSkip, ↓rS_sSeq, ↓rS_sIf, ↓rS_sRetI, ↓rS_sRetJ, ↓rS_sRetA, ↓rS_sRetV, ↓rS_sSw, ↓rD_meth, ↓rD_on, ↓kR_ref, ↓kI_int, ↓kJ_long, ↓kN_null, ↓kN_ref, ↓kN_rf, ↓kQ_ref, ↓kQ_null, ↓kQ_rf, o1_i, o1ij_i, o1ji_i, o2_i, o2d_i, o2j_i, o2ji_i, o2c_i, fv_0, fv_1, fv_2, fv_3, pf_0, pf_2, pf_3, pf_4, rf_s, rf_n, is_self, ge_0, ge_s, ge_n, gd_s, gd_n, se_0, se_s, ag_0, ex_n, ex_i, ex_r, ex_0, ex_j, ex_q, ap_c, ap_n, List.append_nil, ln_c, ln_n, rp_0, rp_s, rt_0, rt_1, rt_20, rt_21, rt_2, rt_3, rt_4, rt_4n, rt_4q, nl_0, nl_1, nl_2, nl_3, nl_4, nl_5, nl_6, nl_7, nl_8, nl_9, nlB_i, nlB_r, nlB_n, nlB_f, nlB_q, ↓reduceIte, reduceCtorEq, Nat.reduceAdd, Nat.reduceSub, Nat.reduceEqDiff, Nat.reduceLeDiff, Nat.reduceBEq, ite_true, ite_false, dt_t, Bool.not_true, Bool.not_false, Bool.false_eq_true, Nat.le_refl, true_and, and_true, true_or, or_true, false_or, or_false, false_and, and_false, qEq, qNe, qLt, qGe, qGt, qLe, hlt]
      obtain ⟨r, τ, l1, hW, rfl⟩ := hl
      have hsτ := Wr_Sh hW hs
      have hτ12 : pI τ 35 12 = nI t := by rw [hW.2.2.2.2.2.2, if_neg (by omega), if_neg (by omega)]; exact g2
      have hl2 : ∃ r ρ, sLoop (cI qLt (eLi 4) (eLi 3)) (sSeq (sSeq (sAI (eG (is 12) 3 11 (eLa 0)) (eG (is 12) 0 12 (eLa 0)) (eU f_l2i (eB f_land (eB f_lshr (eLj 1) (eB f_imul (eK (.int 8)) (eLi 4))) (eK (.long 255))))) (sUF (is 12) 0 12 f_iadd (eLa 0) (eK (.int 1)))) (sInc 4 1)) [.ref 35, .long x, .float 0, .int (nI m), .int 0] τ = some (r, ρ) ∧ (Wr τ 43 t m 35 12 (byt x) ρ ∧ r = .inl [.ref 35, .long x, .float 0, .int (nI m), .int (nI m)]) := by
        refine loop_gen (fun k env s => Wr τ 43 t k 35 12 (byt x) s ∧ env = [.ref 35, .long x, .float 0, .int (nI m), .int (nI k)]) _ m (by omega) ⟨Wr_0 hτ12, by rw [nI_0]⟩ ?_
        rintro k env s hk ⟨hW2, rfl⟩
        have hss := Wr_Sh hW2 hsτ
        by_cases e : k < m
        · left
          have hlt : nI k < nI m := by rw [nI_lt' (by omega) (by omega)]; exact e
          have hsz : pI s 35 12 = nI (t + k) := by rw [hW2.2.2.2.2.2.2, if_neg (by omega), if_pos ⟨rfl, rfl⟩]
          have hib := ib_nI (show t + k < 200 by omega) (by decide)
          have hcl := nI_cl (show t + k < 2147483648 by omega)
          refine ⟨[.ref 35, .long x, .float 0, .int (nI m), .int (nI (k + 1))], uI (uI s 43 (t + k) (byt x k)) 35 12 (nI (t + k + 1)), ?_, e, Wr_s hW2 (by decide), rfl⟩
          have hsz2 : pI (uI s 43 (t + k) (byt x k)) 35 12 = nI (t + k) := by rw [pI_uI_ne _ _ _ (by decide)]; exact hsz
          have hby : (x >>> ((8 * nI k).toInt64 &&& 63) &&& 255).toInt32 = byt x k := rfl
          simp only [lpStep, ↓rE_eK, ↓rE_eLi, ↓rE_eLj, ↓rE_eLa, ↓rE_eU, ↓rE_eB, ↓rE_eG, ↓rE_eIF, ↓rE_eAI, ↓rE_eAX, ↓rE_eAJ, ↓rE_eAR, ↓rE_eLen, ↓rE_eSI, ↓rE_eC, ↓rE_eCall, ↓rE_eNew, ↓rE_eNewA, ↓rE_eInst, ↓rC_cI, ↓rC_cZ0, ↓rC_cN, ↓rC_cNot, ↓rC_cAnd, ↓rC_cOr, ↓rA_aN, ↓rA_aC, ↓rS_sP, ↓rS_sUF, ↓rS_sAI, ↓rS_sAJ, ↓rS_sAR, ↓rS_sUA, ↓rS_sCall, ↓rS_sObj, ↓rS_sSi, ↓rS_sSa, ↓rS_sSj, ↓rS_sInc, ↓rS_sSkip, ↓rS_sSeq, ↓rS_sIf, ↓rS_sRetI, ↓rS_sRetJ, ↓rS_sRetA, ↓rS_sRetV, ↓rS_sSw, ↓rD_meth, ↓rD_on, ↓kR_ref, ↓kI_int, ↓kJ_long, ↓kN_null, ↓kN_ref, ↓kN_rf, ↓kQ_ref, ↓kQ_null, ↓kQ_rf, o1_i, o1ij_i, o1ji_i, o2_i, o2d_i, o2j_i, o2ji_i, o2c_i, fv_0, fv_1, fv_2, fv_3, pf_0, pf_2, pf_3, pf_4, rf_s, rf_n, is_self, ge_0, ge_s, ge_n, gd_s, gd_n, se_0, se_s, ag_0, ex_n, ex_i, ex_r, ex_0, ex_j, ex_q, ap_c, ap_n, List.append_nil, ln_c, ln_n, rp_0, rp_s, rt_0, rt_1, rt_20, rt_21, rt_2, rt_3, rt_4, rt_4n, rt_4q, nl_0, nl_1, nl_2, nl_3, nl_4, nl_5, nl_6, nl_7, nl_8, nl_9, nlB_i, nlB_r, nlB_n, nlB_f, nlB_q, ↓reduceIte, reduceCtorEq, Nat.reduceAdd, Nat.reduceSub, Nat.reduceEqDiff, Nat.reduceLeDiff, Nat.reduceBEq, ite_true, ite_false, dt_t, Bool.not_true, Bool.not_false, Bool.false_eq_true, Nat.le_refl, true_and, and_true, true_or, or_true, false_or, or_false, false_and, and_false, qEq, qNe, qLt, qGe, qGt, qLe, sT_35 hss, sT_36 hss, sT_37 hss, sT_38 hss, sT_39 hss, sT_40 hss, sT_41 hss, sT_42 hss, sT_43 hss, sT_44 hss, sT_45 hss, sT_46 hss, sT_47 hss, sT_48 hss, sT_49 hss, sT_50 hss, sT_51 hss, sT_52 hss, sT_53 hss, sT_54 hss, sT_55 hss, sT_56 hss, sT_57 hss, sT_58 hss, sT_59 hss, sT_60 hss, sT_61 hss, sT_62 hss, sT_63 hss, sT_64 hss, sT_65 hss, sL_36 hss, sL_37 hss, sL_38 hss, sL_39 hss, sL_40 hss, sL_41 hss, sL_42 hss, sL_43 hss, sL_44 hss, sL_45 hss, sL_46 hss, sL_47 hss, sL_48 hss, sL_49 hss, sL_50 hss, sL_51 hss, sL_52 hss, sL_53 hss, sL_54 hss, sL_55 hss, sL_56 hss, sL_57 hss, sL_58 hss, sL_59 hss, sL_60 hss, sL_61 hss, sL_62 hss, sL_63 hss, sL_64 hss, sL_65 hss, sR_35_1 hss, sR_35_2 hss, sR_35_3 hss, sR_35_4 hss, sR_35_5 hss, sR_35_6 hss, sR_35_7 hss, sR_35_11 hss, sR_35_21 hss, sR_35_22 hss, sR_35_23 hss, sR_35_24 hss, sR_35_25 hss, sR_35_26 hss, sR_35_27 hss, sR_35_28 hss, sR_35_29 hss, sR_35_30 hss, sR_35_31 hss, sR_35_32 hss, sR_35_35 hss, sR_35_37 hss, sR_35_38 hss, sR_35_39 hss, sR_35_40 hss, sR_35_41 hss, sR_35_42 hss, sR_35_46 hss, sR_35_50 hss, sR_35_52 hss, hlt, hsz, hib, hcl, hby, pT_uI, pR_uI, hsz2, nI_1]
        · right
          have : k = m := by omega
          subst this
          have hlt : ¬ nI k < nI k := by rw [nI_lt' (by omega) (by omega)]; omega
          refine ⟨_, _, ?_, hW2, rfl⟩
          simp only [lpStep, ↓rE_eK, ↓rE_eLi, ↓rE_eLj, ↓rE_eLa, ↓rE_eU, ↓rE_eB, ↓rE_eG, ↓rE_eIF, ↓rE_eAI, ↓rE_eAX, ↓rE_eAJ, ↓rE_eAR, ↓rE_eLen, ↓rE_eSI, ↓rE_eC, ↓rE_eCall, ↓rE_eNew, ↓rE_eNewA, ↓rE_eInst, ↓rC_cI, ↓rC_cZ0, ↓rC_cN, ↓rC_cNot, ↓rC_cAnd, ↓rC_cOr, ↓rA_aN, ↓rA_aC, ↓rS_sP, ↓rS_sUF, ↓rS_sAI, ↓rS_sAJ, ↓rS_sAR, ↓rS_sUA, ↓rS_sCall, ↓rS_sObj, ↓rS_sSi, ↓rS_sSa, ↓rS_sSj, ↓rS_sInc, ↓rS_sSkip, ↓rS_sSeq, ↓rS_sIf, ↓rS_sRetI, ↓rS_sRetJ, ↓rS_sRetA, ↓rS_sRetV, ↓rS_sSw, ↓rD_meth, ↓rD_on, ↓kR_ref, ↓kI_int, ↓kJ_long, ↓kN_null, ↓kN_ref, ↓kN_rf, ↓kQ_ref, ↓kQ_null, ↓kQ_rf, o1_i, o1ij_i, o1ji_i, o2_i, o2d_i, o2j_i, o2ji_i, o2c_i, fv_0, fv_1, fv_2, fv_3, pf_0, pf_2, pf_3, pf_4, rf_s, rf_n, is_self, ge_0, ge_s, ge_n, gd_s, gd_n, se_0, se_s, ag_0, ex_n, ex_i, ex_r, ex_0, ex_j, ex_q, ap_c, ap_n, List.append_nil, ln_c, ln_n, rp_0, rp_s, rt_0, rt_1, rt_20, rt_21, rt_2, rt_3, rt_4, rt_4n, rt_4q, nl_0, nl_1, nl_2, nl_3, nl_4, nl_5, nl_6, nl_7, nl_8, nl_9, nlB_i, nlB_r, nlB_n, nlB_f, nlB_q, ↓reduceIte, reduceCtorEq, Nat.reduceAdd, Nat.reduceSub, Nat.reduceEqDiff, Nat.reduceLeDiff, Nat.reduceBEq, ite_true, ite_false, dt_t, Bool.not_true, Bool.not_false, Bool.false_eq_true, Nat.le_refl, true_and, and_true, true_or, or_true, false_or, or_false, false_and, and_false, qEq, qNe, qLt, qGe, qGt, qLe, hlt]
      obtain ⟨r, ρ, l2, hW2, rfl⟩ := hl2
      obtain ⟨w1, w2, w3, w4, w5, w6, w7⟩ := hW
      obtain ⟨v1, v2, v3, v4, v5, v6, v7⟩ := hW2
      have hI : ∀ a j, ¬ (a = 28 ∧ t ≤ j ∧ j < t + m) → ¬ (a = 43 ∧ t ≤ j ∧ j < t + m) → ¬ (a = 27 ∧ j = 1) → ¬ (a = 35 ∧ j = 12) → pI ρ a j = pI σ a j := fun a j q1 q2 q3 q4 => by rw [v7, if_neg q2, if_neg q4, w7, if_neg q1, if_neg q3]
      have hIr : ∀ a, a ≠ 28 → a ≠ 43 → a ≠ 27 → a ≠ 35 → pI ρ a = pI σ a := fun a q1 q2 q3 q4 => funext fun j => hI a j (by omega) (by omega) (by omega) (by omega)
      have hs2 : Sh ρ := ⟨by rw [v1, w1]; exact hs.1, by rw [v2, w2]; exact hs.2.1, by rw [v3, w3]; exact hs.2.2.1, by rw [v4, w4]; exact hs.2.2.2⟩
      refine ⟨nI (t + m), τ, ρ, n, ?_, ?_, Rel_off h ⟨⟨by rw [v4, w4]; exact Nat.le_refl _, fun a _ => by rw [v1, w1], fun a _ => by rw [v2, w2]⟩, ⟨by rw [v3, w3], by rw [v3, w3]⟩, fun a ha => ⟨hIr a (by omega) (by omega) (by omega) (by omega), by rw [v3, w3]⟩, fun a ha => hIr a (by omega) (by omega) (by omega) (by omega), fun k hk => hI 35 k (by omega) (by omega) (by omega) (by omega)⟩ hs2 ?_ (RowR_fr h.2.2.1 ?_ ?_ ?_ ?_) (TrR_fr h.2.2.2.1 ?_ ?_ ?_ ?_) ?_ ?_ ?_, by rw [v4, w4]; omega, by rw [v5, w5]; omega⟩
      · refine rD_un.trans ?_
        have hsz : pI τ 27 1 = nI (t + m) := by rw [w7, if_neg (by omega), if_pos ⟨rfl, rfl⟩]
        simp only [D_X11_feed, B_X11_feed, ↓rE_eK, ↓rE_eLi, ↓rE_eLj, ↓rE_eLa, ↓rE_eU, ↓rE_eB, ↓rE_eG, ↓rE_eIF, ↓rE_eAI, ↓rE_eAX, ↓rE_eAJ, ↓rE_eAR, ↓rE_eLen, ↓rE_eSI, ↓rE_eC, ↓rE_eCall, ↓rE_eNew, ↓rE_eNewA, ↓rE_eInst, ↓rC_cI, ↓rC_cZ0, ↓rC_cN, ↓rC_cNot, ↓rC_cAnd, ↓rC_cOr, ↓rA_aN, ↓rA_aC, ↓rS_sP, ↓rS_sUF, ↓rS_sAI, ↓rS_sAJ, ↓rS_sAR, ↓rS_sUA, ↓rS_sCall, ↓rS_sObj, ↓rS_sSi, ↓rS_sSa, ↓rS_sSj, ↓rS_sInc, ↓rS_sSkip, ↓rS_sSeq, ↓rS_sIf, ↓rS_sRetI, ↓rS_sRetJ, ↓rS_sRetA, ↓rS_sRetV, ↓rS_sSw, ↓rD_meth, ↓rD_on, ↓kR_ref, ↓kI_int, ↓kJ_long, ↓kN_null, ↓kN_ref, ↓kN_rf, ↓kQ_ref, ↓kQ_null, ↓kQ_rf, o1_i, o1ij_i, o1ji_i, o2_i, o2d_i, o2j_i, o2ji_i, o2c_i, fv_0, fv_1, fv_2, fv_3, pf_0, pf_2, pf_3, pf_4, rf_s, rf_n, is_self, ge_0, ge_s, ge_n, gd_s, gd_n, se_0, se_s, ag_0, ex_n, ex_i, ex_r, ex_0, ex_j, ex_q, ap_c, ap_n, List.append_nil, ln_c, ln_n, rp_0, rp_s, rt_0, rt_1, rt_20, rt_21, rt_2, rt_3, rt_4, rt_4n, rt_4q, nl_0, nl_1, nl_2, nl_3, nl_4, nl_5, nl_6, nl_7, nl_8, nl_9, nlB_i, nlB_r, nlB_n, nlB_f, nlB_q, ↓reduceIte, reduceCtorEq, Nat.reduceAdd, Nat.reduceSub, Nat.reduceEqDiff, Nat.reduceLeDiff, Nat.reduceBEq, ite_true, ite_false, dt_t, Bool.not_true, Bool.not_false, Bool.false_eq_true, Nat.le_refl, true_and, and_true, true_or, or_true, false_or, or_false, false_and, and_false, qEq, qNe, qLt, qGe, qGt, qLe, sT_11 hs, sT_12 hs, sT_13 hs, sT_14 hs, sT_15 hs, sT_16 hs, sT_17 hs, sT_18 hs, sT_19 hs, sT_20 hs, sT_21 hs, sT_22 hs, sT_23 hs, sT_24 hs, sT_25 hs, sT_26 hs, sT_27 hs, sT_28 hs, sT_29 hs, sT_30 hs, sT_31 hs, sT_32 hs, sT_33 hs, sT_34 hs, sL_13 hs, sL_14 hs, sL_16 hs, sL_17 hs, sL_18 hs, sL_19 hs, sL_20 hs, sL_21 hs, sL_22 hs, sL_23 hs, sL_24 hs, sL_25 hs, sL_26 hs, sL_28 hs, sL_30 hs, sL_31 hs, sL_32 hs, sL_33 hs, sL_34 hs, sR_11_2 hs, sR_11_3 hs, sR_11_4 hs, sR_11_5 hs, sR_11_7 hs, sR_11_8 hs, sR_11_9 hs, sR_27_0 hs, sR_29_0 hs, sR_15_0 hs, sR_15_3 hs, sR_15_5 hs, sR_15_6 hs, sR_15_7 hs, sR_15_8 hs, sR_15_9 hs, sR_15_10 hs, sR_15_11 hs, sR_15_12 hs, sR_15_13 hs, c1, c2, g1, nI_ad, hgt, hf, rS_inl l1, sT_11 hsτ, sT_12 hsτ, sT_13 hsτ, sT_14 hsτ, sT_15 hsτ, sT_16 hsτ, sT_17 hsτ, sT_18 hsτ, sT_19 hsτ, sT_20 hsτ, sT_21 hsτ, sT_22 hsτ, sT_23 hsτ, sT_24 hsτ, sT_25 hsτ, sT_26 hsτ, sT_27 hsτ, sT_28 hsτ, sT_29 hsτ, sT_30 hsτ, sT_31 hsτ, sT_32 hsτ, sT_33 hsτ, sT_34 hsτ, sL_13 hsτ, sL_14 hsτ, sL_16 hsτ, sL_17 hsτ, sL_18 hsτ, sL_19 hsτ, sL_20 hsτ, sL_21 hsτ, sL_22 hsτ, sL_23 hsτ, sL_24 hsτ, sL_25 hsτ, sL_26 hsτ, sL_28 hsτ, sL_30 hsτ, sL_31 hsτ, sL_32 hsτ, sL_33 hsτ, sL_34 hsτ, sR_11_2 hsτ, sR_11_3 hsτ, sR_11_4 hsτ, sR_11_5 hsτ, sR_11_7 hsτ, sR_11_8 hsτ, sR_11_9 hsτ, sR_27_0 hsτ, sR_29_0 hsτ, sR_15_0 hsτ, sR_15_3 hsτ, sR_15_5 hsτ, sR_15_6 hsτ, sR_15_7 hsτ, sR_15_8 hsτ, sR_15_9 hsτ, sR_15_10 hsτ, sR_15_11 hsτ, sR_15_12 hsτ, sR_15_13 hsτ, hsz]
      · refine rD_un.trans ?_
        have hsz : pI ρ 35 12 = nI (t + m) := by rw [v7, if_neg (by omega), if_pos ⟨rfl, rfl⟩]
        simp only [D_X12_feed, B_X12_feed, ↓rE_eK, ↓rE_eLi, ↓rE_eLj, ↓rE_eLa, ↓rE_eU, ↓rE_eB, ↓rE_eG, ↓rE_eIF, ↓rE_eAI, ↓rE_eAX, ↓rE_eAJ, ↓rE_eAR, ↓rE_eLen, ↓rE_eSI, ↓rE_eC, ↓rE_eCall, ↓rE_eNew, ↓rE_eNewA, ↓rE_eInst, ↓rC_cI, ↓rC_cZ0, ↓rC_cN, ↓rC_cNot, ↓rC_cAnd, ↓rC_cOr, ↓rA_aN, ↓rA_aC, ↓rS_sP, ↓rS_sUF, ↓rS_sAI, ↓rS_sAJ, ↓rS_sAR, ↓rS_sUA, ↓rS_sCall, ↓rS_sObj, ↓rS_sSi, ↓rS_sSa, ↓rS_sSj, ↓rS_sInc, ↓rS_sSkip, ↓rS_sSeq, ↓rS_sIf, ↓rS_sRetI, ↓rS_sRetJ, ↓rS_sRetA, ↓rS_sRetV, ↓rS_sSw, ↓rD_meth, ↓rD_on, ↓kR_ref, ↓kI_int, ↓kJ_long, ↓kN_null, ↓kN_ref, ↓kN_rf, ↓kQ_ref, ↓kQ_null, ↓kQ_rf, o1_i, o1ij_i, o1ji_i, o2_i, o2d_i, o2j_i, o2ji_i, o2c_i, fv_0, fv_1, fv_2, fv_3, pf_0, pf_2, pf_3, pf_4, rf_s, rf_n, is_self, ge_0, ge_s, ge_n, gd_s, gd_n, se_0, se_s, ag_0, ex_n, ex_i, ex_r, ex_0, ex_j, ex_q, ap_c, ap_n, List.append_nil, ln_c, ln_n, rp_0, rp_s, rt_0, rt_1, rt_20, rt_21, rt_2, rt_3, rt_4, rt_4n, rt_4q, nl_0, nl_1, nl_2, nl_3, nl_4, nl_5, nl_6, nl_7, nl_8, nl_9, nlB_i, nlB_r, nlB_n, nlB_f, nlB_q, ↓reduceIte, reduceCtorEq, Nat.reduceAdd, Nat.reduceSub, Nat.reduceEqDiff, Nat.reduceLeDiff, Nat.reduceBEq, ite_true, ite_false, dt_t, Bool.not_true, Bool.not_false, Bool.false_eq_true, Nat.le_refl, true_and, and_true, true_or, or_true, false_or, or_false, false_and, and_false, qEq, qNe, qLt, qGe, qGt, qLe, sT_35 hsτ, sT_36 hsτ, sT_37 hsτ, sT_38 hsτ, sT_39 hsτ, sT_40 hsτ, sT_41 hsτ, sT_42 hsτ, sT_43 hsτ, sT_44 hsτ, sT_45 hsτ, sT_46 hsτ, sT_47 hsτ, sT_48 hsτ, sT_49 hsτ, sT_50 hsτ, sT_51 hsτ, sT_52 hsτ, sT_53 hsτ, sT_54 hsτ, sT_55 hsτ, sT_56 hsτ, sT_57 hsτ, sT_58 hsτ, sT_59 hsτ, sT_60 hsτ, sT_61 hsτ, sT_62 hsτ, sT_63 hsτ, sT_64 hsτ, sT_65 hsτ, sL_36 hsτ, sL_37 hsτ, sL_38 hsτ, sL_39 hsτ, sL_40 hsτ, sL_41 hsτ, sL_42 hsτ, sL_43 hsτ, sL_44 hsτ, sL_45 hsτ, sL_46 hsτ, sL_47 hsτ, sL_48 hsτ, sL_49 hsτ, sL_50 hsτ, sL_51 hsτ, sL_52 hsτ, sL_53 hsτ, sL_54 hsτ, sL_55 hsτ, sL_56 hsτ, sL_57 hsτ, sL_58 hsτ, sL_59 hsτ, sL_60 hsτ, sL_61 hsτ, sL_62 hsτ, sL_63 hsτ, sL_64 hsτ, sL_65 hsτ, sR_35_1 hsτ, sR_35_2 hsτ, sR_35_3 hsτ, sR_35_4 hsτ, sR_35_5 hsτ, sR_35_6 hsτ, sR_35_7 hsτ, sR_35_11 hsτ, sR_35_21 hsτ, sR_35_22 hsτ, sR_35_23 hsτ, sR_35_24 hsτ, sR_35_25 hsτ, sR_35_26 hsτ, sR_35_27 hsτ, sR_35_28 hsτ, sR_35_29 hsτ, sR_35_30 hsτ, sR_35_31 hsτ, sR_35_32 hsτ, sR_35_35 hsτ, sR_35_37 hsτ, sR_35_38 hsτ, sR_35_39 hsτ, sR_35_40 hsτ, sR_35_41 hsτ, sR_35_42 hsτ, sR_35_46 hsτ, sR_35_50 hsτ, sR_35_52 hsτ, rD_of (d_in _ _ _ _), b32_ne, nt_t, hp, not_true, hτ12, nI_ad, hgt, hf, rS_inl l2, sT_35 hs2, sT_36 hs2, sT_37 hs2, sT_38 hs2, sT_39 hs2, sT_40 hs2, sT_41 hs2, sT_42 hs2, sT_43 hs2, sT_44 hs2, sT_45 hs2, sT_46 hs2, sT_47 hs2, sT_48 hs2, sT_49 hs2, sT_50 hs2, sT_51 hs2, sT_52 hs2, sT_53 hs2, sT_54 hs2, sT_55 hs2, sT_56 hs2, sT_57 hs2, sT_58 hs2, sT_59 hs2, sT_60 hs2, sT_61 hs2, sT_62 hs2, sT_63 hs2, sT_64 hs2, sT_65 hs2, sL_36 hs2, sL_37 hs2, sL_38 hs2, sL_39 hs2, sL_40 hs2, sL_41 hs2, sL_42 hs2, sL_43 hs2, sL_44 hs2, sL_45 hs2, sL_46 hs2, sL_47 hs2, sL_48 hs2, sL_49 hs2, sL_50 hs2, sL_51 hs2, sL_52 hs2, sL_53 hs2, sL_54 hs2, sL_55 hs2, sL_56 hs2, sL_57 hs2, sL_58 hs2, sL_59 hs2, sL_60 hs2, sL_61 hs2, sL_62 hs2, sL_63 hs2, sL_64 hs2, sL_65 hs2, sR_35_1 hs2, sR_35_2 hs2, sR_35_3 hs2, sR_35_4 hs2, sR_35_5 hs2, sR_35_6 hs2, sR_35_7 hs2, sR_35_11 hs2, sR_35_21 hs2, sR_35_22 hs2, sR_35_23 hs2, sR_35_24 hs2, sR_35_25 hs2, sR_35_26 hs2, sR_35_27 hs2, sR_35_28 hs2, sR_35_29 hs2, sR_35_30 hs2, sR_35_31 hs2, sR_35_32 hs2, sR_35_35 hs2, sR_35_37 hs2, sR_35_38 hs2, sR_35_39 hs2, sR_35_40 hs2, sR_35_41 hs2, sR_35_42 hs2, sR_35_46 hs2, sR_35_50 hs2, sR_35_52 hs2, hsz]
      · refine ⟨t + m, by omega, by rw [v7, if_neg (by omega), if_neg (by omega), w7, if_neg (by omega), if_pos ⟨rfl, rfl⟩], by rw [v7, if_neg (by omega), if_pos ⟨rfl, rfl⟩], fun j hj => ?_⟩
        by_cases c : t ≤ j
        · rw [v7 28, if_neg (by omega), if_neg (by omega), w7 28, if_pos (by omega), v7 43, if_pos (by omega)]
          exact ⟨rfl, (byt_h x (show j - t < 8 by omega)).2⟩
        · rw [hI 28 j (by omega) (by omega) (by omega) (by omega), hI 43 j (by omega) (by omega) (by omega) (by omega)]
          exact g3 j (by omega)
      all_goals first
        | exact congrFun (hIr _ (by decide) (by decide) (by decide) (by decide)) _
        | exact hIr _ (by decide) (by decide) (by decide) (by decide)
        | exact hI 35 _ (by omega) (by omega) (by omega) (by omega)
        | skip
      · exact SheetR_fr (Rel_sheet h) (by rw [v4, w4]; exact Nat.le_refl _) (fun a _ => by rw [v1, w1]) (fun a _ => by rw [v2, w2]) (fun ra q1 q2 q3 => ⟨by rw [hIr ra (by omega) (by omega) (by omega) (by omega)], by rw [v3, w3]⟩) (fun a _ => by rw [v6, w6]) (hIr _ (by decide) (by decide) (by decide) (by decide)) (hIr _ (by decide) (by decide) (by decide) (by decide)) (by rw [v3, w3])
      · exact ShelfR_fr (Rel_shelf h) (by rw [v4, w4]; exact Nat.le_refl _) (fun a _ => by rw [v1, w1]) (fun a _ => by rw [v2, w2]) (fun ra q1 q2 q3 => ⟨by rw [hIr ra (by omega) (by omega) (by omega) (by omega)], by rw [v3, w3]⟩) (hIr _ (by decide) (by decide) (by decide) (by decide)) (hIr _ (by decide) (by decide) (by decide) (by decide)) (hIr _ (by decide) (by decide) (by decide) (by decide)) (hIr _ (by decide) (by decide) (by decide) (by decide)) (by rw [v3, w3])
      · have e : rkF ρ = rkF σ := rkF_of (fun a ha => hIr _ (by omega) (by omega) (by omega) (by omega)) (by rw [v2, w2])
        rw [e]; exact h.2.2.2.2.2.2.2.2
  · refine ⟨-1, σ, σ, n, ?_, ?_, h, by omega, by omega⟩
    · refine rD_un.trans ?_
      by_cases c1 : p < 1
      · simp only [D_X11_feed, B_X11_feed, ↓rE_eK, ↓rE_eLi, ↓rE_eLj, ↓rE_eLa, ↓rE_eU, ↓rE_eB, ↓rE_eG, ↓rE_eIF, ↓rE_eAI, ↓rE_eAX, ↓rE_eAJ, ↓rE_eAR, ↓rE_eLen, ↓rE_eSI, ↓rE_eC, ↓rE_eCall, ↓rE_eNew, ↓rE_eNewA, ↓rE_eInst, ↓rC_cI, ↓rC_cZ0, ↓rC_cN, ↓rC_cNot, ↓rC_cAnd, ↓rC_cOr, ↓rA_aN, ↓rA_aC, ↓rS_sP, ↓rS_sUF, ↓rS_sAI, ↓rS_sAJ, ↓rS_sAR, ↓rS_sUA, ↓rS_sCall, ↓rS_sObj, ↓rS_sSi, ↓rS_sSa, ↓rS_sSj, ↓rS_sInc, ↓rS_sSkip, ↓rS_sSeq, ↓rS_sIf, ↓rS_sRetI, ↓rS_sRetJ, ↓rS_sRetA, ↓rS_sRetV, ↓rS_sSw, ↓rD_meth, ↓rD_on, ↓kR_ref, ↓kI_int, ↓kJ_long, ↓kN_null, ↓kN_ref, ↓kN_rf, ↓kQ_ref, ↓kQ_null, ↓kQ_rf, o1_i, o1ij_i, o1ji_i, o2_i, o2d_i, o2j_i, o2ji_i, o2c_i, fv_0, fv_1, fv_2, fv_3, pf_0, pf_2, pf_3, pf_4, rf_s, rf_n, is_self, ge_0, ge_s, ge_n, gd_s, gd_n, se_0, se_s, ag_0, ex_n, ex_i, ex_r, ex_0, ex_j, ex_q, ap_c, ap_n, List.append_nil, ln_c, ln_n, rp_0, rp_s, rt_0, rt_1, rt_20, rt_21, rt_2, rt_3, rt_4, rt_4n, rt_4q, nl_0, nl_1, nl_2, nl_3, nl_4, nl_5, nl_6, nl_7, nl_8, nl_9, nlB_i, nlB_r, nlB_n, nlB_f, nlB_q, ↓reduceIte, reduceCtorEq, Nat.reduceAdd, Nat.reduceSub, Nat.reduceEqDiff, Nat.reduceLeDiff, Nat.reduceBEq, ite_true, ite_false, dt_t, Bool.not_true, Bool.not_false, Bool.false_eq_true, Nat.le_refl, true_and, and_true, true_or, or_true, false_or, or_false, false_and, and_false, qEq, qNe, qLt, qGe, qGt, qLe, c1]
      · have c2 : 8 < p := by
          rw [← Int32.not_le]
          rw [Int32.not_lt] at c1
          exact fun q => hp ⟨c1, q⟩
        simp only [D_X11_feed, B_X11_feed, ↓rE_eK, ↓rE_eLi, ↓rE_eLj, ↓rE_eLa, ↓rE_eU, ↓rE_eB, ↓rE_eG, ↓rE_eIF, ↓rE_eAI, ↓rE_eAX, ↓rE_eAJ, ↓rE_eAR, ↓rE_eLen, ↓rE_eSI, ↓rE_eC, ↓rE_eCall, ↓rE_eNew, ↓rE_eNewA, ↓rE_eInst, ↓rC_cI, ↓rC_cZ0, ↓rC_cN, ↓rC_cNot, ↓rC_cAnd, ↓rC_cOr, ↓rA_aN, ↓rA_aC, ↓rS_sP, ↓rS_sUF, ↓rS_sAI, ↓rS_sAJ, ↓rS_sAR, ↓rS_sUA, ↓rS_sCall, ↓rS_sObj, ↓rS_sSi, ↓rS_sSa, ↓rS_sSj, ↓rS_sInc, ↓rS_sSkip, ↓rS_sSeq, ↓rS_sIf, ↓rS_sRetI, ↓rS_sRetJ, ↓rS_sRetA, ↓rS_sRetV, ↓rS_sSw, ↓rD_meth, ↓rD_on, ↓kR_ref, ↓kI_int, ↓kJ_long, ↓kN_null, ↓kN_ref, ↓kN_rf, ↓kQ_ref, ↓kQ_null, ↓kQ_rf, o1_i, o1ij_i, o1ji_i, o2_i, o2d_i, o2j_i, o2ji_i, o2c_i, fv_0, fv_1, fv_2, fv_3, pf_0, pf_2, pf_3, pf_4, rf_s, rf_n, is_self, ge_0, ge_s, ge_n, gd_s, gd_n, se_0, se_s, ag_0, ex_n, ex_i, ex_r, ex_0, ex_j, ex_q, ap_c, ap_n, List.append_nil, ln_c, ln_n, rp_0, rp_s, rt_0, rt_1, rt_20, rt_21, rt_2, rt_3, rt_4, rt_4n, rt_4q, nl_0, nl_1, nl_2, nl_3, nl_4, nl_5, nl_6, nl_7, nl_8, nl_9, nlB_i, nlB_r, nlB_n, nlB_f, nlB_q, ↓reduceIte, reduceCtorEq, Nat.reduceAdd, Nat.reduceSub, Nat.reduceEqDiff, Nat.reduceLeDiff, Nat.reduceBEq, ite_true, ite_false, dt_t, Bool.not_true, Bool.not_false, Bool.false_eq_true, Nat.le_refl, true_and, and_true, true_or, or_true, false_or, or_false, false_and, and_false, qEq, qNe, qLt, qGe, qGt, qLe, c1, c2]
    · refine rD_un.trans ?_
      simp only [D_X12_feed, B_X12_feed, ↓rE_eK, ↓rE_eLi, ↓rE_eLj, ↓rE_eLa, ↓rE_eU, ↓rE_eB, ↓rE_eG, ↓rE_eIF, ↓rE_eAI, ↓rE_eAX, ↓rE_eAJ, ↓rE_eAR, ↓rE_eLen, ↓rE_eSI, ↓rE_eC, ↓rE_eCall, ↓rE_eNew, ↓rE_eNewA, ↓rE_eInst, ↓rC_cI, ↓rC_cZ0, ↓rC_cN, ↓rC_cNot, ↓rC_cAnd, ↓rC_cOr, ↓rA_aN, ↓rA_aC, ↓rS_sP, ↓rS_sUF, ↓rS_sAI, ↓rS_sAJ, ↓rS_sAR, ↓rS_sUA, ↓rS_sCall, ↓rS_sObj, ↓rS_sSi, ↓rS_sSa, ↓rS_sSj, ↓rS_sInc, ↓rS_sSkip, ↓rS_sSeq, ↓rS_sIf, ↓rS_sRetI, ↓rS_sRetJ, ↓rS_sRetA, ↓rS_sRetV, ↓rS_sSw, ↓rD_meth, ↓rD_on, ↓kR_ref, ↓kI_int, ↓kJ_long, ↓kN_null, ↓kN_ref, ↓kN_rf, ↓kQ_ref, ↓kQ_null, ↓kQ_rf, o1_i, o1ij_i, o1ji_i, o2_i, o2d_i, o2j_i, o2ji_i, o2c_i, fv_0, fv_1, fv_2, fv_3, pf_0, pf_2, pf_3, pf_4, rf_s, rf_n, is_self, ge_0, ge_s, ge_n, gd_s, gd_n, se_0, se_s, ag_0, ex_n, ex_i, ex_r, ex_0, ex_j, ex_q, ap_c, ap_n, List.append_nil, ln_c, ln_n, rp_0, rp_s, rt_0, rt_1, rt_20, rt_21, rt_2, rt_3, rt_4, rt_4n, rt_4q, nl_0, nl_1, nl_2, nl_3, nl_4, nl_5, nl_6, nl_7, nl_8, nl_9, nlB_i, nlB_r, nlB_n, nlB_f, nlB_q, ↓reduceIte, reduceCtorEq, Nat.reduceAdd, Nat.reduceSub, Nat.reduceEqDiff, Nat.reduceLeDiff, Nat.reduceBEq, ite_true, ite_false, dt_t, Bool.not_true, Bool.not_false, Bool.false_eq_true, Nat.le_refl, true_and, and_true, true_or, or_true, false_or, or_false, false_and, and_false, qEq, qNe, qLt, qGe, qGt, qLe, rD_of (d_in _ _ _ _), b32_ne, nt_t, hp, not_false_eq_true]
