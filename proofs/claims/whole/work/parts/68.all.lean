/-! The reference's tables. -/
/-- only the reference's tables and plan are written -/
def OD (σ s : pm_H) : Prop := Pl σ s ∧ (∀ a, ¬ (49 ≤ a ∧ a ≤ 55) → a ≠ 35 → pI s a = pI σ a) ∧ ∀ k, k ≠ 33 → k ≠ 34 → pI s 35 k = pI σ 35 k
theorem OD_rfl {σ : pm_H} : OD σ σ := ⟨⟨rfl, rfl, rfl, rfl, rfl, rfl⟩, fun _ _ _ => rfl, fun _ _ _ => rfl⟩
theorem OD_tr {σ s t : pm_H} (h : OD σ s) (h' : OD s t) : OD σ t := ⟨Pl_tr h.1 h'.1, fun a q1 q2 => (h'.2.1 a q1 q2).trans (h.2.1 a q1 q2), fun k q1 q2 => (h'.2.2 k q1 q2).trans (h.2.2 k q1 q2)⟩
theorem OD_uI {σ s : pm_H} (h : OD σ s) {a k : Nat} {x : Int32} (ha : (49 ≤ a ∧ a ≤ 55) ∨ (a = 35 ∧ (k = 33 ∨ k = 34))) : OD σ (uI s a k x) := by
  refine ⟨h.1, fun b q1 q2 => by rw [pI_uI_ne _ _ _ (by omega)]; exact h.2.1 b q1 q2, fun j q1 q2 => ?_⟩
  rw [pI_uI, if_neg (by omega)]; exact h.2.2 j q1 q2
theorem OD_O1 {c : Nat} {σ s : pm_H} (h : O1 c σ s) (hc : 49 ≤ c ∧ c ≤ 55) : OD σ s := ⟨h.1, fun a q1 _ => h.2 a (by omega), fun k _ _ => by rw [h.2 35 (by omega)]⟩
theorem OD_Fr {σ s : pm_H} (h : OD σ s) : Fr σ s := ⟨h.1.1, h.1.2.1, h.1.2.2.1, h.1.2.2.2.1, h.1.2.2.2.2.1, fun a _ => by rw [h.1.2.2.2.2.2], fun a k q => by
  unfold scr at q
  by_cases c : a = 35
  · subst c; exact h.2.2 k (by omega) (by omega)
  · rw [h.2.1 a (by omega) c]⟩
theorem sub_ones {A n : Nat} : sub A (2 ^ n - 1) ↔ A < 2 ^ n := by
  constructor
  · intro h
    exact lt_of_bits fun i hi => by have := h i hi; rw [ones_bit] at this; simpa using this
  · intro h i hi
    rw [ones_bit]; simpa using bitlt h hi
/-- what is asked of the table at A -/
def cM (ln : Nat → Nat) (sg : Nat → Nat → Bool) (base M : Nat → Nat) (A : Nat) : Prop := (pc A < 2 → M A = base A) ∧ (2 ≤ pc A → Lo ln sg M A (fun _ _ => True) (M A))
theorem cM_ext {ln : Nat → Nat} {sg : Nat → Nat → Bool} {base M M' : Nat → Nat} {A : Nat} (h : cM ln sg base M A) (e : ∀ B, B ≤ A → M' B = M B) : cM ln sg base M' A := by
  have e2 : ∀ s W, cdB ln sg A s W = true → M' (sd A W) = M (sd A W) := fun s W q => by
    obtain ⟨-, -, q3, q4, -⟩ := cd_iff.mp q
    exact e _ (Nat.le_of_lt (sd_lt' q3 q4))
  refine ⟨fun hp => by rw [e A (Nat.le_refl _)]; exact h.1 hp, fun hp => ?_⟩
  obtain ⟨c1, c2, c3⟩ := h.2 hp
  rw [e A (Nat.le_refl _)]
  refine ⟨c1, fun s W q1 q2 => by rw [e2 s W q2]; exact c2 s W q1 q2, ?_⟩
  rcases c3 with c | ⟨s, W, q, c⟩
  · exact Or.inl c
  · exact Or.inr ⟨s, W, q, by rw [e2 s W q]; exact c⟩
theorem Ch_of {ln : Nat → Nat} {sg : Nat → Nat → Bool} {base M : Nat → Nat} {U : Nat} (h : ∀ A, sub A U → cM ln sg base M A) : Ch ln sg base M U := fun A hA => ⟨(h A hA).1, fun hp => by
  obtain ⟨c1, c2, c3⟩ := (h A hA).2 hp
  exact ⟨c1, fun s W q => c2 s W trivial q, c3⟩⟩
def up1 (M : Nat → Nat) (i L B : Nat) : Nat := if B = i then L else M B
theorem up1_at (M : Nat → Nat) (i L : Nat) : up1 M i L i = L := if_pos rfl
theorem up1_ne (M : Nat → Nat) {i L B : Nat} (h : B ≠ i) : up1 M i L B = M B := if_neg h
/-- who may be last -/
def baR (la : Int32) (A : Nat) : Nat := if la < 0 ∨ nI A = 1 <<< (la &&& 31) then 0 else 1000000
theorem d_findLeast {σ : pm_H} (hS : Sh σ) {n : Nat} {sl la : Int32} (hn : pI σ 35 0 = nI n) (hm : mOk (cur σ) n) : ∃ s M, D_X12_findLeast [.ref 35, .int sl, .int la] σ = some (none, s) ∧ OD σ s ∧ (∀ W, W < 2 ^ n → pI s 49 W = lnI (lnR (cur σ) n W)) ∧ (∀ A, A < 2 ^ n → pI s 50 A = nI (M A) ∧ M A ≤ 1000000) ∧ Ch (lnR (cur σ) n) (sgR (cur σ) n sl) (baR la) M (2 ^ n - 1) := by
  have h8 := hm.1.1
  have h2 := p2n h8
  obtain ⟨s0, f1, f2, f3⟩ := d_findLengths hS hn hm
  have hl : ∃ r s, sLoop (cI qLt (eLi 3) (eB f_ishl (eK (.int 1)) (eG (is 12) 0 0 (eLa 0)))) (sSeq (sSeq (sSi 4 (eC (cI qLt (eCall D_X12_ones (aC (eLi 3) (aN))) (eK (.int 2))) (eK (.int 1)) (eK (.int 0)))) (sAI (eG (is 12) 3 27 (eLa 0)) (eLi 3) (eC (cZ0 qNe (eLi 4)) (eC (cOr (cZ0 qLt (eLi 2)) (cI qEq (eLi 3) (eB f_ishl (eK (.int 1)) (eLi 2)))) (eK (.int 0)) (eK (.int 1000000))) (eCall (pm_disp (tb1 12 D_X12_fewest)) (aC (eLa 0) (aC (eLi 3) (aC (eLi 1) (aN)))))))) (sInc 3 1)) [.ref 35, .int sl, .int la, .int 0, .float 0] s0 = some (r, s) ∧ (∃ M, O1 50 s0 s ∧ (∀ A, A < 2 ^ n → (pI s 50 A = nI (M A) ∧ M A ≤ 1000000) ∧ cM (lnR (cur σ) n) (sgR (cur σ) n sl) (baR la) M A) ∧ ∃ w, r = .inl [.ref 35, .int sl, .int la, .int (nI (2 ^ n)), w]) := by
    refine loop_gen (fun i env s => ∃ M, O1 50 s0 s ∧ (∀ A, A < i → (pI s 50 A = nI (M A) ∧ M A ≤ 1000000) ∧ cM (lnR (cur σ) n) (sgR (cur σ) n sl) (baR la) M A) ∧ ∃ w, env = [.ref 35, .int sl, .int la, .int (nI i), w]) _ (2 ^ n) (by omega) ⟨fun _ => 0, O1_rfl, fun A hA => by omega, .float 0, by rw [nI_0]⟩ ?_
    rintro i env s hi ⟨M, hO, hT, w, rfl⟩
    have hFr := Fr_tr (O1_Fr f2 (by omega)) (O1_Fr hO (by omega))
    have hss := Fr_Sh hFr hS
    have hcu := Fr_cur hFr
    have hns : pI s 35 0 = nI n := by rw [hO.2 35 (by decide), f2.2 35 (by decide)]; exact hn
    have hlt : (nI i < nI (2 ^ n)) = (i < 2 ^ n) := nI_lt' (by omega) (by omega)
    by_cases e : i < 2 ^ n
    · left
      have hpc := pc_le (A := i)
      have hone : (nI (pc i) < 2) = (pc i < 2) := nI_lt' (b := 2) (by omega) (by decide)
      have hib := ib_nI (show i < 256 by omega) (by decide)
      have hcl := nI_cl (show i < 2147483648 by omega)
      have fin : ∀ (L : Nat) (w' : Value), L ≤ 1000000 → (pc i < 2 → L = baR la i) → (2 ≤ pc i → Lo (lnR (cur σ) n) (sgR (cur σ) n sl) M i (fun _ _ => True) L) → ∃ M, O1 50 s0 (uI s 50 i (nI L)) ∧ (∀ A, A < i + 1 → (pI (uI s 50 i (nI L)) 50 A = nI (M A) ∧ M A ≤ 1000000) ∧ cM (lnR (cur σ) n) (sgR (cur σ) n sl) (baR la) M A) ∧ ∃ w, ([.ref 35, .int sl, .int la, .int (nI (i + 1)), w'] : List Value) = [.ref 35, .int sl, .int la, .int (nI (i + 1)), w] := by
        intro L w' h1 h2 h3
        refine ⟨up1 M i L, O1_uI hO, fun A hA => ?_, _, rfl⟩
        by_cases c : A = i
        · subst c
          refine ⟨⟨by rw [pI_uI_at, up1_at], by rw [up1_at]; exact h1⟩, fun hp => by rw [up1_at]; exact h2 hp, fun hp => ?_⟩
          rw [up1_at]
          obtain ⟨c1, c2, c3⟩ := h3 hp
          have hne : ∀ s W, cdB (lnR (cur σ) n) (sgR (cur σ) n sl) A s W = true → sd A W ≠ A := fun s W q => by
            obtain ⟨-, -, q3, q4, -⟩ := cd_iff.mp q
            have := sd_lt' q3 q4; omega
          refine ⟨c1, fun s W q1 q2 => by rw [up1_ne _ (hne s W q2)]; exact c2 s W q1 q2, ?_⟩
          rcases c3 with c3 | ⟨s, W, q, c3⟩
          · exact Or.inl c3
          · exact Or.inr ⟨s, W, q, by rw [up1_ne _ (hne s W q)]; exact c3⟩
        · have hA' : A < i := by omega
          obtain ⟨⟨t1, t2⟩, t3⟩ := hT A hA'
          refine ⟨⟨by rw [pI_uI_nek _ _ _ _ c, up1_ne _ c]; exact t1, by rw [up1_ne _ c]; exact t2⟩, cM_ext t3 (fun B hB => up1_ne _ (by omega))⟩
      by_cases hp : pc i < 2
      · by_cases c1 : la < 0
        · refine ⟨_, _, ?_, e, fin 0 (.int 1) (by omega) (fun _ => by unfold baR; rw [if_pos (Or.inl c1)]) (fun q => by omega)⟩
          simp only [lpStep, ↓rE_eK, ↓rE_eLi, ↓rE_eLj, ↓rE_eLa, ↓rE_eU, ↓rE_eB, ↓rE_eG, ↓rE_eIF, ↓rE_eAI, ↓rE_eAX, ↓rE_eAJ, ↓rE_eAR, ↓rE_eLen, ↓rE_eSI, ↓rE_eC, ↓rE_eCall, ↓rE_eNew, ↓rE_eNewA, ↓rE_eInst, ↓rC_cI, ↓rC_cZ0, ↓rC_cN, ↓rC_cNot, ↓rC_cAnd, ↓rC_cOr, ↓rA_aN, ↓rA_aC, ↓rS_sP, ↓rS_sUF, ↓rS_sAI, ↓rS_sAJ, ↓rS_sAR, ↓rS_sUA, ↓rS_sCall, ↓rS_sObj, ↓rS_sSi, ↓rS_sSa, ↓rS_sSj, ↓rS_sInc, ↓rS_sSkip, ↓rS_sSeq, ↓rS_sIf, ↓rS_sRetI, ↓rS_sRetJ, ↓rS_sRetA, ↓rS_sRetV, ↓rS_sSw, ↓rD_meth, ↓rD_on, ↓kR_ref, ↓kI_int, ↓kJ_long, ↓kN_null, ↓kN_ref, ↓kN_rf, ↓kQ_ref, ↓kQ_null, ↓kQ_rf, o1_i, o1ij_i, o1ji_i, o2_i, o2d_i, o2j_i, o2ji_i, o2c_i, fv_0, fv_1, fv_2, fv_3, pf_0, pf_2, pf_3, pf_4, rf_s, rf_n, is_self, ge_0, ge_s, ge_n, gd_s, gd_n, se_0, se_s, ag_0, ex_n, ex_i, ex_r, ex_0, ex_j, ex_q, ap_c, ap_n, List.append_nil, ln_c, ln_n, rp_0, rp_s, rt_0, rt_1, rt_20, rt_21, rt_2, rt_3, rt_4, rt_4n, rt_4q, nl_0, nl_1, nl_2, nl_3, nl_4, nl_5, nl_6, nl_7, nl_8, nl_9, nlB_i, nlB_r, nlB_n, nlB_f, nlB_q, ↓reduceIte, reduceCtorEq, Nat.reduceAdd, Nat.reduceSub, Nat.reduceEqDiff, Nat.reduceLeDiff, Nat.reduceBEq, ite_true, ite_false, dt_t, Bool.not_true, Bool.not_false, Bool.false_eq_true, Nat.le_refl, true_and, and_true, true_or, or_true, false_or, or_false, false_and, and_false, qEq, qNe, qLt, qGe, qGt, qLe, sT_35 hss, sT_36 hss, sT_37 hss, sT_38 hss, sT_39 hss, sT_40 hss, sT_41 hss, sT_42 hss, sT_43 hss, sT_44 hss, sT_45 hss, sT_46 hss, sT_47 hss, sT_48 hss, sT_49 hss, sT_50 hss, sT_51 hss, sT_52 hss, sT_53 hss, sT_54 hss, sT_55 hss, sT_56 hss, sT_57 hss, sT_58 hss, sT_59 hss, sT_60 hss, sT_61 hss, sT_62 hss, sT_63 hss, sT_64 hss, sT_65 hss, sL_36 hss, sL_37 hss, sL_38 hss, sL_39 hss, sL_40 hss, sL_41 hss, sL_42 hss, sL_43 hss, sL_44 hss, sL_45 hss, sL_46 hss, sL_47 hss, sL_48 hss, sL_49 hss, sL_50 hss, sL_51 hss, sL_52 hss, sL_53 hss, sL_54 hss, sL_55 hss, sL_56 hss, sL_57 hss, sL_58 hss, sL_59 hss, sL_60 hss, sL_61 hss, sL_62 hss, sL_63 hss, sL_64 hss, sL_65 hss, sR_35_1 hss, sR_35_2 hss, sR_35_3 hss, sR_35_4 hss, sR_35_5 hss, sR_35_6 hss, sR_35_7 hss, sR_35_11 hss, sR_35_21 hss, sR_35_22 hss, sR_35_23 hss, sR_35_24 hss, sR_35_25 hss, sR_35_26 hss, sR_35_27 hss, sR_35_28 hss, sR_35_29 hss, sR_35_30 hss, sR_35_31 hss, sR_35_32 hss, sR_35_35 hss, sR_35_37 hss, sR_35_38 hss, sR_35_39 hss, sR_35_40 hss, sR_35_41 hss, sR_35_42 hss, sR_35_46 hss, sR_35_50 hss, sR_35_52 hss, hns, p2_shl h8, hlt, e, rD_of (d_ones (show i < 256 by omega) _), hone, hp, one_ne0, not_false_eq_true, c1, hib, hcl, nI_1, nI_0]
        · by_cases c2 : nI i = 1 <<< (la &&& 31)
          · refine ⟨_, _, ?_, e, fin 0 (.int 1) (by omega) (fun _ => by unfold baR; rw [if_pos (Or.inr c2)]) (fun q => by omega)⟩
            have c2' : (nI i = 1 <<< (la &&& 31)) = True := eq_true c2
            simp only [lpStep, ↓rE_eK, ↓rE_eLi, ↓rE_eLj, ↓rE_eLa, ↓rE_eU, ↓rE_eB, ↓rE_eG, ↓rE_eIF, ↓rE_eAI, ↓rE_eAX, ↓rE_eAJ, ↓rE_eAR, ↓rE_eLen, ↓rE_eSI, ↓rE_eC, ↓rE_eCall, ↓rE_eNew, ↓rE_eNewA, ↓rE_eInst, ↓rC_cI, ↓rC_cZ0, ↓rC_cN, ↓rC_cNot, ↓rC_cAnd, ↓rC_cOr, ↓rA_aN, ↓rA_aC, ↓rS_sP, ↓rS_sUF, ↓rS_sAI, ↓rS_sAJ, ↓rS_sAR, ↓rS_sUA, ↓rS_sCall, ↓rS_sObj, ↓rS_sSi, ↓rS_sSa, ↓rS_sSj, ↓rS_sInc, ↓rS_sSkip, ↓rS_sSeq, ↓rS_sIf, ↓rS_sRetI, ↓rS_sRetJ, ↓rS_sRetA, ↓rS_sRetV, ↓rS_sSw, ↓rD_meth, ↓rD_on, ↓kR_ref, ↓kI_int, ↓kJ_long, ↓kN_null, ↓kN_ref, ↓kN_rf, ↓kQ_ref, ↓kQ_null, ↓kQ_rf, o1_i, o1ij_i, o1ji_i, o2_i, o2d_i, o2j_i, o2ji_i, o2c_i, fv_0, fv_1, fv_2, fv_3, pf_0, pf_2, pf_3, pf_4, rf_s, rf_n, is_self, ge_0, ge_s, ge_n, gd_s, gd_n, se_0, se_s, ag_0, ex_n, ex_i, ex_r, ex_0, ex_j, ex_q, ap_c, ap_n, List.append_nil, ln_c, ln_n, rp_0, rp_s, rt_0, rt_1, rt_20, rt_21, rt_2, rt_3, rt_4, rt_4n, rt_4q, nl_0, nl_1, nl_2, nl_3, nl_4, nl_5, nl_6, nl_7, nl_8, nl_9, nlB_i, nlB_r, nlB_n, nlB_f, nlB_q, ↓reduceIte, reduceCtorEq, Nat.reduceAdd, Nat.reduceSub, Nat.reduceEqDiff, Nat.reduceLeDiff, Nat.reduceBEq, ite_true, ite_false, dt_t, Bool.not_true, Bool.not_false, Bool.false_eq_true, Nat.le_refl, true_and, and_true, true_or, or_true, false_or, or_false, false_and, and_false, qEq, qNe, qLt, qGe, qGt, qLe, sT_35 hss, sT_36 hss, sT_37 hss, sT_38 hss, sT_39 hss, sT_40 hss, sT_41 hss, sT_42 hss, sT_43 hss, sT_44 hss, sT_45 hss, sT_46 hss, sT_47 hss, sT_48 hss, sT_49 hss, sT_50 hss, sT_51 hss, sT_52 hss, sT_53 hss, sT_54 hss, sT_55 hss, sT_56 hss, sT_57 hss, sT_58 hss, sT_59 hss, sT_60 hss, sT_61 hss, sT_62 hss, sT_63 hss, sT_64 hss, sT_65 hss, sL_36 hss, sL_37 hss, sL_38 hss, sL_39 hss, sL_40 hss, sL_41 hss, sL_42 hss, sL_43 hss, sL_44 hss, sL_45 hss, sL_46 hss, sL_47 hss, sL_48 hss, sL_49 hss, sL_50 hss, sL_51 hss, sL_52 hss, sL_53 hss, sL_54 hss, sL_55 hss, sL_56 hss, sL_57 hss, sL_58 hss, sL_59 hss, sL_60 hss, sL_61 hss, sL_62 hss, sL_63 hss, sL_64 hss, sL_65 hss, sR_35_1 hss, sR_35_2 hss, sR_35_3 hss, sR_35_4 hss, sR_35_5 hss, sR_35_6 hss, sR_35_7 hss, sR_35_11 hss, sR_35_21 hss, sR_35_22 hss, sR_35_23 hss, sR_35_24 hss, sR_35_25 hss, sR_35_26 hss, sR_35_27 hss, sR_35_28 hss, sR_35_29 hss, sR_35_30 hss, sR_35_31 hss, sR_35_32 hss, sR_35_35 hss, sR_35_37 hss, sR_35_38 hss, sR_35_39 hss, sR_35_40 hss, sR_35_41 hss, sR_35_42 hss, sR_35_46 hss, sR_35_50 hss, sR_35_52 hss, hns, p2_shl h8, hlt, e, rD_of (d_ones (show i < 256 by omega) _), hone, hp, one_ne0, not_false_eq_true, c1, c2', hib, hcl, nI_1, nI_0]
          · refine ⟨_, _, ?_, e, fin 1000000 (.int 1) (by omega) (fun _ => by unfold baR; rw [if_neg (fun q => q.elim c1 c2)]) (fun q => by omega)⟩
            have hM : nI 1000000 = 1000000 := rfl
            simp only [lpStep, ↓rE_eK, ↓rE_eLi, ↓rE_eLj, ↓rE_eLa, ↓rE_eU, ↓rE_eB, ↓rE_eG, ↓rE_eIF, ↓rE_eAI, ↓rE_eAX, ↓rE_eAJ, ↓rE_eAR, ↓rE_eLen, ↓rE_eSI, ↓rE_eC, ↓rE_eCall, ↓rE_eNew, ↓rE_eNewA, ↓rE_eInst, ↓rC_cI, ↓rC_cZ0, ↓rC_cN, ↓rC_cNot, ↓rC_cAnd, ↓rC_cOr, ↓rA_aN, ↓rA_aC, ↓rS_sP, ↓rS_sUF, ↓rS_sAI, ↓rS_sAJ, ↓rS_sAR, ↓rS_sUA, ↓rS_sCall, ↓rS_sObj, ↓rS_sSi, ↓rS_sSa, ↓rS_sSj, ↓rS_sInc, ↓rS_sSkip, ↓rS_sSeq, ↓rS_sIf, ↓rS_sRetI, ↓rS_sRetJ, ↓rS_sRetA, ↓rS_sRetV, ↓rS_sSw, ↓rD_meth, ↓rD_on, ↓kR_ref, ↓kI_int, ↓kJ_long, ↓kN_null, ↓kN_ref, ↓kN_rf, ↓kQ_ref, ↓kQ_null, ↓kQ_rf, o1_i, o1ij_i, o1ji_i, o2_i, o2d_i, o2j_i, o2ji_i, o2c_i, fv_0, fv_1, fv_2, fv_3, pf_0, pf_2, pf_3, pf_4, rf_s, rf_n, is_self, ge_0, ge_s, ge_n, gd_s, gd_n, se_0, se_s, ag_0, ex_n, ex_i, ex_r, ex_0, ex_j, ex_q, ap_c, ap_n, List.append_nil, ln_c, ln_n, rp_0, rp_s, rt_0, rt_1, rt_20, rt_21, rt_2, rt_3, rt_4, rt_4n, rt_4q, nl_0, nl_1, nl_2, nl_3, nl_4, nl_5, nl_6, nl_7, nl_8, nl_9, nlB_i, nlB_r, nlB_n, nlB_f, nlB_q, ↓reduceIte, reduceCtorEq, Nat.reduceAdd, Nat.reduceSub, Nat.reduceEqDiff, Nat.reduceLeDiff, Nat.reduceBEq, ite_true, ite_false, dt_t, Bool.not_true, Bool.not_false, Bool.false_eq_true, Nat.le_refl, true_and, and_true, true_or, or_true, false_or, or_false, false_and, and_false, qEq, qNe, qLt, qGe, qGt, qLe, sT_35 hss, sT_36 hss, sT_37 hss, sT_38 hss, sT_39 hss, sT_40 hss, sT_41 hss, sT_42 hss, sT_43 hss, sT_44 hss, sT_45 hss, sT_46 hss, sT_47 hss, sT_48 hss, sT_49 hss, sT_50 hss, sT_51 hss, sT_52 hss, sT_53 hss, sT_54 hss, sT_55 hss, sT_56 hss, sT_57 hss, sT_58 hss, sT_59 hss, sT_60 hss, sT_61 hss, sT_62 hss, sT_63 hss, sT_64 hss, sT_65 hss, sL_36 hss, sL_37 hss, sL_38 hss, sL_39 hss, sL_40 hss, sL_41 hss, sL_42 hss, sL_43 hss, sL_44 hss, sL_45 hss, sL_46 hss, sL_47 hss, sL_48 hss, sL_49 hss, sL_50 hss, sL_51 hss, sL_52 hss, sL_53 hss, sL_54 hss, sL_55 hss, sL_56 hss, sL_57 hss, sL_58 hss, sL_59 hss, sL_60 hss, sL_61 hss, sL_62 hss, sL_63 hss, sL_64 hss, sL_65 hss, sR_35_1 hss, sR_35_2 hss, sR_35_3 hss, sR_35_4 hss, sR_35_5 hss, sR_35_6 hss, sR_35_7 hss, sR_35_11 hss, sR_35_21 hss, sR_35_22 hss, sR_35_23 hss, sR_35_24 hss, sR_35_25 hss, sR_35_26 hss, sR_35_27 hss, sR_35_28 hss, sR_35_29 hss, sR_35_30 hss, sR_35_31 hss, sR_35_32 hss, sR_35_35 hss, sR_35_37 hss, sR_35_38 hss, sR_35_39 hss, sR_35_40 hss, sR_35_41 hss, sR_35_42 hss, sR_35_46 hss, sR_35_50 hss, sR_35_52 hss, hns, p2_shl h8, hlt, e, rD_of (d_ones (show i < 256 by omega) _), hone, hp, one_ne0, not_false_eq_true, c1, c2, hib, hcl, nI_1, hM]
      · have hfw := d_fewest hss (A := i) (sl := sl) (T := M) hns (by rw [hcu]; exact hm) e (fun W hW => by rw [hO.2 49 (by decide), hcu]; exact f3 W hW) (fun B hB => (hT B hB).1)
        rw [hcu] at hfw
        obtain ⟨L, g1, g2⟩ := hfw
        refine ⟨_, _, ?_, e, fin L (.int 0) g2.1 (fun q => absurd q hp) (fun _ => g2)⟩
        simp only [lpStep, ↓rE_eK, ↓rE_eLi, ↓rE_eLj, ↓rE_eLa, ↓rE_eU, ↓rE_eB, ↓rE_eG, ↓rE_eIF, ↓rE_eAI, ↓rE_eAX, ↓rE_eAJ, ↓rE_eAR, ↓rE_eLen, ↓rE_eSI, ↓rE_eC, ↓rE_eCall, ↓rE_eNew, ↓rE_eNewA, ↓rE_eInst, ↓rC_cI, ↓rC_cZ0, ↓rC_cN, ↓rC_cNot, ↓rC_cAnd, ↓rC_cOr, ↓rA_aN, ↓rA_aC, ↓rS_sP, ↓rS_sUF, ↓rS_sAI, ↓rS_sAJ, ↓rS_sAR, ↓rS_sUA, ↓rS_sCall, ↓rS_sObj, ↓rS_sSi, ↓rS_sSa, ↓rS_sSj, ↓rS_sInc, ↓rS_sSkip, ↓rS_sSeq, ↓rS_sIf, ↓rS_sRetI, ↓rS_sRetJ, ↓rS_sRetA, ↓rS_sRetV, ↓rS_sSw, ↓rD_meth, ↓rD_on, ↓kR_ref, ↓kI_int, ↓kJ_long, ↓kN_null, ↓kN_ref, ↓kN_rf, ↓kQ_ref, ↓kQ_null, ↓kQ_rf, o1_i, o1ij_i, o1ji_i, o2_i, o2d_i, o2j_i, o2ji_i, o2c_i, fv_0, fv_1, fv_2, fv_3, pf_0, pf_2, pf_3, pf_4, rf_s, rf_n, is_self, ge_0, ge_s, ge_n, gd_s, gd_n, se_0, se_s, ag_0, ex_n, ex_i, ex_r, ex_0, ex_j, ex_q, ap_c, ap_n, List.append_nil, ln_c, ln_n, rp_0, rp_s, rt_0, rt_1, rt_20, rt_21, rt_2, rt_3, rt_4, rt_4n, rt_4q, nl_0, nl_1, nl_2, nl_3, nl_4, nl_5, nl_6, nl_7, nl_8, nl_9, nlB_i, nlB_r, nlB_n, nlB_f, nlB_q, ↓reduceIte, reduceCtorEq, Nat.reduceAdd, Nat.reduceSub, Nat.reduceEqDiff, Nat.reduceLeDiff, Nat.reduceBEq, ite_true, ite_false, dt_t, Bool.not_true, Bool.not_false, Bool.false_eq_true, Nat.le_refl, true_and, and_true, true_or, or_true, false_or, or_false, false_and, and_false, qEq, qNe, qLt, qGe, qGt, qLe, sT_35 hss, sT_36 hss, sT_37 hss, sT_38 hss, sT_39 hss, sT_40 hss, sT_41 hss, sT_42 hss, sT_43 hss, sT_44 hss, sT_45 hss, sT_46 hss, sT_47 hss, sT_48 hss, sT_49 hss, sT_50 hss, sT_51 hss, sT_52 hss, sT_53 hss, sT_54 hss, sT_55 hss, sT_56 hss, sT_57 hss, sT_58 hss, sT_59 hss, sT_60 hss, sT_61 hss, sT_62 hss, sT_63 hss, sT_64 hss, sT_65 hss, sL_36 hss, sL_37 hss, sL_38 hss, sL_39 hss, sL_40 hss, sL_41 hss, sL_42 hss, sL_43 hss, sL_44 hss, sL_45 hss, sL_46 hss, sL_47 hss, sL_48 hss, sL_49 hss, sL_50 hss, sL_51 hss, sL_52 hss, sL_53 hss, sL_54 hss, sL_55 hss, sL_56 hss, sL_57 hss, sL_58 hss, sL_59 hss, sL_60 hss, sL_61 hss, sL_62 hss, sL_63 hss, sL_64 hss, sL_65 hss, sR_35_1 hss, sR_35_2 hss, sR_35_3 hss, sR_35_4 hss, sR_35_5 hss, sR_35_6 hss, sR_35_7 hss, sR_35_11 hss, sR_35_21 hss, sR_35_22 hss, sR_35_23 hss, sR_35_24 hss, sR_35_25 hss, sR_35_26 hss, sR_35_27 hss, sR_35_28 hss, sR_35_29 hss, sR_35_30 hss, sR_35_31 hss, sR_35_32 hss, sR_35_35 hss, sR_35_37 hss, sR_35_38 hss, sR_35_39 hss, sR_35_40 hss, sR_35_41 hss, sR_35_42 hss, sR_35_46 hss, sR_35_50 hss, sR_35_52 hss, hns, p2_shl h8, hlt, e, rD_of (d_ones (show i < 256 by omega) _), hone, hp, not_true, rD_tb1, rD_of g1, hib, hcl, nI_1]
    · right
      have : i = 2 ^ n := by omega
      subst this
      refine ⟨_, _, ?_, M, hO, hT, w, rfl⟩
      simp only [lpStep, ↓rE_eK, ↓rE_eLi, ↓rE_eLj, ↓rE_eLa, ↓rE_eU, ↓rE_eB, ↓rE_eG, ↓rE_eIF, ↓rE_eAI, ↓rE_eAX, ↓rE_eAJ, ↓rE_eAR, ↓rE_eLen, ↓rE_eSI, ↓rE_eC, ↓rE_eCall, ↓rE_eNew, ↓rE_eNewA, ↓rE_eInst, ↓rC_cI, ↓rC_cZ0, ↓rC_cN, ↓rC_cNot, ↓rC_cAnd, ↓rC_cOr, ↓rA_aN, ↓rA_aC, ↓rS_sP, ↓rS_sUF, ↓rS_sAI, ↓rS_sAJ, ↓rS_sAR, ↓rS_sUA, ↓rS_sCall, ↓rS_sObj, ↓rS_sSi, ↓rS_sSa, ↓rS_sSj, ↓rS_sInc, ↓rS_sSkip, ↓rS_sSeq, ↓rS_sIf, ↓rS_sRetI, ↓rS_sRetJ, ↓rS_sRetA, ↓rS_sRetV, ↓rS_sSw, ↓rD_meth, ↓rD_on, ↓kR_ref, ↓kI_int, ↓kJ_long, ↓kN_null, ↓kN_ref, ↓kN_rf, ↓kQ_ref, ↓kQ_null, ↓kQ_rf, o1_i, o1ij_i, o1ji_i, o2_i, o2d_i, o2j_i, o2ji_i, o2c_i, fv_0, fv_1, fv_2, fv_3, pf_0, pf_2, pf_3, pf_4, rf_s, rf_n, is_self, ge_0, ge_s, ge_n, gd_s, gd_n, se_0, se_s, ag_0, ex_n, ex_i, ex_r, ex_0, ex_j, ex_q, ap_c, ap_n, List.append_nil, ln_c, ln_n, rp_0, rp_s, rt_0, rt_1, rt_20, rt_21, rt_2, rt_3, rt_4, rt_4n, rt_4q, nl_0, nl_1, nl_2, nl_3, nl_4, nl_5, nl_6, nl_7, nl_8, nl_9, nlB_i, nlB_r, nlB_n, nlB_f, nlB_q, ↓reduceIte, reduceCtorEq, Nat.reduceAdd, Nat.reduceSub, Nat.reduceEqDiff, Nat.reduceLeDiff, Nat.reduceBEq, ite_true, ite_false, dt_t, Bool.not_true, Bool.not_false, Bool.false_eq_true, Nat.le_refl, true_and, and_true, true_or, or_true, false_or, or_false, false_and, and_false, qEq, qNe, qLt, qGe, qGt, qLe, sT_35 hss, sT_36 hss, sT_37 hss, sT_38 hss, sT_39 hss, sT_40 hss, sT_41 hss, sT_42 hss, sT_43 hss, sT_44 hss, sT_45 hss, sT_46 hss, sT_47 hss, sT_48 hss, sT_49 hss, sT_50 hss, sT_51 hss, sT_52 hss, sT_53 hss, sT_54 hss, sT_55 hss, sT_56 hss, sT_57 hss, sT_58 hss, sT_59 hss, sT_60 hss, sT_61 hss, sT_62 hss, sT_63 hss, sT_64 hss, sT_65 hss, sL_36 hss, sL_37 hss, sL_38 hss, sL_39 hss, sL_40 hss, sL_41 hss, sL_42 hss, sL_43 hss, sL_44 hss, sL_45 hss, sL_46 hss, sL_47 hss, sL_48 hss, sL_49 hss, sL_50 hss, sL_51 hss, sL_52 hss, sL_53 hss, sL_54 hss, sL_55 hss, sL_56 hss, sL_57 hss, sL_58 hss, sL_59 hss, sL_60 hss, sL_61 hss, sL_62 hss, sL_63 hss, sL_64 hss, sL_65 hss, sR_35_1 hss, sR_35_2 hss, sR_35_3 hss, sR_35_4 hss, sR_35_5 hss, sR_35_6 hss, sR_35_7 hss, sR_35_11 hss, sR_35_21 hss, sR_35_22 hss, sR_35_23 hss, sR_35_24 hss, sR_35_25 hss, sR_35_26 hss, sR_35_27 hss, sR_35_28 hss, sR_35_29 hss, sR_35_30 hss, sR_35_31 hss, sR_35_32 hss, sR_35_35 hss, sR_35_37 hss, sR_35_38 hss, sR_35_39 hss, sR_35_40 hss, sR_35_41 hss, sR_35_42 hss, sR_35_46 hss, sR_35_50 hss, sR_35_52 hss, hns, p2_shl h8, hlt, Nat.lt_irrefl]
  obtain ⟨r, s, l1, M, hO, hT, w, rfl⟩ := hl
  refine ⟨s, M, ?_, OD_tr (OD_O1 f2 (by omega)) (OD_O1 hO (by omega)), fun W hW => by rw [hO.2 49 (by decide)]; exact f3 W hW, fun A hA => (hT A hA).1, Ch_of (fun A hA => (hT A (sub_ones.mp hA)).2)⟩
  refine rD_un.trans ?_
  simp only [D_X12_findLeast, B_X12_findLeast, ↓rE_eK, ↓rE_eLi, ↓rE_eLj, ↓rE_eLa, ↓rE_eU, ↓rE_eB, ↓rE_eG, ↓rE_eIF, ↓rE_eAI, ↓rE_eAX, ↓rE_eAJ, ↓rE_eAR, ↓rE_eLen, ↓rE_eSI, ↓rE_eC, ↓rE_eCall, ↓rE_eNew, ↓rE_eNewA, ↓rE_eInst, ↓rC_cI, ↓rC_cZ0, ↓rC_cN, ↓rC_cNot, ↓rC_cAnd, ↓rC_cOr, ↓rA_aN, ↓rA_aC, ↓rS_sP, ↓rS_sUF, ↓rS_sAI, ↓rS_sAJ, ↓rS_sAR, ↓rS_sUA, ↓rS_sCall, ↓rS_sObj, ↓rS_sSi, ↓rS_sSa, ↓rS_sSj, ↓rS_sInc, ↓rS_sSkip, ↓rS_sSeq, ↓rS_sIf, ↓rS_sRetI, ↓rS_sRetJ, ↓rS_sRetA, ↓rS_sRetV, ↓rS_sSw, ↓rD_meth, ↓rD_on, ↓kR_ref, ↓kI_int, ↓kJ_long, ↓kN_null, ↓kN_ref, ↓kN_rf, ↓kQ_ref, ↓kQ_null, ↓kQ_rf, o1_i, o1ij_i, o1ji_i, o2_i, o2d_i, o2j_i, o2ji_i, o2c_i, fv_0, fv_1, fv_2, fv_3, pf_0, pf_2, pf_3, pf_4, rf_s, rf_n, is_self, ge_0, ge_s, ge_n, gd_s, gd_n, se_0, se_s, ag_0, ex_n, ex_i, ex_r, ex_0, ex_j, ex_q, ap_c, ap_n, List.append_nil, ln_c, ln_n, rp_0, rp_s, rt_0, rt_1, rt_20, rt_21, rt_2, rt_3, rt_4, rt_4n, rt_4q, nl_0, nl_1, nl_2, nl_3, nl_4, nl_5, nl_6, nl_7, nl_8, nl_9, nlB_i, nlB_r, nlB_n, nlB_f, nlB_q, ↓reduceIte, reduceCtorEq, Nat.reduceAdd, Nat.reduceSub, Nat.reduceEqDiff, Nat.reduceLeDiff, Nat.reduceBEq, ite_true, ite_false, dt_t, Bool.not_true, Bool.not_false, Bool.false_eq_true, Nat.le_refl, true_and, and_true, true_or, or_true, false_or, or_false, false_and, and_false, qEq, qNe, qLt, qGe, qGt, qLe, rD_tb1 (sT_35 hS), rD_of f1, rS_inl l1]
theorem baR_m1 : baR (-1) = bs0 := by
  funext A
  unfold baR bs0
  rw [if_pos (Or.inl (by decide))]
theorem baR_p {p A : Nat} (hp : p < 8) (hA : A < 256) : baR (nI p) A = bsP p A := by
  unfold baR bsP
  have h1 : ¬ nI p < 0 := nI_nn (by omega)
  rw [nI_shl hp]
  have h2 : (2 : Nat) ^ p < 256 := by
    have := Nat.pow_lt_pow_right (show 1 < 2 by decide) (show p < 8 by omega)
    omega
  have e : (nI A = nI (2 ^ p)) = (A = 2 ^ p) := nI_inj (by omega) (by omega)
  by_cases c : A = 2 ^ p
  · rw [if_pos (Or.inr (by rw [e]; exact c)), if_pos c]
  · rw [if_neg (fun q => q.elim h1 (fun q => c (by rw [e] at q; exact q))), if_neg c]
