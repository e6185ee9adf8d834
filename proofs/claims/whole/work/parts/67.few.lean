/-! The reference's least: lengths, costs, fewest. -/
theorem land_2 (x r : Nat) : x &&& r = 2 * (x / 2 &&& r / 2) + (x % 2) * (r % 2) := by
  have h1 : (x &&& r) / 2 = x / 2 &&& r / 2 := Nat.and_div_two
  have h2 : (x &&& r) % 2 = (x % 2) * (r % 2) := by
    have e := Nat.testBit_and x r 0
    rw [Nat.testBit_zero, Nat.testBit_zero, Nat.testBit_zero] at e
    have a : x % 2 = 0 ∨ x % 2 = 1 := by omega
    have b : r % 2 = 0 ∨ r % 2 = 1 := by omega
    have c : (x &&& r) % 2 = 0 ∨ (x &&& r) % 2 = 1 := by omega
    rcases a with a | a <;> rcases b with b | b <;> rcases c with c | c <;> simp [a, b, c] at e ⊢
  omega
theorem sub_and {x r : Nat} : sub x r ↔ x &&& r = x := by
  constructor
  · intro h
    apply Nat.eq_of_testBit_eq
    intro i
    rw [Nat.testBit_and]
    cases q : x.testBit i with
    | false => rfl
    | true => rw [h i q]; rfl
  · intro h i hi
    rw [← h, Nat.testBit_and, Bool.and_eq_true] at hi
    exact hi.2
theorem sm_le : ∀ (w x r : Nat), x &&& r = x → w &&& r = w → x < w → x ≤ (w - 1) &&& r := by
  intro w
  induction w using Nat.strongRecOn with
  | _ w ih =>
    intro x r hx hw hlt
    have e1 := land_2 x r
    have e2 := land_2 w r
    have e3 := land_2 (w - 1) r
    rw [hx] at e1
    rw [hw] at e2
    have hxh : x / 2 &&& r / 2 = x / 2 := by rw [← Nat.and_div_two, hx]
    have hwh : w / 2 &&& r / 2 = w / 2 := by rw [← Nat.and_div_two, hw]
    rw [hxh] at e1
    rw [hwh] at e2
    have hr : r % 2 = 0 ∨ r % 2 = 1 := by omega
    have hb : w % 2 = 0 ∨ w % 2 = 1 := by omega
    have ha : x % 2 = 0 ∨ x % 2 = 1 := by omega
    rcases hb with hb | hb
    · -- w even
      have h1 : (w - 1) / 2 = w / 2 - 1 := by omega
      have h2 : (w - 1) % 2 = 1 := by omega
      rw [h1, h2] at e3
      have h3 := ih (w / 2) (by omega) (x / 2) (r / 2) hxh hwh (by omega)
      rcases hr with hr | hr <;> rcases ha with ha | ha <;> rw [hr] at e3 e1 <;> rw [ha] at e1 <;> omega
    · have h1 : (w - 1) / 2 = w / 2 := by omega
      have h2 : (w - 1) % 2 = 0 := by omega
      rw [h1, h2, hwh] at e3
      omega
/-- the next part of r below w -/
theorem sm_next {w r : Nat} (hr : r < 256) (hw : sub w r) (h0 : 0 < w) : (nI w - 1) &&& nI r = nI ((w - 1) &&& r) ∧ (w - 1) &&& r < w ∧ sub ((w - 1) &&& r) r ∧ ∀ x, sub x r → x < w → x ≤ (w - 1) &&& r := by
  refine ⟨?_, ?_, fun i hi => ?_, fun x hx hlt => sm_le w x r (sub_and.mp hx) (sub_and.mp hw) hlt⟩
  · rw [show (1 : Int32) = nI 1 from rfl, nI_sb (by omega), nI_and]
  · have : (w - 1) &&& r ≤ w - 1 := Nat.and_le_left
    omega
  · rw [Nat.testBit_and, Bool.and_eq_true] at hi; exact hi.2
/-- the length of a song; 0: there is none such -/
def lnR (vd : Nat → Int32) (n W : Nat) : Nat := if W = 0 ∨ 3 < pc W ∨ (df vd W n = true ∧ 1 < pc W) then 0 else mx vd W n
theorem lnR_le {vd : Nat → Int32} {n : Nat} (h : mOk vd n) (W : Nat) : lnR vd n W ≤ 200 := by
  unfold lnR
  split
  · omega
  · exact mx_m h W n (Nat.le_refl _)
def lnI (l : Nat) : Int32 := if l = 0 then -1 else nI l
theorem lnR_I {vd : Nat → Int32} {n W : Nat} (h : mOk vd n) (hW : W < 2 ^ n) : (if W = 0 ∨ 3 < pc W ∨ (df vd W n = true ∧ 1 < pc W) then -1 else nI (mx vd W n)) = lnI (lnR vd n W) := by
  unfold lnI lnR
  by_cases c : W = 0 ∨ 3 < pc W ∨ (df vd W n = true ∧ 1 < pc W)
  · rw [if_pos c, if_pos c, if_pos rfl]
  · rw [if_neg c, if_neg c]
    have := mxp_m h (show 0 < W by omega) hW
    rw [if_neg (by omega)]
/-- who sings: not sl, and with a voice that is enough -/
def sgR (vd : Nat → Int32) (n : Nat) (sl : Int32) (s W : Nat) : Bool := decide (nI s ≠ sl) && decide (nI (lnR vd n W) ≤ vd (20 + s))
/-- one cell of ints is written at most -/
def O1 (c : Nat) (σ s : pm_H) : Prop := Pl σ s ∧ ∀ a, a ≠ c → pI s a = pI σ a
theorem O1_rfl {c : Nat} {σ : pm_H} : O1 c σ σ := ⟨⟨rfl, rfl, rfl, rfl, rfl, rfl⟩, fun _ _ => rfl⟩
theorem O1_uI {c k : Nat} {σ s : pm_H} {x : Int32} (h : O1 c σ s) : O1 c σ (uI s c k x) := ⟨h.1, fun a ha => by rw [pI_uI_ne _ _ _ ha]; exact h.2 a ha⟩
theorem O1_Fr {c : Nat} {σ s : pm_H} (h : O1 c σ s) (hc : 44 ≤ c ∧ c ≤ 55) : Fr σ s := ⟨h.1.1, h.1.2.1, h.1.2.2.1, h.1.2.2.2.1, h.1.2.2.2.2.1, fun a _ => by rw [h.1.2.2.2.2.2], fun a k q => by
  rw [h.2 a (fun e => q (by unfold scr; omega))]⟩
theorem p2_shl {n : Nat} (h : n ≤ 8) : (1 : Int32) <<< (nI n &&& 31) = nI (2 ^ n) := by
  have : ∀ n : Fin 9, (1 : Int32) <<< (nI n.val &&& 31) = nI (2 ^ n.val) := by decide +kernel
  exact this ⟨n, by omega⟩
theorem d_findLengths {σ : pm_H} (hS : Sh σ) {n : Nat} (hn : pI σ 35 0 = nI n) (hm : mOk (cur σ) n) : ∃ s, D_X12_findLengths [.ref 35] σ = some (none, s) ∧ O1 49 σ s ∧ ∀ W, W < 2 ^ n → pI s 49 W = lnI (lnR (cur σ) n W) := by
  have h8 := hm.1.1
  have h2 := p2n h8
  have hl : ∃ r s, sLoop (cI qLt (eLi 1) (eB f_ishl (eK (.int 1)) (eG (is 12) 0 0 (eLa 0)))) (sSeq (sAI (eG (is 12) 3 26 (eLa 0)) (eLi 1) (eCall (pm_disp (tb1 12 D_X12_lengthOf)) (aC (eLa 0) (aC (eLi 1) (aN))))) (sInc 1 1)) [.ref 35, .int 0] σ = some (r, s) ∧ (O1 49 σ s ∧ (∀ W, W < 2 ^ n → pI s 49 W = lnI (lnR (cur σ) n W)) ∧ r = .inl [.ref 35, .int (nI (2 ^ n))]) := by
    refine loop_gen (fun i env s => O1 49 σ s ∧ (∀ W, W < i → pI s 49 W = lnI (lnR (cur σ) n W)) ∧ env = [.ref 35, .int (nI i)]) _ (2 ^ n) (by omega) ⟨O1_rfl, fun W hW => by omega, by rw [nI_0]⟩ ?_
    rintro i env s hi ⟨hO, hT, rfl⟩
    have hF := O1_Fr hO (by omega)
    have hss := Fr_Sh hF hS
    have hcu := Fr_cur hF
    have hns : pI s 35 0 = nI n := by rw [hO.2 35 (by decide)]; exact hn
    have hlt : (nI i < nI (2 ^ n)) = (i < 2 ^ n) := nI_lt' (by omega) (by omega)
    by_cases e : i < 2 ^ n
    · left
      have hlen := d_lengthOf hss hns (by rw [hcu]; exact hm) (show i < 256 by omega)
      rw [hcu, lnR_I hm e] at hlen
      have hib := ib_nI (show i < 256 by omega) (by decide)
      have hcl := nI_cl (show i < 2147483648 by omega)
      refine ⟨[.ref 35, .int (nI (i + 1))], uI s 49 i (lnI (lnR (cur σ) n i)), ?_, e, O1_uI hO, fun W hW => ?_, rfl⟩
      · simp only [lpStep, ↓rE_eK, ↓rE_eLi, ↓rE_eLj, ↓rE_eLa, ↓rE_eU, ↓rE_eB, ↓rE_eG, ↓rE_eIF, ↓rE_eAI, ↓rE_eAX, ↓rE_eAJ, ↓rE_eAR, ↓rE_eLen, ↓rE_eSI, ↓rE_eC, ↓rE_eCall, ↓rE_eNew, ↓rE_eNewA, ↓rE_eInst, ↓rC_cI, ↓rC_cZ0, ↓rC_cN, ↓rC_cNot, ↓rC_cAnd, ↓rC_cOr, ↓rA_aN, ↓rA_aC, ↓rS_sP, ↓rS_sUF, ↓rS_sAI, ↓rS_sAJ, ↓rS_sAR, ↓rS_sUA, ↓rS_sCall, ↓rS_sObj, ↓rS_sSi, ↓rS_sSa, ↓rS_sSj, ↓rS_sInc, ↓rS_sSkip, ↓rS_sSeq, ↓rS_sIf, ↓rS_sRetI, ↓rS_sRetJ, ↓rS_sRetA, ↓rS_sRetV, ↓rS_sSw, ↓rD_meth, ↓rD_on, ↓kR_ref, ↓kI_int, ↓kJ_long, ↓kN_null, ↓kN_ref, ↓kN_rf, ↓kQ_ref, ↓kQ_null, ↓kQ_rf, o1_i, o1ij_i, o1ji_i, o2_i, o2d_i, o2j_i, o2ji_i, o2c_i, fv_0, fv_1, fv_2, fv_3, pf_0, pf_2, pf_3, pf_4, rf_s, rf_n, is_self, ge_0, ge_s, ge_n, gd_s, gd_n, se_0, se_s, ag_0, ex_n, ex_i, ex_r, ex_0, ex_j, ex_q, ap_c, ap_n, List.append_nil, ln_c, ln_n, rp_0, rp_s, rt_0, rt_1, rt_20, rt_21, rt_2, rt_3, rt_4, rt_4n, rt_4q, nl_0, nl_1, nl_2, nl_3, nl_4, nl_5, nl_6, nl_7, nl_8, nl_9, nlB_i, nlB_r, nlB_n, nlB_f, nlB_q, ↓reduceIte, reduceCtorEq, Nat.reduceAdd, Nat.reduceSub, Nat.reduceEqDiff, Nat.reduceLeDiff, Nat.reduceBEq, ite_true, ite_false, dt_t, Bool.not_true, Bool.not_false, Bool.false_eq_true, Nat.le_refl, true_and, and_true, true_or, or_true, false_or, or_false, false_and, and_false, qEq, qNe, qLt, qGe, qGt, qLe, sT_35 hss, sT_36 hss, sT_37 hss, sT_38 hss, sT_39 hss, sT_40 hss, sT_41 hss, sT_42 hss, sT_43 hss, sT_44 hss, sT_45 hss, sT_46 hss, sT_47 hss, sT_48 hss, sT_49 hss, sT_50 hss, sT_51 hss, sT_52 hss, sT_53 hss, sT_54 hss, sT_55 hss, sT_56 hss, sT_57 hss, sT_58 hss, sT_59 hss, sT_60 hss, sT_61 hss, sT_62 hss, sT_63 hss, sT_64 hss, sT_65 hss, sL_36 hss, sL_37 hss, sL_38 hss, sL_39 hss, sL_40 hss, sL_41 hss, sL_42 hss, sL_43 hss, sL_44 hss, sL_45 hss, sL_46 hss, sL_47 hss, sL_48 hss, sL_49 hss, sL_50 hss, sL_51 hss, sL_52 hss, sL_53 hss, sL_54 hss, sL_55 hss, sL_56 hss, sL_57 hss, sL_58 hss, sL_59 hss, sL_60 hss, sL_61 hss, sL_62 hss, sL_63 hss, sL_64 hss, sL_65 hss, sR_35_1 hss, sR_35_2 hss, sR_35_3 hss, sR_35_4 hss, sR_35_5 hss, sR_35_6 hss, sR_35_7 hss, sR_35_11 hss, sR_35_21 hss, sR_35_22 hss, sR_35_23 hss, sR_35_24 hss, sR_35_25 hss, sR_35_26 hss, sR_35_27 hss, sR_35_28 hss, sR_35_29 hss, sR_35_30 hss, sR_35_31 hss, sR_35_32 hss, sR_35_35 hss, sR_35_37 hss, sR_35_38 hss, sR_35_39 hss, sR_35_40 hss, sR_35_41 hss, sR_35_42 hss, sR_35_46 hss, sR_35_50 hss, sR_35_52 hss, hns, p2_shl h8, hlt, e, rD_tb1, rD_of hlen, hib, hcl, nI_1]
      · rw [pI_uI]
        by_cases c : W = i
        · rw [if_pos ⟨rfl, c⟩, c]
        · rw [if_neg (fun q => c q.2)]; exact hT W (by omega)
    · right
      have : i = 2 ^ n := by omega
      subst this
      refine ⟨_, _, ?_, hO, hT, rfl⟩
      simp only [lpStep, ↓rE_eK, ↓rE_eLi, ↓rE_eLj, ↓rE_eLa, ↓rE_eU, ↓rE_eB, ↓rE_eG, ↓rE_eIF, ↓rE_eAI, ↓rE_eAX, ↓rE_eAJ, ↓rE_eAR, ↓rE_eLen, ↓rE_eSI, ↓rE_eC, ↓rE_eCall, ↓rE_eNew, ↓rE_eNewA, ↓rE_eInst, ↓rC_cI, ↓rC_cZ0, ↓rC_cN, ↓rC_cNot, ↓rC_cAnd, ↓rC_cOr, ↓rA_aN, ↓rA_aC, ↓rS_sP, ↓rS_sUF, ↓rS_sAI, ↓rS_sAJ, ↓rS_sAR, ↓rS_sUA, ↓rS_sCall, ↓rS_sObj, ↓rS_sSi, ↓rS_sSa, ↓rS_sSj, ↓rS_sInc, ↓rS_sSkip, ↓rS_sSeq, ↓rS_sIf, ↓rS_sRetI, ↓rS_sRetJ, ↓rS_sRetA, ↓rS_sRetV, ↓rS_sSw, ↓rD_meth, ↓rD_on, ↓kR_ref, ↓kI_int, ↓kJ_long, ↓kN_null, ↓kN_ref, ↓kN_rf, ↓kQ_ref, ↓kQ_null, ↓kQ_rf, o1_i, o1ij_i, o1ji_i, o2_i, o2d_i, o2j_i, o2ji_i, o2c_i, fv_0, fv_1, fv_2, fv_3, pf_0, pf_2, pf_3, pf_4, rf_s, rf_n, is_self, ge_0, ge_s, ge_n, gd_s, gd_n, se_0, se_s, ag_0, ex_n, ex_i, ex_r, ex_0, ex_j, ex_q, ap_c, ap_n, List.append_nil, ln_c, ln_n, rp_0, rp_s, rt_0, rt_1, rt_20, rt_21, rt_2, rt_3, rt_4, rt_4n, rt_4q, nl_0, nl_1, nl_2, nl_3, nl_4, nl_5, nl_6, nl_7, nl_8, nl_9, nlB_i, nlB_r, nlB_n, nlB_f, nlB_q, ↓reduceIte, reduceCtorEq, Nat.reduceAdd, Nat.reduceSub, Nat.reduceEqDiff, Nat.reduceLeDiff, Nat.reduceBEq, ite_true, ite_false, dt_t, Bool.not_true, Bool.not_false, Bool.false_eq_true, Nat.le_refl, true_and, and_true, true_or, or_true, false_or, or_false, false_and, and_false, qEq, qNe, qLt, qGe, qGt, qLe, sT_35 hss, sT_36 hss, sT_37 hss, sT_38 hss, sT_39 hss, sT_40 hss, sT_41 hss, sT_42 hss, sT_43 hss, sT_44 hss, sT_45 hss, sT_46 hss, sT_47 hss, sT_48 hss, sT_49 hss, sT_50 hss, sT_51 hss, sT_52 hss, sT_53 hss, sT_54 hss, sT_55 hss, sT_56 hss, sT_57 hss, sT_58 hss, sT_59 hss, sT_60 hss, sT_61 hss, sT_62 hss, sT_63 hss, sT_64 hss, sT_65 hss, sL_36 hss, sL_37 hss, sL_38 hss, sL_39 hss, sL_40 hss, sL_41 hss, sL_42 hss, sL_43 hss, sL_44 hss, sL_45 hss, sL_46 hss, sL_47 hss, sL_48 hss, sL_49 hss, sL_50 hss, sL_51 hss, sL_52 hss, sL_53 hss, sL_54 hss, sL_55 hss, sL_56 hss, sL_57 hss, sL_58 hss, sL_59 hss, sL_60 hss, sL_61 hss, sL_62 hss, sL_63 hss, sL_64 hss, sL_65 hss, sR_35_1 hss, sR_35_2 hss, sR_35_3 hss, sR_35_4 hss, sR_35_5 hss, sR_35_6 hss, sR_35_7 hss, sR_35_11 hss, sR_35_21 hss, sR_35_22 hss, sR_35_23 hss, sR_35_24 hss, sR_35_25 hss, sR_35_26 hss, sR_35_27 hss, sR_35_28 hss, sR_35_29 hss, sR_35_30 hss, sR_35_31 hss, sR_35_32 hss, sR_35_35 hss, sR_35_37 hss, sR_35_38 hss, sR_35_39 hss, sR_35_40 hss, sR_35_41 hss, sR_35_42 hss, sR_35_46 hss, sR_35_50 hss, sR_35_52 hss, hns, p2_shl h8, hlt, Nat.lt_irrefl]
  obtain ⟨r, s, l1, q1, q2, rfl⟩ := hl
  refine ⟨s, ?_, q1, q2⟩
  refine rD_un.trans ?_
  simp only [D_X12_findLengths, B_X12_findLengths, ↓rE_eK, ↓rE_eLi, ↓rE_eLj, ↓rE_eLa, ↓rE_eU, ↓rE_eB, ↓rE_eG, ↓rE_eIF, ↓rE_eAI, ↓rE_eAX, ↓rE_eAJ, ↓rE_eAR, ↓rE_eLen, ↓rE_eSI, ↓rE_eC, ↓rE_eCall, ↓rE_eNew, ↓rE_eNewA, ↓rE_eInst, ↓rC_cI, ↓rC_cZ0, ↓rC_cN, ↓rC_cNot, ↓rC_cAnd, ↓rC_cOr, ↓rA_aN, ↓rA_aC, ↓rS_sP, ↓rS_sUF, ↓rS_sAI, ↓rS_sAJ, ↓rS_sAR, ↓rS_sUA, ↓rS_sCall, ↓rS_sObj, ↓rS_sSi, ↓rS_sSa, ↓rS_sSj, ↓rS_sInc, ↓rS_sSkip, ↓rS_sSeq, ↓rS_sIf, ↓rS_sRetI, ↓rS_sRetJ, ↓rS_sRetA, ↓rS_sRetV, ↓rS_sSw, ↓rD_meth, ↓rD_on, ↓kR_ref, ↓kI_int, ↓kJ_long, ↓kN_null, ↓kN_ref, ↓kN_rf, ↓kQ_ref, ↓kQ_null, ↓kQ_rf, o1_i, o1ij_i, o1ji_i, o2_i, o2d_i, o2j_i, o2ji_i, o2c_i, fv_0, fv_1, fv_2, fv_3, pf_0, pf_2, pf_3, pf_4, rf_s, rf_n, is_self, ge_0, ge_s, ge_n, gd_s, gd_n, se_0, se_s, ag_0, ex_n, ex_i, ex_r, ex_0, ex_j, ex_q, ap_c, ap_n, List.append_nil, ln_c, ln_n, rp_0, rp_s, rt_0, rt_1, rt_20, rt_21, rt_2, rt_3, rt_4, rt_4n, rt_4q, nl_0, nl_1, nl_2, nl_3, nl_4, nl_5, nl_6, nl_7, nl_8, nl_9, nlB_i, nlB_r, nlB_n, nlB_f, nlB_q, ↓reduceIte, reduceCtorEq, Nat.reduceAdd, Nat.reduceSub, Nat.reduceEqDiff, Nat.reduceLeDiff, Nat.reduceBEq, ite_true, ite_false, dt_t, Bool.not_true, Bool.not_false, Bool.false_eq_true, Nat.le_refl, true_and, and_true, true_or, or_true, false_or, or_false, false_and, and_false, qEq, qNe, qLt, qGe, qGt, qLe, rS_inl l1]
theorem lnI_pos {l : Nat} (h : l ≤ 200) : (0 < lnI l) = (0 < l) := by
  unfold lnI
  by_cases e : l = 0
  · rw [if_pos e, e]; exact propext ⟨fun q => absurd q (by decide), fun q => absurd q (by decide)⟩
  · rw [if_neg e]
    have := nI_lt' (a := 0) (b := l) (by decide) (by omega)
    rw [nI_0] at this
    exact this
theorem lnI_nI {l : Nat} (h : 0 < l) : lnI l = nI l := by unfold lnI; rw [if_neg (by omega)]
theorem d_costOf {σ : pm_H} (hS : Sh σ) {s W l : Nat} (s8 : s < 8) (hW : W < 256) (hl : l ≤ 200) (h49 : pI σ 49 W = lnI l) : D_X12_costOf [.ref 35, .int (nI s), .int (nI W)] σ = some (some (.int (if 0 < l ∧ nI l ≤ cur σ (20 + s) then nI l else -1)), σ) := by
  have hib := ib_nI hW (by decide)
  have hcl := nI_cl (show W < 2147483648 by omega)
  have hib2 := ib_nI s8 (show (8 : Nat) ≤ 1000000 by decide)
  have hcl2 := nI_cl (show s < 2147483648 by omega)
  have hv := cuv (σ := σ) s8
  have hp := lnI_pos hl
  refine rD_un.trans ?_
  by_cases c1 : 0 < l
  · have e := lnI_nI c1
    rw [e] at hp h49
    have hp' : 0 < nI l := by rw [hp]; exact c1
    by_cases c2 : nI l ≤ cur σ (20 + s)
    · rw [if_pos ⟨c1, c2⟩]
      rw [hv] at c2
      simp only [D_X12_costOf, B_X12_costOf, ↓rE_eK, ↓rE_eLi, ↓rE_eLj, ↓rE_eLa, ↓rE_eU, ↓rE_eB, ↓rE_eG, ↓rE_eIF, ↓rE_eAI, ↓rE_eAX, ↓rE_eAJ, ↓rE_eAR, ↓rE_eLen, ↓rE_eSI, ↓rE_eC, ↓rE_eCall, ↓rE_eNew, ↓rE_eNewA, ↓rE_eInst, ↓rC_cI, ↓rC_cZ0, ↓rC_cN, ↓rC_cNot, ↓rC_cAnd, ↓rC_cOr, ↓rA_aN, ↓rA_aC, ↓rS_sP, ↓rS_sUF, ↓rS_sAI, ↓rS_sAJ, ↓rS_sAR, ↓rS_sUA, ↓rS_sCall, ↓rS_sObj, ↓rS_sSi, ↓rS_sSa, ↓rS_sSj, ↓rS_sInc, ↓rS_sSkip, ↓rS_sSeq, ↓rS_sIf, ↓rS_sRetI, ↓rS_sRetJ, ↓rS_sRetA, ↓rS_sRetV, ↓rS_sSw, ↓rD_meth, ↓rD_on, ↓kR_ref, ↓kI_int, ↓kJ_long, ↓kN_null, ↓kN_ref, ↓kN_rf, ↓kQ_ref, ↓kQ_null, ↓kQ_rf, o1_i, o1ij_i, o1ji_i, o2_i, o2d_i, o2j_i, o2ji_i, o2c_i, fv_0, fv_1, fv_2, fv_3, pf_0, pf_2, pf_3, pf_4, rf_s, rf_n, is_self, ge_0, ge_s, ge_n, gd_s, gd_n, se_0, se_s, ag_0, ex_n, ex_i, ex_r, ex_0, ex_j, ex_q, ap_c, ap_n, List.append_nil, ln_c, ln_n, rp_0, rp_s, rt_0, rt_1, rt_20, rt_21, rt_2, rt_3, rt_4, rt_4n, rt_4q, nl_0, nl_1, nl_2, nl_3, nl_4, nl_5, nl_6, nl_7, nl_8, nl_9, nlB_i, nlB_r, nlB_n, nlB_f, nlB_q, ↓reduceIte, reduceCtorEq, Nat.reduceAdd, Nat.reduceSub, Nat.reduceEqDiff, Nat.reduceLeDiff, Nat.reduceBEq, ite_true, ite_false, dt_t, Bool.not_true, Bool.not_false, Bool.false_eq_true, Nat.le_refl, true_and, and_true, true_or, or_true, false_or, or_false, false_and, and_false, qEq, qNe, qLt, qGe, qGt, qLe, sT_35 hS, sT_36 hS, sT_37 hS, sT_38 hS, sT_39 hS, sT_40 hS, sT_41 hS, sT_42 hS, sT_43 hS, sT_44 hS, sT_45 hS, sT_46 hS, sT_47 hS, sT_48 hS, sT_49 hS, sT_50 hS, sT_51 hS, sT_52 hS, sT_53 hS, sT_54 hS, sT_55 hS, sT_56 hS, sT_57 hS, sT_58 hS, sT_59 hS, sT_60 hS, sT_61 hS, sT_62 hS, sT_63 hS, sT_64 hS, sT_65 hS, sL_36 hS, sL_37 hS, sL_38 hS, sL_39 hS, sL_40 hS, sL_41 hS, sL_42 hS, sL_43 hS, sL_44 hS, sL_45 hS, sL_46 hS, sL_47 hS, sL_48 hS, sL_49 hS, sL_50 hS, sL_51 hS, sL_52 hS, sL_53 hS, sL_54 hS, sL_55 hS, sL_56 hS, sL_57 hS, sL_58 hS, sL_59 hS, sL_60 hS, sL_61 hS, sL_62 hS, sL_63 hS, sL_64 hS, sL_65 hS, sR_35_1 hS, sR_35_2 hS, sR_35_3 hS, sR_35_4 hS, sR_35_5 hS, sR_35_6 hS, sR_35_7 hS, sR_35_11 hS, sR_35_21 hS, sR_35_22 hS, sR_35_23 hS, sR_35_24 hS, sR_35_25 hS, sR_35_26 hS, sR_35_27 hS, sR_35_28 hS, sR_35_29 hS, sR_35_30 hS, sR_35_31 hS, sR_35_32 hS, sR_35_35 hS, sR_35_37 hS, sR_35_38 hS, sR_35_39 hS, sR_35_40 hS, sR_35_41 hS, sR_35_42 hS, sR_35_46 hS, sR_35_50 hS, sR_35_52 hS, hib, hcl, h49, hp', hib2, hcl2, c2]
    · rw [if_neg (fun q => c2 q.2)]
      rw [hv] at c2
      simp only [D_X12_costOf, B_X12_costOf, ↓rE_eK, ↓rE_eLi, ↓rE_eLj, ↓rE_eLa, ↓rE_eU, ↓rE_eB, ↓rE_eG, ↓rE_eIF, ↓rE_eAI, ↓rE_eAX, ↓rE_eAJ, ↓rE_eAR, ↓rE_eLen, ↓rE_eSI, ↓rE_eC, ↓rE_eCall, ↓rE_eNew, ↓rE_eNewA, ↓rE_eInst, ↓rC_cI, ↓rC_cZ0, ↓rC_cN, ↓rC_cNot, ↓rC_cAnd, ↓rC_cOr, ↓rA_aN, ↓rA_aC, ↓rS_sP, ↓rS_sUF, ↓rS_sAI, ↓rS_sAJ, ↓rS_sAR, ↓rS_sUA, ↓rS_sCall, ↓rS_sObj, ↓rS_sSi, ↓rS_sSa, ↓rS_sSj, ↓rS_sInc, ↓rS_sSkip, ↓rS_sSeq, ↓rS_sIf, ↓rS_sRetI, ↓rS_sRetJ, ↓rS_sRetA, ↓rS_sRetV, ↓rS_sSw, ↓rD_meth, ↓rD_on, ↓kR_ref, ↓kI_int, ↓kJ_long, ↓kN_null, ↓kN_ref, ↓kN_rf, ↓kQ_ref, ↓kQ_null, ↓kQ_rf, o1_i, o1ij_i, o1ji_i, o2_i, o2d_i, o2j_i, o2ji_i, o2c_i, fv_0, fv_1, fv_2, fv_3, pf_0, pf_2, pf_3, pf_4, rf_s, rf_n, is_self, ge_0, ge_s, ge_n, gd_s, gd_n, se_0, se_s, ag_0, ex_n, ex_i, ex_r, ex_0, ex_j, ex_q, ap_c, ap_n, List.append_nil, ln_c, ln_n, rp_0, rp_s, rt_0, rt_1, rt_20, rt_21, rt_2, rt_3, rt_4, rt_4n, rt_4q, nl_0, nl_1, nl_2, nl_3, nl_4, nl_5, nl_6, nl_7, nl_8, nl_9, nlB_i, nlB_r, nlB_n, nlB_f, nlB_q, ↓reduceIte, reduceCtorEq, Nat.reduceAdd, Nat.reduceSub, Nat.reduceEqDiff, Nat.reduceLeDiff, Nat.reduceBEq, ite_true, ite_false, dt_t, Bool.not_true, Bool.not_false, Bool.false_eq_true, Nat.le_refl, true_and, and_true, true_or, or_true, false_or, or_false, false_and, and_false, qEq, qNe, qLt, qGe, qGt, qLe, sT_35 hS, sT_36 hS, sT_37 hS, sT_38 hS, sT_39 hS, sT_40 hS, sT_41 hS, sT_42 hS, sT_43 hS, sT_44 hS, sT_45 hS, sT_46 hS, sT_47 hS, sT_48 hS, sT_49 hS, sT_50 hS, sT_51 hS, sT_52 hS, sT_53 hS, sT_54 hS, sT_55 hS, sT_56 hS, sT_57 hS, sT_58 hS, sT_59 hS, sT_60 hS, sT_61 hS, sT_62 hS, sT_63 hS, sT_64 hS, sT_65 hS, sL_36 hS, sL_37 hS, sL_38 hS, sL_39 hS, sL_40 hS, sL_41 hS, sL_42 hS, sL_43 hS, sL_44 hS, sL_45 hS, sL_46 hS, sL_47 hS, sL_48 hS, sL_49 hS, sL_50 hS, sL_51 hS, sL_52 hS, sL_53 hS, sL_54 hS, sL_55 hS, sL_56 hS, sL_57 hS, sL_58 hS, sL_59 hS, sL_60 hS, sL_61 hS, sL_62 hS, sL_63 hS, sL_64 hS, sL_65 hS, sR_35_1 hS, sR_35_2 hS, sR_35_3 hS, sR_35_4 hS, sR_35_5 hS, sR_35_6 hS, sR_35_7 hS, sR_35_11 hS, sR_35_21 hS, sR_35_22 hS, sR_35_23 hS, sR_35_24 hS, sR_35_25 hS, sR_35_26 hS, sR_35_27 hS, sR_35_28 hS, sR_35_29 hS, sR_35_30 hS, sR_35_31 hS, sR_35_32 hS, sR_35_35 hS, sR_35_37 hS, sR_35_38 hS, sR_35_39 hS, sR_35_40 hS, sR_35_41 hS, sR_35_42 hS, sR_35_46 hS, sR_35_50 hS, sR_35_52 hS, hib, hcl, h49, hp', hib2, hcl2, c2]
  · rw [if_neg (fun q => c1 q.1)]
    have hp' : ¬ 0 < lnI l := by rw [hp]; exact c1
    simp only [D_X12_costOf, B_X12_costOf, ↓rE_eK, ↓rE_eLi, ↓rE_eLj, ↓rE_eLa, ↓rE_eU, ↓rE_eB, ↓rE_eG, ↓rE_eIF, ↓rE_eAI, ↓rE_eAX, ↓rE_eAJ, ↓rE_eAR, ↓rE_eLen, ↓rE_eSI, ↓rE_eC, ↓rE_eCall, ↓rE_eNew, ↓rE_eNewA, ↓rE_eInst, ↓rC_cI, ↓rC_cZ0, ↓rC_cN, ↓rC_cNot, ↓rC_cAnd, ↓rC_cOr, ↓rA_aN, ↓rA_aC, ↓rS_sP, ↓rS_sUF, ↓rS_sAI, ↓rS_sAJ, ↓rS_sAR, ↓rS_sUA, ↓rS_sCall, ↓rS_sObj, ↓rS_sSi, ↓rS_sSa, ↓rS_sSj, ↓rS_sInc, ↓rS_sSkip, ↓rS_sSeq, ↓rS_sIf, ↓rS_sRetI, ↓rS_sRetJ, ↓rS_sRetA, ↓rS_sRetV, ↓rS_sSw, ↓rD_meth, ↓rD_on, ↓kR_ref, ↓kI_int, ↓kJ_long, ↓kN_null, ↓kN_ref, ↓kN_rf, ↓kQ_ref, ↓kQ_null, ↓kQ_rf, o1_i, o1ij_i, o1ji_i, o2_i, o2d_i, o2j_i, o2ji_i, o2c_i, fv_0, fv_1, fv_2, fv_3, pf_0, pf_2, pf_3, pf_4, rf_s, rf_n, is_self, ge_0, ge_s, ge_n, gd_s, gd_n, se_0, se_s, ag_0, ex_n, ex_i, ex_r, ex_0, ex_j, ex_q, ap_c, ap_n, List.append_nil, ln_c, ln_n, rp_0, rp_s, rt_0, rt_1, rt_20, rt_21, rt_2, rt_3, rt_4, rt_4n, rt_4q, nl_0, nl_1, nl_2, nl_3, nl_4, nl_5, nl_6, nl_7, nl_8, nl_9, nlB_i, nlB_r, nlB_n, nlB_f, nlB_q, ↓reduceIte, reduceCtorEq, Nat.reduceAdd, Nat.reduceSub, Nat.reduceEqDiff, Nat.reduceLeDiff, Nat.reduceBEq, ite_true, ite_false, dt_t, Bool.not_true, Bool.not_false, Bool.false_eq_true, Nat.le_refl, true_and, and_true, true_or, or_true, false_or, or_false, false_and, and_false, qEq, qNe, qLt, qGe, qGt, qLe, sT_35 hS, sT_36 hS, sT_37 hS, sT_38 hS, sT_39 hS, sT_40 hS, sT_41 hS, sT_42 hS, sT_43 hS, sT_44 hS, sT_45 hS, sT_46 hS, sT_47 hS, sT_48 hS, sT_49 hS, sT_50 hS, sT_51 hS, sT_52 hS, sT_53 hS, sT_54 hS, sT_55 hS, sT_56 hS, sT_57 hS, sT_58 hS, sT_59 hS, sT_60 hS, sT_61 hS, sT_62 hS, sT_63 hS, sT_64 hS, sT_65 hS, sL_36 hS, sL_37 hS, sL_38 hS, sL_39 hS, sL_40 hS, sL_41 hS, sL_42 hS, sL_43 hS, sL_44 hS, sL_45 hS, sL_46 hS, sL_47 hS, sL_48 hS, sL_49 hS, sL_50 hS, sL_51 hS, sL_52 hS, sL_53 hS, sL_54 hS, sL_55 hS, sL_56 hS, sL_57 hS, sL_58 hS, sL_59 hS, sL_60 hS, sL_61 hS, sL_62 hS, sL_63 hS, sL_64 hS, sL_65 hS, sR_35_1 hS, sR_35_2 hS, sR_35_3 hS, sR_35_4 hS, sR_35_5 hS, sR_35_6 hS, sR_35_7 hS, sR_35_11 hS, sR_35_21 hS, sR_35_22 hS, sR_35_23 hS, sR_35_24 hS, sR_35_25 hS, sR_35_26 hS, sR_35_27 hS, sR_35_28 hS, sR_35_29 hS, sR_35_30 hS, sR_35_31 hS, sR_35_32 hS, sR_35_35 hS, sR_35_37 hS, sR_35_38 hS, sR_35_39 hS, sR_35_40 hS, sR_35_41 hS, sR_35_42 hS, sR_35_46 hS, sR_35_50 hS, sR_35_52 hS, hib, hcl, h49, hp']
/-- the least of what was seen -/
def Lo (ln : Nat → Nat) (sg : Nat → Nat → Bool) (T : Nat → Nat) (A : Nat) (seen : Nat → Nat → Prop) (L : Nat) : Prop := L ≤ 1000000 ∧ (∀ s W, seen s W → cdB ln sg A s W = true → L ≤ ln W + T (sd A W)) ∧ (L = 1000000 ∨ ∃ s W, cdB ln sg A s W = true ∧ L = ln W + T (sd A W))
theorem sd_lt256 {A W : Nat} (h : A < 256) : sd A W < 256 := by have := sub_le (sd_sub A W); omega
theorem sub_sd_pow {A W s : Nat} : sub W (sd A (2 ^ s)) ↔ sub W A ∧ ¬ W.testBit s = true := by
  constructor
  · intro h
    refine ⟨fun i hi => (sd_bit_t.mp (h i hi)).1, fun q => ?_⟩
    exact (sd_bit_t.mp (h s q)).2 (by rw [pw_bit]; simp)
  · rintro ⟨h1, h2⟩ i hi
    refine sd_bit_t.mpr ⟨h1 i hi, fun q => ?_⟩
    rw [pw_bit] at q
    simp at q
    rw [q] at h2
    exact h2 hi
theorem d_fewest {σ : pm_H} (hS : Sh σ) {n A : Nat} {sl : Int32} {T : Nat → Nat} (hn : pI σ 35 0 = nI n) (hm : mOk (cur σ) n) (hA : A < 2 ^ n) (h49 : ∀ W, W < 2 ^ n → pI σ 49 W = lnI (lnR (cur σ) n W)) (h50 : ∀ B, B < A → pI σ 50 B = nI (T B) ∧ T B ≤ 1000000) : ∃ L, D_X12_fewest [.ref 35, .int (nI A), .int sl] σ = some (some (.int (nI L)), σ) ∧ Lo (lnR (cur σ) n) (sgR (cur σ) n sl) T A (fun _ _ => True) L := by
  have h8 := hm.1.1
  have hA8 := Nat.lt_of_lt_of_le hA (p2n h8)
  have hin : ∀ s, s < n → A.testBit s = true → nI s ≠ sl → ∀ L w7, Lo (lnR (cur σ) n) (sgR (cur σ) n sl) T A (fun s' _ => s' < s) L → ∃ r t, sLoop (cZ0 qGt (eLi 6)) (sSeq (sSeq (sSi 7 (eCall (pm_disp (tb1 12 D_X12_costOf)) (aC (eLa 0) (aC (eLi 4) (aC (eLi 6) (aN)))))) (sSi 3 (eC (cAnd (cZ0 qGt (eLi 7)) (cI qLt (eB f_iadd (eLi 7) (eAI (eG (is 12) 3 27 (eLa 0)) (eB f_iand (eLi 1) (eB f_ixor (eLi 6) (eK (.int (-1))))))) (eLi 3))) (eB f_iadd (eLi 7) (eAI (eG (is 12) 3 27 (eLa 0)) (eB f_iand (eLi 1) (eB f_ixor (eLi 6) (eK (.int (-1))))))) (eLi 3)))) (sSi 6 (eB f_iand (eB f_isub (eLi 6) (eK (.int 1))) (eLi 5)))) [.ref 35, .int (nI A), .int sl, .int (nI L), .int (nI s), .int (nI (sd A (2 ^ s))), .int (nI (sd A (2 ^ s))), w7] σ = some (r, t) ∧ (t = σ ∧ ∃ L' w6 w7, nlB (some w6) = true ∧ Lo (lnR (cur σ) n) (sgR (cur σ) n sl) T A (fun s' _ => s' < s + 1) L' ∧ r = .inl [.ref 35, .int (nI A), .int sl, .int (nI L'), .int (nI s), .int (nI (sd A (2 ^ s))), w6, w7]) := by
    intro s hs hAs hsl L w7 hL
    have hr8 := sd_lt256 (W := 2 ^ s) hA8
    refine loop_gen (fun k env t => t = σ ∧ ∃ L' w w7, k + w ≤ 256 ∧ sub w (sd A (2 ^ s)) ∧ Lo (lnR (cur σ) n) (sgR (cur σ) n sl) T A (fun s' W => s' < s ∨ (s' = s ∧ w < W)) L' ∧ env = [.ref 35, .int (nI A), .int sl, .int (nI L'), .int (nI s), .int (nI (sd A (2 ^ s))), .int (nI w), w7]) _ 256 (by decide) ⟨rfl, L, sd A (2 ^ s), w7, by omega, sub_rfl _, ⟨hL.1, fun s' W q1 q2 => ?_, hL.2.2⟩, rfl⟩ ?_
    · rcases q1 with q1 | ⟨rfl, q1⟩
      · exact hL.2.1 s' W q1 q2
      · obtain ⟨-, c2, -, c4, -⟩ := cd_iff.mp q2
        have := sub_le (sub_sd_pow.mpr ⟨c4, c2⟩)
        omega
    rintro k env t hk ⟨rfl, L', w, w7, hkw, hw, hLo, rfl⟩
    obtain ⟨o1, o2, o3⟩ := hLo
    have hw8 : w < 256 := by have := sub_le hw; omega
    have hgt : (0 < nI w) = (0 < w) := by have := nI_lt' (a := 0) (b := w) (by decide) (by omega); rw [nI_0] at this; exact this
    by_cases e : 0 < w
    · left
      obtain ⟨n1, n2, n3, n4⟩ := sm_next hr8 hw e
      obtain ⟨wA, ws⟩ := sub_sd_pow.mp hw
      have hwn : w < 2 ^ n := by have := sub_le wA; omega
      have hsd := sd_lt' e wA
      have hs8 := sd_lt256 (W := w) hA8
      obtain ⟨hTv, hTl⟩ := h50 (sd A w) hsd
      have hl200 := lnR_le hm w
      have hc := d_costOf hS (show s < 8 by omega) hw8 hl200 (h49 w hwn)
      have hib := ib_nI hs8 (show (256 : Nat) ≤ 1000000 by decide)
      have hcl := nI_cl (show sd A w < 2147483648 by omega)
      have hnext : ∀ L2, L2 ≤ 1000000 → L2 ≤ L' → (cdB (lnR (cur t) n) (sgR (cur t) n sl) A s w = true → L2 ≤ lnR (cur t) n w + T (sd A w)) → (L2 = 1000000 ∨ ∃ s W, cdB (lnR (cur t) n) (sgR (cur t) n sl) A s W = true ∧ L2 = lnR (cur t) n W + T (sd A W)) → Lo (lnR (cur t) n) (sgR (cur t) n sl) T A (fun s' W => s' < s ∨ (s' = s ∧ (w - 1) &&& sd A (2 ^ s) < W)) L2 := fun L2 a1 a2 a3 a4 => by
        refine ⟨a1, fun s' W q1 q2 => ?_, a4⟩
        rcases q1 with q1 | ⟨rfl, q1⟩
        · have := o2 s' W (Or.inl q1) q2; omega
        · by_cases c : w < W
          · have := o2 s' W (Or.inr ⟨rfl, c⟩) q2; omega
          · by_cases d : W = w
            · subst d; exact a3 q2
            · obtain ⟨-, c2, -, c4, -⟩ := cd_iff.mp q2
              have := n4 W (sub_sd_pow.mpr ⟨c4, c2⟩) (by omega)
              omega
      by_cases hcost : 0 < lnR (cur t) n w ∧ nI (lnR (cur t) n w) ≤ cur t (20 + s)
      · rw [if_pos hcost] at hc
        have hcd : cdB (lnR (cur t) n) (sgR (cur t) n sl) A s w = true := cd_iff.mpr ⟨hAs, ws, e, wA, hcost.1, by unfold sgR; simp [hsl, hcost.2]⟩
        have hp : 0 < nI (lnR (cur t) n w) := by have := nI_lt' (a := 0) (b := lnR (cur t) n w) (by decide) (by omega); rw [nI_0] at this; rw [this]; exact hcost.1
        have hlt2 : (nI (lnR (cur t) n w + T (sd A w)) < nI L') = (lnR (cur t) n w + T (sd A w) < L') := nI_lt' (by omega) (by omega)
        by_cases hl : lnR (cur t) n w + T (sd A w) < L'
        · refine ⟨[.ref 35, .int (nI A), .int sl, .int (nI (lnR (cur t) n w + T (sd A w))), .int (nI s), .int (nI (sd A (2 ^ s))), .int (nI ((w - 1) &&& sd A (2 ^ s))), .int (nI (lnR (cur t) n w))], t, ?_, by omega, rfl, _, _, _, by omega, n3, hnext _ (by omega) (by omega) (fun _ => Nat.le_refl _) (Or.inr ⟨s, w, hcd, rfl⟩), rfl⟩
          simp only [lpStep, ↓rE_eK, ↓rE_eLi, ↓rE_eLj, ↓rE_eLa, ↓rE_eU, ↓rE_eB, ↓rE_eG, ↓rE_eIF, ↓rE_eAI, ↓rE_eAX, ↓rE_eAJ, ↓rE_eAR, ↓rE_eLen, ↓rE_eSI, ↓rE_eC, ↓rE_eCall, ↓rE_eNew, ↓rE_eNewA, ↓rE_eInst, ↓rC_cI, ↓rC_cZ0, ↓rC_cN, ↓rC_cNot, ↓rC_cAnd, ↓rC_cOr, ↓rA_aN, ↓rA_aC, ↓rS_sP, ↓rS_sUF, ↓rS_sAI, ↓rS_sAJ, ↓rS_sAR, ↓rS_sUA, ↓rS_sCall, ↓rS_sObj, ↓rS_sSi, ↓rS_sSa, ↓rS_sSj, ↓rS_sInc, ↓rS_sSkip, ↓rS_sSeq, ↓rS_sIf, ↓rS_sRetI, ↓rS_sRetJ, ↓rS_sRetA, ↓rS_sRetV, ↓rS_sSw, ↓rD_meth, ↓rD_on, ↓kR_ref, ↓kI_int, ↓kJ_long, ↓kN_null, ↓kN_ref, ↓kN_rf, ↓kQ_ref, ↓kQ_null, ↓kQ_rf, o1_i, o1ij_i, o1ji_i, o2_i, o2d_i, o2j_i, o2ji_i, o2c_i, fv_0, fv_1, fv_2, fv_3, pf_0, pf_2, pf_3, pf_4, rf_s, rf_n, is_self, ge_0, ge_s, ge_n, gd_s, gd_n, se_0, se_s, ag_0, ex_n, ex_i, ex_r, ex_0, ex_j, ex_q, ap_c, ap_n, List.append_nil, ln_c, ln_n, rp_0, rp_s, rt_0, rt_1, rt_20, rt_21, rt_2, rt_3, rt_4, rt_4n, rt_4q, nl_0, nl_1, nl_2, nl_3, nl_4, nl_5, nl_6, nl_7, nl_8, nl_9, nlB_i, nlB_r, nlB_n, nlB_f, nlB_q, ↓reduceIte, reduceCtorEq, Nat.reduceAdd, Nat.reduceSub, Nat.reduceEqDiff, Nat.reduceLeDiff, Nat.reduceBEq, ite_true, ite_false, dt_t, Bool.not_true, Bool.not_false, Bool.false_eq_true, Nat.le_refl, true_and, and_true, true_or, or_true, false_or, or_false, false_and, and_false, qEq, qNe, qLt, qGe, qGt, qLe, sT_35 hS, sT_36 hS, sT_37 hS, sT_38 hS, sT_39 hS, sT_40 hS, sT_41 hS, sT_42 hS, sT_43 hS, sT_44 hS, sT_45 hS, sT_46 hS, sT_47 hS, sT_48 hS, sT_49 hS, sT_50 hS, sT_51 hS, sT_52 hS, sT_53 hS, sT_54 hS, sT_55 hS, sT_56 hS, sT_57 hS, sT_58 hS, sT_59 hS, sT_60 hS, sT_61 hS, sT_62 hS, sT_63 hS, sT_64 hS, sT_65 hS, sL_36 hS, sL_37 hS, sL_38 hS, sL_39 hS, sL_40 hS, sL_41 hS, sL_42 hS, sL_43 hS, sL_44 hS, sL_45 hS, sL_46 hS, sL_47 hS, sL_48 hS, sL_49 hS, sL_50 hS, sL_51 hS, sL_52 hS, sL_53 hS, sL_54 hS, sL_55 hS, sL_56 hS, sL_57 hS, sL_58 hS, sL_59 hS, sL_60 hS, sL_61 hS, sL_62 hS, sL_63 hS, sL_64 hS, sL_65 hS, sR_35_1 hS, sR_35_2 hS, sR_35_3 hS, sR_35_4 hS, sR_35_5 hS, sR_35_6 hS, sR_35_7 hS, sR_35_11 hS, sR_35_21 hS, sR_35_22 hS, sR_35_23 hS, sR_35_24 hS, sR_35_25 hS, sR_35_26 hS, sR_35_27 hS, sR_35_28 hS, sR_35_29 hS, sR_35_30 hS, sR_35_31 hS, sR_35_32 hS, sR_35_35 hS, sR_35_37 hS, sR_35_38 hS, sR_35_39 hS, sR_35_40 hS, sR_35_41 hS, sR_35_42 hS, sR_35_46 hS, sR_35_50 hS, sR_35_52 hS, hgt, e, rD_tb1, rD_of hc, hp, nI_sdx, hib, hcl, hTv, nI_ad, hlt2, hl, n1]
        · refine ⟨[.ref 35, .int (nI A), .int sl, .int (nI L'), .int (nI s), .int (nI (sd A (2 ^ s))), .int (nI ((w - 1) &&& sd A (2 ^ s))), .int (nI (lnR (cur t) n w))], t, ?_, by omega, rfl, _, _, _, by omega, n3, hnext L' o1 (Nat.le_refl _) (fun _ => by omega) o3, rfl⟩
          simp only [lpStep, ↓rE_eK, ↓rE_eLi, ↓rE_eLj, ↓rE_eLa, ↓rE_eU, ↓rE_eB, ↓rE_eG, ↓rE_eIF, ↓rE_eAI, ↓rE_eAX, ↓rE_eAJ, ↓rE_eAR, ↓rE_eLen, ↓rE_eSI, ↓rE_eC, ↓rE_eCall, ↓rE_eNew, ↓rE_eNewA, ↓rE_eInst, ↓rC_cI, ↓rC_cZ0, ↓rC_cN, ↓rC_cNot, ↓rC_cAnd, ↓rC_cOr, ↓rA_aN, ↓rA_aC, ↓rS_sP, ↓rS_sUF, ↓rS_sAI, ↓rS_sAJ, ↓rS_sAR, ↓rS_sUA, ↓rS_sCall, ↓rS_sObj, ↓rS_sSi, ↓rS_sSa, ↓rS_sSj, ↓rS_sInc, ↓rS_sSkip, ↓rS_sSeq, ↓rS_sIf, ↓rS_sRetI, ↓rS_sRetJ, ↓rS_sRetA, ↓rS_sRetV, ↓rS_sSw, ↓rD_meth, ↓rD_on, ↓kR_ref, ↓kI_int, ↓kJ_long, ↓kN_null, ↓kN_ref, ↓kN_rf, ↓kQ_ref, ↓kQ_null, ↓kQ_rf, o1_i, o1ij_i, o1ji_i, o2_i, o2d_i, o2j_i, o2ji_i, o2c_i, fv_0, fv_1, fv_2, fv_3, pf_0, pf_2, pf_3, pf_4, rf_s, rf_n, is_self, ge_0, ge_s, ge_n, gd_s, gd_n, se_0, se_s, ag_0, ex_n, ex_i, ex_r, ex_0, ex_j, ex_q, ap_c, ap_n, List.append_nil, ln_c, ln_n, rp_0, rp_s, rt_0, rt_1, rt_20, rt_21, rt_2, rt_3, rt_4, rt_4n, rt_4q, nl_0, nl_1, nl_2, nl_3, nl_4, nl_5, nl_6, nl_7, nl_8, nl_9, nlB_i, nlB_r, nlB_n, nlB_f, nlB_q, ↓reduceIte, reduceCtorEq, Nat.reduceAdd, Nat.reduceSub, Nat.reduceEqDiff, Nat.reduceLeDiff, Nat.reduceBEq, ite_true, ite_false, dt_t, Bool.not_true, Bool.not_false, Bool.false_eq_true, Nat.le_refl, true_and, and_true, true_or, or_true, false_or, or_false, false_and, and_false, qEq, qNe, qLt, qGe, qGt, qLe, sT_35 hS, sT_36 hS, sT_37 hS, sT_38 hS, sT_39 hS, sT_40 hS, sT_41 hS, sT_42 hS, sT_43 hS, sT_44 hS, sT_45 hS, sT_46 hS, sT_47 hS, sT_48 hS, sT_49 hS, sT_50 hS, sT_51 hS, sT_52 hS, sT_53 hS, sT_54 hS, sT_55 hS, sT_56 hS, sT_57 hS, sT_58 hS, sT_59 hS, sT_60 hS, sT_61 hS, sT_62 hS, sT_63 hS, sT_64 hS, sT_65 hS, sL_36 hS, sL_37 hS, sL_38 hS, sL_39 hS, sL_40 hS, sL_41 hS, sL_42 hS, sL_43 hS, sL_44 hS, sL_45 hS, sL_46 hS, sL_47 hS, sL_48 hS, sL_49 hS, sL_50 hS, sL_51 hS, sL_52 hS, sL_53 hS, sL_54 hS, sL_55 hS, sL_56 hS, sL_57 hS, sL_58 hS, sL_59 hS, sL_60 hS, sL_61 hS, sL_62 hS, sL_63 hS, sL_64 hS, sL_65 hS, sR_35_1 hS, sR_35_2 hS, sR_35_3 hS, sR_35_4 hS, sR_35_5 hS, sR_35_6 hS, sR_35_7 hS, sR_35_11 hS, sR_35_21 hS, sR_35_22 hS, sR_35_23 hS, sR_35_24 hS, sR_35_25 hS, sR_35_26 hS, sR_35_27 hS, sR_35_28 hS, sR_35_29 hS, sR_35_30 hS, sR_35_31 hS, sR_35_32 hS, sR_35_35 hS, sR_35_37 hS, sR_35_38 hS, sR_35_39 hS, sR_35_40 hS, sR_35_41 hS, sR_35_42 hS, sR_35_46 hS, sR_35_50 hS, sR_35_52 hS, hgt, e, rD_tb1, rD_of hc, hp, nI_sdx, hib, hcl, hTv, nI_ad, hlt2, hl, n1]
      · rw [if_neg hcost] at hc
        have m1 : ¬ (0 : Int32) < -1 := by decide
        refine ⟨[.ref 35, .int (nI A), .int sl, .int (nI L'), .int (nI s), .int (nI (sd A (2 ^ s))), .int (nI ((w - 1) &&& sd A (2 ^ s))), .int (-1)], t, ?_, by omega, rfl, _, _, _, by omega, n3, hnext L' o1 (Nat.le_refl _) (fun q => ?_) o3, rfl⟩
        · simp only [lpStep, ↓rE_eK, ↓rE_eLi, ↓rE_eLj, ↓rE_eLa, ↓rE_eU, ↓rE_eB, ↓rE_eG, ↓rE_eIF, ↓rE_eAI, ↓rE_eAX, ↓rE_eAJ, ↓rE_eAR, ↓rE_eLen, ↓rE_eSI, ↓rE_eC, ↓rE_eCall, ↓rE_eNew, ↓rE_eNewA, ↓rE_eInst, ↓rC_cI, ↓rC_cZ0, ↓rC_cN, ↓rC_cNot, ↓rC_cAnd, ↓rC_cOr, ↓rA_aN, ↓rA_aC, ↓rS_sP, ↓rS_sUF, ↓rS_sAI, ↓rS_sAJ, ↓rS_sAR, ↓rS_sUA, ↓rS_sCall, ↓rS_sObj, ↓rS_sSi, ↓rS_sSa, ↓rS_sSj, ↓rS_sInc, ↓rS_sSkip, ↓rS_sSeq, ↓rS_sIf, ↓rS_sRetI, ↓rS_sRetJ, ↓rS_sRetA, ↓rS_sRetV, ↓rS_sSw, ↓rD_meth, ↓rD_on, ↓kR_ref, ↓kI_int, ↓kJ_long, ↓kN_null, ↓kN_ref, ↓kN_rf, ↓kQ_ref, ↓kQ_null, ↓kQ_rf, o1_i, o1ij_i, o1ji_i, o2_i, o2d_i, o2j_i, o2ji_i, o2c_i, fv_0, fv_1, fv_2, fv_3, pf_0, pf_2, pf_3, pf_4, rf_s, rf_n, is_self, ge_0, ge_s, ge_n, gd_s, gd_n, se_0, se_s, ag_0, ex_n, ex_i, ex_r, ex_0, ex_j, ex_q, ap_c, ap_n, List.append_nil, ln_c, ln_n, rp_0, rp_s, rt_0, rt_1, rt_20, rt_21, rt_2, rt_3, rt_4, rt_4n, rt_4q, nl_0, nl_1, nl_2, nl_3, nl_4, nl_5, nl_6, nl_7, nl_8, nl_9, nlB_i, nlB_r, nlB_n, nlB_f, nlB_q, ↓reduceIte, reduceCtorEq, Nat.reduceAdd, Nat.reduceSub, Nat.reduceEqDiff, Nat.reduceLeDiff, Nat.reduceBEq, ite_true, ite_false, dt_t, Bool.not_true, Bool.not_false, Bool.false_eq_true, Nat.le_refl, true_and, and_true, true_or, or_true, false_or, or_false, false_and, and_false, qEq, qNe, qLt, qGe, qGt, qLe, sT_35 hS, sT_36 hS, sT_37 hS, sT_38 hS, sT_39 hS, sT_40 hS, sT_41 hS, sT_42 hS, sT_43 hS, sT_44 hS, sT_45 hS, sT_46 hS, sT_47 hS, sT_48 hS, sT_49 hS, sT_50 hS, sT_51 hS, sT_52 hS, sT_53 hS, sT_54 hS, sT_55 hS, sT_56 hS, sT_57 hS, sT_58 hS, sT_59 hS, sT_60 hS, sT_61 hS, sT_62 hS, sT_63 hS, sT_64 hS, sT_65 hS, sL_36 hS, sL_37 hS, sL_38 hS, sL_39 hS, sL_40 hS, sL_41 hS, sL_42 hS, sL_43 hS, sL_44 hS, sL_45 hS, sL_46 hS, sL_47 hS, sL_48 hS, sL_49 hS, sL_50 hS, sL_51 hS, sL_52 hS, sL_53 hS, sL_54 hS, sL_55 hS, sL_56 hS, sL_57 hS, sL_58 hS, sL_59 hS, sL_60 hS, sL_61 hS, sL_62 hS, sL_63 hS, sL_64 hS, sL_65 hS, sR_35_1 hS, sR_35_2 hS, sR_35_3 hS, sR_35_4 hS, sR_35_5 hS, sR_35_6 hS, sR_35_7 hS, sR_35_11 hS, sR_35_21 hS, sR_35_22 hS, sR_35_23 hS, sR_35_24 hS, sR_35_25 hS, sR_35_26 hS, sR_35_27 hS, sR_35_28 hS, sR_35_29 hS, sR_35_30 hS, sR_35_31 hS, sR_35_32 hS, sR_35_35 hS, sR_35_37 hS, sR_35_38 hS, sR_35_39 hS, sR_35_40 hS, sR_35_41 hS, sR_35_42 hS, sR_35_46 hS, sR_35_50 hS, sR_35_52 hS, hgt, e, rD_tb1, rD_of hc, m1, n1]
        · obtain ⟨-, -, -, -, c5, c6⟩ := cd_iff.mp q
          unfold sgR at c6
          simp at c6
          exact absurd ⟨c5, c6.2⟩ hcost
    · right
      refine ⟨_, _, ?_, rfl, L', .int (nI w), w7, nlB_i, ⟨o1, fun s' W q1 q2 => ?_, o3⟩, rfl⟩
      · simp only [lpStep, ↓rE_eK, ↓rE_eLi, ↓rE_eLj, ↓rE_eLa, ↓rE_eU, ↓rE_eB, ↓rE_eG, ↓rE_eIF, ↓rE_eAI, ↓rE_eAX, ↓rE_eAJ, ↓rE_eAR, ↓rE_eLen, ↓rE_eSI, ↓rE_eC, ↓rE_eCall, ↓rE_eNew, ↓rE_eNewA, ↓rE_eInst, ↓rC_cI, ↓rC_cZ0, ↓rC_cN, ↓rC_cNot, ↓rC_cAnd, ↓rC_cOr, ↓rA_aN, ↓rA_aC, ↓rS_sP, ↓rS_sUF, ↓rS_sAI, ↓rS_sAJ, ↓rS_sAR, ↓rS_sUA, ↓rS_sCall, ↓rS_sObj, ↓rS_sSi, ↓rS_sSa, ↓rS_sSj, ↓rS_sInc, ↓rS_sSkip, ↓rS_sSeq, ↓rS_sIf, ↓rS_sRetI, ↓rS_sRetJ, ↓rS_sRetA, ↓rS_sRetV, ↓rS_sSw, ↓rD_meth, ↓rD_on, ↓kR_ref, ↓kI_int, ↓kJ_long, ↓kN_null, ↓kN_ref, ↓kN_rf, ↓kQ_ref, ↓kQ_null, ↓kQ_rf, o1_i, o1ij_i, o1ji_i, o2_i, o2d_i, o2j_i, o2ji_i, o2c_i, fv_0, fv_1, fv_2, fv_3, pf_0, pf_2, pf_3, pf_4, rf_s, rf_n, is_self, ge_0, ge_s, ge_n, gd_s, gd_n, se_0, se_s, ag_0, ex_n, ex_i, ex_r, ex_0, ex_j, ex_q, ap_c, ap_n, List.append_nil, ln_c, ln_n, rp_0, rp_s, rt_0, rt_1, rt_20, rt_21, rt_2, rt_3, rt_4, rt_4n, rt_4q, nl_0, nl_1, nl_2, nl_3, nl_4, nl_5, nl_6, nl_7, nl_8, nl_9, nlB_i, nlB_r, nlB_n, nlB_f, nlB_q, ↓reduceIte, reduceCtorEq, Nat.reduceAdd, Nat.reduceSub, Nat.reduceEqDiff, Nat.reduceLeDiff, Nat.reduceBEq, ite_true, ite_false, dt_t, Bool.not_true, Bool.not_false, Bool.false_eq_true, Nat.le_refl, true_and, and_true, true_or, or_true, false_or, or_false, false_and, and_false, qEq, qNe, qLt, qGe, qGt, qLe, hgt, e]
      · by_cases c : s' < s
        · exact o2 s' W (Or.inl c) q2
        · obtain ⟨-, -, c3, -⟩ := cd_iff.mp q2
          exact o2 s' W (Or.inr ⟨by omega, by omega⟩) q2
  have hl : ∃ r t, sLoop (cI qLt (eLi 4) (eG (is 12) 0 0 (eLa 0))) (sSeq (sIf (cAnd (cZ0 qNe (eCall D_X12_has (aC (eLi 1) (aC (eLi 4) (aN))))) (cI qNe (eLi 4) (eLi 2))) (sSeq (sSi 5 (eB f_iand (eLi 1) (eB f_ixor (eB f_ishl (eK (.int 1)) (eLi 4)) (eK (.int (-1)))))) (sSeq (sSi 6 (eLi 5)) (sLoop (cZ0 qGt (eLi 6)) (sSeq (sSeq (sSi 7 (eCall (pm_disp (tb1 12 D_X12_costOf)) (aC (eLa 0) (aC (eLi 4) (aC (eLi 6) (aN)))))) (sSi 3 (eC (cAnd (cZ0 qGt (eLi 7)) (cI qLt (eB f_iadd (eLi 7) (eAI (eG (is 12) 3 27 (eLa 0)) (eB f_iand (eLi 1) (eB f_ixor (eLi 6) (eK (.int (-1))))))) (eLi 3))) (eB f_iadd (eLi 7) (eAI (eG (is 12) 3 27 (eLa 0)) (eB f_iand (eLi 1) (eB f_ixor (eLi 6) (eK (.int (-1))))))) (eLi 3)))) (sSi 6 (eB f_iand (eB f_isub (eLi 6) (eK (.int 1))) (eLi 5))))))) sSkip) (sInc 4 1)) [.ref 35, .int (nI A), .int sl, .int 1000000, .int 0, .float 0, .float 0, .float 0] σ = some (r, t) ∧ (t = σ ∧ ∃ L w5 w6 w7, Lo (lnR (cur σ) n) (sgR (cur σ) n sl) T A (fun s' _ => s' < n) L ∧ r = .inl [.ref 35, .int (nI A), .int sl, .int (nI L), .int (nI n), w5, w6, w7]) := by
    refine loop_gen (fun s env t => t = σ ∧ ∃ L w5 w6 w7, nlB (some w5) = true ∧ nlB (some w6) = true ∧ Lo (lnR (cur σ) n) (sgR (cur σ) n sl) T A (fun s' _ => s' < s) L ∧ env = [.ref 35, .int (nI A), .int sl, .int (nI L), .int (nI s), w5, w6, w7]) _ n (by omega) ⟨rfl, 1000000, .float 0, .float 0, .float 0, rfl, rfl, ⟨Nat.le_refl _, fun s' W q => by omega, Or.inl rfl⟩, by rw [nI_0]; rfl⟩ ?_
    rintro s env t hs ⟨rfl, L, w5, w6, w7, hw5, hw6, hLo, rfl⟩
    by_cases e : s < n
    · left
      have hlt : nI s < nI n := by rw [nI_lt' (by omega) (by omega)]; exact e
      have hb := bt_nI hA8 (show s < 8 by omega)
      have h01 : ¬ (0 : Int32) = 1 := by decide
      by_cases hAs : A.testBit s = true
      · rw [if_pos hAs] at hb
        by_cases hsl : nI s = sl
        · refine ⟨[.ref 35, .int (nI A), .int sl, .int (nI L), .int (nI (s + 1)), w5, w6, w7], t, ?_, e, rfl, L, w5, w6, w7, hw5, hw6, ⟨hLo.1, fun s' W q1 q2 => ?_, hLo.2.2⟩, rfl⟩
          · have hsl' : (nI s = sl) = True := eq_true hsl
            simp only [lpStep, ↓rE_eK, ↓rE_eLi, ↓rE_eLj, ↓rE_eLa, ↓rE_eU, ↓rE_eB, ↓rE_eG, ↓rE_eIF, ↓rE_eAI, ↓rE_eAX, ↓rE_eAJ, ↓rE_eAR, ↓rE_eLen, ↓rE_eSI, ↓rE_eC, ↓rE_eCall, ↓rE_eNew, ↓rE_eNewA, ↓rE_eInst, ↓rC_cI, ↓rC_cZ0, ↓rC_cN, ↓rC_cNot, ↓rC_cAnd, ↓rC_cOr, ↓rA_aN, ↓rA_aC, ↓rS_sP, ↓rS_sUF, ↓rS_sAI, ↓rS_sAJ, ↓rS_sAR, ↓rS_sUA, ↓rS_sCall, ↓rS_sObj, ↓rS_sSi, ↓rS_sSa, ↓rS_sSj, ↓rS_sInc, ↓rS_sSkip, ↓rS_sSeq, ↓rS_sIf, ↓rS_sRetI, ↓rS_sRetJ, ↓rS_sRetA, ↓rS_sRetV, ↓rS_sSw, ↓rD_meth, ↓rD_on, ↓kR_ref, ↓kI_int, ↓kJ_long, ↓kN_null, ↓kN_ref, ↓kN_rf, ↓kQ_ref, ↓kQ_null, ↓kQ_rf, o1_i, o1ij_i, o1ji_i, o2_i, o2d_i, o2j_i, o2ji_i, o2c_i, fv_0, fv_1, fv_2, fv_3, pf_0, pf_2, pf_3, pf_4, rf_s, rf_n, is_self, ge_0, ge_s, ge_n, gd_s, gd_n, se_0, se_s, ag_0, ex_n, ex_i, ex_r, ex_0, ex_j, ex_q, ap_c, ap_n, List.append_nil, ln_c, ln_n, rp_0, rp_s, rt_0, rt_1, rt_20, rt_21, rt_2, rt_3, rt_4, rt_4n, rt_4q, nl_0, nl_1, nl_2, nl_3, nl_4, nl_5, nl_6, nl_7, nl_8, nl_9, nlB_i, nlB_r, nlB_n, nlB_f, nlB_q, ↓reduceIte, reduceCtorEq, Nat.reduceAdd, Nat.reduceSub, Nat.reduceEqDiff, Nat.reduceLeDiff, Nat.reduceBEq, ite_true, ite_false, dt_t, Bool.not_true, Bool.not_false, Bool.false_eq_true, Nat.le_refl, true_and, and_true, true_or, or_true, false_or, or_false, false_and, and_false, qEq, qNe, qLt, qGe, qGt, qLe, sT_35 hS, sT_36 hS, sT_37 hS, sT_38 hS, sT_39 hS, sT_40 hS, sT_41 hS, sT_42 hS, sT_43 hS, sT_44 hS, sT_45 hS, sT_46 hS, sT_47 hS, sT_48 hS, sT_49 hS, sT_50 hS, sT_51 hS, sT_52 hS, sT_53 hS, sT_54 hS, sT_55 hS, sT_56 hS, sT_57 hS, sT_58 hS, sT_59 hS, sT_60 hS, sT_61 hS, sT_62 hS, sT_63 hS, sT_64 hS, sT_65 hS, sL_36 hS, sL_37 hS, sL_38 hS, sL_39 hS, sL_40 hS, sL_41 hS, sL_42 hS, sL_43 hS, sL_44 hS, sL_45 hS, sL_46 hS, sL_47 hS, sL_48 hS, sL_49 hS, sL_50 hS, sL_51 hS, sL_52 hS, sL_53 hS, sL_54 hS, sL_55 hS, sL_56 hS, sL_57 hS, sL_58 hS, sL_59 hS, sL_60 hS, sL_61 hS, sL_62 hS, sL_63 hS, sL_64 hS, sL_65 hS, sR_35_1 hS, sR_35_2 hS, sR_35_3 hS, sR_35_4 hS, sR_35_5 hS, sR_35_6 hS, sR_35_7 hS, sR_35_11 hS, sR_35_21 hS, sR_35_22 hS, sR_35_23 hS, sR_35_24 hS, sR_35_25 hS, sR_35_26 hS, sR_35_27 hS, sR_35_28 hS, sR_35_29 hS, sR_35_30 hS, sR_35_31 hS, sR_35_32 hS, sR_35_35 hS, sR_35_37 hS, sR_35_38 hS, sR_35_39 hS, sR_35_40 hS, sR_35_41 hS, sR_35_42 hS, sR_35_46 hS, sR_35_50 hS, sR_35_52 hS, hn, hlt, rD_of (d_has _ _ _), b32_ne, hb, hsl', not_true, nI_1]
          · by_cases c : s' < s
            · exact hLo.2.1 s' W c q2
            · have : s' = s := by omega
              subst this
              obtain ⟨-, -, -, -, -, c6⟩ := cd_iff.mp q2
              unfold sgR at c6
              simp [hsl] at c6
        · obtain ⟨r, t', q1, rfl, L', v6, v7, hv6, hLo', rfl⟩ := hin s e hAs hsl L w7 hLo
          refine ⟨[.ref 35, .int (nI A), .int sl, .int (nI L'), .int (nI (s + 1)), .int (nI (sd A (2 ^ s))), v6, v7], t', ?_, e, rfl, L', _, _, _, nlB_i, hv6, hLo', rfl⟩
          simp only [lpStep, ↓rE_eK, ↓rE_eLi, ↓rE_eLj, ↓rE_eLa, ↓rE_eU, ↓rE_eB, ↓rE_eG, ↓rE_eIF, ↓rE_eAI, ↓rE_eAX, ↓rE_eAJ, ↓rE_eAR, ↓rE_eLen, ↓rE_eSI, ↓rE_eC, ↓rE_eCall, ↓rE_eNew, ↓rE_eNewA, ↓rE_eInst, ↓rC_cI, ↓rC_cZ0, ↓rC_cN, ↓rC_cNot, ↓rC_cAnd, ↓rC_cOr, ↓rA_aN, ↓rA_aC, ↓rS_sP, ↓rS_sUF, ↓rS_sAI, ↓rS_sAJ, ↓rS_sAR, ↓rS_sUA, ↓rS_sCall, ↓rS_sObj, ↓rS_sSi, ↓rS_sSa, ↓rS_sSj, ↓rS_sInc, ↓rS_sSkip, ↓rS_sSeq, ↓rS_sIf, ↓rS_sRetI, ↓rS_sRetJ, ↓rS_sRetA, ↓rS_sRetV, ↓rS_sSw, ↓rD_meth, ↓rD_on, ↓kR_ref, ↓kI_int, ↓kJ_long, ↓kN_null, ↓kN_ref, ↓kN_rf, ↓kQ_ref, ↓kQ_null, ↓kQ_rf, o1_i, o1ij_i, o1ji_i, o2_i, o2d_i, o2j_i, o2ji_i, o2c_i, fv_0, fv_1, fv_2, fv_3, pf_0, pf_2, pf_3, pf_4, rf_s, rf_n, is_self, ge_0, ge_s, ge_n, gd_s, gd_n, se_0, se_s, ag_0, ex_n, ex_i, ex_r, ex_0, ex_j, ex_q, ap_c, ap_n, List.append_nil, ln_c, ln_n, rp_0, rp_s, rt_0, rt_1, rt_20, rt_21, rt_2, rt_3, rt_4, rt_4n, rt_4q, nl_0, nl_1, nl_2, nl_3, nl_4, nl_5, nl_6, nl_7, nl_8, nl_9, nlB_i, nlB_r, nlB_n, nlB_f, nlB_q, ↓reduceIte, reduceCtorEq, Nat.reduceAdd, Nat.reduceSub, Nat.reduceEqDiff, Nat.reduceLeDiff, Nat.reduceBEq, ite_true, ite_false, dt_t, Bool.not_true, Bool.not_false, Bool.false_eq_true, Nat.le_refl, true_and, and_true, true_or, or_true, false_or, or_false, false_and, and_false, qEq, qNe, qLt, qGe, qGt, qLe, sT_35 hS, sT_36 hS, sT_37 hS, sT_38 hS, sT_39 hS, sT_40 hS, sT_41 hS, sT_42 hS, sT_43 hS, sT_44 hS, sT_45 hS, sT_46 hS, sT_47 hS, sT_48 hS, sT_49 hS, sT_50 hS, sT_51 hS, sT_52 hS, sT_53 hS, sT_54 hS, sT_55 hS, sT_56 hS, sT_57 hS, sT_58 hS, sT_59 hS, sT_60 hS, sT_61 hS, sT_62 hS, sT_63 hS, sT_64 hS, sT_65 hS, sL_36 hS, sL_37 hS, sL_38 hS, sL_39 hS, sL_40 hS, sL_41 hS, sL_42 hS, sL_43 hS, sL_44 hS, sL_45 hS, sL_46 hS, sL_47 hS, sL_48 hS, sL_49 hS, sL_50 hS, sL_51 hS, sL_52 hS, sL_53 hS, sL_54 hS, sL_55 hS, sL_56 hS, sL_57 hS, sL_58 hS, sL_59 hS, sL_60 hS, sL_61 hS, sL_62 hS, sL_63 hS, sL_64 hS, sL_65 hS, sR_35_1 hS, sR_35_2 hS, sR_35_3 hS, sR_35_4 hS, sR_35_5 hS, sR_35_6 hS, sR_35_7 hS, sR_35_11 hS, sR_35_21 hS, sR_35_22 hS, sR_35_23 hS, sR_35_24 hS, sR_35_25 hS, sR_35_26 hS, sR_35_27 hS, sR_35_28 hS, sR_35_29 hS, sR_35_30 hS, sR_35_31 hS, sR_35_32 hS, sR_35_35 hS, sR_35_37 hS, sR_35_38 hS, sR_35_39 hS, sR_35_40 hS, sR_35_41 hS, sR_35_42 hS, sR_35_46 hS, sR_35_50 hS, sR_35_52 hS, hn, hlt, rD_of (d_has _ _ _), b32_ne, hb, hsl, not_false_eq_true, nI_shl (show s < 8 by omega), nI_sdx, hw5, rS_inl q1, nI_1]
      · rw [if_neg hAs] at hb
        refine ⟨[.ref 35, .int (nI A), .int sl, .int (nI L), .int (nI (s + 1)), w5, w6, w7], t, ?_, e, rfl, L, w5, w6, w7, hw5, hw6, ⟨hLo.1, fun s' W q1 q2 => ?_, hLo.2.2⟩, rfl⟩
        · simp only [lpStep, ↓rE_eK, ↓rE_eLi, ↓rE_eLj, ↓rE_eLa, ↓rE_eU, ↓rE_eB, ↓rE_eG, ↓rE_eIF, ↓rE_eAI, ↓rE_eAX, ↓rE_eAJ, ↓rE_eAR, ↓rE_eLen, ↓rE_eSI, ↓rE_eC, ↓rE_eCall, ↓rE_eNew, ↓rE_eNewA, ↓rE_eInst, ↓rC_cI, ↓rC_cZ0, ↓rC_cN, ↓rC_cNot, ↓rC_cAnd, ↓rC_cOr, ↓rA_aN, ↓rA_aC, ↓rS_sP, ↓rS_sUF, ↓rS_sAI, ↓rS_sAJ, ↓rS_sAR, ↓rS_sUA, ↓rS_sCall, ↓rS_sObj, ↓rS_sSi, ↓rS_sSa, ↓rS_sSj, ↓rS_sInc, ↓rS_sSkip, ↓rS_sSeq, ↓rS_sIf, ↓rS_sRetI, ↓rS_sRetJ, ↓rS_sRetA, ↓rS_sRetV, ↓rS_sSw, ↓rD_meth, ↓rD_on, ↓kR_ref, ↓kI_int, ↓kJ_long, ↓kN_null, ↓kN_ref, ↓kN_rf, ↓kQ_ref, ↓kQ_null, ↓kQ_rf, o1_i, o1ij_i, o1ji_i, o2_i, o2d_i, o2j_i, o2ji_i, o2c_i, fv_0, fv_1, fv_2, fv_3, pf_0, pf_2, pf_3, pf_4, rf_s, rf_n, is_self, ge_0, ge_s, ge_n, gd_s, gd_n, se_0, se_s, ag_0, ex_n, ex_i, ex_r, ex_0, ex_j, ex_q, ap_c, ap_n, List.append_nil, ln_c, ln_n, rp_0, rp_s, rt_0, rt_1, rt_20, rt_21, rt_2, rt_3, rt_4, rt_4n, rt_4q, nl_0, nl_1, nl_2, nl_3, nl_4, nl_5, nl_6, nl_7, nl_8, nl_9, nlB_i, nlB_r, nlB_n, nlB_f, nlB_q, ↓reduceIte, reduceCtorEq, Nat.reduceAdd, Nat.reduceSub, Nat.reduceEqDiff, Nat.reduceLeDiff, Nat.reduceBEq, ite_true, ite_false, dt_t, Bool.not_true, Bool.not_false, Bool.false_eq_true, Nat.le_refl, true_and, and_true, true_or, or_true, false_or, or_false, false_and, and_false, qEq, qNe, qLt, qGe, qGt, qLe, sT_35 hS, sT_36 hS, sT_37 hS, sT_38 hS, sT_39 hS, sT_40 hS, sT_41 hS, sT_42 hS, sT_43 hS, sT_44 hS, sT_45 hS, sT_46 hS, sT_47 hS, sT_48 hS, sT_49 hS, sT_50 hS, sT_51 hS, sT_52 hS, sT_53 hS, sT_54 hS, sT_55 hS, sT_56 hS, sT_57 hS, sT_58 hS, sT_59 hS, sT_60 hS, sT_61 hS, sT_62 hS, sT_63 hS, sT_64 hS, sT_65 hS, sL_36 hS, sL_37 hS, sL_38 hS, sL_39 hS, sL_40 hS, sL_41 hS, sL_42 hS, sL_43 hS, sL_44 hS, sL_45 hS, sL_46 hS, sL_47 hS, sL_48 hS, sL_49 hS, sL_50 hS, sL_51 hS, sL_52 hS, sL_53 hS, sL_54 hS, sL_55 hS, sL_56 hS, sL_57 hS, sL_58 hS, sL_59 hS, sL_60 hS, sL_61 hS, sL_62 hS, sL_63 hS, sL_64 hS, sL_65 hS, sR_35_1 hS, sR_35_2 hS, sR_35_3 hS, sR_35_4 hS, sR_35_5 hS, sR_35_6 hS, sR_35_7 hS, sR_35_11 hS, sR_35_21 hS, sR_35_22 hS, sR_35_23 hS, sR_35_24 hS, sR_35_25 hS, sR_35_26 hS, sR_35_27 hS, sR_35_28 hS, sR_35_29 hS, sR_35_30 hS, sR_35_31 hS, sR_35_32 hS, sR_35_35 hS, sR_35_37 hS, sR_35_38 hS, sR_35_39 hS, sR_35_40 hS, sR_35_41 hS, sR_35_42 hS, sR_35_46 hS, sR_35_50 hS, sR_35_52 hS, hn, hlt, rD_of (d_has _ _ _), b32_ne, hb, h01, nI_1]
        · by_cases c : s' < s
          · exact hLo.2.1 s' W c q2
          · have : s' = s := by omega
            subst this
            exact absurd (cd_iff.mp q2).1 hAs
    · right
      have : s = n := by omega
      subst this
      have hlt : ¬ nI s < nI s := by rw [nI_lt' (by omega) (by omega)]; omega
      refine ⟨_, _, ?_, rfl, L, w5, w6, w7, hLo, rfl⟩
      simp only [lpStep, ↓rE_eK, ↓rE_eLi, ↓rE_eLj, ↓rE_eLa, ↓rE_eU, ↓rE_eB, ↓rE_eG, ↓rE_eIF, ↓rE_eAI, ↓rE_eAX, ↓rE_eAJ, ↓rE_eAR, ↓rE_eLen, ↓rE_eSI, ↓rE_eC, ↓rE_eCall, ↓rE_eNew, ↓rE_eNewA, ↓rE_eInst, ↓rC_cI, ↓rC_cZ0, ↓rC_cN, ↓rC_cNot, ↓rC_cAnd, ↓rC_cOr, ↓rA_aN, ↓rA_aC, ↓rS_sP, ↓rS_sUF, ↓rS_sAI, ↓rS_sAJ, ↓rS_sAR, ↓rS_sUA, ↓rS_sCall, ↓rS_sObj, ↓rS_sSi, ↓rS_sSa, ↓rS_sSj, ↓rS_sInc, ↓rS_sSkip, ↓rS_sSeq, ↓rS_sIf, ↓rS_sRetI, ↓rS_sRetJ, ↓rS_sRetA, ↓rS_sRetV, ↓rS_sSw, ↓rD_meth, ↓rD_on, ↓kR_ref, ↓kI_int, ↓kJ_long, ↓kN_null, ↓kN_ref, ↓kN_rf, ↓kQ_ref, ↓kQ_null, ↓kQ_rf, o1_i, o1ij_i, o1ji_i, o2_i, o2d_i, o2j_i, o2ji_i, o2c_i, fv_0, fv_1, fv_2, fv_3, pf_0, pf_2, pf_3, pf_4, rf_s, rf_n, is_self, ge_0, ge_s, ge_n, gd_s, gd_n, se_0, se_s, ag_0, ex_n, ex_i, ex_r, ex_0, ex_j, ex_q, ap_c, ap_n, List.append_nil, ln_c, ln_n, rp_0, rp_s, rt_0, rt_1, rt_20, rt_21, rt_2, rt_3, rt_4, rt_4n, rt_4q, nl_0, nl_1, nl_2, nl_3, nl_4, nl_5, nl_6, nl_7, nl_8, nl_9, nlB_i, nlB_r, nlB_n, nlB_f, nlB_q, ↓reduceIte, reduceCtorEq, Nat.reduceAdd, Nat.reduceSub, Nat.reduceEqDiff, Nat.reduceLeDiff, Nat.reduceBEq, ite_true, ite_false, dt_t, Bool.not_true, Bool.not_false, Bool.false_eq_true, Nat.le_refl, true_and, and_true, true_or, or_true, false_or, or_false, false_and, and_false, qEq, qNe, qLt, qGe, qGt, qLe, sT_35 hS, sT_36 hS, sT_37 hS, sT_38 hS, sT_39 hS, sT_40 hS, sT_41 hS, sT_42 hS, sT_43 hS, sT_44 hS, sT_45 hS, sT_46 hS, sT_47 hS, sT_48 hS, sT_49 hS, sT_50 hS, sT_51 hS, sT_52 hS, sT_53 hS, sT_54 hS, sT_55 hS, sT_56 hS, sT_57 hS, sT_58 hS, sT_59 hS, sT_60 hS, sT_61 hS, sT_62 hS, sT_63 hS, sT_64 hS, sT_65 hS, sL_36 hS, sL_37 hS, sL_38 hS, sL_39 hS, sL_40 hS, sL_41 hS, sL_42 hS, sL_43 hS, sL_44 hS, sL_45 hS, sL_46 hS, sL_47 hS, sL_48 hS, sL_49 hS, sL_50 hS, sL_51 hS, sL_52 hS, sL_53 hS, sL_54 hS, sL_55 hS, sL_56 hS, sL_57 hS, sL_58 hS, sL_59 hS, sL_60 hS, sL_61 hS, sL_62 hS, sL_63 hS, sL_64 hS, sL_65 hS, sR_35_1 hS, sR_35_2 hS, sR_35_3 hS, sR_35_4 hS, sR_35_5 hS, sR_35_6 hS, sR_35_7 hS, sR_35_11 hS, sR_35_21 hS, sR_35_22 hS, sR_35_23 hS, sR_35_24 hS, sR_35_25 hS, sR_35_26 hS, sR_35_27 hS, sR_35_28 hS, sR_35_29 hS, sR_35_30 hS, sR_35_31 hS, sR_35_32 hS, sR_35_35 hS, sR_35_37 hS, sR_35_38 hS, sR_35_39 hS, sR_35_40 hS, sR_35_41 hS, sR_35_42 hS, sR_35_46 hS, sR_35_50 hS, sR_35_52 hS, hn, hlt]
  obtain ⟨r, t, l1, rfl, L, w5, w6, w7, hLo, rfl⟩ := hl
  refine ⟨L, ?_, hLo.1, fun s W _ q => hLo.2.1 s W (bitlt hA (cd_iff.mp q).1) q, hLo.2.2⟩
  refine rD_un.trans ?_
  simp only [D_X12_fewest, B_X12_fewest, ↓rE_eK, ↓rE_eLi, ↓rE_eLj, ↓rE_eLa, ↓rE_eU, ↓rE_eB, ↓rE_eG, ↓rE_eIF, ↓rE_eAI, ↓rE_eAX, ↓rE_eAJ, ↓rE_eAR, ↓rE_eLen, ↓rE_eSI, ↓rE_eC, ↓rE_eCall, ↓rE_eNew, ↓rE_eNewA, ↓rE_eInst, ↓rC_cI, ↓rC_cZ0, ↓rC_cN, ↓rC_cNot, ↓rC_cAnd, ↓rC_cOr, ↓rA_aN, ↓rA_aC, ↓rS_sP, ↓rS_sUF, ↓rS_sAI, ↓rS_sAJ, ↓rS_sAR, ↓rS_sUA, ↓rS_sCall, ↓rS_sObj, ↓rS_sSi, ↓rS_sSa, ↓rS_sSj, ↓rS_sInc, ↓rS_sSkip, ↓rS_sSeq, ↓rS_sIf, ↓rS_sRetI, ↓rS_sRetJ, ↓rS_sRetA, ↓rS_sRetV, ↓rS_sSw, ↓rD_meth, ↓rD_on, ↓kR_ref, ↓kI_int, ↓kJ_long, ↓kN_null, ↓kN_ref, ↓kN_rf, ↓kQ_ref, ↓kQ_null, ↓kQ_rf, o1_i, o1ij_i, o1ji_i, o2_i, o2d_i, o2j_i, o2ji_i, o2c_i, fv_0, fv_1, fv_2, fv_3, pf_0, pf_2, pf_3, pf_4, rf_s, rf_n, is_self, ge_0, ge_s, ge_n, gd_s, gd_n, se_0, se_s, ag_0, ex_n, ex_i, ex_r, ex_0, ex_j, ex_q, ap_c, ap_n, List.append_nil, ln_c, ln_n, rp_0, rp_s, rt_0, rt_1, rt_20, rt_21, rt_2, rt_3, rt_4, rt_4n, rt_4q, nl_0, nl_1, nl_2, nl_3, nl_4, nl_5, nl_6, nl_7, nl_8, nl_9, nlB_i, nlB_r, nlB_n, nlB_f, nlB_q, ↓reduceIte, reduceCtorEq, Nat.reduceAdd, Nat.reduceSub, Nat.reduceEqDiff, Nat.reduceLeDiff, Nat.reduceBEq, ite_true, ite_false, dt_t, Bool.not_true, Bool.not_false, Bool.false_eq_true, Nat.le_refl, true_and, and_true, true_or, or_true, false_or, or_false, false_and, and_false, qEq, qNe, qLt, qGe, qGt, qLe, rS_inl l1]
