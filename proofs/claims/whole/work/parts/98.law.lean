/-! The law's loop, and the end. -/
variable {Q : (Nat → Int32) × Nat} {m L : Nat} {xs : Nat → Int32}
def lwB (Dx Dm : pm_D) (A : pm_A) : pm_S := sSeq (sIf (cI qNe (eCall (pm_disp (tb1 11 Dx)) (aC (eLa 1) A)) (eCall (pm_disp (tb1 12 Dm)) (aC (eLa 2) A))) (sRetK 1 (eK (.int 0))) sSkip) (sSkip)
def qx (k : Int32) : pm_E := eAX (eLa 0) (eB f_iadd (eLi 3) (eK (.int k)))
def qa0 : pm_A := aN
def qa1 : pm_A := aC (qx 1) (aN)
def qa2 : pm_A := aC (qx 1) (aC (qx 2) (aN))
def qa3 : pm_A := aC (qx 1) (aC (qx 2) (aC (qx 3) (aN)))
def qa4 : pm_A := aC (qx 1) (aC (qx 2) (aC (qx 3) (aC (qx 4) (aN))))
def qaF : pm_A := aC (eB f_lor (eB f_lshl (eU f_i2l (qx 1)) (eK (.int 32))) (eB f_land (eU f_i2l (qx 2)) (eK (.long 4294967295)))) (aC (qx 3) (aN))
def law_cs : List pm_S := [lwB D_X11_feed D_X12_feed qaF, lwB D_X11_valley D_X12_valley qa0, lwB D_X11_person D_X12_person qa2, lwB D_X11_personOf D_X12_personOf qa2, lwB D_X11_voice D_X12_voice qa2, lwB D_X11_purse D_X12_purse qa2, lwB D_X11_turn D_X12_turn qa2, lwB D_X11_older D_X12_older qa0, lwB D_X11_lasts D_X12_lasts qa2, lwB D_X11_sing D_X12_sing qa2, lwB D_X11_may D_X12_may qa2, lwB D_X11_wake D_X12_wake qa1, lwB D_X11_night D_X12_night qa1, lwB D_X11_day D_X12_day qa0, lwB D_X11_owed D_X12_owed qa2, lwB D_X11_owe D_X12_owe qa3, lwB D_X11_ring D_X12_ring qa0, lwB D_X11_least D_X12_least qa0, lwB D_X11_plan D_X12_plan qa1, lwB D_X11_last D_X12_last qa0, lwB D_X11_with D_X12_with qa1, lwB D_X11_silent D_X12_silent qa1, lwB D_X11_ways D_X12_ways qa0, lwB D_X11_inTurn D_X12_inTurn qa0, lwB D_X11_dearest D_X12_dearest qa0, lwB D_X11_hoarse D_X12_hoarse qa0, lwB D_X11_tent D_X12_tent qa0, lwB D_X11_seed D_X12_seed qa1, lwB D_X11_draw D_X12_draw qa0, lwB D_X11_prove D_X12_prove qa0, lwB D_X11_row D_X12_row qa2, lwB D_X11_alterRow D_X12_alterRow qa3, lwB D_X11_judge D_X12_judge qa0, lwB D_X11_ages D_X12_ages qa4, lwB D_X11_sheet D_X12_sheet qa3, lwB D_X11_put D_X12_put qa3, lwB D_X11_item D_X12_item qa3, lwB D_X11_shelf D_X12_shelf qa3, lwB D_X11_taken D_X12_taken qa2, lwB D_X11_act D_X12_act qa3, lwB D_X11_trace D_X12_trace qa1, lwB D_X11_many D_X12_many qa1, lwB D_X11_keep D_X12_keep qa0, lwB D_X11_again D_X12_again qa0]
def law_c : pm_C := cI qLe (eLi 3) (eB f_isub (eLen (eLa 0)) (eK (.int 5)))
def law_b : pm_S := sSeq (sSw (eB f_iand (eAX (eLa 0) (eLi 3)) (eK (.int 63))) 0 law_cs (sSkip)) (sInc 3 5)
theorem law_is : B_L_law = sSeq (sSa 1 (eNew 11 10 D_X11_init (aN))) (sSeq (sSa 2 (eNew 12 53 D_X12_init (aN))) (sSeq (sSi 3 (eK (.int 0))) (sSeq (sLoop law_c law_b) (sRetK 1 (eK (.int 1)))))) := rfl
def lwE (m : Nat) : List Value := [.ref 10, .ref 11, .ref 35, .int (nI (5 * m))]
/-- the script, and that this call stands in it -/
def LwA (t : pm_H) (m : Nat) (xs : Nat → Int32) (L : Nat) : Prop := pT t 10 = 18 ∧ pL t 10 = L ∧ pI t 10 = xs ∧ 5 * m + 5 ≤ L ∧ L ≤ 320
def LwC (Q : (Nat → Int32) × Nat) (t : pm_H) (m : Nat) (b : pm_S) : Prop := ∃ t' n', (∀ {α : Type} (kn : List Value → pm_H → Option α) (kr : Option Value → pm_H → Option α), rS b (lwE m) t kn kr = kn (lwE m) t') ∧ Rel (RkT Q) t' n' ∧ Kp t t' ∧ pN t' ≤ pN t + 40 ∧ pS t' ≤ pS t + 400
theorem qx_ok {s : pm_H} {k : Nat} (h : LwA s m xs L) (hk : k < 5) {α : Type} (K : Value → pm_H → Option α) : rE (qx (nI k)) (lwE m) s K = K (.int (xs (5 * m + k))) s := by
  obtain ⟨h1, h2, h3, h4, h5⟩ := h
  have i1 : ib (nI (5 * m + k)) L = true := ib_nI (by omega) (by omega)
  have i2 := nI_cl (show 5 * m + k < 2147483648 by omega)
  simp only [qx, lwE, ↓rE_eK, ↓rE_eLi, ↓rE_eLj, ↓rE_eLa, ↓rE_eU, ↓rE_eB, ↓rE_eG, ↓rE_eIF, ↓rE_eAI, ↓rE_eAX, ↓rE_eAJ, ↓rE_eAR, ↓rE_eLen, ↓rE_eSI, ↓rE_eC, ↓rE_eCall, ↓rE_eNew, ↓rE_eNewA, ↓rE_eInst, ↓rC_cI, ↓rC_cZ0, ↓rC_cN, ↓rC_cNot, ↓rC_cAnd, ↓rC_cOr, ↓rA_aN, ↓rA_aC, ↓rS_sP, ↓rS_sUF, ↓rS_sAI, ↓rS_sAJ, ↓rS_sAR, ↓rS_sUA, ↓rS_sCall, ↓rS_sObj, ↓rS_sSi, ↓rS_sSa, ↓rS_sSj, ↓rS_sInc, ↓rS_sSkip, ↓rS_sSeq, ↓rS_sIf, ↓rS_sRetI, ↓rS_sRetJ, ↓rS_sRetA, ↓rS_sRetV, ↓rS_sSw, ↓rD_meth, ↓rD_on, ↓kR_ref, ↓kI_int, ↓kJ_long, ↓kN_null, ↓kN_ref, ↓kN_rf, ↓kQ_ref, ↓kQ_null, ↓kQ_rf, o1_i, o1ij_i, o1ji_i, o2_i, o2d_i, o2j_i, o2ji_i, o2c_i, fv_0, fv_1, fv_2, fv_3, pf_0, pf_2, pf_3, pf_4, rf_s, rf_n, is_self, ge_0, ge_s, ge_n, gd_s, gd_n, se_0, se_s, ag_0, ex_n, ex_i, ex_r, ex_0, ex_j, ex_q, ap_c, ap_n, List.append_nil, ln_c, ln_n, rp_0, rp_s, rt_0, rt_1, rt_20, rt_21, rt_2, rt_3, rt_4, rt_4n, rt_4q, nl_0, nl_1, nl_2, nl_3, nl_4, nl_5, nl_6, nl_7, nl_8, nl_9, nlB_i, nlB_r, nlB_n, nlB_f, nlB_q, ↓reduceIte, reduceCtorEq, Nat.reduceAdd, Nat.reduceSub, Nat.reduceEqDiff, Nat.reduceLeDiff, Nat.reduceBEq, ite_true, ite_false, dt_t, Bool.not_true, Bool.not_false, Bool.false_eq_true, Nat.le_refl, true_and, and_true, true_or, or_true, false_or, or_false, false_and, and_false, qEq, qNe, qLt, qGe, qGt, qLe, nI_ad, h1, h2, h3, i1, i2]
theorem qx_1 {s : pm_H} (h : LwA s m xs L) {α : Type} (K : Value → pm_H → Option α) : rE (qx 1) (lwE m) s K = K (.int (xs (5 * m + 1))) s := qx_ok (k := 1) h (by decide) K
theorem qx_2 {s : pm_H} (h : LwA s m xs L) {α : Type} (K : Value → pm_H → Option α) : rE (qx 2) (lwE m) s K = K (.int (xs (5 * m + 2))) s := qx_ok (k := 2) h (by decide) K
theorem qx_3 {s : pm_H} (h : LwA s m xs L) {α : Type} (K : Value → pm_H → Option α) : rE (qx 3) (lwE m) s K = K (.int (xs (5 * m + 3))) s := qx_ok (k := 3) h (by decide) K
theorem qx_4 {s : pm_H} (h : LwA s m xs L) {α : Type} (K : Value → pm_H → Option α) : rE (qx 4) (lwE m) s K = K (.int (xs (5 * m + 4))) s := qx_ok (k := 4) h (by decide) K
/-- what arguments are, wherever the script stands -/
def qaK (A : pm_A) (m : Nat) (xs : Nat → Int32) (L : Nat) (as : List Value) : Prop := ∀ s, LwA s m xs L → ∀ {α : Type} (K : List Value → pm_H → Option α), rA A (lwE m) s K = K as s
theorem qa0_ok {t : pm_H} (_ : LwA t m xs L) : qaK qa0 m xs L [] := fun s h α K => by simp only [qa0, ↓rE_eK, ↓rE_eLi, ↓rE_eLj, ↓rE_eLa, ↓rE_eU, ↓rE_eB, ↓rE_eG, ↓rE_eIF, ↓rE_eAI, ↓rE_eAX, ↓rE_eAJ, ↓rE_eAR, ↓rE_eLen, ↓rE_eSI, ↓rE_eC, ↓rE_eCall, ↓rE_eNew, ↓rE_eNewA, ↓rE_eInst, ↓rC_cI, ↓rC_cZ0, ↓rC_cN, ↓rC_cNot, ↓rC_cAnd, ↓rC_cOr, ↓rA_aN, ↓rA_aC, ↓rS_sP, ↓rS_sUF, ↓rS_sAI, ↓rS_sAJ, ↓rS_sAR, ↓rS_sUA, ↓rS_sCall, ↓rS_sObj, ↓rS_sSi, ↓rS_sSa, ↓rS_sSj, ↓rS_sInc, ↓rS_sSkip, ↓rS_sSeq, ↓rS_sIf, ↓rS_sRetI, ↓rS_sRetJ, ↓rS_sRetA, ↓rS_sRetV, ↓rS_sSw, ↓rD_meth, ↓rD_on, ↓kR_ref, ↓kI_int, ↓kJ_long, ↓kN_null, ↓kN_ref, ↓kN_rf, ↓kQ_ref, ↓kQ_null, ↓kQ_rf]
theorem qa1_ok {t : pm_H} (_ : LwA t m xs L) : qaK qa1 m xs L [.int (xs (5 * m + 1))] := fun s h α K => by simp only [qa1, ↓rE_eK, ↓rE_eLi, ↓rE_eLj, ↓rE_eLa, ↓rE_eU, ↓rE_eB, ↓rE_eG, ↓rE_eIF, ↓rE_eAI, ↓rE_eAX, ↓rE_eAJ, ↓rE_eAR, ↓rE_eLen, ↓rE_eSI, ↓rE_eC, ↓rE_eCall, ↓rE_eNew, ↓rE_eNewA, ↓rE_eInst, ↓rC_cI, ↓rC_cZ0, ↓rC_cN, ↓rC_cNot, ↓rC_cAnd, ↓rC_cOr, ↓rA_aN, ↓rA_aC, ↓rS_sP, ↓rS_sUF, ↓rS_sAI, ↓rS_sAJ, ↓rS_sAR, ↓rS_sUA, ↓rS_sCall, ↓rS_sObj, ↓rS_sSi, ↓rS_sSa, ↓rS_sSj, ↓rS_sInc, ↓rS_sSkip, ↓rS_sSeq, ↓rS_sIf, ↓rS_sRetI, ↓rS_sRetJ, ↓rS_sRetA, ↓rS_sRetV, ↓rS_sSw, ↓rD_meth, ↓rD_on, ↓kR_ref, ↓kI_int, ↓kJ_long, ↓kN_null, ↓kN_ref, ↓kN_rf, ↓kQ_ref, ↓kQ_null, ↓kQ_rf, qx_1 h]
theorem qa2_ok {t : pm_H} (_ : LwA t m xs L) : qaK qa2 m xs L [.int (xs (5 * m + 1)), .int (xs (5 * m + 2))] := fun s h α K => by simp only [qa2, ↓rE_eK, ↓rE_eLi, ↓rE_eLj, ↓rE_eLa, ↓rE_eU, ↓rE_eB, ↓rE_eG, ↓rE_eIF, ↓rE_eAI, ↓rE_eAX, ↓rE_eAJ, ↓rE_eAR, ↓rE_eLen, ↓rE_eSI, ↓rE_eC, ↓rE_eCall, ↓rE_eNew, ↓rE_eNewA, ↓rE_eInst, ↓rC_cI, ↓rC_cZ0, ↓rC_cN, ↓rC_cNot, ↓rC_cAnd, ↓rC_cOr, ↓rA_aN, ↓rA_aC, ↓rS_sP, ↓rS_sUF, ↓rS_sAI, ↓rS_sAJ, ↓rS_sAR, ↓rS_sUA, ↓rS_sCall, ↓rS_sObj, ↓rS_sSi, ↓rS_sSa, ↓rS_sSj, ↓rS_sInc, ↓rS_sSkip, ↓rS_sSeq, ↓rS_sIf, ↓rS_sRetI, ↓rS_sRetJ, ↓rS_sRetA, ↓rS_sRetV, ↓rS_sSw, ↓rD_meth, ↓rD_on, ↓kR_ref, ↓kI_int, ↓kJ_long, ↓kN_null, ↓kN_ref, ↓kN_rf, ↓kQ_ref, ↓kQ_null, ↓kQ_rf, qx_1 h, qx_2 h]
theorem qa3_ok {t : pm_H} (_ : LwA t m xs L) : qaK qa3 m xs L [.int (xs (5 * m + 1)), .int (xs (5 * m + 2)), .int (xs (5 * m + 3))] := fun s h α K => by simp only [qa3, ↓rE_eK, ↓rE_eLi, ↓rE_eLj, ↓rE_eLa, ↓rE_eU, ↓rE_eB, ↓rE_eG, ↓rE_eIF, ↓rE_eAI, ↓rE_eAX, ↓rE_eAJ, ↓rE_eAR, ↓rE_eLen, ↓rE_eSI, ↓rE_eC, ↓rE_eCall, ↓rE_eNew, ↓rE_eNewA, ↓rE_eInst, ↓rC_cI, ↓rC_cZ0, ↓rC_cN, ↓rC_cNot, ↓rC_cAnd, ↓rC_cOr, ↓rA_aN, ↓rA_aC, ↓rS_sP, ↓rS_sUF, ↓rS_sAI, ↓rS_sAJ, ↓rS_sAR, ↓rS_sUA, ↓rS_sCall, ↓rS_sObj, ↓rS_sSi, ↓rS_sSa, ↓rS_sSj, ↓rS_sInc, ↓rS_sSkip, ↓rS_sSeq, ↓rS_sIf, ↓rS_sRetI, ↓rS_sRetJ, ↓rS_sRetA, ↓rS_sRetV, ↓rS_sSw, ↓rD_meth, ↓rD_on, ↓kR_ref, ↓kI_int, ↓kJ_long, ↓kN_null, ↓kN_ref, ↓kN_rf, ↓kQ_ref, ↓kQ_null, ↓kQ_rf, qx_1 h, qx_2 h, qx_3 h]
theorem qa4_ok {t : pm_H} (_ : LwA t m xs L) : qaK qa4 m xs L [.int (xs (5 * m + 1)), .int (xs (5 * m + 2)), .int (xs (5 * m + 3)), .int (xs (5 * m + 4))] := fun s h α K => by simp only [qa4, ↓rE_eK, ↓rE_eLi, ↓rE_eLj, ↓rE_eLa, ↓rE_eU, ↓rE_eB, ↓rE_eG, ↓rE_eIF, ↓rE_eAI, ↓rE_eAX, ↓rE_eAJ, ↓rE_eAR, ↓rE_eLen, ↓rE_eSI, ↓rE_eC, ↓rE_eCall, ↓rE_eNew, ↓rE_eNewA, ↓rE_eInst, ↓rC_cI, ↓rC_cZ0, ↓rC_cN, ↓rC_cNot, ↓rC_cAnd, ↓rC_cOr, ↓rA_aN, ↓rA_aC, ↓rS_sP, ↓rS_sUF, ↓rS_sAI, ↓rS_sAJ, ↓rS_sAR, ↓rS_sUA, ↓rS_sCall, ↓rS_sObj, ↓rS_sSi, ↓rS_sSa, ↓rS_sSj, ↓rS_sInc, ↓rS_sSkip, ↓rS_sSeq, ↓rS_sIf, ↓rS_sRetI, ↓rS_sRetJ, ↓rS_sRetA, ↓rS_sRetV, ↓rS_sSw, ↓rD_meth, ↓rD_on, ↓kR_ref, ↓kI_int, ↓kJ_long, ↓kN_null, ↓kN_ref, ↓kN_rf, ↓kQ_ref, ↓kQ_null, ↓kQ_rf, qx_1 h, qx_2 h, qx_3 h, qx_4 h]
def fdX (a b : Int32) : Int64 := (a.toInt64 <<< ((32 : Int32).toInt64 &&& 63)) ||| (b.toInt64 &&& 4294967295)
theorem qaF_ok {t : pm_H} (_ : LwA t m xs L) : qaK qaF m xs L [.long (fdX (xs (5 * m + 1)) (xs (5 * m + 2))), .int (xs (5 * m + 3))] := fun s h α K => by simp only [qaF, fdX, ↓rE_eK, ↓rE_eLi, ↓rE_eLj, ↓rE_eLa, ↓rE_eU, ↓rE_eB, ↓rE_eG, ↓rE_eIF, ↓rE_eAI, ↓rE_eAX, ↓rE_eAJ, ↓rE_eAR, ↓rE_eLen, ↓rE_eSI, ↓rE_eC, ↓rE_eCall, ↓rE_eNew, ↓rE_eNewA, ↓rE_eInst, ↓rC_cI, ↓rC_cZ0, ↓rC_cN, ↓rC_cNot, ↓rC_cAnd, ↓rC_cOr, ↓rA_aN, ↓rA_aC, ↓rS_sP, ↓rS_sUF, ↓rS_sAI, ↓rS_sAJ, ↓rS_sAR, ↓rS_sUA, ↓rS_sCall, ↓rS_sObj, ↓rS_sSi, ↓rS_sSa, ↓rS_sSj, ↓rS_sInc, ↓rS_sSkip, ↓rS_sSeq, ↓rS_sIf, ↓rS_sRetI, ↓rS_sRetJ, ↓rS_sRetA, ↓rS_sRetV, ↓rS_sSw, ↓rD_meth, ↓rD_on, ↓kR_ref, ↓kI_int, ↓kJ_long, ↓kN_null, ↓kN_ref, ↓kN_rf, ↓kQ_ref, ↓kQ_null, ↓kQ_rf, o1_i, o1ij_i, o1ji_i, o2_i, o2d_i, o2j_i, o2ji_i, o2c_i, fv_0, fv_1, fv_2, fv_3, pf_0, pf_2, pf_3, pf_4, rf_s, rf_n, is_self, qx_1 h, qx_2 h, qx_3 h]
theorem law_case {A : pm_A} {as : List Value} {Dx Dm : pm_D} {t : pm_H} {n : Nat} (hR : Rel (RkT Q) t n) (h : LwA t m xs L) (kx : kP Dx) (km : kP Dm) (hA : qaK A m xs L as) (hst : Step (RkT Q) Dx Dm as t) : LwC Q t m (lwB Dx Dm A) := by
  obtain ⟨r, σ1, σ2, n', hX, hM, hR', q1, q2⟩ := hst
  have hs := Rel_Sh hR
  have h66 := hs.2.2.2
  have k1 := kx _ _ _ _ hX
  have k2 := km _ _ _ _ hM
  obtain ⟨a1, a2, a3⟩ := k1.2 10 (by omega)
  have h1 : LwA σ1 m xs L := ⟨a1.trans h.1, a2.trans h.2.1, (a3 h.1).trans h.2.2.1, h.2.2.2⟩
  have t11 := sT_11 hs
  have t35 : pT σ1 35 = 12 := (k1.2 35 (by omega)).1.trans (sT_35 hs)
  have A0 : ∀ {α : Type} (K : List Value → pm_H → Option α), rA A [.ref 10, .ref 11, .ref 35, .int (nI (5 * m))] t K = K as t := hA t h
  have A1 : ∀ {α : Type} (K : List Value → pm_H → Option α), rA A [.ref 10, .ref 11, .ref 35, .int (nI (5 * m))] σ1 K = K as σ1 := hA σ1 h1
  refine ⟨σ2, n', fun {α} kn kr => ?_, hR', Kp_tr k1 k2, q1, q2⟩
  simp only [lwB, lwE, ↓rE_eK, ↓rE_eLi, ↓rE_eLj, ↓rE_eLa, ↓rE_eU, ↓rE_eB, ↓rE_eG, ↓rE_eIF, ↓rE_eAI, ↓rE_eAX, ↓rE_eAJ, ↓rE_eAR, ↓rE_eLen, ↓rE_eSI, ↓rE_eC, ↓rE_eCall, ↓rE_eNew, ↓rE_eNewA, ↓rE_eInst, ↓rC_cI, ↓rC_cZ0, ↓rC_cN, ↓rC_cNot, ↓rC_cAnd, ↓rC_cOr, ↓rA_aN, ↓rA_aC, ↓rS_sP, ↓rS_sUF, ↓rS_sAI, ↓rS_sAJ, ↓rS_sAR, ↓rS_sUA, ↓rS_sCall, ↓rS_sObj, ↓rS_sSi, ↓rS_sSa, ↓rS_sSj, ↓rS_sInc, ↓rS_sSkip, ↓rS_sSeq, ↓rS_sIf, ↓rS_sRetI, ↓rS_sRetJ, ↓rS_sRetA, ↓rS_sRetV, ↓rS_sSw, ↓rD_meth, ↓rD_on, ↓kR_ref, ↓kI_int, ↓kJ_long, ↓kN_null, ↓kN_ref, ↓kN_rf, ↓kQ_ref, ↓kQ_null, ↓kQ_rf, o1_i, o1ij_i, o1ji_i, o2_i, o2d_i, o2j_i, o2ji_i, o2c_i, fv_0, fv_1, fv_2, fv_3, pf_0, pf_2, pf_3, pf_4, rf_s, rf_n, is_self, ge_0, ge_s, ge_n, gd_s, gd_n, se_0, se_s, ag_0, ex_n, ex_i, ex_r, ex_0, ex_j, ex_q, ap_c, ap_n, List.append_nil, ln_c, ln_n, rp_0, rp_s, rt_0, rt_1, rt_20, rt_21, rt_2, rt_3, rt_4, rt_4n, rt_4q, nl_0, nl_1, nl_2, nl_3, nl_4, nl_5, nl_6, nl_7, nl_8, nl_9, nlB_i, nlB_r, nlB_n, nlB_f, nlB_q, ↓reduceIte, reduceCtorEq, Nat.reduceAdd, Nat.reduceSub, Nat.reduceEqDiff, Nat.reduceLeDiff, Nat.reduceBEq, ite_true, ite_false, dt_t, Bool.not_true, Bool.not_false, Bool.false_eq_true, Nat.le_refl, true_and, and_true, true_or, or_true, false_or, or_false, false_and, and_false, qEq, qNe, qLt, qGe, qGt, qLe, A0, A1, rD_tb1 t11, rD_of hX, rD_tb1 t35, rD_of hM, not_true]
theorem lc_0 {t : pm_H} {n : Nat} (hR : Rel (RkT Q) t n) (h : LwA t m xs L) : LwC Q t m ((law_cs[0]?).getD sSkip) := law_case (A := qaF) hR h K_X11_feed K_X12_feed (qaF_ok h) (step_feed _ _ _ hR)
theorem lc_1 {t : pm_H} {n : Nat} (hR : Rel (RkT Q) t n) (h : LwA t m xs L) : LwC Q t m ((law_cs[1]?).getD sSkip) := law_case (A := qa0) hR h K_X11_valley K_X12_valley (qa0_ok h) (step_valley hR)
theorem lc_2 {t : pm_H} {n : Nat} (hR : Rel (RkT Q) t n) (h : LwA t m xs L) : LwC Q t m ((law_cs[2]?).getD sSkip) := law_case (A := qa2) hR h K_X11_person K_X12_person (qa2_ok h) (step_person _ _ _ hR)
theorem lc_3 {t : pm_H} {n : Nat} (hR : Rel (RkT Q) t n) (h : LwA t m xs L) : LwC Q t m ((law_cs[3]?).getD sSkip) := law_case (A := qa2) hR h K_X11_personOf K_X12_personOf (qa2_ok h) (step_personOf _ _ _ hR)
theorem lc_4 {t : pm_H} {n : Nat} (hR : Rel (RkT Q) t n) (h : LwA t m xs L) : LwC Q t m ((law_cs[4]?).getD sSkip) := law_case (A := qa2) hR h K_X11_voice K_X12_voice (qa2_ok h) (step_voice _ _ _ hR)
theorem lc_5 {t : pm_H} {n : Nat} (hR : Rel (RkT Q) t n) (h : LwA t m xs L) : LwC Q t m ((law_cs[5]?).getD sSkip) := law_case (A := qa2) hR h K_X11_purse K_X12_purse (qa2_ok h) (step_purse _ _ _ hR)
theorem lc_6 {t : pm_H} {n : Nat} (hR : Rel (RkT Q) t n) (h : LwA t m xs L) : LwC Q t m ((law_cs[6]?).getD sSkip) := law_case (A := qa2) hR h K_X11_turn K_X12_turn (qa2_ok h) (step_turn _ _ _ hR)
theorem lc_7 {t : pm_H} {n : Nat} (hR : Rel (RkT Q) t n) (h : LwA t m xs L) : LwC Q t m ((law_cs[7]?).getD sSkip) := law_case (A := qa0) hR h K_X11_older K_X12_older (qa0_ok h) (step_older _ hR)
theorem lc_8 {t : pm_H} {n : Nat} (hR : Rel (RkT Q) t n) (h : LwA t m xs L) : LwC Q t m ((law_cs[8]?).getD sSkip) := law_case (A := qa2) hR h K_X11_lasts K_X12_lasts (qa2_ok h) (step_lasts _ _ _ hR)
theorem lc_9 {t : pm_H} {n : Nat} (hR : Rel (RkT Q) t n) (h : LwA t m xs L) : LwC Q t m ((law_cs[9]?).getD sSkip) := law_case (A := qa2) hR h K_X11_sing K_X12_sing (qa2_ok h) (step_sing _ _ _ hR)
theorem lc_10 {t : pm_H} {n : Nat} (hR : Rel (RkT Q) t n) (h : LwA t m xs L) : LwC Q t m ((law_cs[10]?).getD sSkip) := law_case (A := qa2) hR h K_X11_may K_X12_may (qa2_ok h) (step_may _ _ _ hR)
theorem lc_11 {t : pm_H} {n : Nat} (hR : Rel (RkT Q) t n) (h : LwA t m xs L) : LwC Q t m ((law_cs[11]?).getD sSkip) := law_case (A := qa1) hR h K_X11_wake K_X12_wake (qa1_ok h) (step_wake _ _ hR)
theorem lc_12 {t : pm_H} {n : Nat} (hR : Rel (RkT Q) t n) (h : LwA t m xs L) : LwC Q t m ((law_cs[12]?).getD sSkip) := law_case (A := qa1) hR h K_X11_night K_X12_night (qa1_ok h) (step_night _ _ hR)
theorem lc_13 {t : pm_H} {n : Nat} (hR : Rel (RkT Q) t n) (h : LwA t m xs L) : LwC Q t m ((law_cs[13]?).getD sSkip) := law_case (A := qa0) hR h K_X11_day K_X12_day (qa0_ok h) (step_day _ hR)
theorem lc_14 {t : pm_H} {n : Nat} (hR : Rel (RkT Q) t n) (h : LwA t m xs L) : LwC Q t m ((law_cs[14]?).getD sSkip) := law_case (A := qa2) hR h K_X11_owed K_X12_owed (qa2_ok h) (step_owed _ _ _ hR)
theorem lc_15 {t : pm_H} {n : Nat} (hR : Rel (RkT Q) t n) (h : LwA t m xs L) : LwC Q t m ((law_cs[15]?).getD sSkip) := law_case (A := qa3) hR h K_X11_owe K_X12_owe (qa3_ok h) (step_owe _ _ _ _ hR)
theorem lc_16 {t : pm_H} {n : Nat} (hR : Rel (RkT Q) t n) (h : LwA t m xs L) : LwC Q t m ((law_cs[16]?).getD sSkip) := law_case (A := qa0) hR h K_X11_ring K_X12_ring (qa0_ok h) (step_ring _ hR)
theorem lc_17 {t : pm_H} {n : Nat} (hR : Rel (RkT Q) t n) (h : LwA t m xs L) : LwC Q t m ((law_cs[17]?).getD sSkip) := law_case (A := qa0) hR h K_X11_least K_X12_least (qa0_ok h) (step_least hR)
theorem lc_18 {t : pm_H} {n : Nat} (hR : Rel (RkT Q) t n) (h : LwA t m xs L) : LwC Q t m ((law_cs[18]?).getD sSkip) := law_case (A := qa1) hR h K_X11_plan K_X12_plan (qa1_ok h) (step_plan _ hR)
theorem lc_19 {t : pm_H} {n : Nat} (hR : Rel (RkT Q) t n) (h : LwA t m xs L) : LwC Q t m ((law_cs[19]?).getD sSkip) := law_case (A := qa0) hR h K_X11_last K_X12_last (qa0_ok h) (step_last hR)
theorem lc_20 {t : pm_H} {n : Nat} (hR : Rel (RkT Q) t n) (h : LwA t m xs L) : LwC Q t m ((law_cs[20]?).getD sSkip) := law_case (A := qa1) hR h K_X11_with K_X12_with (qa1_ok h) (step_with _ hR)
theorem lc_21 {t : pm_H} {n : Nat} (hR : Rel (RkT Q) t n) (h : LwA t m xs L) : LwC Q t m ((law_cs[21]?).getD sSkip) := law_case (A := qa1) hR h K_X11_silent K_X12_silent (qa1_ok h) (step_silent _ hR)
theorem lc_22 {t : pm_H} {n : Nat} (hR : Rel (RkT Q) t n) (h : LwA t m xs L) : LwC Q t m ((law_cs[22]?).getD sSkip) := law_case (A := qa0) hR h K_X11_ways K_X12_ways (qa0_ok h) (step_ways hR)
theorem lc_23 {t : pm_H} {n : Nat} (hR : Rel (RkT Q) t n) (h : LwA t m xs L) : LwC Q t m ((law_cs[23]?).getD sSkip) := law_case (A := qa0) hR h K_X11_inTurn K_X12_inTurn (qa0_ok h) (step_inTurn hR)
theorem lc_24 {t : pm_H} {n : Nat} (hR : Rel (RkT Q) t n) (h : LwA t m xs L) : LwC Q t m ((law_cs[24]?).getD sSkip) := law_case (A := qa0) hR h K_X11_dearest K_X12_dearest (qa0_ok h) (step_dearest hR)
theorem lc_25 {t : pm_H} {n : Nat} (hR : Rel (RkT Q) t n) (h : LwA t m xs L) : LwC Q t m ((law_cs[25]?).getD sSkip) := law_case (A := qa0) hR h K_X11_hoarse K_X12_hoarse (qa0_ok h) (step_hoarse _ hR)
theorem lc_26 {t : pm_H} {n : Nat} (hR : Rel (RkT Q) t n) (h : LwA t m xs L) : LwC Q t m ((law_cs[26]?).getD sSkip) := law_case (A := qa0) hR h K_X11_tent K_X12_tent (qa0_ok h) (step_tent hR)
theorem lc_27 {t : pm_H} {n : Nat} (hR : Rel (RkT Q) t n) (h : LwA t m xs L) : LwC Q t m ((law_cs[27]?).getD sSkip) := law_case (A := qa1) hR h K_X11_seed K_X12_seed (qa1_ok h) (step_seed _ _ hR)
theorem lc_28 {t : pm_H} {n : Nat} (hR : Rel (RkT Q) t n) (h : LwA t m xs L) : LwC Q t m ((law_cs[28]?).getD sSkip) := law_case (A := qa0) hR h K_X11_draw K_X12_draw (qa0_ok h) (step_draw _ hR)
theorem lc_29 {t : pm_H} {n : Nat} (hR : Rel (RkT Q) t n) (h : LwA t m xs L) : LwC Q t m ((law_cs[29]?).getD sSkip) := law_case (A := qa0) hR h K_X11_prove K_X12_prove (qa0_ok h) (step_prove hR)
theorem lc_30 {t : pm_H} {n : Nat} (hR : Rel (RkT Q) t n) (h : LwA t m xs L) : LwC Q t m ((law_cs[30]?).getD sSkip) := law_case (A := qa2) hR h K_X11_row K_X12_row (qa2_ok h) (step_row _ _ _ hR)
theorem lc_31 {t : pm_H} {n : Nat} (hR : Rel (RkT Q) t n) (h : LwA t m xs L) : LwC Q t m ((law_cs[31]?).getD sSkip) := law_case (A := qa3) hR h K_X11_alterRow K_X12_alterRow (qa3_ok h) (step_alterRow _ _ _ _ hR)
theorem lc_32 {t : pm_H} {n : Nat} (hR : Rel (RkT Q) t n) (h : LwA t m xs L) : LwC Q t m ((law_cs[32]?).getD sSkip) := law_case (A := qa0) hR h K_X11_judge K_X12_judge (qa0_ok h) (step_judge _ hR)
theorem lc_33 {t : pm_H} {n : Nat} (hR : Rel (RkT Q) t n) (h : LwA t m xs L) : LwC Q t m ((law_cs[33]?).getD sSkip) := law_case (A := qa4) hR h K_X11_ages K_X12_ages (qa4_ok h) (step_ages _ _ _ _ _ hR)
theorem lc_34 {t : pm_H} {n : Nat} (hR : Rel (RkT Q) t n) (h : LwA t m xs L) : LwC Q t m ((law_cs[34]?).getD sSkip) := law_case (A := qa3) hR h K_X11_sheet K_X12_sheet (qa3_ok h) (step_sheet _ _ _ _ hR)
theorem lc_35 {t : pm_H} {n : Nat} (hR : Rel (RkT Q) t n) (h : LwA t m xs L) : LwC Q t m ((law_cs[35]?).getD sSkip) := law_case (A := qa3) hR h K_X11_put K_X12_put (qa3_ok h) (step_put _ _ _ _ hR)
theorem lc_36 {t : pm_H} {n : Nat} (hR : Rel (RkT Q) t n) (h : LwA t m xs L) : LwC Q t m ((law_cs[36]?).getD sSkip) := law_case (A := qa3) hR h K_X11_item K_X12_item (qa3_ok h) (step_item _ _ _ _ hR)
theorem lc_37 {t : pm_H} {n : Nat} (hR : Rel (RkT Q) t n) (h : LwA t m xs L) : LwC Q t m ((law_cs[37]?).getD sSkip) := law_case (A := qa3) hR h K_X11_shelf K_X12_shelf (qa3_ok h) (step_shelf _ _ _ _ hR)
theorem lc_38 {t : pm_H} {n : Nat} (hR : Rel (RkT Q) t n) (h : LwA t m xs L) : LwC Q t m ((law_cs[38]?).getD sSkip) := law_case (A := qa2) hR h K_X11_taken K_X12_taken (qa2_ok h) (step_taken _ _ _ hR)
theorem lc_39 {t : pm_H} {n : Nat} (hR : Rel (RkT Q) t n) (h : LwA t m xs L) : LwC Q t m ((law_cs[39]?).getD sSkip) := law_case (A := qa3) hR h K_X11_act K_X12_act (qa3_ok h) (step_act _ _ _ _ hR)
theorem lc_40 {t : pm_H} {n : Nat} (hR : Rel (RkT Q) t n) (h : LwA t m xs L) : LwC Q t m ((law_cs[40]?).getD sSkip) := law_case (A := qa1) hR h K_X11_trace K_X12_trace (qa1_ok h) (step_trace _ _ hR)
theorem lc_41 {t : pm_H} {n : Nat} (hR : Rel (RkT Q) t n) (h : LwA t m xs L) : LwC Q t m ((law_cs[41]?).getD sSkip) := law_case (A := qa1) hR h K_X11_many K_X12_many (qa1_ok h) (step_many _ _ hR)
theorem lc_42 {t : pm_H} {n : Nat} (hR : Rel (RkT Q) t n) (h : LwA t m xs L) : LwC Q t m ((law_cs[42]?).getD sSkip) := law_case (A := qa0) hR h K_X11_keep K_X12_keep (qa0_ok h) (step_keep _ hR)
theorem lc_43 {t : pm_H} {n : Nat} (hR : Rel (RkT Q) t n) (h : LwA t m xs L) : LwC Q t m ((law_cs[43]?).getD sSkip) := law_case (A := qa0) hR h K_X11_again K_X12_again (qa0_ok h) (step_again _ hR)
theorem law_out {j : Nat} (h : 44 ≤ j) : (law_cs[j]?).getD sSkip = sSkip := by
  rw [List.getElem?_eq_none (show law_cs.length ≤ j from h)]; rfl
theorem law_at {t : pm_H} {n : Nat} (hR : Rel (RkT Q) t n) (h : LwA t m xs L) : ∀ j, j < 64 → LwC Q t m ((law_cs[j]?).getD sSkip) := by
  intro j hj
  match j, hj with
  | 0, _ => exact lc_0 hR h
  | 1, _ => exact lc_1 hR h
  | 2, _ => exact lc_2 hR h
  | 3, _ => exact lc_3 hR h
  | 4, _ => exact lc_4 hR h
  | 5, _ => exact lc_5 hR h
  | 6, _ => exact lc_6 hR h
  | 7, _ => exact lc_7 hR h
  | 8, _ => exact lc_8 hR h
  | 9, _ => exact lc_9 hR h
  | 10, _ => exact lc_10 hR h
  | 11, _ => exact lc_11 hR h
  | 12, _ => exact lc_12 hR h
  | 13, _ => exact lc_13 hR h
  | 14, _ => exact lc_14 hR h
  | 15, _ => exact lc_15 hR h
  | 16, _ => exact lc_16 hR h
  | 17, _ => exact lc_17 hR h
  | 18, _ => exact lc_18 hR h
  | 19, _ => exact lc_19 hR h
  | 20, _ => exact lc_20 hR h
  | 21, _ => exact lc_21 hR h
  | 22, _ => exact lc_22 hR h
  | 23, _ => exact lc_23 hR h
  | 24, _ => exact lc_24 hR h
  | 25, _ => exact lc_25 hR h
  | 26, _ => exact lc_26 hR h
  | 27, _ => exact lc_27 hR h
  | 28, _ => exact lc_28 hR h
  | 29, _ => exact lc_29 hR h
  | 30, _ => exact lc_30 hR h
  | 31, _ => exact lc_31 hR h
  | 32, _ => exact lc_32 hR h
  | 33, _ => exact lc_33 hR h
  | 34, _ => exact lc_34 hR h
  | 35, _ => exact lc_35 hR h
  | 36, _ => exact lc_36 hR h
  | 37, _ => exact lc_37 hR h
  | 38, _ => exact lc_38 hR h
  | 39, _ => exact lc_39 hR h
  | 40, _ => exact lc_40 hR h
  | 41, _ => exact lc_41 hR h
  | 42, _ => exact lc_42 hR h
  | 43, _ => exact lc_43 hR h
  | k + 44, _ =>
    rw [law_out (by omega)]
    exact ⟨t, n, fun kn kr => rS_sSkip, hR, Kp_rfl, by omega, by omega⟩
theorem and63 (x : Int32) : ∃ j, j < 64 ∧ x &&& 63 = nI j := by
  refine ⟨(x.toBitVec &&& 63#32).toNat, ?_, ?_⟩
  · rw [BitVec.toNat_and]
    exact Nat.lt_of_le_of_lt Nat.and_le_right (by decide)
  · apply Int32.toBitVec_inj.mp
    show x.toBitVec &&& 63#32 = BitVec.ofNat 32 _
    rw [BitVec.ofNat_toNat, BitVec.setWidth_eq]
theorem le_sub5 {a L : Nat} (ha : a ≤ 1000) (hL : L ≤ 320) : (nI a ≤ nI L - 5) = (a + 5 ≤ L) := by
  by_cases h : 5 ≤ L
  · have e : nI L - 5 = nI (L - 5) := nI_sb h
    rw [e, nI_le' (by omega) (by omega)]
    exact propext ⟨fun q => by omega, fun q => by omega⟩
  · have hd : ∀ l : Fin 5, (nI l.val - 5).toInt < 0 := by decide
    have := hd ⟨L, by omega⟩
    have this : (nI L - 5).toInt < 0 := this
    refine propext ⟨fun q => ?_, fun q => by omega⟩
    rw [i_le, nI_toInt (by omega)] at q
    omega
theorem law_loop {S : pm_H} {B : Nat} (hR : Rel (RkT Q) S 0) (hL : L ≤ 320) (e1 : pL S 10 = L) (e2 : pI S 10 = xs) (eN : pN S ≤ 66) (eS : pS S ≤ B) : ∃ env t, sLoop law_c law_b (lwE 0) S = some (.inl env, t) ∧ pN t ≤ 3000 ∧ pS t ≤ B + 25600 := by
  have hl : ∃ r t, sLoop law_c law_b (lwE 0) S = some (r, t) ∧ ∃ env, r = .inl env ∧ pN t ≤ 3000 ∧ pS t ≤ B + 25600 := by
    refine loop_gen (fun m env t => env = lwE m ∧ (∃ n, Rel (RkT Q) t n) ∧ pL t 10 = L ∧ pI t 10 = xs ∧ pN t ≤ 66 + 40 * m ∧ pS t ≤ B + 400 * m) _ 64 (by omega) ⟨rfl, ⟨0, hR⟩, e1, e2, by omega, by omega⟩ ?_
    rintro m env t hm ⟨rfl, ⟨n, hR⟩, f1, f2, f3, f4⟩
    have hs := Rel_Sh hR
    have h66 := hs.2.2.2
    have t10 : pT t 10 = 18 := sT_10 hs
    have hc : (nI (5 * m) ≤ nI L - 5) = (5 * m + 5 ≤ L) := le_sub5 (by omega) hL
    have gc : ∀ {α : Type} (K : Bool → pm_H → Option α), rC law_c (lwE m) t K = K (decide (5 * m + 5 ≤ L)) t := fun K => by
      simp only [law_c, lwE, ↓rE_eK, ↓rE_eLi, ↓rE_eLj, ↓rE_eLa, ↓rE_eU, ↓rE_eB, ↓rE_eG, ↓rE_eIF, ↓rE_eAI, ↓rE_eAX, ↓rE_eAJ, ↓rE_eAR, ↓rE_eLen, ↓rE_eSI, ↓rE_eC, ↓rE_eCall, ↓rE_eNew, ↓rE_eNewA, ↓rE_eInst, ↓rC_cI, ↓rC_cZ0, ↓rC_cN, ↓rC_cNot, ↓rC_cAnd, ↓rC_cOr, ↓rA_aN, ↓rA_aC, ↓rS_sP, ↓rS_sUF, ↓rS_sAI, ↓rS_sAJ, ↓rS_sAR, ↓rS_sUA, ↓rS_sCall, ↓rS_sObj, ↓rS_sSi, ↓rS_sSa, ↓rS_sSj, ↓rS_sInc, ↓rS_sSkip, ↓rS_sSeq, ↓rS_sIf, ↓rS_sRetI, ↓rS_sRetJ, ↓rS_sRetA, ↓rS_sRetV, ↓rS_sSw, ↓rD_meth, ↓rD_on, ↓kR_ref, ↓kI_int, ↓kJ_long, ↓kN_null, ↓kN_ref, ↓kN_rf, ↓kQ_ref, ↓kQ_null, ↓kQ_rf, o1_i, o1ij_i, o1ji_i, o2_i, o2d_i, o2j_i, o2ji_i, o2c_i, fv_0, fv_1, fv_2, fv_3, pf_0, pf_2, pf_3, pf_4, rf_s, rf_n, is_self, ge_0, ge_s, ge_n, gd_s, gd_n, se_0, se_s, ag_0, ex_n, ex_i, ex_r, ex_0, ex_j, ex_q, ap_c, ap_n, List.append_nil, ln_c, ln_n, rp_0, rp_s, rt_0, rt_1, rt_20, rt_21, rt_2, rt_3, rt_4, rt_4n, rt_4q, nl_0, nl_1, nl_2, nl_3, nl_4, nl_5, nl_6, nl_7, nl_8, nl_9, nlB_i, nlB_r, nlB_n, nlB_f, nlB_q, ↓reduceIte, reduceCtorEq, Nat.reduceAdd, Nat.reduceSub, Nat.reduceEqDiff, Nat.reduceLeDiff, Nat.reduceBEq, ite_true, ite_false, dt_t, Bool.not_true, Bool.not_false, Bool.false_eq_true, Nat.le_refl, true_and, and_true, true_or, or_true, false_or, or_false, false_and, and_false, t10, f1, qLe]
      show K (decide (nI (5 * m) ≤ nI L - 5)) t = _
      simp only [hc]
    by_cases e : 5 * m + 5 ≤ L
    · left
      have hA : LwA t m xs L := ⟨t10, f1, f2, e, hL⟩
      obtain ⟨j, hj, ej⟩ := and63 (xs (5 * m))
      obtain ⟨t', n', hrun, hR', hK, q1, q2⟩ := law_at hR hA j hj
      obtain ⟨a1, a2, a3⟩ := hK.2 10 (by omega)
      have i1 : ib (nI (5 * m)) L = true := ib_nI (by omega) (by omega)
      have i2 := nI_cl (show 5 * m < 2147483648 by omega)
      have gs : ∀ {α : Type} (K : Value → pm_H → Option α), rE (eB f_iand (eAX (eLa 0) (eLi 3)) (eK (.int 63))) (lwE m) t K = K (.int (nI j)) t := fun K => by
        simp only [lwE, ↓rE_eK, ↓rE_eLi, ↓rE_eLj, ↓rE_eLa, ↓rE_eU, ↓rE_eB, ↓rE_eG, ↓rE_eIF, ↓rE_eAI, ↓rE_eAX, ↓rE_eAJ, ↓rE_eAR, ↓rE_eLen, ↓rE_eSI, ↓rE_eC, ↓rE_eCall, ↓rE_eNew, ↓rE_eNewA, ↓rE_eInst, ↓rC_cI, ↓rC_cZ0, ↓rC_cN, ↓rC_cNot, ↓rC_cAnd, ↓rC_cOr, ↓rA_aN, ↓rA_aC, ↓rS_sP, ↓rS_sUF, ↓rS_sAI, ↓rS_sAJ, ↓rS_sAR, ↓rS_sUA, ↓rS_sCall, ↓rS_sObj, ↓rS_sSi, ↓rS_sSa, ↓rS_sSj, ↓rS_sInc, ↓rS_sSkip, ↓rS_sSeq, ↓rS_sIf, ↓rS_sRetI, ↓rS_sRetJ, ↓rS_sRetA, ↓rS_sRetV, ↓rS_sSw, ↓rD_meth, ↓rD_on, ↓kR_ref, ↓kI_int, ↓kJ_long, ↓kN_null, ↓kN_ref, ↓kN_rf, ↓kQ_ref, ↓kQ_null, ↓kQ_rf, o1_i, o1ij_i, o1ji_i, o2_i, o2d_i, o2j_i, o2ji_i, o2c_i, fv_0, fv_1, fv_2, fv_3, pf_0, pf_2, pf_3, pf_4, rf_s, rf_n, is_self, ge_0, ge_s, ge_n, gd_s, gd_n, se_0, se_s, ag_0, ex_n, ex_i, ex_r, ex_0, ex_j, ex_q, ap_c, ap_n, List.append_nil, ln_c, ln_n, rp_0, rp_s, rt_0, rt_1, rt_20, rt_21, rt_2, rt_3, rt_4, rt_4n, rt_4q, nl_0, nl_1, nl_2, nl_3, nl_4, nl_5, nl_6, nl_7, nl_8, nl_9, nlB_i, nlB_r, nlB_n, nlB_f, nlB_q, ↓reduceIte, reduceCtorEq, Nat.reduceAdd, Nat.reduceSub, Nat.reduceEqDiff, Nat.reduceLeDiff, Nat.reduceBEq, ite_true, ite_false, dt_t, Bool.not_true, Bool.not_false, Bool.false_eq_true, Nat.le_refl, true_and, and_true, true_or, or_true, false_or, or_false, false_and, and_false, qEq, qNe, qLt, qGe, qGt, qLe, t10, f1, f2, i1, i2, ej]
      have gi : ∀ {α : Type} (kn : List Value → pm_H → Option α) (kr : Option Value → pm_H → Option α), rS (sInc 3 5) (lwE m) t' kn kr = kn (lwE (m + 1)) t' := fun kn kr => by
        have e5 : nI (5 * m) + 5 = nI (5 * (m + 1)) := (nI_ad (5 * m) 5).trans (by congr 1)
        simp only [lwE, ↓rE_eK, ↓rE_eLi, ↓rE_eLj, ↓rE_eLa, ↓rE_eU, ↓rE_eB, ↓rE_eG, ↓rE_eIF, ↓rE_eAI, ↓rE_eAX, ↓rE_eAJ, ↓rE_eAR, ↓rE_eLen, ↓rE_eSI, ↓rE_eC, ↓rE_eCall, ↓rE_eNew, ↓rE_eNewA, ↓rE_eInst, ↓rC_cI, ↓rC_cZ0, ↓rC_cN, ↓rC_cNot, ↓rC_cAnd, ↓rC_cOr, ↓rA_aN, ↓rA_aC, ↓rS_sP, ↓rS_sUF, ↓rS_sAI, ↓rS_sAJ, ↓rS_sAR, ↓rS_sUA, ↓rS_sCall, ↓rS_sObj, ↓rS_sSi, ↓rS_sSa, ↓rS_sSj, ↓rS_sInc, ↓rS_sSkip, ↓rS_sSeq, ↓rS_sIf, ↓rS_sRetI, ↓rS_sRetJ, ↓rS_sRetA, ↓rS_sRetV, ↓rS_sSw, ↓rD_meth, ↓rD_on, ↓kR_ref, ↓kI_int, ↓kJ_long, ↓kN_null, ↓kN_ref, ↓kN_rf, ↓kQ_ref, ↓kQ_null, ↓kQ_rf, o1_i, o1ij_i, o1ji_i, o2_i, o2d_i, o2j_i, o2ji_i, o2c_i, fv_0, fv_1, fv_2, fv_3, pf_0, pf_2, pf_3, pf_4, rf_s, rf_n, is_self, ge_0, ge_s, ge_n, gd_s, gd_n, se_0, se_s, ag_0, ex_n, ex_i, ex_r, ex_0, ex_j, ex_q, ap_c, ap_n, List.append_nil, ln_c, ln_n, rp_0, rp_s, rt_0, rt_1, rt_20, rt_21, rt_2, rt_3, rt_4, rt_4n, rt_4q, nl_0, nl_1, nl_2, nl_3, nl_4, nl_5, nl_6, nl_7, nl_8, nl_9, nlB_i, nlB_r, nlB_n, nlB_f, nlB_q, ↓reduceIte, reduceCtorEq, Nat.reduceAdd, Nat.reduceSub, Nat.reduceEqDiff, Nat.reduceLeDiff, Nat.reduceBEq, ite_true, ite_false, dt_t, Bool.not_true, Bool.not_false, Bool.false_eq_true, Nat.le_refl, true_and, and_true, true_or, or_true, false_or, or_false, false_and, and_false, qEq, qNe, qLt, qGe, qGt, qLe, e5]
      have w0 : m < 64 := by omega
      have w1 : pN t' ≤ 66 + 40 * (m + 1) := by omega
      have w2 : pS t' ≤ B + 400 * (m + 1) := by
        have e4 : 400 * (m + 1) = 400 * m + 400 := Nat.mul_succ 400 m
        rw [e4, ← Nat.add_assoc]
        exact Nat.le_trans q2 (Nat.add_le_add_right f4 400)
      refine ⟨lwE (m + 1), t', ?_, w0, rfl, ⟨n', hR'⟩, a2.trans f1, (a3 t10).trans f2, w1, w2⟩
      simp only [lpStep, law_b, ↓gc, e, decide_true, ↓reduceIte, ite_true, ↓rS_sSeq, ↓rS_sSw, ↓gs, ↓kI_int, ↓sw_j (show j < 100 by omega), ↓hrun, ↓gi]
    · right
      refine ⟨.inl (lwE m), t, ?_, _, rfl, by omega, by omega⟩
      simp only [lpStep, ↓gc, e, decide_false, Bool.false_eq_true, ↓reduceIte, ite_false]
  obtain ⟨r, t, h1, env, rfl, h2, h3⟩ := hl
  exact ⟨env, t, h1, h2, h3⟩
-- the start
def lsA : List (Nat × Nat × Nat × Nat) := lsC ++ lsM
theorem st_T : ∀ a, a < 66 → kT lsA 11 a (if a < 10 then 17 else if a = 10 then 18 else 99) = sh_t.getD a 0 := by decide +kernel
theorem st_L : ∀ a, a < 66 → a ≠ 10 → kLn lsA 11 a (if a < 10 then pm_len.getD a 0 else 0) = sh_l.getD a 0 := by decide +kernel
theorem st_R : ∀ q ∈ sh_r, kRf lsA 11 q.1 q.2.1 none = some q.2.2 := by decide +kernel
theorem st_r2 : kRf lsA 11 11 0 none = some 12 ∧ kRf lsA 11 11 1 none = none ∧ kRf lsA 11 12 0 none = some 13 ∧ kRf lsA 11 12 1 none = some 14 ∧ ∀ s, s < 4 → kRf lsA 11 32 s none = none ∧ kRf lsA 11 33 s none = none := by decide +kernel
theorem st_z : ∀ q ∈ [(27, 1), (35, 12), (11, 6), (35, 36), (29, 1), (35, 47), (35, 0), (35, 8), (35, 9), (12, 2), (12, 3), (35, 49), (18, 0), (16, 16)], kIn lsA 11 q.1 q.2 0 = 0 := by decide +kernel
theorem st_1 : kIn lsA 11 12 4 0 = 1 ∧ kIn lsA 11 35 10 0 = 1 := by decide +kernel
theorem st_m : ∀ s, s < 4 → kIn lsA 11 57 s 0 = -1 ∧ kIn lsA 11 60 s 0 = -1 ∧ kIn lsA 11 34 s 0 = -1 := by decide +kernel
theorem st_d : ∀ k, k < 64 → kIn lsA 11 14 k 0 = 0 := by decide +kernel
theorem st_N : kNN lsA 11 = 66 ∧ kSS lsA 0 ≤ 10000 := by decide +kernel
theorem kIn_old : ∀ (l : List (Nat × Nat × Nat × Nat)) (p a k : Nat) (d : Int32), a < p → (∀ q ∈ l, q.1 ≠ 0 → a < q.2.1) → kIn l p a k d = d := by
  intro l
  induction l with
  | nil => intro p a k d _ _; rfl
  | cons q l ih =>
    intro p a k d h hq
    have hl : ∀ q' ∈ l, q'.1 ≠ 0 → a < q'.2.1 := fun q' h' => hq q' (List.mem_cons_of_mem _ h')
    have hh := hq q List.mem_cons_self
    show (if q.1 = 0 then kIn l (p + 1) a k (if a = p then 0 else d) else if q.1 = 1 then kIn l p a k d else kIn l p a k (if a = q.2.1 ∧ k = q.2.2.1 then (if q.2.2.2 = 0 then -1 else 1) else d)) = d
    rw [if_neg (show ¬ a = p by omega), ih _ _ _ _ (show a < p + 1 by omega) hl, ih p a k d h hl]
    by_cases h0 : q.1 = 0
    · rw [if_pos h0]
    · rw [if_neg h0, if_neg (show ¬ (a = q.2.1 ∧ k = q.2.2.1) by have := hh h0; omega), ih p a k d h hl]
      by_cases h1 : q.1 = 1
      · rw [if_pos h1]
      · rw [if_neg h1]
theorem kLn_old : ∀ (l : List (Nat × Nat × Nat × Nat)) (p a d : Nat), a < p → kLn l p a d = d := by
  intro l
  induction l with
  | nil => intro p a d _; rfl
  | cons q l ih =>
    intro p a d h
    show (if q.1 = 0 then kLn l (p + 1) a (if a = p then q.2.2.1 else d) else kLn l p a d) = d
    rw [if_neg (show ¬ a = p by omega), ih _ _ _ (show a < p + 1 by omega), ih _ _ _ h]
    by_cases h0 : q.1 = 0
    · rw [if_pos h0]
    · rw [if_neg h0]
theorem st_o : ∀ q ∈ lsA, q.1 ≠ 0 → 10 < q.2.1 := by decide +kernel
theorem rel_start (L : Nat) (xs : Nat → Int32) : Rel (RkT (xs, L)) (ops lsA (lw_s0 L xs)) 0 ∧ pL (ops lsA (lw_s0 L xs)) 10 = L ∧ pI (ops lsA (lw_s0 L xs)) 10 = xs ∧ pN (ops lsA (lw_s0 L xs)) ≤ 66 ∧ pS (ops lsA (lw_s0 L xs)) ≤ 10000 := by
  obtain ⟨σ, eσ⟩ : ∃ σ, σ = lw_s0 L xs := ⟨_, rfl⟩
  have hN : pN σ = 11 := by rw [eσ]; rfl
  have hP : pS σ = 0 := by rw [eσ]; rfl
  have hT : ∀ a, pT σ a = if a < 10 then 17 else if a = 10 then 18 else 99 := fun a => by rw [eσ]; rfl
  have hLn : ∀ a, pL σ a = if a < 10 then pm_len.getD a 0 else if a = 10 then L else 0 := fun a => by rw [eσ]; rfl
  have hI : ∀ a j, pI σ a j = if a < 10 then (pm_byt.getD a []).getD j 0 else if a = 10 then xs j else 0 := fun a j => by rw [eσ]; rfl
  have hR : ∀ a j, pR σ a j = none := fun a j => by rw [eσ]; rfl
  rw [← eσ]
  obtain ⟨S, eS⟩ : ∃ S, S = ops lsA σ := ⟨_, rfl⟩
  rw [← eS]
  have gT : ∀ a, a < 66 → pT S a = sh_t.getD a 0 := fun a ha => by rw [eS, ops_T, hN, hT]; exact st_T a ha
  have gL : ∀ a, a ≠ 10 → a < 66 → pL S a = sh_l.getD a 0 := fun a hb ha => by
    rw [eS, ops_L, hN, hLn, if_neg hb]; exact st_L a ha hb
  have gR : ∀ a k, pR S a k = kRf lsA 11 a k none := fun a k => by rw [eS, ops_R, hN, hR]
  have gI : ∀ a k, 11 ≤ a → pI S a k = kIn lsA 11 a k 0 := fun a k ha => by rw [eS, ops_I, hN, hI, if_neg (by omega), if_neg (by omega)]
  have gO : ∀ a, a ≤ 10 → pI S a = pI σ a := fun a ha => funext fun k => by rw [eS, ops_I, hN, kIn_old _ _ _ _ _ (by omega) (fun q h1 h2 => by have := st_o q h1 h2; omega)]
  have gN : pN S = 66 := by rw [eS, ops_N, hN]; exact st_N.1
  have gS : pS S ≤ 10000 := by rw [eS, ops_S, hP]; exact st_N.2
  have g10 : pL S 10 = L := by rw [eS, ops_L, kLn_old _ _ _ _ (by omega), hLn, if_neg (by omega), if_pos rfl]
  have gxs : pI S 10 = xs := by rw [gO 10 (by omega)]; exact funext fun j => by rw [hI, if_neg (by omega), if_pos rfl]
  have hSh : Sh S := ⟨gT, gL, fun q hq => by rw [gR]; exact st_R q hq, by omega⟩
  have z : ∀ a k, 11 ≤ a → (a, k) ∈ [(27, 1), (35, 12), (11, 6), (35, 36), (29, 1), (35, 47), (35, 0), (35, 8), (35, 9), (12, 2), (12, 3), (35, 49), (18, 0), (16, 16)] → pI S a k = 0 := fun a k ha hm => by rw [gI a k ha]; exact st_z (a, k) hm
  obtain ⟨r1, r2, r3, r4, r5⟩ := st_r2
  have R1 : pR S 11 0 = some 12 := (gR _ _).trans r1
  have R2 : pR S 12 0 = some 13 := (gR _ _).trans r3
  have R3 : pR S 12 1 = some 14 := (gR _ _).trans r4
  have en : nowA S = 12 := by unfold nowA; rw [R1]; rfl
  have eP : vP S 12 = 13 := by unfold vP; rw [R2]; rfl
  have eD : vD S 12 = 14 := by unfold vD; rw [R3]; rfl
  have c0 : pI S 35 0 = 0 := z 35 0 (by decide) (by decide)
  have c8 : pI S 35 8 = 0 := z 35 8 (by decide) (by decide)
  have c9 : pI S 35 9 = 0 := z 35 9 (by decide) (by decide)
  have c10 : pI S 35 10 = 1 := by rw [gI 35 10 (by decide)]; exact st_1.2
  have hVR : VR S 12 (cur S) 0 := by
    refine ⟨⟨by decide, by rw [cu0, c0, nI_0], ⟨0, by decide, by rw [cu1, c8, nI_0], fun h => absurd h (by decide)⟩, fun i hi => absurd hi (by omega)⟩, ⟨sT_12 hSh, by rw [eP]; exact R2, by rw [eD]; exact R3, by rw [eP]; exact sT_13 hSh, by rw [eP]; exact gL 13 (by decide) (by decide), by rw [eD]; exact sT_14 hSh, by rw [eD]; exact gL 14 (by decide) (by decide)⟩, ⟨by rw [z 12 2 (by decide) (by decide), nI_0], by rw [z 12 3 (by decide) (by decide), cu2, c9], by rw [gI 12 4 (by decide), cu3, c10]; exact st_1.1⟩, fun i hi => absurd hi (by omega), fun a b ha hb => ?_, Or.inl rfl, by rw [eP]; exact Or.inl rfl, by rw [eD]; exact Or.inl rfl, fun i hi => absurd hi (by omega), by omega, by rw [eP]; omega, by rw [eD]; omega, fun i hi => absurd hi (by omega)⟩
    rw [eD, if_neg (by omega), gI 14 _ (by decide)]
    exact st_d _ (by omega)
  refine ⟨⟨hSh, ⟨0, by decide, by rw [z 27 1 (by decide) (by decide), nI_0], by rw [z 35 12 (by decide) (by decide), nI_0], fun j hj => absurd hj (by omega)⟩, ⟨0, by decide, by rw [z 11 6 (by decide) (by decide), nI_0], by rw [z 35 36 (by decide) (by decide), nI_0], fun j hj => absurd hj (by omega)⟩, ⟨0, by decide, by rw [z 29 1 (by decide) (by decide), nI_0], by rw [z 35 47 (by decide) (by decide), nI_0], fun j hj => absurd hj (by omega)⟩, ⟨fun s hs => Or.inl ⟨by rw [gI 57 s (by decide)]; exact (st_m s hs).1, (gR _ _).trans (r5 s hs).1⟩, fun s t ra rb hs ht e1 e2 _ => ?_⟩, fun s hs => Or.inl ⟨by rw [gI 60 s (by decide)]; exact (st_m s hs).2.1, by rw [gI 34 s (by decide)]; exact (st_m s hs).2.2, (gR _ _).trans (r5 s hs).2⟩, ⟨by rw [en]; exact R1, by rw [en]; exact hVR⟩, Or.inl ⟨z 35 49 (by decide) (by decide), (gR _ _).trans r2⟩, ?_, ?_, fun i hi => ?_, ?_, ?_⟩, g10, gxs, by omega, gS⟩
  · rw [gR, (r5 s hs).1] at e1; cases e1
  · show pI S 18 0 = 0; exact z 18 0 (by decide) (by decide)
  · left; show pI S 16 16 = 0; exact z 16 16 (by decide) (by decide)
  · unfold rkF
    rw [if_neg (by omega), if_pos (by omega), show 12 + i - 12 = i by omega, gO i (by omega)]
    exact funext fun j => by rw [hI, if_pos hi]; rfl
  · show pI S 10 = xs; exact gxs
  · show nI (pL S 10) = nI L; rw [g10]
