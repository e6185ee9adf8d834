/-! prove. -/
variable {Q : (Nat → Int32) × Nat}
def Wp (σ τ : pm_H) : Prop := Pl σ τ ∧ ∀ a k, ¬ (15 ≤ a ∧ a ≤ 26) → ¬ (49 ≤ a ∧ a ≤ 56) → a ≠ 31 → ¬ (a = 11 ∧ k = 6) → ¬ (a = 35 ∧ (k = 33 ∨ k = 34 ∨ k = 36)) → pI τ a k = pI σ a k
theorem Rel_wp {σ τ : pm_H} {n : Nat} (h : Rel (RkT Q) σ n) (hw : Wp σ τ) (hr : RowR τ) (hk : RkT Q (rkF τ)) : Rel (RkT Q) τ n := by
  have h' := h
  obtain ⟨q1, q2, q3, q4, q5, q6, -, -, q9⟩ := h'
  obtain ⟨⟨p1, p2, p3, p4, p5, p6⟩, hI⟩ := hw
  have hro : ∀ a, ¬ (15 ≤ a ∧ a ≤ 26) → ¬ (49 ≤ a ∧ a ≤ 56) → a ≠ 31 → a ≠ 11 → a ≠ 35 → pI τ a = pI σ a := fun a c1 c2 c3 c4 c5 => funext fun k => hI a k c1 c2 c3 (by omega) (by omega)
  have hrk : rowsKept σ τ := fun ra h1 _ _ => ⟨by rw [hro ra (by omega) (by omega) (by omega) (by omega) (by omega)], by rw [p3]⟩
  have hrj : ∀ a, pJ τ a = pJ σ a := fun a => by rw [p6]
  refine Rel_off h ⟨⟨by omega, fun a _ => by rw [p1], fun a _ => by rw [p2]⟩, ⟨by rw [p3], by rw [p3]⟩, fun a ha => ⟨hro a (by omega) (by omega) (by omega) (by omega) (by omega), by rw [p3]⟩, fun a ha => hro a (by omega) (by omega) (by omega) (by omega) (by omega), fun k hk => hI 35 k (by omega) (by omega) (by omega) (by omega) (by omega)⟩ (Pl_Sh ⟨p1, p2, p3, p4, p5, p6⟩ q1) (TapeR_fr q2 ?_ ?_ ?_ ?_) hr (TrR_fr q4 ?_ ?_ ?_ ?_) (SheetR_fr q5 (by omega) (fun a _ => by rw [p1]) (fun a _ => by rw [p2]) hrk (fun a _ => hrj a) ?_ ?_ (by rw [p3])) (ShelfR_fr q6 (by omega) (fun a _ => by rw [p1]) (fun a _ => by rw [p2]) hrk ?_ ?_ ?_ ?_ (by rw [p3])) hk
  · rw [hro 27 (by decide) (by decide) (by decide) (by decide) (by decide)]
  · exact hI 35 12 (by omega) (by omega) (by omega) (by omega) (by omega)
  · exact hro 28 (by decide) (by decide) (by decide) (by decide) (by decide)
  · exact hro 43 (by decide) (by decide) (by decide) (by decide) (by decide)
  · rw [hro 29 (by decide) (by decide) (by decide) (by decide) (by decide)]
  · exact hI 35 47 (by omega) (by omega) (by omega) (by omega) (by omega)
  · exact hro 30 (by decide) (by decide) (by decide) (by decide) (by decide)
  · exact hro 63 (by decide) (by decide) (by decide) (by decide) (by decide)
  · exact hro 57 (by decide) (by decide) (by decide) (by decide) (by decide)
  · exact hro 58 (by decide) (by decide) (by decide) (by decide) (by decide)
  · exact hro 60 (by decide) (by decide) (by decide) (by decide) (by decide)
  · exact hro 61 (by decide) (by decide) (by decide) (by decide) (by decide)
  · exact hro 62 (by decide) (by decide) (by decide) (by decide) (by decide)
  · exact hro 34 (by decide) (by decide) (by decide) (by decide) (by decide)
def mlF (ln : Nat → Nat) (m0 : Int32) : Nat → Int32
  | 0 => m0
  | k + 1 => mlF ln m0 k + nI (ln k)
def R3 (sg wf : Nat → Nat) (ml : Nat → Int32) (c k : Nat) (u : pm_H) : Prop := ∀ j, j < k → pI u c (3 * j) = nI (sg j) ∧ pI u c (3 * j + 1) = nI (wf j) ∧ pI u c (3 * j + 2) = ml (j + 1)
def rw3 (u : pm_H) (c k : Nat) (x y z : Int32) : pm_H := uI (uI (uI u c (3 * k) x) c (3 * k + 1) y) c (3 * k + 2) z
theorem R3_step {sg wf : Nat → Nat} {ml : Nat → Int32} {c k : Nat} {u : pm_H} (h : R3 sg wf ml c k u) : R3 sg wf ml c (k + 1) (rw3 u c k (nI (sg k)) (nI (wf k)) (ml (k + 1))) := fun j hj => by
  unfold rw3
  by_cases e : j = k
  · subst e
    refine ⟨?_, ?_, ?_⟩
    · rw [pI_uI_nek _ _ _ _ (by omega), pI_uI_nek _ _ _ _ (by omega), pI_uI_at]
    · rw [pI_uI_nek _ _ _ _ (by omega), pI_uI_at]
    · rw [pI_uI_at]
  · rw [pI_uI_nek _ _ _ _ (by omega), pI_uI_nek _ _ _ _ (by omega), pI_uI_nek _ _ _ _ (by omega), pI_uI_nek _ _ _ _ (by omega), pI_uI_nek _ _ _ _ (by omega), pI_uI_nek _ _ _ _ (by omega), pI_uI_nek _ _ _ _ (by omega), pI_uI_nek _ _ _ _ (by omega), pI_uI_nek _ _ _ _ (by omega)]
    exact h j (by omega)
theorem ix3_0 (k : Nat) : (3 : Int32) * nI k = nI (3 * k) := nI_ml 3 k
theorem ix3_2 (k : Nat) : nI k + 2 = nI (k + 2) := nI_ad k 2
theorem step_prove {σ : pm_H} {n : Nat} (h : Rel (RkT Q) σ n) : Step (RkT Q) D_X11_prove D_X12_prove [] σ := by
  have hS := Rel_Sh h
  have hv := Rel_VR h
  have hr := Rel_nr h
  have hn := Rel_n h
  have h8 := Rel_8 h
  have hm := VR_mOk hv
  have h10 : ((1 : Int32) = 0) = False := eq_false (by decide)
  obtain ⟨A, hA, eA, -⟩ := VR_A hv
  have hA8 := Nat.lt_of_lt_of_le hA (p2n h8)
  obtain ⟨s, t, m, K, f, d1, hm6, d2, ⟨d3, d4, d5⟩, d6, d7, d8⟩ := pl_all h hA eA
  have hss := Fr_Sh (OC_Fr d2) hS
  have hst := Fr_Sh (OC_Fr d3) hS
  have hnt : pI t 35 0 = nI n := by rw [d3.2 35 (by omega)]; exact hn
  have e8 : pI t 35 8 = nI A := by rw [d3.2 35 (by omega)]; exact eA
  by_cases cm : m = 1000000
  · have hts := d6 cm
    subst hts
    obtain ⟨τ, f1, -, f3, f4⟩ := d8 t hst hnt (Fr_cur (OC_Fr d3)) e8
    obtain ⟨r1, r2, r3⟩ := fin_q h d3 d4 d5 f1
    rw [if_pos cm] at d1
    refine ⟨-3, t, τ, n, ?_, ?_, r1, by omega, by omega⟩
    · refine rD_un.trans ?_
      simp only [D_X11_prove, B_X11_prove, ↓rE_eK, ↓rE_eLi, ↓rE_eLj, ↓rE_eLa, ↓rE_eU, ↓rE_eB, ↓rE_eG, ↓rE_eIF, ↓rE_eAI, ↓rE_eAX, ↓rE_eAJ, ↓rE_eAR, ↓rE_eLen, ↓rE_eSI, ↓rE_eC, ↓rE_eCall, ↓rE_eNew, ↓rE_eNewA, ↓rE_eInst, ↓rC_cI, ↓rC_cZ0, ↓rC_cN, ↓rC_cNot, ↓rC_cAnd, ↓rC_cOr, ↓rA_aN, ↓rA_aC, ↓rS_sP, ↓rS_sUF, ↓rS_sAI, ↓rS_sAJ, ↓rS_sAR, ↓rS_sUA, ↓rS_sCall, ↓rS_sObj, ↓rS_sSi, ↓rS_sSa, ↓rS_sSj, ↓rS_sInc, ↓rS_sSkip, ↓rS_sSeq, ↓rS_sIf, ↓rS_sRetI, ↓rS_sRetJ, ↓rS_sRetA, ↓rS_sRetV, ↓rS_sSw, ↓rD_meth, ↓rD_on, ↓kR_ref, ↓kI_int, ↓kJ_long, ↓kN_null, ↓kN_ref, ↓kN_rf, ↓kQ_ref, ↓kQ_null, ↓kQ_rf, o1_i, o1ij_i, o1ji_i, o2_i, o2d_i, o2j_i, o2ji_i, o2c_i, fv_0, fv_1, fv_2, fv_3, pf_0, pf_2, pf_3, pf_4, rf_s, rf_n, is_self, ge_0, ge_s, ge_n, gd_s, gd_n, se_0, se_s, ag_0, ex_n, ex_i, ex_r, ex_0, ex_j, ex_q, ap_c, ap_n, List.append_nil, ln_c, ln_n, rp_0, rp_s, rt_0, rt_1, rt_20, rt_21, rt_2, rt_3, rt_4, rt_4n, rt_4q, nl_0, nl_1, nl_2, nl_3, nl_4, nl_5, nl_6, nl_7, nl_8, nl_9, nlB_i, nlB_r, nlB_n, nlB_f, nlB_q, ↓reduceIte, reduceCtorEq, Nat.reduceAdd, Nat.reduceSub, Nat.reduceEqDiff, Nat.reduceLeDiff, Nat.reduceBEq, ite_true, ite_false, dt_t, Bool.not_true, Bool.not_false, Bool.false_eq_true, Nat.le_refl, true_and, and_true, true_or, or_true, false_or, or_false, false_and, and_false, qEq, qNe, qLt, qGe, qGt, qLe, rD_tb1 (sT_11 hS), rD_of d1]
    · refine rD_un.trans ?_
      simp only [D_X12_prove, B_X12_prove, ↓rE_eK, ↓rE_eLi, ↓rE_eLj, ↓rE_eLa, ↓rE_eU, ↓rE_eB, ↓rE_eG, ↓rE_eIF, ↓rE_eAI, ↓rE_eAX, ↓rE_eAJ, ↓rE_eAR, ↓rE_eLen, ↓rE_eSI, ↓rE_eC, ↓rE_eCall, ↓rE_eNew, ↓rE_eNewA, ↓rE_eInst, ↓rC_cI, ↓rC_cZ0, ↓rC_cN, ↓rC_cNot, ↓rC_cAnd, ↓rC_cOr, ↓rA_aN, ↓rA_aC, ↓rS_sP, ↓rS_sUF, ↓rS_sAI, ↓rS_sAJ, ↓rS_sAR, ↓rS_sUA, ↓rS_sCall, ↓rS_sObj, ↓rS_sSi, ↓rS_sSa, ↓rS_sSj, ↓rS_sInc, ↓rS_sSkip, ↓rS_sSeq, ↓rS_sIf, ↓rS_sRetI, ↓rS_sRetJ, ↓rS_sRetA, ↓rS_sRetV, ↓rS_sSw, ↓rD_meth, ↓rD_on, ↓kR_ref, ↓kI_int, ↓kJ_long, ↓kN_null, ↓kN_ref, ↓kN_rf, ↓kQ_ref, ↓kQ_null, ↓kQ_rf, o1_i, o1ij_i, o1ji_i, o2_i, o2d_i, o2j_i, o2ji_i, o2c_i, fv_0, fv_1, fv_2, fv_3, pf_0, pf_2, pf_3, pf_4, rf_s, rf_n, is_self, ge_0, ge_s, ge_n, gd_s, gd_n, se_0, se_s, ag_0, ex_n, ex_i, ex_r, ex_0, ex_j, ex_q, ap_c, ap_n, List.append_nil, ln_c, ln_n, rp_0, rp_s, rt_0, rt_1, rt_20, rt_21, rt_2, rt_3, rt_4, rt_4n, rt_4q, nl_0, nl_1, nl_2, nl_3, nl_4, nl_5, nl_6, nl_7, nl_8, nl_9, nlB_i, nlB_r, nlB_n, nlB_f, nlB_q, ↓reduceIte, reduceCtorEq, Nat.reduceAdd, Nat.reduceSub, Nat.reduceEqDiff, Nat.reduceLeDiff, Nat.reduceBEq, ite_true, ite_false, dt_t, Bool.not_true, Bool.not_false, Bool.false_eq_true, Nat.le_refl, true_and, and_true, true_or, or_true, false_or, or_false, false_and, and_false, qEq, qNe, qLt, qGe, qGt, qLe, rD_tb1 (sT_35 hst), rD_of (f3 cm), nt_t, not_true, not_false_eq_true]
  · have cm' : m < 1000000 := by omega
    rw [if_neg cm] at d1
    have hx3 := nI_x3 cm'
    obtain ⟨p1, p2, p3, p4, p5, p6, p7, p8⟩ := d7 cm'
    obtain ⟨sg, esg⟩ : ∃ sg : Nat → Nat, sg = fun j => fsG (f (ps f A j)) := ⟨_, rfl⟩
    obtain ⟨wf, ewf⟩ : ∃ wf : Nat → Nat, wf = fun j => fwG (f (ps f A j)) (fsG (f (ps f A j))) := ⟨_, rfl⟩
    have p5' : ∀ j, j < K → pI t 25 j = nI (sg j) ∧ pI t 26 j = nI (wf j) := fun j hj => by rw [esg, ewf]; exact p5 j hj
    have p8' : ∀ j, j < K → 0 < wf j ∧ sub (wf j) A ∧ 0 < lnR (cur σ) n (wf j) := fun j hj => by rw [ewf]; exact p8 j hj
    obtain ⟨ml, eml⟩ : ∃ ml, ml = mlF (fun j => lnR (cur σ) n (wf j)) (cur σ 2) := ⟨_, rfl⟩
    have ml1 : ∀ j, ml j + nI (lnR (cur σ) n (wf j)) = ml (j + 1) := fun j => by rw [eml]; rfl
    have ml0 : ml 0 = cur σ 2 := by rw [eml]; rfl
    have hvt := Fr_VR (OC_Fr d3) hv
    have hlc : ∃ q u, sLoop (cI qLt (eLi 2) (eG (is 3) 0 14 (eG (is 11) 3 2 (eLa 0)))) (sSeq (sSeq (sSi 1 (eB f_iadd (eLi 1) (eCall (pm_disp (tb1 10 D_X10_neededBy)) (aC (eG (is 11) 3 0 (eLa 0)) (aC (eAI (eG (is 3) 3 13 (eG (is 11) 3 2 (eLa 0))) (eLi 2)) (aN)))))) (sSeq (sAI (eG (is 11) 3 5 (eLa 0)) (eB f_imul (eK (.int 3)) (eLi 2)) (eAI (eG (is 3) 3 12 (eG (is 11) 3 2 (eLa 0))) (eLi 2))) (sSeq (sAI (eG (is 11) 3 5 (eLa 0)) (eB f_iadd (eB f_imul (eK (.int 3)) (eLi 2)) (eK (.int 1))) (eAI (eG (is 3) 3 13 (eG (is 11) 3 2 (eLa 0))) (eLi 2))) (sAI (eG (is 11) 3 5 (eLa 0)) (eB f_iadd (eB f_imul (eK (.int 3)) (eLi 2)) (eK (.int 2))) (eLi 1))))) (sInc 2 1)) [.ref 11, .int (cur σ 2), .int 0] t = some (q, u) ∧ ((Pl t u ∧ ∀ a, a ≠ 31 → pI u a = pI t a) ∧ R3 sg wf ml 31 K u ∧ ∃ x y, q = .inl [.ref 11, x, y]) := by
      refine loop_gen (fun k env u => (Pl t u ∧ ∀ a, a ≠ 31 → pI u a = pI t a) ∧ R3 sg wf ml 31 k u ∧ env = [.ref 11, .int (ml k), .int (nI k)]) _ K (by omega) ⟨⟨⟨rfl, rfl, rfl, rfl, rfl, rfl⟩, fun _ _ => rfl⟩, fun j hj => by omega, by rw [nI_0, ml0]⟩ ?_
      rintro k env u hk ⟨⟨hP, hu⟩, h3, rfl⟩
      have hsu := Pl_Sh hP hst
      have h14 : pI u 15 14 = nI K := by rw [hu 15 (by decide)]; exact p3
      have hlt : (nI k < nI K) = (k < K) := nI_lt' (by omega) (by omega)
      have hru : pR u 11 0 = some (nowA σ) := by rw [hP.2.2.1, d3.1.2.2.1]; exact hr
      by_cases e : k < K
      · left
        obtain ⟨w1, w2, w3⟩ := p8' k e
        have hW8 : wf k < 256 := by have := sub_le w2; omega
        have hvu : VR u (nowA σ) (cur σ) n := (VR_fr hvt (by rw [hP.2.2.2.1]; exact Nat.le_refl _) (fun a _ => by rw [hP.1]) (fun a _ => by rw [hP.2.1]) (fun a ha => ⟨hu a (by have := fp_off hvt ha; omega), by rw [hP.2.2.1]⟩)).1
        have hne := d_neededBy hvu hW8
        have hln : (if 1 < pc (wf k) ∧ df (cur σ) (wf k) n = true then 0 else mx (cur σ) (wf k) n) = lnR (cur σ) n (wf k) := by
          unfold lnR at w3 ⊢
          by_cases c : wf k = 0 ∨ 3 < pc (wf k) ∨ (df (cur σ) (wf k) n = true ∧ 1 < pc (wf k))
          · rw [if_pos c] at w3; omega
          · rw [if_neg c, if_neg (fun q => c (Or.inr (Or.inr ⟨q.2, q.1⟩)))]
        rw [hln] at hne
        have bk := ib_nI (show k < 8 by omega) (show (8 : Nat) ≤ 1000000 by decide)
        have ck := nI_cl (show k < 2147483648 by omega)
        have b0 := ib_nI (show 3 * k < 24 by omega) (show (24 : Nat) ≤ 1000000 by decide)
        have c0 := nI_cl (show 3 * k < 2147483648 by omega)
        have b1 := ib_nI (show 3 * k + 1 < 24 by omega) (show (24 : Nat) ≤ 1000000 by decide)
        have c1 := nI_cl (show 3 * k + 1 < 2147483648 by omega)
        have b2 := ib_nI (show 3 * k + 2 < 24 by omega) (show (24 : Nat) ≤ 1000000 by decide)
        have c2 := nI_cl (show 3 * k + 2 < 2147483648 by omega)
        have u25 : pI u 25 k = nI (sg k) := by rw [hu 25 (by decide)]; exact (p5' k e).1
        have u26 : pI u 26 k = nI (wf k) := by rw [hu 26 (by decide)]; exact (p5' k e).2
        have u26' : pI (uI u 31 (3 * k) (nI (sg k))) 26 k = nI (wf k) := by rw [pI_uI_ne _ _ _ (by decide)]; exact u26
        refine ⟨[.ref 11, .int (ml (k + 1)), .int (nI (k + 1))], rw3 u 31 k (nI (sg k)) (nI (wf k)) (ml (k + 1)), ?_, e, ⟨hP, fun a q => ?_⟩, R3_step h3, rfl⟩
        · simp only [lpStep, ↓rE_eK, ↓rE_eLi, ↓rE_eLj, ↓rE_eLa, ↓rE_eU, ↓rE_eB, ↓rE_eG, ↓rE_eIF, ↓rE_eAI, ↓rE_eAX, ↓rE_eAJ, ↓rE_eAR, ↓rE_eLen, ↓rE_eSI, ↓rE_eC, ↓rE_eCall, ↓rE_eNew, ↓rE_eNewA, ↓rE_eInst, ↓rC_cI, ↓rC_cZ0, ↓rC_cN, ↓rC_cNot, ↓rC_cAnd, ↓rC_cOr, ↓rA_aN, ↓rA_aC, ↓rS_sP, ↓rS_sUF, ↓rS_sAI, ↓rS_sAJ, ↓rS_sAR, ↓rS_sUA, ↓rS_sCall, ↓rS_sObj, ↓rS_sSi, ↓rS_sSa, ↓rS_sSj, ↓rS_sInc, ↓rS_sSkip, ↓rS_sSeq, ↓rS_sIf, ↓rS_sRetI, ↓rS_sRetJ, ↓rS_sRetA, ↓rS_sRetV, ↓rS_sSw, ↓rD_meth, ↓rD_on, ↓kR_ref, ↓kI_int, ↓kJ_long, ↓kN_null, ↓kN_ref, ↓kN_rf, ↓kQ_ref, ↓kQ_null, ↓kQ_rf, o1_i, o1ij_i, o1ji_i, o2_i, o2d_i, o2j_i, o2ji_i, o2c_i, fv_0, fv_1, fv_2, fv_3, pf_0, pf_2, pf_3, pf_4, rf_s, rf_n, is_self, ge_0, ge_s, ge_n, gd_s, gd_n, se_0, se_s, ag_0, ex_n, ex_i, ex_r, ex_0, ex_j, ex_q, ap_c, ap_n, List.append_nil, ln_c, ln_n, rp_0, rp_s, rt_0, rt_1, rt_20, rt_21, rt_2, rt_3, rt_4, rt_4n, rt_4q, nl_0, nl_1, nl_2, nl_3, nl_4, nl_5, nl_6, nl_7, nl_8, nl_9, nlB_i, nlB_r, nlB_n, nlB_f, nlB_q, ↓reduceIte, reduceCtorEq, Nat.reduceAdd, Nat.reduceSub, Nat.reduceEqDiff, Nat.reduceLeDiff, Nat.reduceBEq, ite_true, ite_false, dt_t, Bool.not_true, Bool.not_false, Bool.false_eq_true, Nat.le_refl, true_and, and_true, true_or, or_true, false_or, or_false, false_and, and_false, qEq, qNe, qLt, qGe, qGt, qLe, sT_11 hsu, sT_12 hsu, sT_13 hsu, sT_14 hsu, sT_15 hsu, sT_16 hsu, sT_17 hsu, sT_18 hsu, sT_19 hsu, sT_20 hsu, sT_21 hsu, sT_22 hsu, sT_23 hsu, sT_24 hsu, sT_25 hsu, sT_26 hsu, sT_27 hsu, sT_28 hsu, sT_29 hsu, sT_30 hsu, sT_31 hsu, sT_32 hsu, sT_33 hsu, sT_34 hsu, sL_13 hsu, sL_14 hsu, sL_16 hsu, sL_17 hsu, sL_18 hsu, sL_19 hsu, sL_20 hsu, sL_21 hsu, sL_22 hsu, sL_23 hsu, sL_24 hsu, sL_25 hsu, sL_26 hsu, sL_28 hsu, sL_30 hsu, sL_31 hsu, sL_32 hsu, sL_33 hsu, sL_34 hsu, sR_11_2 hsu, sR_11_3 hsu, sR_11_4 hsu, sR_11_5 hsu, sR_11_7 hsu, sR_11_8 hsu, sR_11_9 hsu, sR_27_0 hsu, sR_29_0 hsu, sR_15_0 hsu, sR_15_3 hsu, sR_15_5 hsu, sR_15_6 hsu, sR_15_7 hsu, sR_15_8 hsu, sR_15_9 hsu, sR_15_10 hsu, sR_15_11 hsu, sR_15_12 hsu, sR_15_13 hsu, h14, hlt, e, hru, bk, ck, u26, rD_tb1 (VR_T hvu), rD_of hne, ml1, ix3_0, u25, b0, c0, pT_uI, pL_uI, pR_uI, u26', nI_1, b1, c1, ix3_2, b2, c2, rw3]
        · unfold rw3
          rw [pI_uI_ne _ _ _ q, pI_uI_ne _ _ _ q, pI_uI_ne _ _ _ q]; exact hu a q
      · right
        have ek : k = K := by omega
        subst ek
        refine ⟨.inl [.ref 11, .int (ml k), .int (nI k)], u, ?_, ⟨hP, hu⟩, h3, _, _, rfl⟩
        simp only [lpStep, ↓rE_eK, ↓rE_eLi, ↓rE_eLj, ↓rE_eLa, ↓rE_eU, ↓rE_eB, ↓rE_eG, ↓rE_eIF, ↓rE_eAI, ↓rE_eAX, ↓rE_eAJ, ↓rE_eAR, ↓rE_eLen, ↓rE_eSI, ↓rE_eC, ↓rE_eCall, ↓rE_eNew, ↓rE_eNewA, ↓rE_eInst, ↓rC_cI, ↓rC_cZ0, ↓rC_cN, ↓rC_cNot, ↓rC_cAnd, ↓rC_cOr, ↓rA_aN, ↓rA_aC, ↓rS_sP, ↓rS_sUF, ↓rS_sAI, ↓rS_sAJ, ↓rS_sAR, ↓rS_sUA, ↓rS_sCall, ↓rS_sObj, ↓rS_sSi, ↓rS_sSa, ↓rS_sSj, ↓rS_sInc, ↓rS_sSkip, ↓rS_sSeq, ↓rS_sIf, ↓rS_sRetI, ↓rS_sRetJ, ↓rS_sRetA, ↓rS_sRetV, ↓rS_sSw, ↓rD_meth, ↓rD_on, ↓kR_ref, ↓kI_int, ↓kJ_long, ↓kN_null, ↓kN_ref, ↓kN_rf, ↓kQ_ref, ↓kQ_null, ↓kQ_rf, o1_i, o1ij_i, o1ji_i, o2_i, o2d_i, o2j_i, o2ji_i, o2c_i, fv_0, fv_1, fv_2, fv_3, pf_0, pf_2, pf_3, pf_4, rf_s, rf_n, is_self, ge_0, ge_s, ge_n, gd_s, gd_n, se_0, se_s, ag_0, ex_n, ex_i, ex_r, ex_0, ex_j, ex_q, ap_c, ap_n, List.append_nil, ln_c, ln_n, rp_0, rp_s, rt_0, rt_1, rt_20, rt_21, rt_2, rt_3, rt_4, rt_4n, rt_4q, nl_0, nl_1, nl_2, nl_3, nl_4, nl_5, nl_6, nl_7, nl_8, nl_9, nlB_i, nlB_r, nlB_n, nlB_f, nlB_q, ↓reduceIte, reduceCtorEq, Nat.reduceAdd, Nat.reduceSub, Nat.reduceEqDiff, Nat.reduceLeDiff, Nat.reduceBEq, ite_true, ite_false, dt_t, Bool.not_true, Bool.not_false, Bool.false_eq_true, Nat.le_refl, true_and, and_true, true_or, or_true, false_or, or_false, false_and, and_false, qEq, qNe, qLt, qGe, qGt, qLe, sT_11 hsu, sT_12 hsu, sT_13 hsu, sT_14 hsu, sT_15 hsu, sT_16 hsu, sT_17 hsu, sT_18 hsu, sT_19 hsu, sT_20 hsu, sT_21 hsu, sT_22 hsu, sT_23 hsu, sT_24 hsu, sT_25 hsu, sT_26 hsu, sT_27 hsu, sT_28 hsu, sT_29 hsu, sT_30 hsu, sT_31 hsu, sT_32 hsu, sT_33 hsu, sT_34 hsu, sL_13 hsu, sL_14 hsu, sL_16 hsu, sL_17 hsu, sL_18 hsu, sL_19 hsu, sL_20 hsu, sL_21 hsu, sL_22 hsu, sL_23 hsu, sL_24 hsu, sL_25 hsu, sL_26 hsu, sL_28 hsu, sL_30 hsu, sL_31 hsu, sL_32 hsu, sL_33 hsu, sL_34 hsu, sR_11_2 hsu, sR_11_3 hsu, sR_11_4 hsu, sR_11_5 hsu, sR_11_7 hsu, sR_11_8 hsu, sR_11_9 hsu, sR_27_0 hsu, sR_29_0 hsu, sR_15_0 hsu, sR_15_3 hsu, sR_15_5 hsu, sR_15_6 hsu, sR_15_7 hsu, sR_15_8 hsu, sR_15_9 hsu, sR_15_10 hsu, sR_15_11 hsu, sR_15_12 hsu, sR_15_13 hsu, h14, Int32.lt_irrefl]
    obtain ⟨q, u, l1, ⟨hP, hu⟩, h3, x, y, rfl⟩ := hlc
    have hsu := Pl_Sh hP hst
    have h14 : pI u 15 14 = nI K := by rw [hu 15 (by decide)]; exact p3
    have hsu' : Sh (uI u 11 6 (nI K)) := hsu
    have hu' : ∀ a, a ≠ 31 → a ≠ 11 → pI (uI u 11 6 (nI K)) a = pI t a := fun a q1 q2 => by rw [pI_uI_ne _ _ _ q2]; exact hu a q1
    have hcu : cur (uI u 11 6 (nI K)) = cur σ := by
      have e35 := hu' 35 (by decide) (by decide)
      rw [cur_fr (σ := t) (by rw [e35]) (by rw [e35]) (by rw [e35]) (by rw [e35]) (fun a q1 q2 => hu' a (by omega) (by omega))]
      exact Fr_cur (OC_Fr d3)
    obtain ⟨τ, f1, f2, -, f4⟩ := d8 (uI u 11 6 (nI K)) hsu' (by rw [hu' 35 (by decide) (by decide)]; exact hnt) hcu (by rw [hu' 35 (by decide) (by decide)]; exact e8)
    obtain ⟨g1, g2, g3, g4⟩ := f4 cm'
    have g4' : ∀ j, j < K → pI τ 54 j = nI (sg j) ∧ pI τ 55 j = nI (wf j) := fun j hj => by rw [esg, ewf]; exact g4 j hj
    have hsτ := Fr_Sh (OD_Fr f1) hsu'
    have hsτ' : Sh (uI τ 35 36 (nI K)) := hsτ
    have hlm : ∃ q v, sLoop (cI qLt (eLi 2) (eG (is 12) 0 33 (eLa 0))) (sSeq (sSeq (sSi 1 (eB f_iadd (eLi 1) (eAI (eG (is 12) 3 26 (eLa 0)) (eAI (eG (is 12) 3 32 (eLa 0)) (eLi 2))))) (sSeq (sAI (eG (is 12) 3 35 (eLa 0)) (eB f_imul (eK (.int 3)) (eLi 2)) (eAI (eG (is 12) 3 31 (eLa 0)) (eLi 2))) (sSeq (sAI (eG (is 12) 3 35 (eLa 0)) (eB f_iadd (eB f_imul (eK (.int 3)) (eLi 2)) (eK (.int 1))) (eAI (eG (is 12) 3 32 (eLa 0)) (eLi 2))) (sAI (eG (is 12) 3 35 (eLa 0)) (eB f_iadd (eB f_imul (eK (.int 3)) (eLi 2)) (eK (.int 2))) (eLi 1))))) (sInc 2 1)) [.ref 35, .int (cur σ 2), .int 0] (uI τ 35 36 (nI K)) = some (q, v) ∧ ((Pl τ v ∧ ∀ a, a ≠ 56 → pI v a = pI (uI τ 35 36 (nI K)) a) ∧ R3 sg wf ml 56 K v ∧ ∃ x y, q = .inl [.ref 35, x, y]) := by
      refine loop_gen (fun k env v => (Pl τ v ∧ ∀ a, a ≠ 56 → pI v a = pI (uI τ 35 36 (nI K)) a) ∧ R3 sg wf ml 56 k v ∧ env = [.ref 35, .int (ml k), .int (nI k)]) _ K (by omega) ⟨⟨⟨rfl, rfl, rfl, rfl, rfl, rfl⟩, fun _ _ => rfl⟩, fun j hj => by omega, by rw [nI_0, ml0]⟩ ?_
      rintro k env v hk ⟨⟨hPv, hv'⟩, h3', rfl⟩
      have hsv := Pl_Sh hPv hsτ
      have h33 : pI v 35 33 = nI K := by rw [hv' 35 (by decide), pI_uI_nek _ _ _ _ (by decide)]; exact g2
      have hlt : (nI k < nI K) = (k < K) := nI_lt' (by omega) (by omega)
      by_cases e : k < K
      · left
        obtain ⟨w1, w2, w3⟩ := p8' k e
        have hWn : wf k < 2 ^ n := by have := sub_le w2; omega
        have hW8 : wf k < 256 := by have := sub_le w2; omega
        have v49 : pI v 49 (wf k) = nI (lnR (cur σ) n (wf k)) := by rw [hv' 49 (by decide), pI_uI_ne _ _ _ (by decide), f2 _ hWn, lnI_nI w3]
        have bW := ib_nI hW8 (show (256 : Nat) ≤ 1000000 by decide)
        have cW := nI_cl (show wf k < 2147483648 by omega)
        have bk := ib_nI (show k < 8 by omega) (show (8 : Nat) ≤ 1000000 by decide)
        have ck := nI_cl (show k < 2147483648 by omega)
        have b0 := ib_nI (show 3 * k < 24 by omega) (show (24 : Nat) ≤ 1000000 by decide)
        have c0 := nI_cl (show 3 * k < 2147483648 by omega)
        have b1 := ib_nI (show 3 * k + 1 < 24 by omega) (show (24 : Nat) ≤ 1000000 by decide)
        have c1 := nI_cl (show 3 * k + 1 < 2147483648 by omega)
        have b2 := ib_nI (show 3 * k + 2 < 24 by omega) (show (24 : Nat) ≤ 1000000 by decide)
        have c2 := nI_cl (show 3 * k + 2 < 2147483648 by omega)
        have u25 : pI v 54 k = nI (sg k) := by rw [hv' 54 (by decide), pI_uI_ne _ _ _ (by decide)]; exact (g4' k e).1
        have u26 : pI v 55 k = nI (wf k) := by rw [hv' 55 (by decide), pI_uI_ne _ _ _ (by decide)]; exact (g4' k e).2
        have u26' : pI (uI v 56 (3 * k) (nI (sg k))) 55 k = nI (wf k) := by rw [pI_uI_ne _ _ _ (by decide)]; exact u26
        refine ⟨[.ref 35, .int (ml (k + 1)), .int (nI (k + 1))], rw3 v 56 k (nI (sg k)) (nI (wf k)) (ml (k + 1)), ?_, e, ⟨hPv, fun a q => ?_⟩, R3_step h3', rfl⟩
        · simp only [lpStep, ↓rE_eK, ↓rE_eLi, ↓rE_eLj, ↓rE_eLa, ↓rE_eU, ↓rE_eB, ↓rE_eG, ↓rE_eIF, ↓rE_eAI, ↓rE_eAX, ↓rE_eAJ, ↓rE_eAR, ↓rE_eLen, ↓rE_eSI, ↓rE_eC, ↓rE_eCall, ↓rE_eNew, ↓rE_eNewA, ↓rE_eInst, ↓rC_cI, ↓rC_cZ0, ↓rC_cN, ↓rC_cNot, ↓rC_cAnd, ↓rC_cOr, ↓rA_aN, ↓rA_aC, ↓rS_sP, ↓rS_sUF, ↓rS_sAI, ↓rS_sAJ, ↓rS_sAR, ↓rS_sUA, ↓rS_sCall, ↓rS_sObj, ↓rS_sSi, ↓rS_sSa, ↓rS_sSj, ↓rS_sInc, ↓rS_sSkip, ↓rS_sSeq, ↓rS_sIf, ↓rS_sRetI, ↓rS_sRetJ, ↓rS_sRetA, ↓rS_sRetV, ↓rS_sSw, ↓rD_meth, ↓rD_on, ↓kR_ref, ↓kI_int, ↓kJ_long, ↓kN_null, ↓kN_ref, ↓kN_rf, ↓kQ_ref, ↓kQ_null, ↓kQ_rf, o1_i, o1ij_i, o1ji_i, o2_i, o2d_i, o2j_i, o2ji_i, o2c_i, fv_0, fv_1, fv_2, fv_3, pf_0, pf_2, pf_3, pf_4, rf_s, rf_n, is_self, ge_0, ge_s, ge_n, gd_s, gd_n, se_0, se_s, ag_0, ex_n, ex_i, ex_r, ex_0, ex_j, ex_q, ap_c, ap_n, List.append_nil, ln_c, ln_n, rp_0, rp_s, rt_0, rt_1, rt_20, rt_21, rt_2, rt_3, rt_4, rt_4n, rt_4q, nl_0, nl_1, nl_2, nl_3, nl_4, nl_5, nl_6, nl_7, nl_8, nl_9, nlB_i, nlB_r, nlB_n, nlB_f, nlB_q, ↓reduceIte, reduceCtorEq, Nat.reduceAdd, Nat.reduceSub, Nat.reduceEqDiff, Nat.reduceLeDiff, Nat.reduceBEq, ite_true, ite_false, dt_t, Bool.not_true, Bool.not_false, Bool.false_eq_true, Nat.le_refl, true_and, and_true, true_or, or_true, false_or, or_false, false_and, and_false, qEq, qNe, qLt, qGe, qGt, qLe, sT_35 hsv, sT_36 hsv, sT_37 hsv, sT_38 hsv, sT_39 hsv, sT_40 hsv, sT_41 hsv, sT_42 hsv, sT_43 hsv, sT_44 hsv, sT_45 hsv, sT_46 hsv, sT_47 hsv, sT_48 hsv, sT_49 hsv, sT_50 hsv, sT_51 hsv, sT_52 hsv, sT_53 hsv, sT_54 hsv, sT_55 hsv, sT_56 hsv, sT_57 hsv, sT_58 hsv, sT_59 hsv, sT_60 hsv, sT_61 hsv, sT_62 hsv, sT_63 hsv, sT_64 hsv, sT_65 hsv, sL_36 hsv, sL_37 hsv, sL_38 hsv, sL_39 hsv, sL_40 hsv, sL_41 hsv, sL_42 hsv, sL_43 hsv, sL_44 hsv, sL_45 hsv, sL_46 hsv, sL_47 hsv, sL_48 hsv, sL_49 hsv, sL_50 hsv, sL_51 hsv, sL_52 hsv, sL_53 hsv, sL_54 hsv, sL_55 hsv, sL_56 hsv, sL_57 hsv, sL_58 hsv, sL_59 hsv, sL_60 hsv, sL_61 hsv, sL_62 hsv, sL_63 hsv, sL_64 hsv, sL_65 hsv, sR_35_1 hsv, sR_35_2 hsv, sR_35_3 hsv, sR_35_4 hsv, sR_35_5 hsv, sR_35_6 hsv, sR_35_7 hsv, sR_35_11 hsv, sR_35_21 hsv, sR_35_22 hsv, sR_35_23 hsv, sR_35_24 hsv, sR_35_25 hsv, sR_35_26 hsv, sR_35_27 hsv, sR_35_28 hsv, sR_35_29 hsv, sR_35_30 hsv, sR_35_31 hsv, sR_35_32 hsv, sR_35_35 hsv, sR_35_37 hsv, sR_35_38 hsv, sR_35_39 hsv, sR_35_40 hsv, sR_35_41 hsv, sR_35_42 hsv, sR_35_46 hsv, sR_35_50 hsv, sR_35_52 hsv, h33, hlt, e, bk, ck, u26, bW, cW, v49, ml1, ix3_0, u25, b0, c0, pT_uI, pL_uI, pR_uI, u26', nI_1, b1, c1, ix3_2, b2, c2, rw3]
        · unfold rw3
          rw [pI_uI_ne _ _ _ q, pI_uI_ne _ _ _ q, pI_uI_ne _ _ _ q]; exact hv' a q
      · right
        have ek : k = K := by omega
        subst ek
        refine ⟨.inl [.ref 35, .int (ml k), .int (nI k)], v, ?_, ⟨hPv, hv'⟩, h3', _, _, rfl⟩
        simp only [lpStep, ↓rE_eK, ↓rE_eLi, ↓rE_eLj, ↓rE_eLa, ↓rE_eU, ↓rE_eB, ↓rE_eG, ↓rE_eIF, ↓rE_eAI, ↓rE_eAX, ↓rE_eAJ, ↓rE_eAR, ↓rE_eLen, ↓rE_eSI, ↓rE_eC, ↓rE_eCall, ↓rE_eNew, ↓rE_eNewA, ↓rE_eInst, ↓rC_cI, ↓rC_cZ0, ↓rC_cN, ↓rC_cNot, ↓rC_cAnd, ↓rC_cOr, ↓rA_aN, ↓rA_aC, ↓rS_sP, ↓rS_sUF, ↓rS_sAI, ↓rS_sAJ, ↓rS_sAR, ↓rS_sUA, ↓rS_sCall, ↓rS_sObj, ↓rS_sSi, ↓rS_sSa, ↓rS_sSj, ↓rS_sInc, ↓rS_sSkip, ↓rS_sSeq, ↓rS_sIf, ↓rS_sRetI, ↓rS_sRetJ, ↓rS_sRetA, ↓rS_sRetV, ↓rS_sSw, ↓rD_meth, ↓rD_on, ↓kR_ref, ↓kI_int, ↓kJ_long, ↓kN_null, ↓kN_ref, ↓kN_rf, ↓kQ_ref, ↓kQ_null, ↓kQ_rf, o1_i, o1ij_i, o1ji_i, o2_i, o2d_i, o2j_i, o2ji_i, o2c_i, fv_0, fv_1, fv_2, fv_3, pf_0, pf_2, pf_3, pf_4, rf_s, rf_n, is_self, ge_0, ge_s, ge_n, gd_s, gd_n, se_0, se_s, ag_0, ex_n, ex_i, ex_r, ex_0, ex_j, ex_q, ap_c, ap_n, List.append_nil, ln_c, ln_n, rp_0, rp_s, rt_0, rt_1, rt_20, rt_21, rt_2, rt_3, rt_4, rt_4n, rt_4q, nl_0, nl_1, nl_2, nl_3, nl_4, nl_5, nl_6, nl_7, nl_8, nl_9, nlB_i, nlB_r, nlB_n, nlB_f, nlB_q, ↓reduceIte, reduceCtorEq, Nat.reduceAdd, Nat.reduceSub, Nat.reduceEqDiff, Nat.reduceLeDiff, Nat.reduceBEq, ite_true, ite_false, dt_t, Bool.not_true, Bool.not_false, Bool.false_eq_true, Nat.le_refl, true_and, and_true, true_or, or_true, false_or, or_false, false_and, and_false, qEq, qNe, qLt, qGe, qGt, qLe, sT_35 hsv, sT_36 hsv, sT_37 hsv, sT_38 hsv, sT_39 hsv, sT_40 hsv, sT_41 hsv, sT_42 hsv, sT_43 hsv, sT_44 hsv, sT_45 hsv, sT_46 hsv, sT_47 hsv, sT_48 hsv, sT_49 hsv, sT_50 hsv, sT_51 hsv, sT_52 hsv, sT_53 hsv, sT_54 hsv, sT_55 hsv, sT_56 hsv, sT_57 hsv, sT_58 hsv, sT_59 hsv, sT_60 hsv, sT_61 hsv, sT_62 hsv, sT_63 hsv, sT_64 hsv, sT_65 hsv, sL_36 hsv, sL_37 hsv, sL_38 hsv, sL_39 hsv, sL_40 hsv, sL_41 hsv, sL_42 hsv, sL_43 hsv, sL_44 hsv, sL_45 hsv, sL_46 hsv, sL_47 hsv, sL_48 hsv, sL_49 hsv, sL_50 hsv, sL_51 hsv, sL_52 hsv, sL_53 hsv, sL_54 hsv, sL_55 hsv, sL_56 hsv, sL_57 hsv, sL_58 hsv, sL_59 hsv, sL_60 hsv, sL_61 hsv, sL_62 hsv, sL_63 hsv, sL_64 hsv, sL_65 hsv, sR_35_1 hsv, sR_35_2 hsv, sR_35_3 hsv, sR_35_4 hsv, sR_35_5 hsv, sR_35_6 hsv, sR_35_7 hsv, sR_35_11 hsv, sR_35_21 hsv, sR_35_22 hsv, sR_35_23 hsv, sR_35_24 hsv, sR_35_25 hsv, sR_35_26 hsv, sR_35_27 hsv, sR_35_28 hsv, sR_35_29 hsv, sR_35_30 hsv, sR_35_31 hsv, sR_35_32 hsv, sR_35_35 hsv, sR_35_37 hsv, sR_35_38 hsv, sR_35_39 hsv, sR_35_40 hsv, sR_35_41 hsv, sR_35_42 hsv, sR_35_46 hsv, sR_35_50 hsv, sR_35_52 hsv, h33, Int32.lt_irrefl]
    obtain ⟨q', v, m1, ⟨hPv, hv'⟩, h3', x', y', rfl⟩ := hlm
    have hsv := Pl_Sh hPv hsτ
    have hPl : Pl σ v := Pl_tr (Pl_tr (Pl_tr d3.1 hP) f1.1) hPv
    have hW : Wp σ v := ⟨hPl, fun a k c1 c2 c3 c4 c5 => by
      rw [hv' a (by omega)]
      by_cases ea : a = 35
      · subst ea
        rw [pI_uI_nek _ _ _ _ (by omega), f1.2.2 k (by omega) (by omega), hu' 35 (by decide) (by decide), d3.2 35 (by omega)]
      · rw [pI_uI_ne _ _ _ ea, f1.2.1 a (by omega) ea]
        by_cases eb : a = 11
        · subst eb
          rw [pI_uI_nek _ _ _ _ (by omega), hu 11 (by decide), d3.2 11 (by omega)]
        · rw [hu' a c3 eb, d3.2 a c1]⟩
    have hI : ∀ a, 15 ≤ a → a ≤ 26 → pI v a = pI t a := fun a q1 q2 => by
      rw [hv' a (by omega), pI_uI_ne _ _ _ (by omega), f1.2.1 a (by omega) (by omega), hu' a (by omega) (by omega)]
    have hRk : RkT Q (rkF v) := RkT_of (Rel_rs h) (fun a ha => funext fun k => hW.2 a k (by omega) (by omega) (by omega) (by omega) (by omega)) (by rw [hPl.2.1]) (by rw [hI 18 (by decide) (by decide)]; exact d4) (by
      unfold Tb at d5 ⊢
      rw [hI 16 (by decide) (by decide)]
      exact CTb_fr d5 (by rw [hI 15 (by decide) (by decide)]) (fun a q1 q2 => hI a (by omega) (by omega)))
    have v11 : pI v 11 6 = nI K := by rw [hv' 11 (by decide), pI_uI_ne _ _ _ (by decide), f1.2.1 11 (by decide) (by decide), pI_uI_at]
    have v36 : pI v 35 36 = nI K := by rw [hv' 35 (by decide), pI_uI_at]
    have v31 : ∀ j, pI v 31 j = pI u 31 j := fun j => by rw [hv' 31 (by decide), pI_uI_ne _ _ _ (by decide), f1.2.1 31 (by decide) (by decide), pI_uI_ne _ _ _ (by decide)]
    have hRow : RowR v := ⟨K, by omega, v11, v36, fun j hj => by
      rw [v31]
      obtain ⟨a1, a2, a3⟩ := h3 (j / 3) (by omega)
      obtain ⟨b1, b2, b3⟩ := h3' (j / 3) (by omega)
      rcases (by omega : j = 3 * (j / 3) ∨ j = 3 * (j / 3) + 1 ∨ j = 3 * (j / 3) + 2) with q | q | q
      · rw [q, a1, b1]
      · rw [q, a2, b2]
      · rw [q, a3, b3]⟩
    refine ⟨nI K, uI u 11 6 (nI K), v, n, ?_, ?_, Rel_wp h hW hRow hRk, by rw [hPl.2.2.2.1]; omega, by rw [hPl.2.2.2.2.1]; omega⟩
    · refine rD_un.trans ?_
      have hrt : pR t 11 0 = some (nowA σ) := by rw [d3.1.2.2.1]; exact hr
      simp only [D_X11_prove, B_X11_prove, ↓rE_eK, ↓rE_eLi, ↓rE_eLj, ↓rE_eLa, ↓rE_eU, ↓rE_eB, ↓rE_eG, ↓rE_eIF, ↓rE_eAI, ↓rE_eAX, ↓rE_eAJ, ↓rE_eAR, ↓rE_eLen, ↓rE_eSI, ↓rE_eC, ↓rE_eCall, ↓rE_eNew, ↓rE_eNewA, ↓rE_eInst, ↓rC_cI, ↓rC_cZ0, ↓rC_cN, ↓rC_cNot, ↓rC_cAnd, ↓rC_cOr, ↓rA_aN, ↓rA_aC, ↓rS_sP, ↓rS_sUF, ↓rS_sAI, ↓rS_sAJ, ↓rS_sAR, ↓rS_sUA, ↓rS_sCall, ↓rS_sObj, ↓rS_sSi, ↓rS_sSa, ↓rS_sSj, ↓rS_sInc, ↓rS_sSkip, ↓rS_sSeq, ↓rS_sIf, ↓rS_sRetI, ↓rS_sRetJ, ↓rS_sRetA, ↓rS_sRetV, ↓rS_sSw, ↓rD_meth, ↓rD_on, ↓kR_ref, ↓kI_int, ↓kJ_long, ↓kN_null, ↓kN_ref, ↓kN_rf, ↓kQ_ref, ↓kQ_null, ↓kQ_rf, o1_i, o1ij_i, o1ji_i, o2_i, o2d_i, o2j_i, o2ji_i, o2c_i, fv_0, fv_1, fv_2, fv_3, pf_0, pf_2, pf_3, pf_4, rf_s, rf_n, is_self, ge_0, ge_s, ge_n, gd_s, gd_n, se_0, se_s, ag_0, ex_n, ex_i, ex_r, ex_0, ex_j, ex_q, ap_c, ap_n, List.append_nil, ln_c, ln_n, rp_0, rp_s, rt_0, rt_1, rt_20, rt_21, rt_2, rt_3, rt_4, rt_4n, rt_4q, nl_0, nl_1, nl_2, nl_3, nl_4, nl_5, nl_6, nl_7, nl_8, nl_9, nlB_i, nlB_r, nlB_n, nlB_f, nlB_q, ↓reduceIte, reduceCtorEq, Nat.reduceAdd, Nat.reduceSub, Nat.reduceEqDiff, Nat.reduceLeDiff, Nat.reduceBEq, ite_true, ite_false, dt_t, Bool.not_true, Bool.not_false, Bool.false_eq_true, Nat.le_refl, true_and, and_true, true_or, or_true, false_or, or_false, false_and, and_false, qEq, qNe, qLt, qGe, qGt, qLe, rD_tb1 (sT_11 hS), rD_of d1, hx3, sT_11 hss, sT_12 hss, sT_13 hss, sT_14 hss, sT_15 hss, sT_16 hss, sT_17 hss, sT_18 hss, sT_19 hss, sT_20 hss, sT_21 hss, sT_22 hss, sT_23 hss, sT_24 hss, sT_25 hss, sT_26 hss, sT_27 hss, sT_28 hss, sT_29 hss, sT_30 hss, sT_31 hss, sT_32 hss, sT_33 hss, sT_34 hss, sL_13 hss, sL_14 hss, sL_16 hss, sL_17 hss, sL_18 hss, sL_19 hss, sL_20 hss, sL_21 hss, sL_22 hss, sL_23 hss, sL_24 hss, sL_25 hss, sL_26 hss, sL_28 hss, sL_30 hss, sL_31 hss, sL_32 hss, sL_33 hss, sL_34 hss, sR_11_2 hss, sR_11_3 hss, sR_11_4 hss, sR_11_5 hss, sR_11_7 hss, sR_11_8 hss, sR_11_9 hss, sR_27_0 hss, sR_29_0 hss, sR_15_0 hss, sR_15_3 hss, sR_15_5 hss, sR_15_6 hss, sR_15_7 hss, sR_15_8 hss, sR_15_9 hss, sR_15_10 hss, sR_15_11 hss, sR_15_12 hss, sR_15_13 hss, rD_tb1 (sT_15 hss), rD_of p1, sT_11 hst, sT_12 hst, sT_13 hst, sT_14 hst, sT_15 hst, sT_16 hst, sT_17 hst, sT_18 hst, sT_19 hst, sT_20 hst, sT_21 hst, sT_22 hst, sT_23 hst, sT_24 hst, sT_25 hst, sT_26 hst, sT_27 hst, sT_28 hst, sT_29 hst, sT_30 hst, sT_31 hst, sT_32 hst, sT_33 hst, sT_34 hst, sL_13 hst, sL_14 hst, sL_16 hst, sL_17 hst, sL_18 hst, sL_19 hst, sL_20 hst, sL_21 hst, sL_22 hst, sL_23 hst, sL_24 hst, sL_25 hst, sL_26 hst, sL_28 hst, sL_30 hst, sL_31 hst, sL_32 hst, sL_33 hst, sL_34 hst, sR_11_2 hst, sR_11_3 hst, sR_11_4 hst, sR_11_5 hst, sR_11_7 hst, sR_11_8 hst, sR_11_9 hst, sR_27_0 hst, sR_29_0 hst, sR_15_0 hst, sR_15_3 hst, sR_15_5 hst, sR_15_6 hst, sR_15_7 hst, sR_15_8 hst, sR_15_9 hst, sR_15_10 hst, sR_15_11 hst, sR_15_12 hst, sR_15_13 hst, hrt, VR_T hvt, VR_mi hvt, rS_inl l1, sT_11 hsu, sT_12 hsu, sT_13 hsu, sT_14 hsu, sT_15 hsu, sT_16 hsu, sT_17 hsu, sT_18 hsu, sT_19 hsu, sT_20 hsu, sT_21 hsu, sT_22 hsu, sT_23 hsu, sT_24 hsu, sT_25 hsu, sT_26 hsu, sT_27 hsu, sT_28 hsu, sT_29 hsu, sT_30 hsu, sT_31 hsu, sT_32 hsu, sT_33 hsu, sT_34 hsu, sL_13 hsu, sL_14 hsu, sL_16 hsu, sL_17 hsu, sL_18 hsu, sL_19 hsu, sL_20 hsu, sL_21 hsu, sL_22 hsu, sL_23 hsu, sL_24 hsu, sL_25 hsu, sL_26 hsu, sL_28 hsu, sL_30 hsu, sL_31 hsu, sL_32 hsu, sL_33 hsu, sL_34 hsu, sR_11_2 hsu, sR_11_3 hsu, sR_11_4 hsu, sR_11_5 hsu, sR_11_7 hsu, sR_11_8 hsu, sR_11_9 hsu, sR_27_0 hsu, sR_29_0 hsu, sR_15_0 hsu, sR_15_3 hsu, sR_15_5 hsu, sR_15_6 hsu, sR_15_7 hsu, sR_15_8 hsu, sR_15_9 hsu, sR_15_10 hsu, sR_15_11 hsu, sR_15_12 hsu, sR_15_13 hsu, h14, pT_uI, pR_uI, pI_uI_at]
    · refine rD_un.trans ?_
      have e9 : pI (uI τ 35 36 (nI K)) 35 9 = cur σ 2 := by rw [pI_uI_nek _ _ _ _ (by decide), f1.2.2 9 (by decide) (by decide), hu' 35 (by decide) (by decide), d3.2 35 (by omega)]; rfl
      simp only [D_X12_prove, B_X12_prove, ↓rE_eK, ↓rE_eLi, ↓rE_eLj, ↓rE_eLa, ↓rE_eU, ↓rE_eB, ↓rE_eG, ↓rE_eIF, ↓rE_eAI, ↓rE_eAX, ↓rE_eAJ, ↓rE_eAR, ↓rE_eLen, ↓rE_eSI, ↓rE_eC, ↓rE_eCall, ↓rE_eNew, ↓rE_eNewA, ↓rE_eInst, ↓rC_cI, ↓rC_cZ0, ↓rC_cN, ↓rC_cNot, ↓rC_cAnd, ↓rC_cOr, ↓rA_aN, ↓rA_aC, ↓rS_sP, ↓rS_sUF, ↓rS_sAI, ↓rS_sAJ, ↓rS_sAR, ↓rS_sUA, ↓rS_sCall, ↓rS_sObj, ↓rS_sSi, ↓rS_sSa, ↓rS_sSj, ↓rS_sInc, ↓rS_sSkip, ↓rS_sSeq, ↓rS_sIf, ↓rS_sRetI, ↓rS_sRetJ, ↓rS_sRetA, ↓rS_sRetV, ↓rS_sSw, ↓rD_meth, ↓rD_on, ↓kR_ref, ↓kI_int, ↓kJ_long, ↓kN_null, ↓kN_ref, ↓kN_rf, ↓kQ_ref, ↓kQ_null, ↓kQ_rf, o1_i, o1ij_i, o1ji_i, o2_i, o2d_i, o2j_i, o2ji_i, o2c_i, fv_0, fv_1, fv_2, fv_3, pf_0, pf_2, pf_3, pf_4, rf_s, rf_n, is_self, ge_0, ge_s, ge_n, gd_s, gd_n, se_0, se_s, ag_0, ex_n, ex_i, ex_r, ex_0, ex_j, ex_q, ap_c, ap_n, List.append_nil, ln_c, ln_n, rp_0, rp_s, rt_0, rt_1, rt_20, rt_21, rt_2, rt_3, rt_4, rt_4n, rt_4q, nl_0, nl_1, nl_2, nl_3, nl_4, nl_5, nl_6, nl_7, nl_8, nl_9, nlB_i, nlB_r, nlB_n, nlB_f, nlB_q, ↓reduceIte, reduceCtorEq, Nat.reduceAdd, Nat.reduceSub, Nat.reduceEqDiff, Nat.reduceLeDiff, Nat.reduceBEq, ite_true, ite_false, dt_t, Bool.not_true, Bool.not_false, Bool.false_eq_true, Nat.le_refl, true_and, and_true, true_or, or_true, false_or, or_false, false_and, and_false, qEq, qNe, qLt, qGe, qGt, qLe, rD_tb1 (sT_35 hsu'), rD_of g1, h10, nt_t, not_true, not_false_eq_true, sT_35 hsτ, sT_36 hsτ, sT_37 hsτ, sT_38 hsτ, sT_39 hsτ, sT_40 hsτ, sT_41 hsτ, sT_42 hsτ, sT_43 hsτ, sT_44 hsτ, sT_45 hsτ, sT_46 hsτ, sT_47 hsτ, sT_48 hsτ, sT_49 hsτ, sT_50 hsτ, sT_51 hsτ, sT_52 hsτ, sT_53 hsτ, sT_54 hsτ, sT_55 hsτ, sT_56 hsτ, sT_57 hsτ, sT_58 hsτ, sT_59 hsτ, sT_60 hsτ, sT_61 hsτ, sT_62 hsτ, sT_63 hsτ, sT_64 hsτ, sT_65 hsτ, sL_36 hsτ, sL_37 hsτ, sL_38 hsτ, sL_39 hsτ, sL_40 hsτ, sL_41 hsτ, sL_42 hsτ, sL_43 hsτ, sL_44 hsτ, sL_45 hsτ, sL_46 hsτ, sL_47 hsτ, sL_48 hsτ, sL_49 hsτ, sL_50 hsτ, sL_51 hsτ, sL_52 hsτ, sL_53 hsτ, sL_54 hsτ, sL_55 hsτ, sL_56 hsτ, sL_57 hsτ, sL_58 hsτ, sL_59 hsτ, sL_60 hsτ, sL_61 hsτ, sL_62 hsτ, sL_63 hsτ, sL_64 hsτ, sL_65 hsτ, sR_35_1 hsτ, sR_35_2 hsτ, sR_35_3 hsτ, sR_35_4 hsτ, sR_35_5 hsτ, sR_35_6 hsτ, sR_35_7 hsτ, sR_35_11 hsτ, sR_35_21 hsτ, sR_35_22 hsτ, sR_35_23 hsτ, sR_35_24 hsτ, sR_35_25 hsτ, sR_35_26 hsτ, sR_35_27 hsτ, sR_35_28 hsτ, sR_35_29 hsτ, sR_35_30 hsτ, sR_35_31 hsτ, sR_35_32 hsτ, sR_35_35 hsτ, sR_35_37 hsτ, sR_35_38 hsτ, sR_35_39 hsτ, sR_35_40 hsτ, sR_35_41 hsτ, sR_35_42 hsτ, sR_35_46 hsτ, sR_35_50 hsτ, sR_35_52 hsτ, g2, pT_uI, pR_uI, e9, rS_inl m1, sT_35 hsv, sT_36 hsv, sT_37 hsv, sT_38 hsv, sT_39 hsv, sT_40 hsv, sT_41 hsv, sT_42 hsv, sT_43 hsv, sT_44 hsv, sT_45 hsv, sT_46 hsv, sT_47 hsv, sT_48 hsv, sT_49 hsv, sT_50 hsv, sT_51 hsv, sT_52 hsv, sT_53 hsv, sT_54 hsv, sT_55 hsv, sT_56 hsv, sT_57 hsv, sT_58 hsv, sT_59 hsv, sT_60 hsv, sT_61 hsv, sT_62 hsv, sT_63 hsv, sT_64 hsv, sT_65 hsv, sL_36 hsv, sL_37 hsv, sL_38 hsv, sL_39 hsv, sL_40 hsv, sL_41 hsv, sL_42 hsv, sL_43 hsv, sL_44 hsv, sL_45 hsv, sL_46 hsv, sL_47 hsv, sL_48 hsv, sL_49 hsv, sL_50 hsv, sL_51 hsv, sL_52 hsv, sL_53 hsv, sL_54 hsv, sL_55 hsv, sL_56 hsv, sL_57 hsv, sL_58 hsv, sL_59 hsv, sL_60 hsv, sL_61 hsv, sL_62 hsv, sL_63 hsv, sL_64 hsv, sL_65 hsv, sR_35_1 hsv, sR_35_2 hsv, sR_35_3 hsv, sR_35_4 hsv, sR_35_5 hsv, sR_35_6 hsv, sR_35_7 hsv, sR_35_11 hsv, sR_35_21 hsv, sR_35_22 hsv, sR_35_23 hsv, sR_35_24 hsv, sR_35_25 hsv, sR_35_26 hsv, sR_35_27 hsv, sR_35_28 hsv, sR_35_29 hsv, sR_35_30 hsv, sR_35_31 hsv, sR_35_32 hsv, sR_35_35 hsv, sR_35_37 hsv, sR_35_38 hsv, sR_35_39 hsv, sR_35_40 hsv, sR_35_41 hsv, sR_35_42 hsv, sR_35_46 hsv, sR_35_50 hsv, sR_35_52 hsv, v36]
