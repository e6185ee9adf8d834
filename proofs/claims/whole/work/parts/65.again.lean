/-! keep, again: the steps. -/
theorem CI_old {σ s : pm_H} {v n i : Nat} {vd : Nat → Int32} (h : CI σ v n vd i s) {a : Nat} (ha : a < pN σ) : pT s a = pT σ a ∧ pL s a = pL σ a ∧ pI s a = pI σ a ∧ pJ s a = pJ σ a ∧ pR s a = pR σ a := h.2.1.2 a ha
theorem step_keep (Rk : (Nat → Nat → Int32) → Prop) {σ : pm_H} {n : Nat} (h : Rel Rk σ n) : Step Rk D_X11_keep D_X12_keep [] σ := by
  have hs := Rel_Sh h
  have h66 := hs.2.2.2
  have hv := Rel_VR h
  have h8 := Rel_8 h
  have hr := Rel_nr h
  obtain ⟨s, hD, hC⟩ := d_copied h66 hv
  obtain ⟨hvs, eP, eD, eQ⟩ := CI_VR h66 hv hC
  have hNw := hC.2.1
  obtain ⟨σ1, e1⟩ : ∃ σ1, σ1 = uR s 11 1 (some (pN σ)) := ⟨_, rfl⟩
  have hg1 : Gr σ σ1 := by rw [e1]; exact Gr_uR (Nw_Gr hNw h66) (Or.inl ⟨rfl, by decide⟩) (by omega)
  have hs1 := Gr_Sh hg1 hs
  have hI1 : ∀ a, a < pN σ → pI σ1 a = pI σ a := fun a ha => by rw [e1]; exact (CI_old hC ha).2.2.1
  have hR1 : ∀ a k, ¬ (a = 11 ∧ k = 1) → pR σ1 a k = pR s a k := fun a k q => by rw [e1, pR_uR, if_neg q]
  have hcu : cur σ1 = cur σ := cur_fr (by rw [hI1 35 (by omega)]) (by rw [hI1 35 (by omega)]) (by rw [hI1 35 (by omega)]) (by rw [hI1 35 (by omega)]) (fun a q1 q2 => hI1 a (by omega))
  obtain ⟨τ, hM, k1, k2, k3, k4, k5⟩ := d_keep_m hs1
  have hIt : ∀ a j, a ≠ 64 → a ≠ 65 → ¬ (a = 35 ∧ (j = 51 ∨ j = 49)) → pI (uI τ 35 49 1) a j = pI σ1 a j := fun a j q1 q2 q3 => by rw [pI_uI, if_neg (by omega)]; exact k4 a j q1 q2 (by omega)
  have hPl : Pl σ1 (uI τ 35 49 1) := k1
  have hg2 : Gr σ (uI τ 35 49 1) := Gr_tr hg1 (Pl_Gr hPl (fun a k q => hIt a k (by unfold grc at q; omega) (by unfold grc at q; omega) (by unfold grc at q; omega)))
  have hIa : ∀ a, a < pN σ → a ≠ 64 → a ≠ 65 → a ≠ 35 → pI (uI τ 35 49 1) a = pI σ a := fun a q0 q1 q2 q3 => by rw [← hI1 a q0]; exact funext fun j => hIt a j q1 q2 (by omega)
  have h35 : ∀ k, k ≠ 51 → k ≠ 49 → pI (uI τ 35 49 1) 35 k = pI σ 35 k := fun k q1 q2 => by rw [hIt 35 k (by decide) (by decide) (by omega), hI1 35 (by omega)]
  have hcu2 : cur (uI τ 35 49 1) = cur σ := cur_fr (h35 0 (by decide) (by decide)) (h35 8 (by decide) (by decide)) (h35 9 (by decide) (by decide)) (h35 10 (by decide) (by decide)) (fun a q1 q2 => hIa a (by omega) (by omega) (by omega) (by omega))
  have hRt : pR (uI τ 35 49 1) = pR σ1 := k1.2.2.1
  have hN1 : pN σ1 = pN s := by rw [e1]; rfl
  have hNt : pN (uI τ 35 49 1) = pN s := k1.2.2.2.1.trans hN1
  have hTt : pT (uI τ 35 49 1) = pT s := k1.1.trans (by rw [e1]; rfl)
  have hLt : pL (uI τ 35 49 1) = pL s := k1.2.1.trans (by rw [e1]; rfl)
  have en : nowA (uI τ 35 49 1) = nowA σ := by unfold nowA; rw [hRt, hR1 11 0 (by omega), (CI_old hC (show 11 < pN σ by omega)).2.2.2.2]
  have hfo := fun a (ha : fp σ (nowA σ) n a) => fp_off hv ha
  have hRf : ∀ a, a ≠ 11 → pR (uI τ 35 49 1) a = pR s a := fun a q => by rw [hRt]; exact funext fun k => hR1 a k (by omega)
  obtain ⟨hvn, hvP, hvD, hvQ, -⟩ := VR_fr (σ' := uI τ 35 49 1) hv (by rw [hNt]; exact hNw.1) (fun a ha => by rw [hTt]; exact (CI_old hC ha).1) (fun a ha => by rw [hLt]; exact (CI_old hC ha).2.1) (fun a ha => ⟨hIa a (fp_lt hv ha) (by have := hfo a ha; omega) (by have := hfo a ha; omega) (by have := hfo a ha; omega), by rw [hRf a (by have := hfo a ha; omega)]; exact (CI_old hC (fp_lt hv ha)).2.2.2.2⟩)
  have hsI : ∀ a, 66 ≤ a → pI (uI τ 35 49 1) a = pI s a := fun a q => by
    have : pI (uI τ 35 49 1) a = pI σ1 a := funext fun j => hIt a j (by omega) (by omega) (by omega)
    rw [this, e1]; rfl
  have hfs : ∀ a, fp s (pN σ) n a → 66 ≤ a := fun a ha => by
    rcases ha with rfl | rfl | rfl | ⟨i, hi, rfl⟩
    · exact h66
    · rw [eP]; omega
    · rw [eD]; omega
    · rw [eQ i hi]; omega
  obtain ⟨hkn, hkP, hkD, hkQ, -⟩ := VR_fr (σ' := uI τ 35 49 1) hvs (by rw [hNt]; exact Nat.le_refl _) (fun a _ => by rw [hTt]) (fun a _ => by rw [hLt]) (fun a ha => ⟨hsI a (hfs a ha), hRf a (by have := hfs a ha; omega)⟩)
  have h64 : ∀ j, j < 116 → pI (uI τ 35 49 1) 64 j = cur σ j := fun j hj => by rw [pI_uI_ne _ _ _ (by decide), ← hcu]; exact k3 j hj
  have hlt := hv.2.2.2.2.2.2.2.2.2
  refine ⟨1, σ1, uI τ 35 49 1, n, ?_, hM, Rel_gr h hg2 (TapeR_fr h.2.1 ?_ (h35 12 (by decide) (by decide)) ?_ ?_) (RowR_fr h.2.2.1 ?_ (h35 36 (by decide) (by decide)) ?_ ?_) ⟨?_, by rw [en, hcu2]; exact hvn⟩ (Or.inr ⟨pI_uI_at _ _ _ _, pN σ, n, ?_, VR_ext hkn h64, ?_⟩), ?_, ?_⟩
  · refine rD_un.trans ?_
    have hT11 : pT s 11 = 11 := by rw [(CI_old hC (show 11 < pN σ by omega)).1]; exact sT_11 hs
    simp only [D_X11_keep, B_X11_keep, ↓rE_eK, ↓rE_eLi, ↓rE_eLj, ↓rE_eLa, ↓rE_eU, ↓rE_eB, ↓rE_eG, ↓rE_eIF, ↓rE_eAI, ↓rE_eAX, ↓rE_eAJ, ↓rE_eAR, ↓rE_eLen, ↓rE_eSI, ↓rE_eC, ↓rE_eCall, ↓rE_eNew, ↓rE_eNewA, ↓rE_eInst, ↓rC_cI, ↓rC_cZ0, ↓rC_cN, ↓rC_cNot, ↓rC_cAnd, ↓rC_cOr, ↓rA_aN, ↓rA_aC, ↓rS_sP, ↓rS_sUF, ↓rS_sAI, ↓rS_sAJ, ↓rS_sAR, ↓rS_sUA, ↓rS_sCall, ↓rS_sObj, ↓rS_sSi, ↓rS_sSa, ↓rS_sSj, ↓rS_sInc, ↓rS_sSkip, ↓rS_sSeq, ↓rS_sIf, ↓rS_sRetI, ↓rS_sRetJ, ↓rS_sRetA, ↓rS_sRetV, ↓rS_sSw, ↓rD_meth, ↓rD_on, ↓kR_ref, ↓kI_int, ↓kJ_long, ↓kN_null, ↓kN_ref, ↓kN_rf, ↓kQ_ref, ↓kQ_null, ↓kQ_rf, o1_i, o1ij_i, o1ji_i, o2_i, o2d_i, o2j_i, o2ji_i, o2c_i, fv_0, fv_1, fv_2, fv_3, pf_0, pf_2, pf_3, pf_4, rf_s, rf_n, is_self, ge_0, ge_s, ge_n, gd_s, gd_n, se_0, se_s, ag_0, ex_n, ex_i, ex_r, ex_0, ex_j, ex_q, ap_c, ap_n, List.append_nil, ln_c, ln_n, rp_0, rp_s, rt_0, rt_1, rt_20, rt_21, rt_2, rt_3, rt_4, rt_4n, rt_4q, nl_0, nl_1, nl_2, nl_3, nl_4, nl_5, nl_6, nl_7, nl_8, nl_9, nlB_i, nlB_r, nlB_n, nlB_f, nlB_q, ↓reduceIte, reduceCtorEq, Nat.reduceAdd, Nat.reduceSub, Nat.reduceEqDiff, Nat.reduceLeDiff, Nat.reduceBEq, ite_true, ite_false, dt_t, Bool.not_true, Bool.not_false, Bool.false_eq_true, Nat.le_refl, true_and, and_true, true_or, or_true, false_or, or_false, false_and, and_false, qEq, qNe, qLt, qGe, qGt, qLe, sT_11 hs, hr, rD_tb1 (VR_T hv), rD_of hD, hT11, e1]
  all_goals first
    | exact congrFun (hIa _ (by omega) (by decide) (by decide) (by decide)) _
    | exact hIa _ (by omega) (by decide) (by decide) (by decide)
    | skip
  · rw [en, hRt, hR1 11 0 (by omega), (CI_old hC (show 11 < pN σ by omega)).2.2.2.2]; exact hr
  · rw [hRt, e1, pR_uR_at]
  · rw [en]
    refine ⟨by omega, by rw [hvP, hkP, eP]; omega, by rw [hvD, hkD, eD]; omega, fun i j hi hj => ?_⟩
    rw [VR_nOf hvn] at hi
    rw [VR_nOf hkn] at hj
    rw [hvQ i hi, hkQ j hj, eQ j hj]
    have := hlt.2.2.2 i hi
    omega
  · rw [hNt, hC.1.1]; omega
  · have : pS (uI τ 35 49 1) = pS s := k1.2.2.2.2.1.trans (by rw [e1]; rfl)
    rw [this, hC.1.2]; omega
-- again
def RS (σ : pm_H) (m : Nat) (s : pm_H) : Prop := Pl σ s ∧ pI s 35 51 = nI m ∧ (∀ a j, a ≠ 35 → ¬ (36 ≤ a ∧ a ≤ 42) → a ≠ 65 → pI s a j = pI σ a j) ∧ (∀ k, k ≠ 51 → pI s 35 k = pI σ 35 k) ∧ (∀ k, k < 4 → pI s 65 k = pI σ 64 k) ∧ ∀ j, 4 ≤ j → j < m → cur s j = pI σ 64 j
theorem RS_row {σ s : pm_H} (hS : Sh σ) {f : Nat} (hf : f ≤ 5) (h : RS σ (4 + 8 * f) s) (tF : pT σ (36 + f) = 13) (lF : pL σ (36 + f) = 8) : ∃ s', D_X12_moveRow [.ref 35, .ref (36 + f), .int (nI 8), .int 0] s = some (none, s') ∧ RS σ (4 + 8 * (f + 1)) s' := by
  obtain ⟨h1, h2, h3, h4, h5, h6⟩ := h
  obtain ⟨s', q1, q2, w⟩ := m_moveF (Pl_Sh h1 hS) (F := 36 + f) (len := 8) (L := 8) (by omega) (by rw [h1.1]; exact tF) (by rw [h1.2.1]; exact lF) (by decide) (by decide) (by omega) h2
  have h64 : ∀ j, pI s 64 j = pI σ 64 j := fun j => h3 64 j (by decide) (by decide) (by decide)
  refine ⟨s', q1, Pl_tr h1 q2, by rw [w, if_neg (by omega), if_pos ⟨rfl, rfl⟩]; congr 1, fun a j g1 g2 g3 => ?_, fun k hk => ?_, fun k hk => ?_, fun j g1 g2 => ?_⟩
  · rw [w, if_neg (by omega), if_neg (by omega)]; exact h3 a j g1 g2 g3
  · rw [w, if_neg (by omega), if_neg (by omega)]; exact h4 k hk
  · rw [w, if_neg (by omega), if_neg (by omega)]; exact h5 k hk
  · have hdec : j = 4 + 8 * ((j - 4) / 8) + (j - 4) % 8 := by omega
    have hg : (j - 4) / 8 ≤ 5 := by omega
    have hi : (j - 4) % 8 < 8 := by omega
    by_cases c : (j - 4) / 8 = f
    · rw [hdec, c, cur_f hf hi, w, if_pos ⟨rfl, hi⟩]; exact h64 _
    · have e1 : cur s' j = cur s j := by
        rw [hdec, cur_f hg hi, cur_f hg hi, w, if_neg (by omega), if_neg (by omega)]
      rw [e1]; exact h6 j g1 (by omega)
theorem d_again_m {σ : pm_H} (hS : Sh σ) (hk : pI σ 35 49 = 1) : ∃ σ', D_X12_again [.ref 35] σ = some (some (.int (pI σ 64 0)), σ') ∧ Pl σ σ' ∧ (∀ a j, a ≠ 35 → ¬ (36 ≤ a ∧ a ≤ 42) → a ≠ 65 → pI σ' a j = pI σ a j) ∧ (∀ k, k ≠ 51 → k ≠ 0 → k ≠ 8 → k ≠ 9 → k ≠ 10 → pI σ' 35 k = pI σ 35 k) ∧ ∀ j, j < 116 → cur σ' j = pI σ 64 j := by
  have q0 : Sh (sng σ) := hS
  obtain ⟨s1, a1, ⟨p1, w1⟩⟩ := m_moveF q0 (F := 65) (len := 4) (L := 4) (m := 0) (by decide) (sT_65 hS) (sL_65 hS) (by decide) (by decide) (by decide) (sng_51 σ)
  have k1 : RS σ (4 + 8 * 0) s1 := by
    refine ⟨p1, by rw [w1, if_neg (by omega), if_pos ⟨rfl, rfl⟩], fun a j g1 g2 g3 => ?_, fun k hk => ?_, fun k hk => ?_, fun j g1 g2 => by omega⟩
    · rw [w1, if_neg (by omega), if_neg (by omega), sng_I _ _ _ g3 (by omega)]
    · rw [w1, if_neg (by omega), if_neg (by omega), sng_I _ _ _ (by omega) (by omega)]
    · rw [w1, if_pos ⟨rfl, hk⟩, sng_I _ _ _ (by omega) (by omega), Nat.zero_add]
  obtain ⟨s2, a2, k2⟩ := RS_row hS (f := 0) (by decide) k1 (sT_36 hS) (sL_36 hS)
  obtain ⟨s3, a3, k3⟩ := RS_row hS (f := 1) (by decide) k2 (sT_37 hS) (sL_37 hS)
  obtain ⟨s4, a4, k4⟩ := RS_row hS (f := 2) (by decide) k3 (sT_38 hS) (sL_38 hS)
  obtain ⟨s5, a5, k5⟩ := RS_row hS (f := 3) (by decide) k4 (sT_39 hS) (sL_39 hS)
  obtain ⟨s6, a6, k6⟩ := RS_row hS (f := 4) (by decide) k5 (sT_40 hS) (sL_40 hS)
  obtain ⟨s7, a7, k7⟩ := RS_row hS (f := 5) (by decide) k6 (sT_41 hS) (sL_41 hS)
  obtain ⟨u1, u2, u3, u4, u5, u6⟩ := k7
  have q7 := Pl_Sh u1 hS
  obtain ⟨s8, a8, ⟨p8, w8⟩⟩ := m_moveF q7 (F := 42) (len := 64) (L := 64) (m := 52) (by decide) (sT_42 q7) (sL_42 q7) (by decide) (by decide) (by decide) u2
  have hma := m_moveAll hS 0 a1 a2 a3 a4 a5 a6 a7 a8 (Pl_Sh k1.1 hS) (Pl_Sh k2.1 hS) (Pl_Sh k3.1 hS) (Pl_Sh k4.1 hS) (Pl_Sh k5.1 hS) (Pl_Sh k6.1 hS) q7
  have hP8 := Pl_tr u1 p8
  have q8 := Pl_Sh hP8 hS
  have v65 : ∀ k, k < 4 → pI s8 65 k = pI σ 64 k := fun k hk => by rw [w8, if_neg (by omega), if_neg (by omega)]; exact u5 k hk
  have v35 : ∀ k, k ≠ 51 → pI s8 35 k = pI σ 35 k := fun k hk => by rw [w8, if_neg (by omega), if_neg (by omega)]; exact u4 k hk
  have vI : ∀ a j, a ≠ 35 → ¬ (36 ≤ a ∧ a ≤ 42) → a ≠ 65 → pI s8 a j = pI σ a j := fun a j g1 g2 g3 => by rw [w8, if_neg (by omega), if_neg (by omega)]; exact u3 a j g1 g2 g3
  have vc : ∀ j, 4 ≤ j → j < 116 → cur s8 j = pI σ 64 j := fun j g1 g2 => by
    by_cases c : j < 52
    · have hdec : j = 4 + 8 * ((j - 4) / 8) + (j - 4) % 8 := by omega
      have hg : (j - 4) / 8 ≤ 5 := by omega
      have hi : (j - 4) % 8 < 8 := by omega
      have e1 : cur s8 j = cur s7 j := by
        rw [hdec, cur_f hg hi, cur_f hg hi, w8, if_neg (by omega), if_neg (by omega)]
      rw [e1]; exact u6 j g1 (by omega)
    · have e1 : j = 52 + (j - 52) := by omega
      rw [e1, cuo, w8, if_pos ⟨rfl, by omega⟩]; exact u3 64 _ (by decide) (by decide) (by decide)
  refine ⟨uI (uI (uI (uI s8 35 0 (pI σ 64 0)) 35 8 (pI σ 64 1)) 35 9 (pI σ 64 2)) 35 10 (pI σ 64 3), ?_, hP8, fun a j g1 g2 g3 => ?_, fun k g1 g2 g3 g4 g5 => ?_, fun j hj => ?_⟩
  · refine rD_un.trans ?_
    have f0 : ib 0 4 = true := by decide
    have f1 : ib 1 4 = true := by decide
    have f2 : ib 2 4 = true := by decide
    have f3 : ib 3 4 = true := by decide
    have g0 : (0 : Int32).toNatClampNeg = 0 := by decide
    have g1 : (1 : Int32).toNatClampNeg = 1 := by decide
    have g2 : (2 : Int32).toNatClampNeg = 2 := by decide
    have g3 : (3 : Int32).toNatClampNeg = 3 := by decide
    have x0 := v65 0 (by decide)
    have x1 : pI (uI s8 35 0 (pI σ 64 0)) 65 1 = pI σ 64 1 := by rw [pI_uI_ne _ _ _ (by decide)]; exact v65 1 (by decide)
    have x2 : pI (uI (uI s8 35 0 (pI σ 64 0)) 35 8 (pI σ 64 1)) 65 2 = pI σ 64 2 := by rw [pI_uI_ne _ _ _ (by decide), pI_uI_ne _ _ _ (by decide)]; exact v65 2 (by decide)
    have x3 : pI (uI (uI (uI s8 35 0 (pI σ 64 0)) 35 8 (pI σ 64 1)) 35 9 (pI σ 64 2)) 65 3 = pI σ 64 3 := by rw [pI_uI_ne _ _ _ (by decide), pI_uI_ne _ _ _ (by decide), pI_uI_ne _ _ _ (by decide)]; exact v65 3 (by decide)
    have x4 : pI (uI (uI (uI (uI s8 35 0 (pI σ 64 0)) 35 8 (pI σ 64 1)) 35 9 (pI σ 64 2)) 35 10 (pI σ 64 3)) 35 0 = pI σ 64 0 := by rw [pI_uI_nek _ _ _ _ (by decide), pI_uI_nek _ _ _ _ (by decide), pI_uI_nek _ _ _ _ (by decide), pI_uI_at]
    simp only [D_X12_again, B_X12_again, ↓rE_eK, ↓rE_eLi, ↓rE_eLj, ↓rE_eLa, ↓rE_eU, ↓rE_eB, ↓rE_eG, ↓rE_eIF, ↓rE_eAI, ↓rE_eAX, ↓rE_eAJ, ↓rE_eAR, ↓rE_eLen, ↓rE_eSI, ↓rE_eC, ↓rE_eCall, ↓rE_eNew, ↓rE_eNewA, ↓rE_eInst, ↓rC_cI, ↓rC_cZ0, ↓rC_cN, ↓rC_cNot, ↓rC_cAnd, ↓rC_cOr, ↓rA_aN, ↓rA_aC, ↓rS_sP, ↓rS_sUF, ↓rS_sAI, ↓rS_sAJ, ↓rS_sAR, ↓rS_sUA, ↓rS_sCall, ↓rS_sObj, ↓rS_sSi, ↓rS_sSa, ↓rS_sSj, ↓rS_sInc, ↓rS_sSkip, ↓rS_sSeq, ↓rS_sIf, ↓rS_sRetI, ↓rS_sRetJ, ↓rS_sRetA, ↓rS_sRetV, ↓rS_sSw, ↓rD_meth, ↓rD_on, ↓kR_ref, ↓kI_int, ↓kJ_long, ↓kN_null, ↓kN_ref, ↓kN_rf, ↓kQ_ref, ↓kQ_null, ↓kQ_rf, o1_i, o1ij_i, o1ji_i, o2_i, o2d_i, o2j_i, o2ji_i, o2c_i, fv_0, fv_1, fv_2, fv_3, pf_0, pf_2, pf_3, pf_4, rf_s, rf_n, is_self, ge_0, ge_s, ge_n, gd_s, gd_n, se_0, se_s, ag_0, ex_n, ex_i, ex_r, ex_0, ex_j, ex_q, ap_c, ap_n, List.append_nil, ln_c, ln_n, rp_0, rp_s, rt_0, rt_1, rt_20, rt_21, rt_2, rt_3, rt_4, rt_4n, rt_4q, nl_0, nl_1, nl_2, nl_3, nl_4, nl_5, nl_6, nl_7, nl_8, nl_9, nlB_i, nlB_r, nlB_n, nlB_f, nlB_q, ↓reduceIte, reduceCtorEq, Nat.reduceAdd, Nat.reduceSub, Nat.reduceEqDiff, Nat.reduceLeDiff, Nat.reduceBEq, ite_true, ite_false, dt_t, Bool.not_true, Bool.not_false, Bool.false_eq_true, Nat.le_refl, true_and, and_true, true_or, or_true, false_or, or_false, false_and, and_false, qEq, qNe, qLt, qGe, qGt, qLe, sT_35 hS, hk, one_ne0, not_false_eq_true, nt_t, not_true, rD_tb1 (sT_35 hS), rD_of hma, sT_35 q8, sR_35_52 q8, sT_65 q8, sL_65 q8, f0, f1, f2, f3, g0, g1, g2, g3, pT_uI, pL_uI, pR_uI, x0, x1, x2, x3, x4]
  · rw [pI_uI_ne _ _ _ g1, pI_uI_ne _ _ _ g1, pI_uI_ne _ _ _ g1, pI_uI_ne _ _ _ g1]; exact vI a j g1 g2 g3
  · rw [pI_uI_nek _ _ _ _ g5, pI_uI_nek _ _ _ _ g4, pI_uI_nek _ _ _ _ g3, pI_uI_nek _ _ _ _ g2]; exact v35 k g1
  · rw [cur_scal (Or.inr (Or.inr rfl)), cur_scal (Or.inr (Or.inl rfl)), cur_scal (Or.inl rfl), cur_0]
    show upd (upd (upd (upd (cur s8) 0 (pI σ 64 0)) 1 (pI σ 64 1)) 2 (pI σ 64 2)) 3 (pI σ 64 3) j = _
    by_cases c : j < 4
    · rcases lt4 c with rfl | rfl | rfl | rfl
      · rw [upd_ne _ _ (by decide), upd_ne _ _ (by decide), upd_ne _ _ (by decide), upd_at]
      · rw [upd_ne _ _ (by decide), upd_ne _ _ (by decide), upd_at]
      · rw [upd_ne _ _ (by decide), upd_at]
      · rw [upd_at]
    · rw [upd_ne _ _ (by omega), upd_ne _ _ (by omega), upd_ne _ _ (by omega), upd_ne _ _ (by omega)]; exact vc j (by omega) hj
theorem step_again (Rk : (Nat → Nat → Int32) → Prop) {σ : pm_H} {n : Nat} (h : Rel Rk σ n) : Step Rk D_X11_again D_X12_again [] σ := by
  have hs := Rel_Sh h
  have h66 := hs.2.2.2
  rcases Rel_kept h with ⟨g1, g2⟩ | ⟨g1, kv, m, g2, hv, hsep⟩
  · refine ⟨-3, σ, σ, n, ?_, ?_, h, by omega, by omega⟩
    · refine rD_un.trans ?_
      simp only [D_X11_again, B_X11_again, ↓rE_eK, ↓rE_eLi, ↓rE_eLj, ↓rE_eLa, ↓rE_eU, ↓rE_eB, ↓rE_eG, ↓rE_eIF, ↓rE_eAI, ↓rE_eAX, ↓rE_eAJ, ↓rE_eAR, ↓rE_eLen, ↓rE_eSI, ↓rE_eC, ↓rE_eCall, ↓rE_eNew, ↓rE_eNewA, ↓rE_eInst, ↓rC_cI, ↓rC_cZ0, ↓rC_cN, ↓rC_cNot, ↓rC_cAnd, ↓rC_cOr, ↓rA_aN, ↓rA_aC, ↓rS_sP, ↓rS_sUF, ↓rS_sAI, ↓rS_sAJ, ↓rS_sAR, ↓rS_sUA, ↓rS_sCall, ↓rS_sObj, ↓rS_sSi, ↓rS_sSa, ↓rS_sSj, ↓rS_sInc, ↓rS_sSkip, ↓rS_sSeq, ↓rS_sIf, ↓rS_sRetI, ↓rS_sRetJ, ↓rS_sRetA, ↓rS_sRetV, ↓rS_sSw, ↓rD_meth, ↓rD_on, ↓kR_ref, ↓kI_int, ↓kJ_long, ↓kN_null, ↓kN_ref, ↓kN_rf, ↓kQ_ref, ↓kQ_null, ↓kQ_rf, o1_i, o1ij_i, o1ji_i, o2_i, o2d_i, o2j_i, o2ji_i, o2c_i, fv_0, fv_1, fv_2, fv_3, pf_0, pf_2, pf_3, pf_4, rf_s, rf_n, is_self, ge_0, ge_s, ge_n, gd_s, gd_n, se_0, se_s, ag_0, ex_n, ex_i, ex_r, ex_0, ex_j, ex_q, ap_c, ap_n, List.append_nil, ln_c, ln_n, rp_0, rp_s, rt_0, rt_1, rt_20, rt_21, rt_2, rt_3, rt_4, rt_4n, rt_4q, nl_0, nl_1, nl_2, nl_3, nl_4, nl_5, nl_6, nl_7, nl_8, nl_9, nlB_i, nlB_r, nlB_n, nlB_f, nlB_q, ↓reduceIte, reduceCtorEq, Nat.reduceAdd, Nat.reduceSub, Nat.reduceEqDiff, Nat.reduceLeDiff, Nat.reduceBEq, ite_true, ite_false, dt_t, Bool.not_true, Bool.not_false, Bool.false_eq_true, Nat.le_refl, true_and, and_true, true_or, or_true, false_or, or_false, false_and, and_false, qEq, qNe, qLt, qGe, qGt, qLe, sT_11 hs, g2]
    · refine rD_un.trans ?_
      simp only [D_X12_again, B_X12_again, ↓rE_eK, ↓rE_eLi, ↓rE_eLj, ↓rE_eLa, ↓rE_eU, ↓rE_eB, ↓rE_eG, ↓rE_eIF, ↓rE_eAI, ↓rE_eAX, ↓rE_eAJ, ↓rE_eAR, ↓rE_eLen, ↓rE_eSI, ↓rE_eC, ↓rE_eCall, ↓rE_eNew, ↓rE_eNewA, ↓rE_eInst, ↓rC_cI, ↓rC_cZ0, ↓rC_cN, ↓rC_cNot, ↓rC_cAnd, ↓rC_cOr, ↓rA_aN, ↓rA_aC, ↓rS_sP, ↓rS_sUF, ↓rS_sAI, ↓rS_sAJ, ↓rS_sAR, ↓rS_sUA, ↓rS_sCall, ↓rS_sObj, ↓rS_sSi, ↓rS_sSa, ↓rS_sSj, ↓rS_sInc, ↓rS_sSkip, ↓rS_sSeq, ↓rS_sIf, ↓rS_sRetI, ↓rS_sRetJ, ↓rS_sRetA, ↓rS_sRetV, ↓rS_sSw, ↓rD_meth, ↓rD_on, ↓kR_ref, ↓kI_int, ↓kJ_long, ↓kN_null, ↓kN_ref, ↓kN_rf, ↓kQ_ref, ↓kQ_null, ↓kQ_rf, o1_i, o1ij_i, o1ji_i, o2_i, o2d_i, o2j_i, o2ji_i, o2c_i, fv_0, fv_1, fv_2, fv_3, pf_0, pf_2, pf_3, pf_4, rf_s, rf_n, is_self, ge_0, ge_s, ge_n, gd_s, gd_n, se_0, se_s, ag_0, ex_n, ex_i, ex_r, ex_0, ex_j, ex_q, ap_c, ap_n, List.append_nil, ln_c, ln_n, rp_0, rp_s, rt_0, rt_1, rt_20, rt_21, rt_2, rt_3, rt_4, rt_4n, rt_4q, nl_0, nl_1, nl_2, nl_3, nl_4, nl_5, nl_6, nl_7, nl_8, nl_9, nlB_i, nlB_r, nlB_n, nlB_f, nlB_q, ↓reduceIte, reduceCtorEq, Nat.reduceAdd, Nat.reduceSub, Nat.reduceEqDiff, Nat.reduceLeDiff, Nat.reduceBEq, ite_true, ite_false, dt_t, Bool.not_true, Bool.not_false, Bool.false_eq_true, Nat.le_refl, true_and, and_true, true_or, or_true, false_or, or_false, false_and, and_false, qEq, qNe, qLt, qGe, qGt, qLe, sT_35 hs, g1, not_true, nt_t, not_false_eq_true]
  · have h8 := VR_8 hv
    obtain ⟨s, hD, hC⟩ := d_copied h66 hv
    obtain ⟨hvs, eP, eD, eQ⟩ := CI_VR h66 hv hC
    have hNw := hC.2.1
    obtain ⟨σ1, e1⟩ : ∃ σ1, σ1 = uR s 11 0 (some (pN σ)) := ⟨_, rfl⟩
    have hg1 : Gr σ σ1 := by rw [e1]; exact Gr_uR (Nw_Gr hNw h66) (Or.inl ⟨rfl, by decide⟩) (by omega)
    have hs1 := Gr_Sh hg1 hs
    have hI1 : ∀ a, a < pN σ → pI σ1 a = pI σ a := fun a ha => by rw [e1]; exact (CI_old hC ha).2.2.1
    have hR1 : ∀ a k, ¬ (a = 11 ∧ k = 0) → pR σ1 a k = pR s a k := fun a k q => by rw [e1, pR_uR, if_neg q]
    obtain ⟨σ2, hM, k1, k3, k4, k5⟩ := d_again_m hs1 (by rw [hI1 35 (by omega)]; exact g1)
    rw [hI1 64 (by omega)] at hM k5
    have hm0 : pI σ 64 0 = nI m := hv.1.2.1
    rw [hm0] at hM
    have hg2 : Gr σ σ2 := Gr_tr hg1 (Pl_Gr k1 (fun a k q => by
      by_cases c : a = 35
      · subst c; exact k4 k (by unfold grc at q; omega) (by unfold grc at q; omega) (by unfold grc at q; omega) (by unfold grc at q; omega) (by unfold grc at q; omega)
      · exact k3 a k c (by unfold grc at q; omega) (by unfold grc at q; omega)))
    have hIa : ∀ a, a < pN σ → a ≠ 35 → ¬ (36 ≤ a ∧ a ≤ 42) → a ≠ 65 → pI σ2 a = pI σ a := fun a q0 q1 q2 q3 => by rw [← hI1 a q0]; exact funext fun j => k3 a j q1 q2 q3
    have h35 : ∀ k, k ≠ 51 → k ≠ 0 → k ≠ 8 → k ≠ 9 → k ≠ 10 → pI σ2 35 k = pI σ 35 k := fun k q1 q2 q3 q4 q5 => by rw [k4 k q1 q2 q3 q4 q5, hI1 35 (by omega)]
    have hRt : pR σ2 = pR σ1 := k1.2.2.1
    have hNt : pN σ2 = pN s := k1.2.2.2.1.trans (by rw [e1]; rfl)
    have hTt : pT σ2 = pT s := k1.1.trans (by rw [e1]; rfl)
    have hLt : pL σ2 = pL s := k1.2.1.trans (by rw [e1]; rfl)
    have en : nowA σ2 = pN σ := by unfold nowA; rw [hRt, e1, pR_uR_at]; rfl
    have hRf : ∀ a, a ≠ 11 → pR σ2 a = pR s a := fun a q => by rw [hRt]; exact funext fun k => hR1 a k (by omega)
    have hfo := fun a (ha : fp σ kv m a) => fp_off hv ha
    obtain ⟨hvn, hvP, hvD, hvQ, -⟩ := VR_fr (σ' := σ2) hv (by rw [hNt]; exact hNw.1) (fun a ha => by rw [hTt]; exact (CI_old hC ha).1) (fun a ha => by rw [hLt]; exact (CI_old hC ha).2.1) (fun a ha => ⟨hIa a (fp_lt hv ha) (by have := hfo a ha; omega) (by have := hfo a ha; omega) (by have := hfo a ha; omega), by rw [hRf a (by have := hfo a ha; omega)]; exact (CI_old hC (fp_lt hv ha)).2.2.2.2⟩)
    have hsI : ∀ a, 66 ≤ a → pI σ2 a = pI s a := fun a q => by
      have : pI σ2 a = pI σ1 a := funext fun j => k3 a j (by omega) (by omega) (by omega)
      rw [this, e1]; rfl
    have hfs : ∀ a, fp s (pN σ) m a → 66 ≤ a := fun a ha => by
      rcases ha with rfl | rfl | rfl | ⟨i, hi, rfl⟩
      · exact h66
      · rw [eP]; omega
      · rw [eD]; omega
      · rw [eQ i hi]; omega
    obtain ⟨hkn, hkP, hkD, hkQ, -⟩ := VR_fr (σ' := σ2) hvs (by rw [hNt]; exact Nat.le_refl _) (fun a _ => by rw [hTt]) (fun a _ => by rw [hLt]) (fun a ha => ⟨hsI a (hfs a ha), hRf a (by have := hfs a ha; omega)⟩)
    have hlt := hv.2.2.2.2.2.2.2.2.2
    refine ⟨nI m, σ1, σ2, m, ?_, hM, Rel_gr h hg2 (TapeR_fr h.2.1 ?_ (h35 12 (by decide) (by decide) (by decide) (by decide) (by decide)) ?_ ?_) (RowR_fr h.2.2.1 ?_ (h35 36 (by decide) (by decide) (by decide) (by decide) (by decide)) ?_ ?_) ⟨?_, by rw [en]; exact VR_ext hkn (fun j hj => k5 j hj)⟩ (Or.inr ⟨?_, kv, m, ?_, by rw [hIa 64 (by omega) (by decide) (by decide) (by decide)]; exact hvn, ?_⟩), ?_, ?_⟩
    · refine rD_un.trans ?_
      have hT11 : pT s 11 = 11 := by rw [(CI_old hC (show 11 < pN σ by omega)).1]; exact sT_11 hs
      have r0 : pR (uR s 11 0 (some (pN σ))) 11 0 = some (pN σ) := pR_uR_at _ _ _ _
      simp only [D_X11_again, B_X11_again, ↓rE_eK, ↓rE_eLi, ↓rE_eLj, ↓rE_eLa, ↓rE_eU, ↓rE_eB, ↓rE_eG, ↓rE_eIF, ↓rE_eAI, ↓rE_eAX, ↓rE_eAJ, ↓rE_eAR, ↓rE_eLen, ↓rE_eSI, ↓rE_eC, ↓rE_eCall, ↓rE_eNew, ↓rE_eNewA, ↓rE_eInst, ↓rC_cI, ↓rC_cZ0, ↓rC_cN, ↓rC_cNot, ↓rC_cAnd, ↓rC_cOr, ↓rA_aN, ↓rA_aC, ↓rS_sP, ↓rS_sUF, ↓rS_sAI, ↓rS_sAJ, ↓rS_sAR, ↓rS_sUA, ↓rS_sCall, ↓rS_sObj, ↓rS_sSi, ↓rS_sSa, ↓rS_sSj, ↓rS_sInc, ↓rS_sSkip, ↓rS_sSeq, ↓rS_sIf, ↓rS_sRetI, ↓rS_sRetJ, ↓rS_sRetA, ↓rS_sRetV, ↓rS_sSw, ↓rD_meth, ↓rD_on, ↓kR_ref, ↓kI_int, ↓kJ_long, ↓kN_null, ↓kN_ref, ↓kN_rf, ↓kQ_ref, ↓kQ_null, ↓kQ_rf, o1_i, o1ij_i, o1ji_i, o2_i, o2d_i, o2j_i, o2ji_i, o2c_i, fv_0, fv_1, fv_2, fv_3, pf_0, pf_2, pf_3, pf_4, rf_s, rf_n, is_self, ge_0, ge_s, ge_n, gd_s, gd_n, se_0, se_s, ag_0, ex_n, ex_i, ex_r, ex_0, ex_j, ex_q, ap_c, ap_n, List.append_nil, ln_c, ln_n, rp_0, rp_s, rt_0, rt_1, rt_20, rt_21, rt_2, rt_3, rt_4, rt_4n, rt_4q, nl_0, nl_1, nl_2, nl_3, nl_4, nl_5, nl_6, nl_7, nl_8, nl_9, nlB_i, nlB_r, nlB_n, nlB_f, nlB_q, ↓reduceIte, reduceCtorEq, Nat.reduceAdd, Nat.reduceSub, Nat.reduceEqDiff, Nat.reduceLeDiff, Nat.reduceBEq, ite_true, ite_false, dt_t, Bool.not_true, Bool.not_false, Bool.false_eq_true, Nat.le_refl, true_and, and_true, true_or, or_true, false_or, or_false, false_and, and_false, qEq, qNe, qLt, qGe, qGt, qLe, sT_11 hs, g2, rD_tb1 (VR_T hv), rD_of hD, hT11, pT_uR, pI_uR, r0, VR_T hvs, VR_s hvs, e1]
    all_goals first
      | exact congrFun (hIa _ (by omega) (by decide) (by decide) (by decide)) _
      | exact hIa _ (by omega) (by decide) (by decide) (by decide)
      | skip
    · rw [en, hRt, e1, pR_uR_at]
    · rw [h35 49 (by decide) (by decide) (by decide) (by decide) (by decide)]; exact g1
    · rw [hRt, hR1 11 1 (by omega), (CI_old hC (show 11 < pN σ by omega)).2.2.2.2]; exact g2
    · rw [en]
      refine ⟨by omega, by rw [hvP, hkP, eP]; omega, by rw [hvD, hkD, eD]; omega, fun i j hi hj => ?_⟩
      rw [VR_nOf hkn] at hi
      rw [VR_nOf hvn] at hj
      rw [hvQ j hj, hkQ i hi, eQ i hi]
      have := hlt.2.2.2 j hj
      omega
    · rw [hNt, hC.1.1]; omega
    · have : pS σ2 = pS s := k1.2.2.2.2.1.trans (by rw [e1]; rfl)
      rw [this, hC.1.2]; omega
