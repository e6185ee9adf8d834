/-! A valley is copied. -/
def nvl (σ : pm_H) : pm_H := uI (uR (nw (uR (nw (nw σ 10 0 5) 15 8 8) (pN σ) 0 (some (pN σ + 1))) 13 64 64) (pN σ) 1 (some (pN σ + 2))) (pN σ) 4 1
theorem nv_N (σ : pm_H) : pN (nvl σ) = pN σ + 3 := rfl
theorem nv_S (σ : pm_H) : pS (nvl σ) = pS σ + 77 := rfl
theorem nv_T (σ : pm_H) (a : Nat) : pT (nvl σ) a = if a = pN σ + 2 then 13 else if a = pN σ + 1 then 15 else if a = pN σ then 10 else pT σ a := by
  unfold nvl
  rw [pT_uI, pT_uR, pT_nw, pT_uR, pT_nw, pT_nw, pN_uR, pN_nw, pN_nw]
theorem nv_L (σ : pm_H) (a : Nat) : pL (nvl σ) a = if a = pN σ + 2 then 64 else if a = pN σ + 1 then 8 else if a = pN σ then 0 else pL σ a := by
  unfold nvl
  rw [pL_uI, pL_uR, pL_nw, pL_uR, pL_nw, pL_nw, pN_uR, pN_nw, pN_nw]
theorem nv_I (σ : pm_H) (a k : Nat) : pI (nvl σ) a k = if a = pN σ ∧ k = 4 then 1 else if a = pN σ + 2 then 0 else if a = pN σ + 1 then 0 else if a = pN σ then 0 else pI σ a k := by
  unfold nvl
  rw [pI_uI, pI_uR, pI_nw, pI_uR, pI_nw, pI_nw, pN_uR, pN_nw, pN_nw]
theorem nv_R (σ : pm_H) (a k : Nat) : pR (nvl σ) a k = if a = pN σ ∧ k = 1 then some (pN σ + 2) else if a = pN σ + 2 then none else if a = pN σ ∧ k = 0 then some (pN σ + 1) else if a = pN σ + 1 then none else if a = pN σ then none else pR σ a k := by
  unfold nvl
  rw [pR_uI, pR_uR, pR_nw, pR_uR, pR_nw, pR_nw, pN_uR, pN_nw, pN_nw]
theorem nv_J (σ : pm_H) (a k : Nat) : pJ (nvl σ) a k = if a = pN σ + 2 then 0 else if a = pN σ + 1 then 0 else if a = pN σ then 0 else pJ σ a k := by
  unfold nvl
  rw [pJ_uI, pJ_uR, pJ_nw, pJ_uR, pJ_nw, pJ_nw, pN_uR, pN_nw, pN_nw]
theorem d_newValley (σ : pm_H) : D_X10_init [.ref (pN σ)] (nw σ 10 0 5) = some (none, nvl σ) := by
  refine rD_un.trans ?_
  have t1 : pT (nw σ 10 0 5) (pN σ) = 10 := by rw [pT_nw, if_pos rfl]
  have t2 : pT (nw (nw σ 10 0 5) 15 8 8) (pN σ) = 10 := by rw [pT_nw, pN_nw, if_neg (by omega)]; exact t1
  have t3 : pT (nw (uR (nw (nw σ 10 0 5) 15 8 8) (pN σ) 0 (some (pN σ + 1))) 13 64 64) (pN σ) = 10 := by rw [pT_nw, pN_uR, pN_nw, pN_nw, if_neg (by omega), pT_uR]; exact t2
  have f1 : ¬ (8 : Int32) < 0 := by decide
  have f2 : (8 : Int32).toNatClampNeg = 8 := by decide
  have f3 : ¬ (64 : Int32) < 0 := by decide
  have f4 : (64 : Int32).toNatClampNeg = 64 := by decide
  simp only [D_X10_init, B_X10_init, ↓rE_eK, ↓rE_eLi, ↓rE_eLj, ↓rE_eLa, ↓rE_eU, ↓rE_eB, ↓rE_eG, ↓rE_eIF, ↓rE_eAI, ↓rE_eAX, ↓rE_eAJ, ↓rE_eAR, ↓rE_eLen, ↓rE_eSI, ↓rE_eC, ↓rE_eCall, ↓rE_eNew, ↓rE_eNewA, ↓rE_eInst, ↓rC_cI, ↓rC_cZ0, ↓rC_cN, ↓rC_cNot, ↓rC_cAnd, ↓rC_cOr, ↓rA_aN, ↓rA_aC, ↓rS_sP, ↓rS_sUF, ↓rS_sAI, ↓rS_sAJ, ↓rS_sAR, ↓rS_sUA, ↓rS_sCall, ↓rS_sObj, ↓rS_sSi, ↓rS_sSa, ↓rS_sSj, ↓rS_sInc, ↓rS_sSkip, ↓rS_sSeq, ↓rS_sIf, ↓rS_sRetI, ↓rS_sRetJ, ↓rS_sRetA, ↓rS_sRetV, ↓rS_sSw, ↓rD_meth, ↓rD_on, ↓kR_ref, ↓kI_int, ↓kJ_long, ↓kN_null, ↓kN_ref, ↓kN_rf, ↓kQ_ref, ↓kQ_null, ↓kQ_rf, o1_i, o1ij_i, o1ji_i, o2_i, o2d_i, o2j_i, o2ji_i, o2c_i, fv_0, fv_1, fv_2, fv_3, pf_0, pf_2, pf_3, pf_4, rf_s, rf_n, is_self, ge_0, ge_s, ge_n, gd_s, gd_n, se_0, se_s, ag_0, ex_n, ex_i, ex_r, ex_0, ex_j, ex_q, ap_c, ap_n, List.append_nil, ln_c, ln_n, rp_0, rp_s, rt_0, rt_1, rt_20, rt_21, rt_2, rt_3, rt_4, rt_4n, rt_4q, nl_0, nl_1, nl_2, nl_3, nl_4, nl_5, nl_6, nl_7, nl_8, nl_9, nlB_i, nlB_r, nlB_n, nlB_f, nlB_q, ↓reduceIte, reduceCtorEq, Nat.reduceAdd, Nat.reduceSub, Nat.reduceEqDiff, Nat.reduceLeDiff, Nat.reduceBEq, ite_true, ite_false, dt_t, Bool.not_true, Bool.not_false, Bool.false_eq_true, Nat.le_refl, true_and, and_true, true_or, or_true, false_or, or_false, false_and, and_false, qEq, qNe, qLt, qGe, qGt, qLe, t1, f1, f2, f3, f4, not_false_eq_true, t2, t3, pN_nw, pN_uR, pT_uR, nvl]
/-- old cells are as they were -/
def Nw (σ s : pm_H) : Prop := pN σ ≤ pN s ∧ ∀ a, a < pN σ → pT s a = pT σ a ∧ pL s a = pL σ a ∧ pI s a = pI σ a ∧ pJ s a = pJ σ a ∧ pR s a = pR σ a
theorem Nw_VR {σ s : pm_H} (h : Nw σ s) {v n : Nat} {vd : Nat → Int32} (hv : VR σ v vd n) : VR s v vd n ∧ vP s v = vP σ v ∧ vD s v = vD σ v ∧ (∀ i, i < n → vQ s v i = vQ σ v i) ∧ nOf s v = nOf σ v := VR_fr hv h.1 (fun a ha => (h.2 a ha).1) (fun a ha => (h.2 a ha).2.1) (fun a ha => ⟨(h.2 a (fp_lt hv ha)).2.2.1, (h.2 a (fp_lt hv ha)).2.2.2.2⟩)
theorem Nw_Gr {σ s : pm_H} (h : Nw σ s) (h66 : 66 ≤ pN σ) : Gr σ s := by
  obtain ⟨h1, h2⟩ := h
  refine ⟨⟨h1, fun a ha => (h2 a ha).1, fun a ha => (h2 a ha).2.1⟩, fun a ha _ => (h2 a ha).2.2.2.1, fun a k q => ?_, fun a q1 q2 _ => ⟨(h2 a q2).2.2.1, (h2 a q2).2.2.2.2⟩, fun a k q1 _ _ _ _ => by rw [(h2 a (by omega)).2.2.2.2]⟩
  have : a < pN σ := by unfold grc at q; omega
  rw [(h2 a this).2.2.1]
/-- how far a copy is -/
def CI (σ : pm_H) (v n : Nat) (vd : Nat → Int32) (i : Nat) (s : pm_H) : Prop := (pN s = pN σ + 3 + i ∧ pS s = pS σ + 77 + 7 * i) ∧ Nw σ s ∧ (pT s (pN σ) = 10 ∧ pR s (pN σ) 0 = some (pN σ + 1) ∧ pR s (pN σ) 1 = some (pN σ + 2) ∧ pT s (pN σ + 1) = 15 ∧ pL s (pN σ + 1) = 8 ∧ pT s (pN σ + 2) = 13 ∧ pL s (pN σ + 2) = 64) ∧ (pI s (pN σ) 2 = nI n ∧ pI s (pN σ) 3 = vd 2 ∧ pI s (pN σ) 4 = vd 3) ∧ (∀ k, k < 64 → pI s (pN σ + 2) k = pI σ (vD σ v) k) ∧ ∀ j, j < i → pR s (pN σ + 1) j = some (pN σ + 3 + j) ∧ pT s (pN σ + 3 + j) = pT σ (vQ σ v j) ∧ ∀ k, k ≤ 6 → pI s (pN σ + 3 + j) k = pI σ (vQ σ v j) k
theorem CI_VR {σ s : pm_H} {v n : Nat} {vd : Nat → Int32} (h66 : 66 ≤ pN σ) (hv : VR σ v vd n) (h : CI σ v n vd n s) : VR s (pN σ) vd n ∧ vP s (pN σ) = pN σ + 1 ∧ vD s (pN σ) = pN σ + 2 ∧ ∀ j, j < n → vQ s (pN σ) j = pN σ + 3 + j := by
  obtain ⟨⟨c1, c2⟩, c3, ⟨d1, d2, d3, d4, d5, d6, d7⟩, ⟨e1, e2, e3⟩, f1, f2⟩ := h
  have eP : vP s (pN σ) = pN σ + 1 := by unfold vP; rw [d2]; rfl
  have eD : vD s (pN σ) = pN σ + 2 := by unfold vD; rw [d3]; rfl
  have eQ : ∀ j, j < n → vQ s (pN σ) j = pN σ + 3 + j := fun j hj => by unfold vQ; rw [eP, (f2 j hj).1]; rfl
  refine ⟨⟨hv.1, ⟨d1, by rw [eP]; exact d2, by rw [eD]; exact d3, by rw [eP]; exact d4, by rw [eP]; exact d5, by rw [eD]; exact d6, by rw [eD]; exact d7⟩, ⟨e1, e2, e3⟩, fun i hi => ?_, fun a b ha hb => ?_, Or.inr (by omega), by rw [eP]; right; omega, by rw [eD]; right; omega, fun i hi => by rw [eQ i hi]; omega, by omega, by rw [eP]; omega, by rw [eD]; omega, fun i hi => by rw [eQ i hi]; omega⟩, eP, eD, eQ⟩
  · obtain ⟨g1, g2, g3⟩ := f2 i hi
    obtain ⟨⟨k, k1, k2, k3⟩, p2, p3, p4, p5, p6, p7, p8⟩ := VR_p hv hi
    rw [eP, eQ i hi]
    refine ⟨g1, ⟨k, k1, k2, g2.trans k3⟩, ?_⟩
    rw [g3 0 (by decide), g3 1 (by decide), g3 2 (by decide), g3 3 (by decide), g3 4 (by decide), g3 5 (by decide), g3 6 (by decide)]
    exact ⟨p2, p3, p4, p5, p6, p7, p8⟩
  · rw [eD, f1 _ (by omega)]; exact hv.2.2.2.2.1 a b ha hb
theorem d_copied {σ : pm_H} {v n : Nat} {vd : Nat → Int32} (h66 : 66 ≤ pN σ) (hv : VR σ v vd n) : ∃ s, D_X10_copied [.ref v] σ = some (some (.ref (pN σ)), s) ∧ CI σ v n vd n s := by
  have h8 := VR_8 hv
  have hlt := hv.2.2.2.2.2.2.2.2.2
  have hap := VR_apart hv
  obtain ⟨w, ew⟩ : ∃ w, pN σ = w := ⟨_, rfl⟩
  obtain ⟨s0, es0⟩ : ∃ s0, s0 = uC (uI (uI (uI (nvl σ) w 2 (nI n)) w 3 (vd 2)) w 4 (vd 3)) (w + 2) (vD σ v) 64 := ⟨_, rfl⟩
  have hI0 : ∀ a k, pI s0 a k = if a = w + 2 ∧ k < 64 then pI σ (vD σ v) k else if a = w ∧ k = 4 then vd 3 else if a = w ∧ k = 3 then vd 2 else if a = w ∧ k = 2 then nI n else if a = w + 2 ∨ a = w + 1 ∨ a = w then 0 else pI σ a k := fun a k => by
    rw [es0, pI_uC, pI_uI, pI_uI, pI_uI, pI_uI, pI_uI, pI_uI, nv_I, nv_I, ew]
    by_cases c1 : a = w + 2 ∧ k < 64
    · rw [if_pos c1, if_pos c1, if_neg (by omega), if_neg (by omega), if_neg (by omega), if_neg (by omega), if_neg (by omega), if_neg (by omega), if_neg (by omega)]
    · rw [if_neg c1, if_neg c1]
      by_cases c2 : a = w ∧ k = 4
      · rw [if_pos c2, if_pos c2]
      · rw [if_neg c2, if_neg c2]
        by_cases c3 : a = w ∧ k = 3
        · rw [if_pos c3, if_pos c3, if_neg c2]
        · rw [if_neg c3, if_neg c3]
          by_cases c4 : a = w ∧ k = 2
          · rw [if_pos c4, if_pos c4, if_neg c2]
          · rw [if_neg c4, if_neg c4, if_neg c2]
            by_cases c5 : a = w + 2
            · rw [if_pos c5, if_pos (Or.inl c5)]
            · rw [if_neg c5]
              by_cases c6 : a = w + 1
              · rw [if_pos c6, if_pos (Or.inr (Or.inl c6))]
              · rw [if_neg c6]
                by_cases c7 : a = w
                · rw [if_pos c7, if_pos (Or.inr (Or.inr c7))]
                · rw [if_neg c7, if_neg (by omega)]
  have hT0 : ∀ a, pT s0 a = if a = w + 2 then 13 else if a = w + 1 then 15 else if a = w then 10 else pT σ a := fun a => by rw [es0, pT_uC, pT_uI, pT_uI, pT_uI, nv_T, ew]
  have hL0 : ∀ a, pL s0 a = if a = w + 2 then 64 else if a = w + 1 then 8 else if a = w then 0 else pL σ a := fun a => by rw [← ew, ← nv_L, es0]; rfl
  have hR0 : ∀ a, pR s0 a = pR (nvl σ) a := fun a => by rw [es0]; rfl
  have hJ0 : ∀ a, pJ s0 a = pJ (nvl σ) a := fun a => by rw [es0]; rfl
  have hN0 : pN s0 = w + 3 := by rw [es0, ← ew]; rfl
  have hS0 : pS s0 = pS σ + 77 := by rw [es0]; rfl
  have h0 : CI σ v n vd 0 s0 := by
    unfold CI
    rw [ew]
    refine ⟨⟨hN0, hS0⟩, ⟨by omega, fun a ha => ⟨?_, ?_, ?_, ?_, ?_⟩⟩, ⟨?_, ?_, ?_, ?_, ?_, ?_, ?_⟩, ⟨?_, ?_, ?_⟩, fun k hk => ?_, fun j hj => by omega⟩
    · rw [hT0, if_neg (by omega), if_neg (by omega), if_neg (by omega)]
    · rw [hL0, if_neg (by omega), if_neg (by omega), if_neg (by omega)]
    · funext k; rw [hI0, if_neg (by omega), if_neg (by omega), if_neg (by omega), if_neg (by omega), if_neg (by omega)]
    · rw [hJ0]; funext k; rw [nv_J, if_neg (by omega), if_neg (by omega), if_neg (by omega)]
    · rw [hR0]; funext k; rw [nv_R, if_neg (by omega), if_neg (by omega), if_neg (by omega), if_neg (by omega), if_neg (by omega)]
    · rw [hT0, if_neg (by omega), if_neg (by omega), if_pos rfl]
    · rw [hR0, nv_R, ew, if_neg (by omega), if_neg (by omega), if_pos ⟨rfl, rfl⟩]
    · rw [hR0, nv_R, ew, if_pos ⟨rfl, rfl⟩]
    · rw [hT0, if_neg (by omega), if_pos rfl]
    · rw [hL0, if_neg (by omega), if_pos rfl]
    · rw [hT0, if_pos rfl]
    · rw [hL0, if_pos rfl]
    · rw [hI0, if_neg (by omega), if_neg (by omega), if_neg (by omega), if_pos ⟨rfl, rfl⟩]
    · rw [hI0, if_neg (by omega), if_neg (by omega), if_pos ⟨rfl, rfl⟩]
    · rw [hI0, if_neg (by omega), if_pos ⟨rfl, rfl⟩]
    · rw [hI0, if_pos ⟨rfl, hk⟩]
  have hl : ∃ r s, sLoop (cI qLt (eLi 2) (eG (is 10) 0 2 (eLa 0))) (sSeq (sSeq (sSa 3 (eAR (eG (is 10) 3 0 (eLa 0)) (eLi 2))) (sIf (cNot (cN (eLa 3))) (sAR (eG (is 10) 3 0 (eLa 1)) (eLi 2) (eCall D_X11_likeness (aC (eLa 3) (aC (eCall (pm_disp (tb6 D_X0_kind D_X1_kind D_X2_kind D_X4_kind D_X6_kind D_X9_kind)) (aC (eLa 3) (aN))) (aN))))) sSkip)) (sInc 2 1)) [.ref v, .ref w, .int 0, .float 0] s0 = some (r, s) ∧ (CI σ v n vd n s ∧ ∃ x, r = .inl [.ref v, .ref w, .int (nI n), x]) := by
    refine loop_gen (fun i env s => CI σ v n vd i s ∧ ∃ x, env = [.ref v, .ref w, .int (nI i), x]) _ n (by omega) ⟨h0, .float 0, by rw [nI_0]⟩ ?_
    rintro i env s hi ⟨hC, x, rfl⟩
    have hC' := hC
    obtain ⟨⟨c1, c2⟩, c3, ⟨d1, d2, d3, d4, d5, d6, d7⟩, ⟨e1, e2, e3⟩, f1, f2⟩ := hC
    obtain ⟨hvs, eP, eD, eQ, -⟩ := Nw_VR c3 hv
    by_cases e : i < n
    · left
      have hlti : nI i < nI n := by rw [nI_lt' (by omega) (by omega)]; exact e
      have i8 : i < 8 := by omega
      have hib := ib_nI i8 (show (8 : Nat) ≤ 1000000 by decide)
      have hcl := nI_cl (show i < 2147483648 by omega)
      obtain ⟨kd, kd6, ek, eT⟩ := VR_k hvs e
      have hqlt : vQ σ v i < pN σ := fp_lt hv (fpq e)
      have hqe := eQ i e
      have hqN : vQ s v i ≠ pN s := by rw [hqe]; omega
      have hk := d_likeness kd6 (VR_slp hvs e) hqN (VR_b6 hvs e)
      have hvk := v_kind hvs e
      rw [ek] at hvk
      have eT2 : pT σ (vQ σ v i) = kTag kd := by rw [← hqe, ← (c3.2 _ (by rw [hqe]; exact hqlt)).1]; exact eT
      have y1 : pT (lkp s (vQ s v i) kd) (w + 1) = 15 := by rw [lk_T, if_neg (by omega), ← ew]; exact d4
      have y2 : pL (lkp s (vQ s v i) kd) (w + 1) = 8 := by rw [lk_L, if_neg (by omega), ← ew]; exact d5
      have y3 : pT (lkp s (vQ s v i) kd) (pN s) = kTag kd := by rw [lk_T, if_pos rfl]
      rw [ew] at d1 d2 d3 d4 d5 d6 d7
      refine ⟨[.ref v, .ref w, .int (nI (i + 1)), .ref (vQ s v i)], uR (lkp s (vQ s v i) kd) (w + 1) i (some (pN s)), ?_, e, ?_, _, rfl⟩
      · simp only [lpStep, ↓rE_eK, ↓rE_eLi, ↓rE_eLj, ↓rE_eLa, ↓rE_eU, ↓rE_eB, ↓rE_eG, ↓rE_eIF, ↓rE_eAI, ↓rE_eAX, ↓rE_eAJ, ↓rE_eAR, ↓rE_eLen, ↓rE_eSI, ↓rE_eC, ↓rE_eCall, ↓rE_eNew, ↓rE_eNewA, ↓rE_eInst, ↓rC_cI, ↓rC_cZ0, ↓rC_cN, ↓rC_cNot, ↓rC_cAnd, ↓rC_cOr, ↓rA_aN, ↓rA_aC, ↓rS_sP, ↓rS_sUF, ↓rS_sAI, ↓rS_sAJ, ↓rS_sAR, ↓rS_sUA, ↓rS_sCall, ↓rS_sObj, ↓rS_sSi, ↓rS_sSa, ↓rS_sSj, ↓rS_sInc, ↓rS_sSkip, ↓rS_sSeq, ↓rS_sIf, ↓rS_sRetI, ↓rS_sRetJ, ↓rS_sRetA, ↓rS_sRetV, ↓rS_sSw, ↓rD_meth, ↓rD_on, ↓kR_ref, ↓kI_int, ↓kJ_long, ↓kN_null, ↓kN_ref, ↓kN_rf, ↓kQ_ref, ↓kQ_null, ↓kQ_rf, o1_i, o1ij_i, o1ji_i, o2_i, o2d_i, o2j_i, o2ji_i, o2c_i, fv_0, fv_1, fv_2, fv_3, pf_0, pf_2, pf_3, pf_4, rf_s, rf_n, is_self, ge_0, ge_s, ge_n, gd_s, gd_n, se_0, se_s, ag_0, ex_n, ex_i, ex_r, ex_0, ex_j, ex_q, ap_c, ap_n, List.append_nil, ln_c, ln_n, rp_0, rp_s, rt_0, rt_1, rt_20, rt_21, rt_2, rt_3, rt_4, rt_4n, rt_4q, nl_0, nl_1, nl_2, nl_3, nl_4, nl_5, nl_6, nl_7, nl_8, nl_9, nlB_i, nlB_r, nlB_n, nlB_f, nlB_q, ↓reduceIte, reduceCtorEq, Nat.reduceAdd, Nat.reduceSub, Nat.reduceEqDiff, Nat.reduceLeDiff, Nat.reduceBEq, ite_true, ite_false, dt_t, Bool.not_true, Bool.not_false, Bool.false_eq_true, Nat.le_refl, true_and, and_true, true_or, or_true, false_or, or_false, false_and, and_false, qEq, qNe, qLt, qGe, qGt, qLe, VR_T hvs, VR_s hvs, hlti, VR_r0 hvs, VR_PT hvs, VR_PL hvs, hib, hcl, VR_q hvs e, d1, d2, rD_of hvk, rD_of hk, y1, y2, y3, tk_15 (kTag_slp kd), nI_1]
      · have hTn : ∀ a, pT (uR (lkp s (vQ s v i) kd) (w + 1) i (some (pN s))) a = if a = pN s then kTag kd else pT s a := fun a => lk_T s (vQ s v i) kd a
        have hLn : ∀ a, pL (uR (lkp s (vQ s v i) kd) (w + 1) i (some (pN s))) a = if a = pN s then 0 else pL s a := fun a => lk_L s (vQ s v i) kd a
        have hIn : ∀ a, a ≠ pN s → pI (uR (lkp s (vQ s v i) kd) (w + 1) i (some (pN s))) a = pI s a := fun a q => lk_I s (vQ s v i) kd q
        have hIk : ∀ k, k ≤ 6 → pI (uR (lkp s (vQ s v i) kd) (w + 1) i (some (pN s))) (pN s) k = pI s (vQ s v i) k := fun k q => lk_k s (vQ s v i) kd q
        have hJn : ∀ a, a ≠ pN s → pJ (uR (lkp s (vQ s v i) kd) (w + 1) i (some (pN s))) a = pJ s a := fun a q => lk_J s (vQ s v i) kd q
        have hRn : ∀ a, a ≠ w + 1 → a ≠ pN s → pR (uR (lkp s (vQ s v i) kd) (w + 1) i (some (pN s))) a = pR s a := fun a q1 q2 => by rw [pR_uR_ne _ _ _ q1, lk_R _ _ _ q2]
        have hRw : ∀ k, pR (uR (lkp s (vQ s v i) kd) (w + 1) i (some (pN s))) (w + 1) k = if k = i then some (pN s) else pR s (w + 1) k := fun k => by
          rw [pR_uR, lk_R _ _ _ (show w + 1 ≠ pN s by omega)]
          by_cases c : k = i
          · rw [if_pos ⟨rfl, c⟩, if_pos c]
          · rw [if_neg (fun q => c q.2), if_neg c]
        have hNn : pN (uR (lkp s (vQ s v i) kd) (w + 1) i (some (pN s))) = pN s + 1 := lk_N s (vQ s v i) kd
        have hSn : pS (uR (lkp s (vQ s v i) kd) (w + 1) i (some (pN s))) = pS s + 7 := lk_S s (vQ s v i) kd
        unfold CI
        rw [ew]
        refine ⟨⟨by omega, by omega⟩, ⟨by omega, fun a ha => ?_⟩, ⟨by rw [hTn, if_neg (by omega)]; exact d1, by rw [hRn _ (by omega) (by omega)]; exact d2, by rw [hRn _ (by omega) (by omega)]; exact d3, by rw [hTn, if_neg (by omega)]; exact d4, by rw [hLn, if_neg (by omega)]; exact d5, by rw [hTn, if_neg (by omega)]; exact d6, by rw [hLn, if_neg (by omega)]; exact d7⟩, ⟨by rw [hIn _ (by omega), ← ew]; exact e1, by rw [hIn _ (by omega), ← ew]; exact e2, by rw [hIn _ (by omega), ← ew]; exact e3⟩, fun k hk => by rw [hIn _ (by omega), ← ew]; exact f1 k hk, fun j hj => ?_⟩
        · obtain ⟨u1, u2, u3, u4, u5⟩ := c3.2 a (by omega)
          exact ⟨by rw [hTn, if_neg (by omega)]; exact u1, by rw [hLn, if_neg (by omega)]; exact u2, by rw [hIn _ (by omega)]; exact u3, by rw [hJn _ (by omega)]; exact u4, by rw [hRn _ (by omega) (by omega)]; exact u5⟩
        · rw [hRw]
          by_cases c : j = i
          · subst c
            rw [if_pos rfl]
            have en : w + 3 + j = pN s := by omega
            refine ⟨by rw [en], by rw [en, hTn, if_pos rfl]; exact eT2.symm, fun k hk => ?_⟩
            rw [en, hIk k hk, (c3.2 _ (by rw [hqe]; exact hqlt)).2.2.1, hqe]
          · obtain ⟨g1, g2, g3⟩ := f2 j (by omega)
            rw [ew] at g1 g2 g3
            rw [if_neg c]
            exact ⟨g1, by rw [hTn, if_neg (by omega)]; exact g2, fun k hk => by rw [hIn _ (by omega)]; exact g3 k hk⟩
    · right
      have : i = n := by omega
      subst this
      have hlti : ¬ nI i < nI i := by rw [nI_lt' (by omega) (by omega)]; omega
      refine ⟨_, _, ?_, hC', x, rfl⟩
      simp only [lpStep, ↓rE_eK, ↓rE_eLi, ↓rE_eLj, ↓rE_eLa, ↓rE_eU, ↓rE_eB, ↓rE_eG, ↓rE_eIF, ↓rE_eAI, ↓rE_eAX, ↓rE_eAJ, ↓rE_eAR, ↓rE_eLen, ↓rE_eSI, ↓rE_eC, ↓rE_eCall, ↓rE_eNew, ↓rE_eNewA, ↓rE_eInst, ↓rC_cI, ↓rC_cZ0, ↓rC_cN, ↓rC_cNot, ↓rC_cAnd, ↓rC_cOr, ↓rA_aN, ↓rA_aC, ↓rS_sP, ↓rS_sUF, ↓rS_sAI, ↓rS_sAJ, ↓rS_sAR, ↓rS_sUA, ↓rS_sCall, ↓rS_sObj, ↓rS_sSi, ↓rS_sSa, ↓rS_sSj, ↓rS_sInc, ↓rS_sSkip, ↓rS_sSeq, ↓rS_sIf, ↓rS_sRetI, ↓rS_sRetJ, ↓rS_sRetA, ↓rS_sRetV, ↓rS_sSw, ↓rD_meth, ↓rD_on, ↓kR_ref, ↓kI_int, ↓kJ_long, ↓kN_null, ↓kN_ref, ↓kN_rf, ↓kQ_ref, ↓kQ_null, ↓kQ_rf, o1_i, o1ij_i, o1ji_i, o2_i, o2d_i, o2j_i, o2ji_i, o2c_i, fv_0, fv_1, fv_2, fv_3, pf_0, pf_2, pf_3, pf_4, rf_s, rf_n, is_self, ge_0, ge_s, ge_n, gd_s, gd_n, se_0, se_s, ag_0, ex_n, ex_i, ex_r, ex_0, ex_j, ex_q, ap_c, ap_n, List.append_nil, ln_c, ln_n, rp_0, rp_s, rt_0, rt_1, rt_20, rt_21, rt_2, rt_3, rt_4, rt_4n, rt_4q, nl_0, nl_1, nl_2, nl_3, nl_4, nl_5, nl_6, nl_7, nl_8, nl_9, nlB_i, nlB_r, nlB_n, nlB_f, nlB_q, ↓reduceIte, reduceCtorEq, Nat.reduceAdd, Nat.reduceSub, Nat.reduceEqDiff, Nat.reduceLeDiff, Nat.reduceBEq, ite_true, ite_false, dt_t, Bool.not_true, Bool.not_false, Bool.false_eq_true, Nat.le_refl, true_and, and_true, true_or, or_true, false_or, or_false, false_and, and_false, qEq, qNe, qLt, qGe, qGt, qLe, VR_T hvs, VR_s hvs, hlti]
  obtain ⟨r, s, l1, hC, x, rfl⟩ := hl
  refine ⟨s, ?_, hC⟩
  refine rD_un.trans ?_
  have g1 : pT (nvl σ) w = 10 := by rw [nv_T, ew, if_neg (by omega), if_neg (by omega), if_pos rfl]
  have g2 : pT (nvl σ) v = 10 := by rw [nv_T, if_neg (by omega), if_neg (by omega), if_neg (by omega)]; exact VR_T hv
  have g3 : ∀ k, pI (nvl σ) v k = pI σ v k := fun k => by rw [nv_I, if_neg (by omega), if_neg (by omega), if_neg (by omega), if_neg (by omega)]
  have g4 : pR (nvl σ) v 1 = some (vD σ v) := by rw [nv_R, if_neg (by omega), if_neg (by omega), if_neg (by omega), if_neg (by omega), if_neg (by omega)]; exact VR_r1 hv
  have g5 : pT (nvl σ) (vD σ v) = 13 := by rw [nv_T, if_neg (by omega), if_neg (by omega), if_neg (by omega)]; exact VR_DT hv
  have g6 : pL (nvl σ) (vD σ v) = 64 := by rw [nv_L, if_neg (by omega), if_neg (by omega), if_neg (by omega)]; exact VR_DL hv
  have g7 : pR (nvl σ) w 1 = some (w + 2) := by rw [nv_R, ew, if_pos ⟨rfl, rfl⟩]
  have g8 : pT (nvl σ) (w + 2) = 13 := by rw [nv_T, ew, if_pos rfl]
  have g9 : pL (nvl σ) (w + 2) = 64 := by rw [nv_L, ew, if_pos rfl]
  have hvw : v ≠ w := by omega
  have ui : ∀ (s : pm_H) (k : Nat) (y : Int32), pI (uI s w k y) v = pI s v := fun s k y => pI_uI_ne _ _ _ hvw
  have dc : D_copy [.ref (vD σ v), .int 0, .ref (w + 2), .int 0, .int (Int32.ofNat 64)] (uI (uI (uI (nvl σ) w 2 (nI n)) w 3 (vd 2)) w 4 (vd 3)) = some (none, s0) := by
    rw [es0]
    show (if _ then _ else _) = _
    rw [if_pos]
    · rfl
    · refine ⟨g5, g8, rfl, rfl, by decide, ?_, ?_⟩
      · show 64 ≤ pL (nvl σ) (vD σ v); rw [g6]; exact Nat.le_refl _
      · show 64 ≤ pL (nvl σ) (w + 2); rw [g9]; exact Nat.le_refl _
  have dn := d_newValley σ
  rw [ew] at dn
  simp only [D_X10_copied, B_X10_copied, ↓rE_eK, ↓rE_eLi, ↓rE_eLj, ↓rE_eLa, ↓rE_eU, ↓rE_eB, ↓rE_eG, ↓rE_eIF, ↓rE_eAI, ↓rE_eAX, ↓rE_eAJ, ↓rE_eAR, ↓rE_eLen, ↓rE_eSI, ↓rE_eC, ↓rE_eCall, ↓rE_eNew, ↓rE_eNewA, ↓rE_eInst, ↓rC_cI, ↓rC_cZ0, ↓rC_cN, ↓rC_cNot, ↓rC_cAnd, ↓rC_cOr, ↓rA_aN, ↓rA_aC, ↓rS_sP, ↓rS_sUF, ↓rS_sAI, ↓rS_sAJ, ↓rS_sAR, ↓rS_sUA, ↓rS_sCall, ↓rS_sObj, ↓rS_sSi, ↓rS_sSa, ↓rS_sSj, ↓rS_sInc, ↓rS_sSkip, ↓rS_sSeq, ↓rS_sIf, ↓rS_sRetI, ↓rS_sRetJ, ↓rS_sRetA, ↓rS_sRetV, ↓rS_sSw, ↓rD_meth, ↓rD_on, ↓kR_ref, ↓kI_int, ↓kJ_long, ↓kN_null, ↓kN_ref, ↓kN_rf, ↓kQ_ref, ↓kQ_null, ↓kQ_rf, o1_i, o1ij_i, o1ji_i, o2_i, o2d_i, o2j_i, o2ji_i, o2c_i, fv_0, fv_1, fv_2, fv_3, pf_0, pf_2, pf_3, pf_4, rf_s, rf_n, is_self, ge_0, ge_s, ge_n, gd_s, gd_n, se_0, se_s, ag_0, ex_n, ex_i, ex_r, ex_0, ex_j, ex_q, ap_c, ap_n, List.append_nil, ln_c, ln_n, rp_0, rp_s, rt_0, rt_1, rt_20, rt_21, rt_2, rt_3, rt_4, rt_4n, rt_4q, nl_0, nl_1, nl_2, nl_3, nl_4, nl_5, nl_6, nl_7, nl_8, nl_9, nlB_i, nlB_r, nlB_n, nlB_f, nlB_q, ↓reduceIte, reduceCtorEq, Nat.reduceAdd, Nat.reduceSub, Nat.reduceEqDiff, Nat.reduceLeDiff, Nat.reduceBEq, ite_true, ite_false, dt_t, Bool.not_true, Bool.not_false, Bool.false_eq_true, Nat.le_refl, true_and, and_true, true_or, or_true, false_or, or_false, false_and, and_false, qEq, qNe, qLt, qGe, qGt, qLe, ew, rD_of dn, g1, g2, g3, ui, VR_s hv, VR_mi hv, VR_z hv, pT_uI, pL_uI, pR_uI, g4, g5, g6, g7, rD_of dc, rS_inl l1]
