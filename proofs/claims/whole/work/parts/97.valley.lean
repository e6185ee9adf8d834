/-! valley. -/
variable {T : Nat} {c : Nat → Nat} {Q : (Nat → Int32) × Nat}
def w0 (z : Int32) (j : Nat) : Int32 := if j = 3 then z else 0
theorem w0_ok (z : Int32) : vOk (w0 z) 0 := ⟨by decide, by rw [nI_0]; rfl, ⟨0, by decide, by rw [nI_0]; rfl, fun h => absurd h (by decide)⟩, fun i hi => absurd hi (by omega)⟩
theorem w0_Z (z : Int32) : Zw z (w0 z) 0 := ⟨fun i hi => ⟨if_neg (by omega), if_neg (by omega)⟩, fun a b _ _ _ => if_neg (by omega), rfl, rfl⟩
theorem v_Cr {σ : pm_H} {n : Nat} (h : Rel (RkT Q) σ n) (hT : T ≤ 200) (f1 : pI σ 27 1 = nI T) (fc : ∀ j, j < T → pI σ 28 j = nI (c j) ∧ c j < 256) : Cr σ T c 0 201 0 (w0 (cur σ 3)) (uI (uI (nvl σ) (pN σ) 4 (cur σ 3)) 27 2 0) := by
  have hs := Rel_Sh h
  have h66 := hs.2.2.2
  have hnv : Sh (nvl σ) := sh_uRd (sh_nw (sh_uRd (sh_nw (sh_nw hs)) (by omega))) (by omega)
  obtain ⟨S, eS⟩ : ∃ S, S = uI (uI (nvl σ) (pN σ) 4 (cur σ 3)) 27 2 0 := ⟨_, rfl⟩
  rw [← eS]
  have hSh : Sh S := by rw [eS]; exact hnv
  have hI : ∀ a k, a < pN σ → ¬ (a = 27 ∧ k = 2) → pI S a k = pI σ a k := fun a k q1 q2 => by
    rw [eS, pI_uI, if_neg q2, pI_uI, if_neg (by omega), nv_I, if_neg (by omega), if_neg (by omega), if_neg (by omega), if_neg (by omega)]
  have hIv : ∀ k, pI S (pN σ) k = if k = 4 then cur σ 3 else 0 := fun k => by
    rw [eS, pI_uI, if_neg (by omega), pI_uI]
    by_cases e : k = 4
    · rw [if_pos ⟨rfl, e⟩, if_pos e]
    · rw [if_neg (fun q => e q.2), if_neg e, nv_I, if_neg (fun q => e q.2), if_neg (by omega), if_neg (by omega), if_pos rfl]
  have hR : ∀ a k, pR S a k = pR (nvl σ) a k := fun a k => by rw [eS]; rfl
  have hTg : ∀ a, pT S a = pT (nvl σ) a := fun a => by rw [eS]; rfl
  have hLg : ∀ a, pL S a = pL (nvl σ) a := fun a => by rw [eS]; rfl
  have hJ : ∀ a k, pJ S a k = pJ (nvl σ) a k := fun a k => by rw [eS]; rfl
  have hN : pN S = pN σ + 3 := by rw [eS]; rfl
  have hP : pS S = pS σ + 77 := by rw [eS]; rfl
  have r0 : pR S (pN σ) 0 = some (pN σ + 1) := by rw [hR, nv_R, if_neg (by omega), if_neg (by omega), if_pos ⟨rfl, rfl⟩]
  have r1 : pR S (pN σ) 1 = some (pN σ + 2) := by rw [hR, nv_R, if_pos ⟨rfl, rfl⟩]
  have eP : vP S (pN σ) = pN σ + 1 := by unfold vP; rw [r0]; rfl
  have eD : vD S (pN σ) = pN σ + 2 := by unfold vD; rw [r1]; rfl
  refine ⟨⟨hSh, hT, by rw [hI 27 1 (by omega) (by omega)]; exact f1, fun j hj => by rw [hI 28 j (by omega) (by omega)]; exact fc j hj, fun i hi => funext fun k => by rw [hI i k (by omega) (by omega)]; exact (RsT_at (Rel_rs h)).1 i k hi, ⟨by rw [eS, pI_uI_at, nI_0], Nat.zero_le _⟩, fun q => by omega⟩, ⟨w0_ok _, ⟨?_, by rw [eP]; exact r0, by rw [eD]; exact r1, ?_, ?_, ?_, ?_⟩, ⟨by rw [hIv, if_neg (by decide), nI_0], by rw [hIv, if_neg (by decide)]; rfl, by rw [hIv, if_pos rfl]; rfl⟩, fun i hi => absurd hi (by omega), fun a b ha hb => ?_, Or.inr h66, by rw [eP]; right; omega, by rw [eD]; right; omega, fun i hi => absurd hi (by omega), by omega, by rw [eP]; omega, by rw [eD]; omega, fun i hi => absurd hi (by omega)⟩, w0_Z _, ⟨by omega, fun a ha => ⟨?_, ?_, ?_, ?_, fun k q => hI a k ha (by omega)⟩⟩, ⟨h66, eP, eD, fun i hi => absurd hi (by omega)⟩, hN, hP⟩
  · rw [hTg, nv_T, if_neg (by omega), if_neg (by omega), if_pos rfl]
  · rw [eP, hTg, nv_T, if_neg (by omega), if_pos rfl]
  · rw [eP, hLg, nv_L, if_neg (by omega), if_pos rfl]
  · rw [eD, hTg, nv_T, if_pos rfl]
  · rw [eD, hLg, nv_L, if_pos rfl]
  · rw [eD, if_neg (by omega), eS, pI_uI, if_neg (by omega), pI_uI, if_neg (by omega), nv_I, if_neg (by omega), if_pos rfl]
  · rw [hTg, nv_T, if_neg (by omega), if_neg (by omega), if_neg (by omega)]
  · rw [hLg, nv_L, if_neg (by omega), if_neg (by omega), if_neg (by omega)]
  · funext k; rw [hR, nv_R, if_neg (by omega), if_neg (by omega), if_neg (by omega), if_neg (by omega), if_neg (by omega)]
  · funext k; rw [hJ, nv_J, if_neg (by omega), if_neg (by omega), if_neg (by omega)]
theorem x_vread {σ s' : pm_H} {n : Nat} (h : Rel (RkT Q) σ n) (hS' : Sh s') {v r : Int32} {σ1 : pm_H} (hD : D_X7_faultOf [.ref 27, .ref (pN σ)] (uI (nvl σ) (pN σ) 4 (cur σ 3)) = some (some (.int v), s')) (hk : (0 ≤ v ∧ r = -100 - v ∧ σ1 = uI s' 27 1 0) ∨ (¬ 0 ≤ v ∧ pT s' (pN σ) = 10 ∧ r = pI s' (pN σ) 2 ∧ σ1 = uI (uR (uI s' 27 1 0) 11 0 (some (pN σ))) 11 6 0)) : D_X11_valley [.ref 11] σ = some (some (.int r), σ1) := by
  have hs := Rel_Sh h
  have h66 := hs.2.2.2
  have hv := Rel_VR h
  have hlt := fp_lt hv (Or.inl rfl)
  have hS0 : Sh (nvl σ) := sh_uRd (sh_nw (sh_uRd (sh_nw (sh_nw hs)) (by omega))) (by omega)
  have a1 : pR (nvl σ) 11 0 = some (nowA σ) := by rw [nv_R, if_neg (by omega), if_neg (by omega), if_neg (by omega), if_neg (by omega), if_neg (by omega)]; exact Rel_nr h
  have a2 : pT (nvl σ) (nowA σ) = 10 := by rw [nv_T, if_neg (by omega), if_neg (by omega), if_neg (by omega)]; exact VR_T hv
  have a3 : pI (nvl σ) (nowA σ) 4 = cur σ 3 := by rw [nv_I, if_neg (by omega), if_neg (by omega), if_neg (by omega), if_neg (by omega)]; exact VR_z hv
  have a4 : pT (nvl σ) (pN σ) = 10 := by rw [nv_T, if_neg (by omega), if_neg (by omega), if_pos rfl]
  refine rD_un.trans ?_
  rcases hk with ⟨k1, rfl, rfl⟩ | ⟨k1, k2, rfl, rfl⟩
  · simp only [D_X11_valley, B_X11_valley, ↓rE_eK, ↓rE_eLi, ↓rE_eLj, ↓rE_eLa, ↓rE_eU, ↓rE_eB, ↓rE_eG, ↓rE_eIF, ↓rE_eAI, ↓rE_eAX, ↓rE_eAJ, ↓rE_eAR, ↓rE_eLen, ↓rE_eSI, ↓rE_eC, ↓rE_eCall, ↓rE_eNew, ↓rE_eNewA, ↓rE_eInst, ↓rC_cI, ↓rC_cZ0, ↓rC_cN, ↓rC_cNot, ↓rC_cAnd, ↓rC_cOr, ↓rA_aN, ↓rA_aC, ↓rS_sP, ↓rS_sUF, ↓rS_sAI, ↓rS_sAJ, ↓rS_sAR, ↓rS_sUA, ↓rS_sCall, ↓rS_sObj, ↓rS_sSi, ↓rS_sSa, ↓rS_sSj, ↓rS_sInc, ↓rS_sSkip, ↓rS_sSeq, ↓rS_sIf, ↓rS_sRetI, ↓rS_sRetJ, ↓rS_sRetA, ↓rS_sRetV, ↓rS_sSw, ↓rD_meth, ↓rD_on, ↓kR_ref, ↓kI_int, ↓kJ_long, ↓kN_null, ↓kN_ref, ↓kN_rf, ↓kQ_ref, ↓kQ_null, ↓kQ_rf, o1_i, o1ij_i, o1ji_i, o2_i, o2d_i, o2j_i, o2ji_i, o2c_i, fv_0, fv_1, fv_2, fv_3, pf_0, pf_2, pf_3, pf_4, rf_s, rf_n, is_self, ge_0, ge_s, ge_n, gd_s, gd_n, se_0, se_s, ag_0, ex_n, ex_i, ex_r, ex_0, ex_j, ex_q, ap_c, ap_n, List.append_nil, ln_c, ln_n, rp_0, rp_s, rt_0, rt_1, rt_20, rt_21, rt_2, rt_3, rt_4, rt_4n, rt_4q, nl_0, nl_1, nl_2, nl_3, nl_4, nl_5, nl_6, nl_7, nl_8, nl_9, nlB_i, nlB_r, nlB_n, nlB_f, nlB_q, ↓reduceIte, reduceCtorEq, Nat.reduceAdd, Nat.reduceSub, Nat.reduceEqDiff, Nat.reduceLeDiff, Nat.reduceBEq, ite_true, ite_false, dt_t, Bool.not_true, Bool.not_false, Bool.false_eq_true, Nat.le_refl, true_and, and_true, true_or, or_true, false_or, or_false, false_and, and_false, qEq, qNe, qLt, qGe, qGt, qLe, rD_of (d_newValley σ), sT_11 hS0, a1, a2, a3, a4, pT_uI, pR_uI, sR_11_3 hS0, rD_tb1 (show pT (uI (nvl σ) (pN σ) 4 (cur σ 3)) 27 = 7 from sT_27 hS0), rD_of hD, sT_11 hS', sR_11_3 hS', sT_27 hS', k1]
  · have b1 : pR (uI (uR (uI s' 27 1 0) 11 0 (some (pN σ))) 11 6 0) 11 0 = some (pN σ) := pR_uR_at _ _ _ _
    have hne : pN σ ≠ 11 := by omega
    have hne2 : pN σ ≠ 27 := by omega
    have b2 : pI (uI (uR (uI s' 27 1 0) 11 0 (some (pN σ))) 11 6 0) (pN σ) 2 = pI s' (pN σ) 2 := by
      rw [pI_uI_ne _ _ _ hne]
      show pI (uI s' 27 1 0) (pN σ) 2 = _
      rw [pI_uI_ne _ _ _ hne2]
    simp only [D_X11_valley, B_X11_valley, ↓rE_eK, ↓rE_eLi, ↓rE_eLj, ↓rE_eLa, ↓rE_eU, ↓rE_eB, ↓rE_eG, ↓rE_eIF, ↓rE_eAI, ↓rE_eAX, ↓rE_eAJ, ↓rE_eAR, ↓rE_eLen, ↓rE_eSI, ↓rE_eC, ↓rE_eCall, ↓rE_eNew, ↓rE_eNewA, ↓rE_eInst, ↓rC_cI, ↓rC_cZ0, ↓rC_cN, ↓rC_cNot, ↓rC_cAnd, ↓rC_cOr, ↓rA_aN, ↓rA_aC, ↓rS_sP, ↓rS_sUF, ↓rS_sAI, ↓rS_sAJ, ↓rS_sAR, ↓rS_sUA, ↓rS_sCall, ↓rS_sObj, ↓rS_sSi, ↓rS_sSa, ↓rS_sSj, ↓rS_sInc, ↓rS_sSkip, ↓rS_sSeq, ↓rS_sIf, ↓rS_sRetI, ↓rS_sRetJ, ↓rS_sRetA, ↓rS_sRetV, ↓rS_sSw, ↓rD_meth, ↓rD_on, ↓kR_ref, ↓kI_int, ↓kJ_long, ↓kN_null, ↓kN_ref, ↓kN_rf, ↓kQ_ref, ↓kQ_null, ↓kQ_rf, o1_i, o1ij_i, o1ji_i, o2_i, o2d_i, o2j_i, o2ji_i, o2c_i, fv_0, fv_1, fv_2, fv_3, pf_0, pf_2, pf_3, pf_4, rf_s, rf_n, is_self, ge_0, ge_s, ge_n, gd_s, gd_n, se_0, se_s, ag_0, ex_n, ex_i, ex_r, ex_0, ex_j, ex_q, ap_c, ap_n, List.append_nil, ln_c, ln_n, rp_0, rp_s, rt_0, rt_1, rt_20, rt_21, rt_2, rt_3, rt_4, rt_4n, rt_4q, nl_0, nl_1, nl_2, nl_3, nl_4, nl_5, nl_6, nl_7, nl_8, nl_9, nlB_i, nlB_r, nlB_n, nlB_f, nlB_q, ↓reduceIte, reduceCtorEq, Nat.reduceAdd, Nat.reduceSub, Nat.reduceEqDiff, Nat.reduceLeDiff, Nat.reduceBEq, ite_true, ite_false, dt_t, Bool.not_true, Bool.not_false, Bool.false_eq_true, Nat.le_refl, true_and, and_true, true_or, or_true, false_or, or_false, false_and, and_false, qEq, qNe, qLt, qGe, qGt, qLe, rD_of (d_newValley σ), sT_11 hS0, a1, a2, a3, a4, pT_uI, pT_uR, pR_uI, sR_11_3 hS0, rD_tb1 (show pT (uI (nvl σ) (pN σ) 4 (cur σ 3)) 27 = 7 from sT_27 hS0), rD_of hD, sT_11 hS', sR_11_3 hS', sT_27 hS', k1, pR_uR_at, k2, b2]
/-- what is written beside the new valley -/
def Vg (w : Nat → Nat → Prop) (σ σ2 : pm_H) : Prop := pN σ ≤ pN σ2 ∧ ∀ a, a < pN σ → pT σ2 a = pT σ a ∧ pL σ2 a = pL σ a ∧ (a ≠ 35 → pJ σ2 a = pJ σ a) ∧ (∀ k, ¬ w a k → pI σ2 a k = pI σ a k) ∧ ∀ k, ¬ (a = 11 ∧ k = 0) → pR σ2 a k = pR σ a k
def wb (a k : Nat) : Prop := (a = 27 ∧ (k = 1 ∨ k = 2 ∨ k = 3)) ∨ (44 ≤ a ∧ a ≤ 48) ∨ (a = 35 ∧ 12 ≤ k ∧ k ≤ 20)
def wg (a k : Nat) : Prop := (a = 27 ∧ (k = 1 ∨ k = 2 ∨ k = 3)) ∨ (44 ≤ a ∧ a ≤ 48) ∨ (36 ≤ a ∧ a ≤ 42) ∨ (a = 11 ∧ k = 6) ∨ (a = 35 ∧ (k = 0 ∨ k = 8 ∨ k = 9 ∨ (12 ≤ k ∧ k ≤ 20) ∨ k = 36))
theorem Vg_Gr {w : Nat → Nat → Prop} {σ σ2 : pm_H} (h66 : 66 ≤ pN σ) (h : Vg w σ σ2) (hw : ∀ a k, w a k → a < 66 ∧ ¬ grc a k) : Gr σ σ2 := by
  refine ⟨⟨h.1, fun a ha => (h.2 a ha).1, fun a ha => (h.2 a ha).2.1⟩, fun a ha q => (h.2 a ha).2.2.1 q, fun a k q => ?_, fun a q1 q2 q3 => ⟨funext fun k => (h.2 a q2).2.2.2.1 k (fun q => by have := (hw a k q).1; omega), funext fun k => (h.2 a q2).2.2.2.2 k (by omega)⟩, fun a k q1 q2 q3 q4 q5 => (h.2 a (by omega)).2.2.2.2 k (by omega)⟩
  have : a < 66 := by unfold grc at q; omega
  exact (h.2 a (by omega)).2.2.2.1 k (fun q' => (hw a k q').2 q)
theorem VR_ex2 {σ : pm_H} {v n : Nat} {vd wd : Nat → Int32} (h : VR σ v vd n) (e0 : ∀ j, j < 4 → wd j = vd j) (e1 : ∀ f i, f ≤ 5 → i < n → wd (4 + 8 * f + i) = vd (4 + 8 * f + i)) (e2 : ∀ k, k < 64 → wd (52 + k) = vd (52 + k)) : VR σ v wd n := by
  have h8 := VR_8 h
  have g0 : ∀ i, i < n → wd (4 + i) = vd (4 + i) := fun i hi => by have := e1 0 i (by decide) hi; rwa [show 4 + 8 * 0 + i = 4 + i by omega] at this
  have g1 : ∀ i, i < n → wd (12 + i) = vd (12 + i) := fun i hi => by have := e1 1 i (by decide) hi; rwa [show 4 + 8 * 1 + i = 12 + i by omega] at this
  have g2 : ∀ i, i < n → wd (20 + i) = vd (20 + i) := fun i hi => by have := e1 2 i (by decide) hi; rwa [show 4 + 8 * 2 + i = 20 + i by omega] at this
  have g3 : ∀ i, i < n → wd (28 + i) = vd (28 + i) := fun i hi => by have := e1 3 i (by decide) hi; rwa [show 4 + 8 * 3 + i = 28 + i by omega] at this
  have g4 : ∀ i, i < n → wd (36 + i) = vd (36 + i) := fun i hi => by have := e1 4 i (by decide) hi; rwa [show 4 + 8 * 4 + i = 36 + i by omega] at this
  have g5 : ∀ i, i < n → wd (44 + i) = vd (44 + i) := fun i hi => by have := e1 5 i (by decide) hi; rwa [show 4 + 8 * 5 + i = 44 + i by omega] at this
  obtain ⟨⟨o1, o2, ⟨A, o3, o4, o5⟩, o6⟩, ht, ⟨s1, s2, s3⟩, hp, hd, hz⟩ := h
  refine ⟨⟨o1, by rw [e0 0 (by decide)]; exact o2, ⟨A, o3, by rw [e0 1 (by decide)]; exact o4, o5⟩, fun i hi => by rw [g1 i hi, g2 i hi]; exact o6 i hi⟩, ht, ⟨s1, by rw [e0 2 (by decide)]; exact s2, by rw [e0 3 (by decide)]; exact s3⟩, fun i hi => ?_, fun a b ha hb => by rw [e2 (8 * a + b) (by omega)]; exact hd a b ha hb, hz⟩
  unfold pR1
  rw [g0 i hi, g1 i hi, g2 i hi, g3 i hi, g4 i hi, g5 i hi, e0 1 (by decide)]
  exact hp i hi
theorem step_valley {σ : pm_H} {n : Nat} (h : Rel (RkT Q) σ n) : Step (RkT Q) D_X11_valley D_X12_valley [] σ := by
  have hs := Rel_Sh h
  have h66 := hs.2.2.2
  have hv := Rel_VR h
  obtain ⟨T, hT, f1, f2, fc⟩ := h.2.1
  obtain ⟨c, ec⟩ : ∃ c : Nat → Nat, c = fun j => (pI σ 43 j).toInt.toNat := ⟨_, rfl⟩
  have hc : ∀ j, j < T → pI σ 43 j = nI (c j) ∧ c j < 256 := fun j hj => by
    obtain ⟨-, b, b1, b2⟩ := fc j hj
    have : c j = b := by rw [ec]; show (pI σ 43 j).toInt.toNat = b; rw [b2, nI_toInt (by omega)]; rfl
    rw [this]; exact ⟨b2, b1⟩
  have hCr := v_Cr (c := c) h hT f1 (fun j hj => by rw [(fc j hj).1]; exact hc j hj)
  have hS0 : Sh (uI (nvl σ) (pN σ) 4 (cur σ 3)) := sh_uRd (sh_nw (sh_uRd (sh_nw (sh_nw hs)) (by omega))) (by omega)
  obtain ⟨hbad, hgood⟩ := d_fault hS0 hCr
  have hw1 : w0 (cur σ 3) 1 = 0 := rfl
  have hwd : ∀ k, k < 64 → w0 (cur σ 3) (52 + k) = 0 := fun k _ => if_neg (by omega)
  cases ep : prs T c 200 (skE T c 0) 0 (w0 (cur σ 3)) with
  | inl q =>
    obtain ⟨s', b, n', wd', d1, hC⟩ := hbad q ep
    have hq : q ≤ T := hC.1.2.2.2.2.2.1.2
    have hS' := hC.1.1
    have hcg := hC.2.2.2.1
    have n8 := VR_8 hC.2.1
    obtain ⟨σ1, e1⟩ : ∃ σ1, σ1 = uI s' 27 1 0 := ⟨_, rfl⟩
    have hX := x_vread h hS' d1 (Or.inl ⟨by rw [← Int32.not_lt]; exact nI_nn (by omega), rfl, e1⟩)
    have hI1 : ∀ a k, a < pN σ → ¬ (a = 27 ∧ (k = 1 ∨ k = 2 ∨ k = 3)) → pI σ1 a k = pI σ a k := fun a k q1 q2 => by
      rw [e1, pI_uI, if_neg (by omega)]; exact (hcg.2 a q1).2.2.2.2 k (by omega)
    have hMB : MB σ1 T c := ⟨by rw [e1]; exact hS', hT, by rw [hI1 35 12 (by omega) (by omega)]; exact f2, fun j hj => by rw [hI1 43 j (by omega) (by omega)]; exact hc j hj⟩
    obtain ⟨σd, hM, hF⟩ := m_vbad hMB (w0_ok _) hw1 hwd ep
    have hVg : Vg wb σ (uI σd 35 12 0) := by
      refine ⟨by show pN σ ≤ pN σd; rw [hF.2.2.2.1, e1]; exact hcg.1, fun a ha => ?_⟩
      obtain ⟨g1, g2, g3, g4, g5⟩ := hcg.2 a ha
      refine ⟨?_, ?_, fun q => ?_, fun k q => ?_, fun k _ => ?_⟩
      · show pT σd a = _; rw [hF.1, e1]; exact g1
      · show pL σd a = _; rw [hF.2.1, e1]; exact g2
      · show pJ σd a = _; rw [hF.2.2.2.2.2.1 a q, e1]; exact g4
      · unfold wb at q
        rw [pI_uI, if_neg (by omega), hF.2.2.2.2.2.2 a k (by unfold sc2; omega)]
        exact hI1 a k ha (by omega)
      · show pR σd a k = _; rw [hF.2.2.1, e1]; exact congrFun g3 k
    have hp11 : ∀ k, pR (uI σd 35 12 0) 11 k = pR σ 11 k := fun k => by
      show pR σd 11 k = _; rw [hF.2.2.1, e1]; exact congrFun (hcg.2 11 (by omega)).2.2.1 k
    have hIa : ∀ a k, a < pN σ → ¬ wb a k → pI (uI σd 35 12 0) a k = pI σ a k := fun a k q1 q2 => (hVg.2 a q1).2.2.2.1 k q2
    have hIr : ∀ a, a < pN σ → (∀ k, ¬ wb a k) → pI (uI σd 35 12 0) a = pI σ a := fun a q1 q2 => funext fun k => hIa a k q1 (q2 k)
    have hcu : cur (uI σd 35 12 0) = cur σ := cur_fr (hIa _ _ (by omega) (by unfold wb; omega)) (hIa _ _ (by omega) (by unfold wb; omega)) (hIa _ _ (by omega) (by unfold wb; omega)) (hIa _ _ (by omega) (by unfold wb; omega)) (fun a q1 q2 => hIr a (by omega) (fun k => by unfold wb; omega))
    have hTT := fun a ha => (hVg.2 a ha).1
    have hLL := fun a ha => (hVg.2 a ha).2.1
    have hfp : ∀ v m vd, VR σ v vd m → ∀ a, fp σ v m a → pI (uI σd 35 12 0) a = pI σ a ∧ pR (uI σd 35 12 0) a = pR σ a := fun v m vd hv' a ha => by
      have o1 := fp_off hv' ha
      have o2 := fp_lt hv' ha
      exact ⟨hIr a o2 (fun k => by unfold wb; omega), funext fun k => (hVg.2 a o2).2.2.2.2 k (by omega)⟩
    have en : nowA (uI σd 35 12 0) = nowA σ := by unfold nowA; rw [hp11]
    have hvf := VR_fr hv hVg.1 hTT hLL (hfp _ _ _ hv)
    refine ⟨_, σ1, uI σd 35 12 0, n, hX, hM, Rel_gr h (Vg_Gr h66 hVg (fun a k q => by unfold wb at q; unfold grc; omega)) ⟨0, by omega, ?_, ?_, fun j hj => absurd hj (by omega)⟩ (RowR_fr h.2.2.1 (hIa _ _ (by omega) (by unfold wb; omega)) (hIa _ _ (by omega) (by unfold wb; omega)) (hIr _ (by omega) (fun k => by unfold wb; omega)) (hIr _ (by omega) (fun k => by unfold wb; omega))) (NowR_fr (Rel_NowR h) hVg.1 hTT hLL (hp11 0) hcu (hfp _ _ _ hv)) (KeptR_fr (Rel_NowR h) (Rel_kept h) hVg.1 hTT hLL (hIa _ _ (by omega) (by unfold wb; omega)) (hp11 1) (hIr _ (by omega) (fun k => by unfold wb; omega)) ⟨en, hvf.2⟩ (fun kv m a _ q2 _ q4 => hfp _ _ _ q2 a q4)), ?_, ?_⟩
    · rw [pI_uI_ne _ _ _ (by decide), hF.2.2.2.2.2.2 27 1 (by unfold sc2; omega), e1, pI_uI_at, nI_0]
    · rw [pI_uI_at, nI_0]
    · show pN σd ≤ _; rw [hF.2.2.2.1, e1]; show pN s' ≤ _; rw [hC.2.2.2.2.2.1]; omega
    · show pS σd ≤ _; rw [hF.2.2.2.2.1, e1]; show pS s' ≤ _; rw [hC.2.2.2.2.2.2]; omega
  | inr z =>
    obtain ⟨n', wd'⟩ := z
    obtain ⟨s', p, b, d1, hC⟩ := hgood n' wd' ep
    have hS' := hC.1.1
    have hcg := hC.2.2.2.1
    have hvs := hC.2.1
    have hz := hC.2.2.1
    obtain ⟨-, eP, eD, eQ⟩ := hC.2.2.2.2.1
    have n8 := VR_8 hvs
    obtain ⟨σ1, e1⟩ : ∃ σ1, σ1 = uI (uR (uI s' 27 1 0) 11 0 (some (pN σ))) 11 6 0 := ⟨_, rfl⟩
    have hX := x_vread h hS' d1 (Or.inr ⟨by decide, VR_T hvs, rfl, e1⟩)
    rw [VR_s hvs] at hX
    have hI1 : ∀ a k, ¬ ((a = 27 ∧ k = 1) ∨ (a = 11 ∧ k = 6)) → pI σ1 a k = pI s' a k := fun a k q => by
      rw [e1, pI_uI, if_neg (by omega)]
      show pI (uI s' 27 1 0) a k = _
      rw [pI_uI, if_neg (by omega)]
    have hI1' : ∀ a k, a < pN σ → ¬ ((a = 27 ∧ (k = 1 ∨ k = 2 ∨ k = 3)) ∨ (a = 11 ∧ k = 6)) → pI σ1 a k = pI σ a k := fun a k q1 q2 => by
      rw [hI1 a k (by omega)]; exact (hcg.2 a q1).2.2.2.2 k (by omega)
    have hR1 : ∀ a k, ¬ (a = 11 ∧ k = 0) → pR σ1 a k = pR s' a k := fun a k q => by
      rw [e1]; show pR (uR (uI s' 27 1 0) 11 0 (some (pN σ))) a k = _; rw [pR_uR, if_neg q]; rfl
    have hS1 : Sh σ1 := by rw [e1]; exact sh_uR hS' (by decide +kernel)
    have hMB : MB σ1 T c := ⟨hS1, hT, by rw [hI1' 35 12 (by omega) (by omega)]; exact f2, fun j hj => by rw [hI1' 43 j (by omega) (by omega)]; exact hc j hj⟩
    obtain ⟨p', σd, t, hM, hG, hPl, ht⟩ := m_vgood hMB (w0_ok _) hw1 hwd ep
    have hF := hG.2.1
    have hFR := hG.2.2.2.2.1
    have vEo : ∀ a j, ¬ (a = 35 ∧ (j = 0 ∨ j = 8 ∨ j = 9 ∨ j = 12)) → pI (vE σd n' (wd' 1)) a j = pI σd a j := fun a j q => by
      unfold vE
      rw [pI_uI, if_neg (by omega), pI_uI, if_neg (by omega), pI_uI, if_neg (by omega), pI_uI, if_neg (by omega)]
    have hto : ∀ a k, ¬ ((a = 35 ∧ (k = 0 ∨ k = 8 ∨ k = 9 ∨ k = 12 ∨ k = 36)) ∨ (36 ≤ a ∧ a ≤ 42)) → pI t a k = pI σd a k := fun a k q => by
      rw [ht, if_neg (by omega), if_neg (by omega), if_neg (by omega), if_neg (by omega)]
      exact vEo a k (by omega)
    have hN : pN t = pN s' := by rw [hPl.2.2.2.1, hF.2.2.2.1, e1]; rfl
    have hTt : pT t = pT s' := by rw [hPl.1, hF.1, e1]; rfl
    have hLt : pL t = pL s' := by rw [hPl.2.1, hF.2.1, e1]; rfl
    have hRt : pR t = pR σ1 := by rw [hPl.2.2.1, hF.2.2.1]
    have hVg : Vg wg σ t := by
      refine ⟨by rw [hN]; exact hcg.1, fun a ha => ?_⟩
      obtain ⟨g1, g2, g3, g4, g5⟩ := hcg.2 a ha
      refine ⟨by rw [hTt]; exact g1, by rw [hLt]; exact g2, fun q => ?_, fun k q => ?_, fun k q => ?_⟩
      · rw [hPl.2.2.2.2.2, hF.2.2.2.2.2.1 a q, e1]; exact g4
      · unfold wg at q
        rw [hto a k (by omega), hF.2.2.2.2.2.2 a k (by unfold sc2; omega)]
        exact hI1' a k ha (by omega)
      · rw [hRt, hR1 a k q]; exact congrFun g3 k
    have hIa : ∀ a k, a < pN σ → ¬ wg a k → pI t a k = pI σ a k := fun a k q1 q2 => (hVg.2 a q1).2.2.2.1 k q2
    have hIr : ∀ a, a < pN σ → (∀ k, ¬ wg a k) → pI t a = pI σ a := fun a q1 q2 => funext fun k => hIa a k q1 (q2 k)
    have hTT := fun a ha => (hVg.2 a ha).1
    have hLL := fun a ha => (hVg.2 a ha).2.1
    have r0 : pR t 11 0 = some (pN σ) := by rw [hRt, e1]; exact pR_uR_at _ _ _ _
    have r1 : pR t 11 1 = pR σ 11 1 := (hVg.2 11 (by omega)).2.2.2.2 1 (by omega)
    have en : nowA t = pN σ := by unfold nowA; rw [r0]; rfl
    have hfs : ∀ a, fp s' (pN σ) n' a → 66 ≤ a := fun a ha => by
      rcases ha with rfl | rfl | rfl | ⟨i, hi, rfl⟩
      · exact h66
      · rw [eP]; omega
      · rw [eD]; omega
      · have := eQ i hi; omega
    obtain ⟨hvt, tP, tD, tQ, -⟩ := VR_fr (σ' := t) hvs (by rw [hN]; exact Nat.le_refl _) (fun a _ => by rw [hTt]) (fun a _ => by rw [hLt]) (fun a ha => by
      have := hfs a ha
      exact ⟨funext fun k => by rw [hto a k (by omega), hF.2.2.2.2.2.2 a k (by unfold sc2; omega), hI1 a k (by omega)], funext fun k => by rw [hRt, hR1 a k (by omega)]⟩)
    obtain ⟨F1, F2, F3, F4⟩ := hFR
    have c10 : pI t 35 10 = cur σ 3 := hIa 35 10 (by omega) (by unfold wg; omega)
    have hcur : VR t (pN σ) (cur t) n' := by
      refine VR_ex2 hvt (fun j hj => ?_) (fun f i hf hi => ?_) (fun k hk => ?_)
      · rcases lt4 hj with rfl | rfl | rfl | rfl
        · rw [cu0, ht, if_neg (by omega), if_neg (by omega), if_neg (by omega), if_neg (by omega)]
          unfold vE
          rw [pI_uI_nek _ _ _ _ (by decide), pI_uI_nek _ _ _ _ (by decide), pI_uI_at]; exact hvs.1.2.1.symm
        · rw [cu1, ht, if_neg (by omega), if_neg (by omega), if_neg (by omega), if_neg (by omega)]
          unfold vE
          rw [pI_uI_nek _ _ _ _ (by decide), pI_uI_at]
        · rw [cu2, ht, if_neg (by omega), if_neg (by omega), if_neg (by omega), if_neg (by omega)]
          unfold vE
          rw [pI_uI_at]; exact hz.2.2.1.symm
        · rw [cu3, c10]; exact hz.2.2.2.symm
      · obtain ⟨y1, y2, y3, y4⟩ := F3 i hi
        rw [cur_f hf (by omega), ht, if_neg (by omega), if_neg (by omega)]
        have h6 : f = 0 ∨ f = 1 ∨ f = 2 ∨ f = 3 ∨ f = 4 ∨ f = 5 := by omega
        rcases h6 with rfl | rfl | rfl | rfl | rfl | rfl
        · rw [if_pos (by omega), show 4 + 8 * 0 + i = 4 + i by omega]; exact y1
        · rw [if_pos (by omega), show 4 + 8 * 1 + i = 12 + i by omega]; exact y2
        · rw [if_pos (by omega), show 4 + 8 * 2 + i = 20 + i by omega]; exact y3
        · rw [if_pos (by omega), show 4 + 8 * 3 + i = 28 + i by omega]; exact y4
        · rw [if_neg (by omega), if_pos (by omega), show 4 + 8 * 4 + i = 36 + i by omega]; exact (hz.1 i (by omega)).1.symm
        · rw [if_neg (by omega), if_pos (by omega), show 4 + 8 * 5 + i = 44 + i by omega]; exact (hz.1 i (by omega)).2.symm
      · rw [cuo, ht, if_neg (by omega), if_pos ⟨rfl, hk⟩]; exact F4 k hk
    refine ⟨nI n', σ1, t, n', hX, hM, Rel_gr h (Vg_Gr h66 hVg (fun a k q => by unfold wg at q; unfold grc; omega)) ⟨0, by omega, ?_, ?_, fun j hj => absurd hj (by omega)⟩ ⟨0, by omega, ?_, ?_, fun j hj => absurd hj (by omega)⟩ ⟨by rw [en]; exact r0, by rw [en]; exact hcur⟩ ?_, ?_, ?_⟩
    · rw [hto 27 1 (by omega), hF.2.2.2.2.2.2 27 1 (by unfold sc2; omega), e1, pI_uI_ne _ _ _ (by decide), nI_0]
      show pI (uI s' 27 1 0) 27 1 = 0
      exact pI_uI_at s' 27 1 0
    · rw [ht, if_neg (by omega), if_neg (by omega), if_neg (by omega), if_neg (by omega), nI_0]
      unfold vE
      rw [pI_uI_nek _ _ _ _ (by decide), pI_uI_nek _ _ _ _ (by decide), pI_uI_nek _ _ _ _ (by decide), pI_uI_at]
    · rw [hto 11 6 (by omega), hF.2.2.2.2.2.2 11 6 (by unfold sc2; omega), e1, pI_uI_at, nI_0]
    · rw [ht, if_pos ⟨rfl, rfl⟩, nI_0]
    · rcases Rel_kept h with ⟨k1, k2⟩ | ⟨k1, kv, m, k2, k3, k4⟩
      · exact Or.inl ⟨by rw [hIa 35 49 (by omega) (by unfold wg; omega)]; exact k1, r1.trans k2⟩
      · have hlt := k3.2.2.2.2.2.2.2.2.2
        obtain ⟨u1, u2, u3, u4, -⟩ := VR_fr (σ' := t) k3 hVg.1 hTT hLL (fun a ha => by
          have o1 := fp_off k3 ha
          have o2 := fp_lt k3 ha
          exact ⟨hIr a o2 (fun k => by unfold wg; omega), funext fun k => (hVg.2 a o2).2.2.2.2 k (by omega)⟩)
        refine Or.inr ⟨by rw [hIa 35 49 (by omega) (by unfold wg; omega)]; exact k1, kv, m, r1.trans k2, by rw [hIr 64 (by omega) (fun k => by unfold wg; omega)]; exact u1, ?_⟩
        rw [en]
        refine ⟨by omega, by rw [tP, u2, eP]; omega, by rw [tD, u3, eD]; omega, fun i j hi hj => ?_⟩
        rw [VR_nOf hvt] at hi
        rw [VR_nOf u1] at hj
        rw [tQ i hi, u4 j hj]
        have := eQ i hi
        have := hlt.2.2.2 j hj
        omega
    · rw [hN, hC.2.2.2.2.2.1]; omega
    · rw [hPl.2.2.2.2.1, hF.2.2.2.2.1, e1]; show pS s' ≤ _; rw [hC.2.2.2.2.2.2]; omega
