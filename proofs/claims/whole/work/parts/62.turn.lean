/-! turn; valleys copied. -/
def lkp (σ : pm_H) (q kd : Nat) : pm_H := uI (uI (uI (uI (uI (mkp σ kd (pI σ q 0) (pI σ q 1)) (pN σ) 2 (pI σ q 2)) (pN σ) 3 (pI σ q 3)) (pN σ) 4 (pI σ q 4)) (pN σ) 5 (pI σ q 5)) (pN σ) 6 (pI σ q 6)
theorem lk_T (σ : pm_H) (q kd : Nat) (a : Nat) : pT (lkp σ q kd) a = if a = pN σ then kTag kd else pT σ a := mk_T σ kd (pI σ q 0) (pI σ q 1) a
theorem lk_L (σ : pm_H) (q kd : Nat) (a : Nat) : pL (lkp σ q kd) a = if a = pN σ then 0 else pL σ a := mk_L σ kd (pI σ q 0) (pI σ q 1) a
theorem lk_R (σ : pm_H) (q kd : Nat) {a : Nat} (h : a ≠ pN σ) : pR (lkp σ q kd) a = pR σ a := mk_R σ kd (pI σ q 0) (pI σ q 1) h
theorem lk_J (σ : pm_H) (q kd : Nat) {a : Nat} (h : a ≠ pN σ) : pJ (lkp σ q kd) a = pJ σ a := by funext k; exact (pJ_nw σ (kTag kd) 0 7 a k).trans (if_neg h)
theorem lk_N (σ : pm_H) (q kd : Nat) : pN (lkp σ q kd) = pN σ + 1 := rfl
theorem lk_S (σ : pm_H) (q kd : Nat) : pS (lkp σ q kd) = pS σ + 7 := rfl
theorem lk_I (σ : pm_H) (q kd : Nat) {a : Nat} (h : a ≠ pN σ) : pI (lkp σ q kd) a = pI σ a := by
  unfold lkp
  rw [pI_uI_ne _ _ _ h, pI_uI_ne _ _ _ h, pI_uI_ne _ _ _ h, pI_uI_ne _ _ _ h, pI_uI_ne _ _ _ h, mk_I _ _ _ _ h]
theorem lt7 {j : Nat} (h : j ≤ 6) : j = 0 ∨ j = 1 ∨ j = 2 ∨ j = 3 ∨ j = 4 ∨ j = 5 ∨ j = 6 := by omega
theorem lk_k (σ : pm_H) (q kd : Nat) {k : Nat} (hk : k ≤ 6) : pI (lkp σ q kd) (pN σ) k = pI σ q k := by
  unfold lkp
  rcases lt7 hk with rfl | rfl | rfl | rfl | rfl | rfl | rfl
  · rw [pI_uI_nek _ _ _ _ (by decide), pI_uI_nek _ _ _ _ (by decide), pI_uI_nek _ _ _ _ (by decide), pI_uI_nek _ _ _ _ (by decide), pI_uI_nek _ _ _ _ (by decide), mk_I0]
  · rw [pI_uI_nek _ _ _ _ (by decide), pI_uI_nek _ _ _ _ (by decide), pI_uI_nek _ _ _ _ (by decide), pI_uI_nek _ _ _ _ (by decide), pI_uI_nek _ _ _ _ (by decide), mk_I1]
  · rw [pI_uI_nek _ _ _ _ (by decide), pI_uI_nek _ _ _ _ (by decide), pI_uI_nek _ _ _ _ (by decide), pI_uI_nek _ _ _ _ (by decide), pI_uI_at]
  · rw [pI_uI_nek _ _ _ _ (by decide), pI_uI_nek _ _ _ _ (by decide), pI_uI_nek _ _ _ _ (by decide), pI_uI_at]
  · rw [pI_uI_nek _ _ _ _ (by decide), pI_uI_nek _ _ _ _ (by decide), pI_uI_at]
  · rw [pI_uI_nek _ _ _ _ (by decide), pI_uI_at]
  · rw [pI_uI_at]
theorem d_likeness {σ : pm_H} {q kd : Nat} (hk : kd < 6) (hq : pm_slp (pT σ q) = true) (hqN : q ≠ pN σ) (hb : pI σ q 6 = 0 ∨ pI σ q 6 = 1) : D_X11_likeness [.ref q, .int (nI kd)] σ = some (some (.ref (pN σ)), lkp σ q kd) := by
  have hne : pN σ ≠ q := Ne.symm hqN
  have hqT : pm_slp (pT (mkp σ kd (pI σ q 0) (pI σ q 1)) q) = true := by rw [mk_T, if_neg hqN]; exact hq
  have hnT : pm_slp (pT (mkp σ kd (pI σ q 0) (pI σ q 1)) (pN σ)) = true := by rw [mk_T, if_pos rfl]; exact kTag_slp kd
  have hI : pI (mkp σ kd (pI σ q 0) (pI σ q 1)) q = pI σ q := mk_I _ _ _ _ hqN
  have hI2 : ∀ (s : pm_H) (k : Nat) (x : Int32), pI (uI s (pN σ) k x) q = pI s q := fun s k x => pI_uI_ne _ _ _ hqN
  refine rD_un.trans ?_
  simp only [D_X11_likeness, B_X11_likeness, ↓rE_eK, ↓rE_eLi, ↓rE_eLj, ↓rE_eLa, ↓rE_eU, ↓rE_eB, ↓rE_eG, ↓rE_eIF, ↓rE_eAI, ↓rE_eAX, ↓rE_eAJ, ↓rE_eAR, ↓rE_eLen, ↓rE_eSI, ↓rE_eC, ↓rE_eCall, ↓rE_eNew, ↓rE_eNewA, ↓rE_eInst, ↓rC_cI, ↓rC_cZ0, ↓rC_cN, ↓rC_cNot, ↓rC_cAnd, ↓rC_cOr, ↓rA_aN, ↓rA_aC, ↓rS_sP, ↓rS_sUF, ↓rS_sAI, ↓rS_sAJ, ↓rS_sAR, ↓rS_sUA, ↓rS_sCall, ↓rS_sObj, ↓rS_sSi, ↓rS_sSa, ↓rS_sSj, ↓rS_sInc, ↓rS_sSkip, ↓rS_sSeq, ↓rS_sIf, ↓rS_sRetI, ↓rS_sRetJ, ↓rS_sRetA, ↓rS_sRetV, ↓rS_sSw, ↓rD_meth, ↓rD_on, ↓kR_ref, ↓kI_int, ↓kJ_long, ↓kN_null, ↓kN_ref, ↓kN_rf, ↓kQ_ref, ↓kQ_null, ↓kQ_rf, o1_i, o1ij_i, o1ji_i, o2_i, o2d_i, o2j_i, o2ji_i, o2c_i, fv_0, fv_1, fv_2, fv_3, pf_0, pf_2, pf_3, pf_4, rf_s, rf_n, is_self, ge_0, ge_s, ge_n, gd_s, gd_n, se_0, se_s, ag_0, ex_n, ex_i, ex_r, ex_0, ex_j, ex_q, ap_c, ap_n, List.append_nil, ln_c, ln_n, rp_0, rp_s, rt_0, rt_1, rt_20, rt_21, rt_2, rt_3, rt_4, rt_4n, rt_4q, nl_0, nl_1, nl_2, nl_3, nl_4, nl_5, nl_6, nl_7, nl_8, nl_9, nlB_i, nlB_r, nlB_n, nlB_f, nlB_q, ↓reduceIte, reduceCtorEq, Nat.reduceAdd, Nat.reduceSub, Nat.reduceEqDiff, Nat.reduceLeDiff, Nat.reduceBEq, ite_true, ite_false, dt_t, Bool.not_true, Bool.not_false, Bool.false_eq_true, Nat.le_refl, true_and, and_true, true_or, or_true, false_or, or_false, false_and, and_false, qEq, qNe, qLt, qGe, qGt, qLe, hq, rD_of (d_made hk _ _), pT_uI, hqT, hnT, hI2, hI, pf_1 hb]
  rfl
theorem lk_Gr {σ τ : pm_H} (h : Gr σ τ) (h66 : 66 ≤ pN σ) (q kd : Nat) : Gr σ (lkp τ q kd) := by
  have h1 := h.1.1
  have hg : ∀ k, ¬ grc (pN τ) k := fun k q => by unfold grc at q; omega
  exact Gr_uI (Gr_uI (Gr_uI (Gr_uI (Gr_uI (mk_Gr h h66 _ _ _) (hg _) (by omega)) (hg _) (by omega)) (hg _) (by omega)) (hg _) (by omega)) (hg _) (by omega)
theorem VR_b6 {σ : pm_H} {v n : Nat} {vd : Nat → Int32} (h : VR σ v vd n) {i : Nat} (hi : i < n) : pI σ (vQ σ v i) 6 = 0 ∨ pI σ (vQ σ v i) 6 = 1 := by
  have h8 := VR_8 h
  obtain ⟨A, hA, eA, -⟩ := VR_A h
  rw [VR_f6 h hi, eA, bt_nI (Nat.lt_of_lt_of_le hA (p2n h8)) (by omega)]
  split
  · exact Or.inr rfl
  · exact Or.inl rfl
theorem vOk_kind {vd : Nat → Int32} {n : Nat} (h : vOk vd n) {i : Nat} (hi : i < 8) {x : Int32} : vOk (upd vd (4 + i) x) n := by
  obtain ⟨q1, q2, ⟨A, q3, q4, q5⟩, q6⟩ := h
  refine ⟨q1, by rw [upd_ne _ _ (by omega)]; exact q2, ⟨A, q3, by rw [upd_ne _ _ (by omega)]; exact q4, q5⟩, fun j hj => ?_⟩
  rw [upd_ne _ _ (by omega), upd_ne _ _ (by omega)]
  exact q6 j hj
def tn (σ : pm_H) (v i kd : Nat) : pm_H := uR (lkp σ (vQ σ v i) kd) (vP σ v) i (some (pN σ))
theorem VR_turn {σ : pm_H} {v n i kd : Nat} {vd : Nat → Int32} (h : VR σ v vd n) (h66 : 66 ≤ pN σ) (hi : i < n) (hkd : kd < 6) : VR (tn σ v i kd) v (upd vd (4 + i) (nI kd)) n ∧ vP (tn σ v i kd) v = vP σ v ∧ vD (tn σ v i kd) v = vD σ v ∧ (∀ j, j < n → j ≠ i → vQ (tn σ v i kd) v j = vQ σ v j) ∧ vQ (tn σ v i kd) v i = pN σ := by
  have h8 := VR_8 h
  have hap := VR_apart h
  have hlt := h.2.2.2.2.2.2.2.2.2
  have hvN : v ≠ pN σ := by omega
  have hPN : vP σ v ≠ pN σ := by omega
  have hDN : vD σ v ≠ pN σ := by omega
  have hR : ∀ a, a ≠ vP σ v → a ≠ pN σ → pR (tn σ v i kd) a = pR σ a := fun a q1 q2 => by
    unfold tn; rw [pR_uR_ne _ _ _ q1, lk_R _ _ _ q2]
  have hRP : ∀ k, pR (tn σ v i kd) (vP σ v) k = if k = i then some (pN σ) else pR σ (vP σ v) k := fun k => by
    unfold tn; rw [pR_uR, lk_R _ _ _ hPN]
    by_cases c : k = i
    · rw [if_pos ⟨rfl, c⟩, if_pos c]
    · rw [if_neg (fun q => c q.2), if_neg c]
  have hI : ∀ a, a ≠ pN σ → pI (tn σ v i kd) a = pI σ a := fun a q2 => lk_I σ (vQ σ v i) kd q2
  have hIN : ∀ k, k ≤ 6 → pI (tn σ v i kd) (pN σ) k = pI σ (vQ σ v i) k := fun k hk => lk_k σ (vQ σ v i) kd hk
  have hT : ∀ a, pT (tn σ v i kd) a = if a = pN σ then kTag kd else pT σ a := fun a => lk_T σ (vQ σ v i) kd a
  have hL : ∀ a, pL (tn σ v i kd) a = if a = pN σ then 0 else pL σ a := fun a => lk_L σ (vQ σ v i) kd a
  have eP : vP (tn σ v i kd) v = vP σ v := by unfold vP; rw [hR v hap.1 hvN]
  have eD : vD (tn σ v i kd) v = vD σ v := by unfold vD; rw [hR v hap.1 hvN]
  have eQ : ∀ j, j < n → j ≠ i → vQ (tn σ v i kd) v j = vQ σ v j := fun j hj hji => by unfold vQ; rw [eP, hRP, if_neg hji]
  have eQi : vQ (tn σ v i kd) v i = pN σ := by unfold vQ; rw [eP, hRP, if_pos rfl]; rfl
  refine ⟨⟨vOk_kind h.1 (by omega), ⟨?_, ?_, ?_, ?_, ?_, ?_, ?_⟩, ⟨?_, ?_, ?_⟩, fun j hj => ?_, fun a b ha hb => ?_, ?_⟩, eP, eD, eQ, eQi⟩
  · rw [hT, if_neg hvN]; exact VR_T h
  · rw [eP, hR v hap.1 hvN]; exact VR_r0 h
  · rw [eD, hR v hap.1 hvN]; exact VR_r1 h
  · rw [eP, hT, if_neg hPN]; exact VR_PT h
  · rw [eP, hL, if_neg hPN]; exact VR_PL h
  · rw [eD, hT, if_neg hDN]; exact VR_DT h
  · rw [eD, hL, if_neg hDN]; exact VR_DL h
  · rw [hI v hvN]; exact VR_s h
  · rw [hI v hvN, upd_ne _ _ (by omega)]; exact VR_mi h
  · rw [hI v hvN, upd_ne _ _ (by omega)]; exact VR_z h
  · rw [eP, hRP]
    by_cases c : j = i
    · subst c
      obtain ⟨-, p2, p3, p4, p5, p6, p7, p8⟩ := VR_p h hi
      rw [if_pos rfl, eQi]
      refine ⟨rfl, ⟨kd, hkd, by rw [upd_at], by rw [hT, if_pos rfl]⟩, ?_⟩
      rw [hIN 0 (by decide), hIN 1 (by decide), hIN 2 (by decide), hIN 3 (by decide), hIN 4 (by decide), hIN 5 (by decide), hIN 6 (by decide), upd_ne _ _ (by omega), upd_ne _ _ (by omega), upd_ne _ _ (by omega), upd_ne _ _ (by omega), upd_ne _ _ (by omega), upd_ne _ _ (by omega)]
      exact ⟨p2, p3, p4, p5, p6, p7, p8⟩
    · have hqN : vQ σ v j ≠ pN σ := by have := hlt.2.2.2 j hj; omega
      rw [if_neg c, eQ j hj c]
      obtain ⟨⟨k, k1, k2, k3⟩, p2, p3, p4, p5, p6, p7, p8⟩ := VR_p h hj
      refine ⟨VR_q h hj, ⟨k, k1, by rw [upd_ne _ _ (by omega)]; exact k2, by rw [hT, if_neg hqN]; exact k3⟩, ?_⟩
      rw [hI _ hqN, upd_ne _ _ (by omega), upd_ne _ _ (by omega), upd_ne _ _ (by omega), upd_ne _ _ (by omega), upd_ne _ _ (by omega), upd_ne _ _ (by omega)]
      exact ⟨p2, p3, p4, p5, p6, p7, p8⟩
  · rw [eD, hI _ hDN, upd_ne _ _ (by omega)]; exact h.2.2.2.2.1 a b ha hb
  · obtain ⟨a1, a2, a3⟩ := VR_66 h
    have a4 := h.2.2.2.2.2.2.2.2.1
    obtain ⟨b1, b2, b3, b4⟩ := hlt
    have hN : pN (tn σ v i kd) = pN σ + 1 := lk_N σ (vQ σ v i) kd
    refine ⟨a1, by rw [eP]; exact a2, by rw [eD]; exact a3, fun j hj => ?_, by omega, by rw [eP]; omega, by rw [eD]; omega, fun j hj => ?_⟩
    · by_cases c : j = i
      · subst c; rw [eQi]; exact h66
      · rw [eQ j hj c]; exact a4 j hj
    · by_cases c : j = i
      · subst c; rw [eQi]; omega
      · rw [eQ j hj c]; have := b4 j hj; omega
theorem step_turn (Rk : (Nat → Nat → Int32) → Prop) (p k : Int32) {σ : pm_H} {n : Nat} (h : Rel Rk σ n) : Step Rk D_X11_turn D_X12_turn [.int p, .int k] σ := by
  have hs := Rel_Sh h
  have h66 := hs.2.2.2
  have hv := Rel_VR h
  have hn := Rel_n h
  have h8 := Rel_8 h
  have hr := Rel_nr h
  by_cases hp : ib p n = true
  · obtain ⟨i, hi, e1, e2⟩ := ib_ex hp
    subst e1
    by_cases hk : ib k 6 = true
    · obtain ⟨kd, hkd, f1, f2⟩ := ib_ex hk
      subst f1
      have hk1 : 0 ≤ nI kd ∧ nI kd < 6 := by rw [lt6x]; exact hk
      have hk2 : 0 ≤ nI kd ∧ nI kd ≤ 5 := by rw [le5]; exact hk
      have k1 : ¬ nI kd < 0 := nI_nn (by omega)
      have k2 : ¬ 6 ≤ nI kd := by rw [Int32.not_le]; exact hk1.2
      obtain ⟨j1, j2, j3, j4, j5⟩ := VR_turn hv h66 hi hkd
      obtain ⟨a1, a2, a3⟩ := VR_66 hv
      have hlt := hv.2.2.2.2.2.2.2.2.2
      have hqN : vQ σ (nowA σ) i ≠ pN σ := by have := hlt.2.2.2 i hi; omega
      have hPN : vP σ (nowA σ) ≠ pN σ := by omega
      have hgr : Gr σ (tn σ (nowA σ) i kd) := Gr_uR (lk_Gr Gr_rfl h66 _ _) (by omega) (fun q => by rw [VR_PT hv] at q; exact absurd q.2.2 (by decide))
      have hI1 : ∀ a, a ≠ pN σ → pI (tn σ (nowA σ) i kd) a = pI σ a := fun a q => lk_I σ (vQ σ (nowA σ) i) kd q
      have hR1 : ∀ a, a ≠ vP σ (nowA σ) → a ≠ pN σ → pR (tn σ (nowA σ) i kd) a = pR σ a := fun a q1 q2 => by unfold tn; rw [pR_uR_ne _ _ _ q1, lk_R _ _ _ q2]
      have hct : cur (tn σ (nowA σ) i kd) = cur σ := cur_fr (by rw [hI1 35 (by omega)]) (by rw [hI1 35 (by omega)]) (by rw [hI1 35 (by omega)]) (by rw [hI1 35 (by omega)]) (fun a q1 q2 => hI1 a (by omega))
      have hst := Gr_Sh hgr hs
      have hnt : pI (tn σ (nowA σ) i kd) 35 0 = nI n := by rw [hI1 35 (by omega)]; exact hn
      refine ⟨cur σ (4 + i), tn σ (nowA σ) i kd, uI (tn σ (nowA σ) i kd) 36 i (nI kd), n, ?_, ?_, Rel_cg h hgr (fun a q1 q2 q3 q4 => hI1 a (by omega)) (fun a q1 q2 q3 => ⟨hI1 a (by omega), hR1 a (fun q => q3 (Or.inr (Or.inl q))) (by omega)⟩) (fun k => by rw [hR1 11 (by omega) (by omega)]) ⟨j2, j3, fun j hj => ?_⟩ j1 (Mdl_uI Mdl_rfl (by omega)) ?_, ?_, ?_⟩
      · refine rD_un.trans ?_
        have hT1 : pT (lkp σ (vQ σ (nowA σ) i) kd) (vP σ (nowA σ)) = 15 := by rw [lk_T, if_neg hPN]; exact VR_PT hv
        have hL1 : pL (lkp σ (vQ σ (nowA σ) i) kd) (vP σ (nowA σ)) = 8 := by rw [lk_L, if_neg hPN]; exact VR_PL hv
        have hT2 : pT (lkp σ (vQ σ (nowA σ) i) kd) (pN σ) = kTag kd := by rw [lk_T, if_pos rfl]
        simp only [D_X11_turn, B_X11_turn, ↓rE_eK, ↓rE_eLi, ↓rE_eLj, ↓rE_eLa, ↓rE_eU, ↓rE_eB, ↓rE_eG, ↓rE_eIF, ↓rE_eAI, ↓rE_eAX, ↓rE_eAJ, ↓rE_eAR, ↓rE_eLen, ↓rE_eSI, ↓rE_eC, ↓rE_eCall, ↓rE_eNew, ↓rE_eNewA, ↓rE_eInst, ↓rC_cI, ↓rC_cZ0, ↓rC_cN, ↓rC_cNot, ↓rC_cAnd, ↓rC_cOr, ↓rA_aN, ↓rA_aC, ↓rS_sP, ↓rS_sUF, ↓rS_sAI, ↓rS_sAJ, ↓rS_sAR, ↓rS_sUA, ↓rS_sCall, ↓rS_sObj, ↓rS_sSi, ↓rS_sSa, ↓rS_sSj, ↓rS_sInc, ↓rS_sSkip, ↓rS_sSeq, ↓rS_sIf, ↓rS_sRetI, ↓rS_sRetJ, ↓rS_sRetA, ↓rS_sRetV, ↓rS_sSw, ↓rD_meth, ↓rD_on, ↓kR_ref, ↓kI_int, ↓kJ_long, ↓kN_null, ↓kN_ref, ↓kN_rf, ↓kQ_ref, ↓kQ_null, ↓kQ_rf, o1_i, o1ij_i, o1ji_i, o2_i, o2d_i, o2j_i, o2ji_i, o2c_i, fv_0, fv_1, fv_2, fv_3, pf_0, pf_2, pf_3, pf_4, rf_s, rf_n, is_self, ge_0, ge_s, ge_n, gd_s, gd_n, se_0, se_s, ag_0, ex_n, ex_i, ex_r, ex_0, ex_j, ex_q, ap_c, ap_n, List.append_nil, ln_c, ln_n, rp_0, rp_s, rt_0, rt_1, rt_20, rt_21, rt_2, rt_3, rt_4, rt_4n, rt_4q, nl_0, nl_1, nl_2, nl_3, nl_4, nl_5, nl_6, nl_7, nl_8, nl_9, nlB_i, nlB_r, nlB_n, nlB_f, nlB_q, ↓reduceIte, reduceCtorEq, Nat.reduceAdd, Nat.reduceSub, Nat.reduceEqDiff, Nat.reduceLeDiff, Nat.reduceBEq, ite_true, ite_false, dt_t, Bool.not_true, Bool.not_false, Bool.false_eq_true, Nat.le_refl, true_and, and_true, true_or, or_true, false_or, or_false, false_and, and_false, qEq, qNe, qLt, qGe, qGt, qLe, hr, sT_11 hs, sT_12 hs, sT_13 hs, sT_14 hs, sT_15 hs, sT_16 hs, sT_17 hs, sT_18 hs, sT_19 hs, sT_20 hs, sT_21 hs, sT_22 hs, sT_23 hs, sT_24 hs, sT_25 hs, sT_26 hs, sT_27 hs, sT_28 hs, sT_29 hs, sT_30 hs, sT_31 hs, sT_32 hs, sT_33 hs, sT_34 hs, sL_13 hs, sL_14 hs, sL_16 hs, sL_17 hs, sL_18 hs, sL_19 hs, sL_20 hs, sL_21 hs, sL_22 hs, sL_23 hs, sL_24 hs, sL_25 hs, sL_26 hs, sL_28 hs, sL_30 hs, sL_31 hs, sL_32 hs, sL_33 hs, sL_34 hs, sR_11_2 hs, sR_11_3 hs, sR_11_4 hs, sR_11_5 hs, sR_11_7 hs, sR_11_8 hs, sR_11_9 hs, sR_27_0 hs, sR_29_0 hs, sR_15_0 hs, sR_15_3 hs, sR_15_5 hs, sR_15_6 hs, sR_15_7 hs, sR_15_8 hs, sR_15_9 hs, sR_15_10 hs, sR_15_11 hs, sR_15_12 hs, sR_15_13 hs, rD_tb1 (VR_T hv), rD_of (d_at_t hv hp), e2, k1, k2, rD_of (v_kind hv hi), VR_T hv, VR_r0 hv, rD_of (d_likeness hkd (VR_slp hv hi) hqN (VR_b6 hv hi)), hT1, hL1, hT2, tk_15 (kTag_slp kd), ib_nI (show i < 8 by omega) (by decide)]
        rfl
      · refine rD_un.trans ?_
        simp only [D_X12_turn, B_X12_turn, ↓rE_eK, ↓rE_eLi, ↓rE_eLj, ↓rE_eLa, ↓rE_eU, ↓rE_eB, ↓rE_eG, ↓rE_eIF, ↓rE_eAI, ↓rE_eAX, ↓rE_eAJ, ↓rE_eAR, ↓rE_eLen, ↓rE_eSI, ↓rE_eC, ↓rE_eCall, ↓rE_eNew, ↓rE_eNewA, ↓rE_eInst, ↓rC_cI, ↓rC_cZ0, ↓rC_cN, ↓rC_cNot, ↓rC_cAnd, ↓rC_cOr, ↓rA_aN, ↓rA_aC, ↓rS_sP, ↓rS_sUF, ↓rS_sAI, ↓rS_sAJ, ↓rS_sAR, ↓rS_sUA, ↓rS_sCall, ↓rS_sObj, ↓rS_sSi, ↓rS_sSa, ↓rS_sSj, ↓rS_sInc, ↓rS_sSkip, ↓rS_sSeq, ↓rS_sIf, ↓rS_sRetI, ↓rS_sRetJ, ↓rS_sRetA, ↓rS_sRetV, ↓rS_sSw, ↓rD_meth, ↓rD_on, ↓kR_ref, ↓kI_int, ↓kJ_long, ↓kN_null, ↓kN_ref, ↓kN_rf, ↓kQ_ref, ↓kQ_null, ↓kQ_rf, o1_i, o1ij_i, o1ji_i, o2_i, o2d_i, o2j_i, o2ji_i, o2c_i, fv_0, fv_1, fv_2, fv_3, pf_0, pf_2, pf_3, pf_4, rf_s, rf_n, is_self, ge_0, ge_s, ge_n, gd_s, gd_n, se_0, se_s, ag_0, ex_n, ex_i, ex_r, ex_0, ex_j, ex_q, ap_c, ap_n, List.append_nil, ln_c, ln_n, rp_0, rp_s, rt_0, rt_1, rt_20, rt_21, rt_2, rt_3, rt_4, rt_4n, rt_4q, nl_0, nl_1, nl_2, nl_3, nl_4, nl_5, nl_6, nl_7, nl_8, nl_9, nlB_i, nlB_r, nlB_n, nlB_f, nlB_q, ↓reduceIte, reduceCtorEq, Nat.reduceAdd, Nat.reduceSub, Nat.reduceEqDiff, Nat.reduceLeDiff, Nat.reduceBEq, ite_true, ite_false, dt_t, Bool.not_true, Bool.not_false, Bool.false_eq_true, Nat.le_refl, true_and, and_true, true_or, or_true, false_or, or_false, false_and, and_false, qEq, qNe, qLt, qGe, qGt, qLe, rD_tb1, rD_of (d_isPerson _ hst hnt h8), rD_of (d_in _ _ _ _), sT_35 hst, sT_36 hst, sT_37 hst, sT_38 hst, sT_39 hst, sT_40 hst, sT_41 hst, sT_42 hst, sT_43 hst, sT_44 hst, sT_45 hst, sT_46 hst, sT_47 hst, sT_48 hst, sT_49 hst, sT_50 hst, sT_51 hst, sT_52 hst, sT_53 hst, sT_54 hst, sT_55 hst, sT_56 hst, sT_57 hst, sT_58 hst, sT_59 hst, sT_60 hst, sT_61 hst, sT_62 hst, sT_63 hst, sT_64 hst, sT_65 hst, sL_36 hst, sL_37 hst, sL_38 hst, sL_39 hst, sL_40 hst, sL_41 hst, sL_42 hst, sL_43 hst, sL_44 hst, sL_45 hst, sL_46 hst, sL_47 hst, sL_48 hst, sL_49 hst, sL_50 hst, sL_51 hst, sL_52 hst, sL_53 hst, sL_54 hst, sL_55 hst, sL_56 hst, sL_57 hst, sL_58 hst, sL_59 hst, sL_60 hst, sL_61 hst, sL_62 hst, sL_63 hst, sL_64 hst, sL_65 hst, sR_35_1 hst, sR_35_2 hst, sR_35_3 hst, sR_35_4 hst, sR_35_5 hst, sR_35_6 hst, sR_35_7 hst, sR_35_11 hst, sR_35_21 hst, sR_35_22 hst, sR_35_23 hst, sR_35_24 hst, sR_35_25 hst, sR_35_26 hst, sR_35_27 hst, sR_35_28 hst, sR_35_29 hst, sR_35_30 hst, sR_35_31 hst, sR_35_32 hst, sR_35_35 hst, sR_35_37 hst, sR_35_38 hst, sR_35_39 hst, sR_35_40 hst, sR_35_41 hst, sR_35_42 hst, sR_35_46 hst, sR_35_50 hst, sR_35_52 hst, b32_ne, nt_t, hp, hk2, not_true, ib_nI (show i < 8 by omega) (by decide), e2, ← cuk (show i < 8 by omega), hct]
      · by_cases c : j = i
        · subst c; right; rw [j5]; exact Nat.le_refl _
        · left; exact ⟨hj, j4 j hj c⟩
      · have := cur_set (σ := tn σ (nowA σ) i kd) (f := 0) (i := i) (by decide) (by omega) (x := nI kd)
        rw [show (36 : Nat) + 0 = 36 from rfl] at this
        rw [this, hct]
      · show pN σ + 1 ≤ _; omega
      · show pS σ + 7 ≤ _; omega
    · refine ⟨-1, σ, σ, n, ?_, ?_, h, by omega, by omega⟩
      · refine rD_un.trans ?_
        by_cases k1 : k < 0
        · simp only [D_X11_turn, B_X11_turn, ↓rE_eK, ↓rE_eLi, ↓rE_eLj, ↓rE_eLa, ↓rE_eU, ↓rE_eB, ↓rE_eG, ↓rE_eIF, ↓rE_eAI, ↓rE_eAX, ↓rE_eAJ, ↓rE_eAR, ↓rE_eLen, ↓rE_eSI, ↓rE_eC, ↓rE_eCall, ↓rE_eNew, ↓rE_eNewA, ↓rE_eInst, ↓rC_cI, ↓rC_cZ0, ↓rC_cN, ↓rC_cNot, ↓rC_cAnd, ↓rC_cOr, ↓rA_aN, ↓rA_aC, ↓rS_sP, ↓rS_sUF, ↓rS_sAI, ↓rS_sAJ, ↓rS_sAR, ↓rS_sUA, ↓rS_sCall, ↓rS_sObj, ↓rS_sSi, ↓rS_sSa, ↓rS_sSj, ↓rS_sInc, ↓rS_sSkip, ↓rS_sSeq, ↓rS_sIf, ↓rS_sRetI, ↓rS_sRetJ, ↓rS_sRetA, ↓rS_sRetV, ↓rS_sSw, ↓rD_meth, ↓rD_on, ↓kR_ref, ↓kI_int, ↓kJ_long, ↓kN_null, ↓kN_ref, ↓kN_rf, ↓kQ_ref, ↓kQ_null, ↓kQ_rf, o1_i, o1ij_i, o1ji_i, o2_i, o2d_i, o2j_i, o2ji_i, o2c_i, fv_0, fv_1, fv_2, fv_3, pf_0, pf_2, pf_3, pf_4, rf_s, rf_n, is_self, ge_0, ge_s, ge_n, gd_s, gd_n, se_0, se_s, ag_0, ex_n, ex_i, ex_r, ex_0, ex_j, ex_q, ap_c, ap_n, List.append_nil, ln_c, ln_n, rp_0, rp_s, rt_0, rt_1, rt_20, rt_21, rt_2, rt_3, rt_4, rt_4n, rt_4q, nl_0, nl_1, nl_2, nl_3, nl_4, nl_5, nl_6, nl_7, nl_8, nl_9, nlB_i, nlB_r, nlB_n, nlB_f, nlB_q, ↓reduceIte, reduceCtorEq, Nat.reduceAdd, Nat.reduceSub, Nat.reduceEqDiff, Nat.reduceLeDiff, Nat.reduceBEq, ite_true, ite_false, dt_t, Bool.not_true, Bool.not_false, Bool.false_eq_true, Nat.le_refl, true_and, and_true, true_or, or_true, false_or, or_false, false_and, and_false, qEq, qNe, qLt, qGe, qGt, qLe, hr, sT_11 hs, sT_12 hs, sT_13 hs, sT_14 hs, sT_15 hs, sT_16 hs, sT_17 hs, sT_18 hs, sT_19 hs, sT_20 hs, sT_21 hs, sT_22 hs, sT_23 hs, sT_24 hs, sT_25 hs, sT_26 hs, sT_27 hs, sT_28 hs, sT_29 hs, sT_30 hs, sT_31 hs, sT_32 hs, sT_33 hs, sT_34 hs, sL_13 hs, sL_14 hs, sL_16 hs, sL_17 hs, sL_18 hs, sL_19 hs, sL_20 hs, sL_21 hs, sL_22 hs, sL_23 hs, sL_24 hs, sL_25 hs, sL_26 hs, sL_28 hs, sL_30 hs, sL_31 hs, sL_32 hs, sL_33 hs, sL_34 hs, sR_11_2 hs, sR_11_3 hs, sR_11_4 hs, sR_11_5 hs, sR_11_7 hs, sR_11_8 hs, sR_11_9 hs, sR_27_0 hs, sR_29_0 hs, sR_15_0 hs, sR_15_3 hs, sR_15_5 hs, sR_15_6 hs, sR_15_7 hs, sR_15_8 hs, sR_15_9 hs, sR_15_10 hs, sR_15_11 hs, sR_15_12 hs, sR_15_13 hs, rD_tb1 (VR_T hv), rD_of (d_at_t hv hp), k1]
        · have k2 : 6 ≤ k := by
            rw [← Int32.not_lt]
            rw [Int32.not_lt] at k1
            exact fun q => hk (by rw [← lt6x]; exact ⟨k1, q⟩)
          simp only [D_X11_turn, B_X11_turn, ↓rE_eK, ↓rE_eLi, ↓rE_eLj, ↓rE_eLa, ↓rE_eU, ↓rE_eB, ↓rE_eG, ↓rE_eIF, ↓rE_eAI, ↓rE_eAX, ↓rE_eAJ, ↓rE_eAR, ↓rE_eLen, ↓rE_eSI, ↓rE_eC, ↓rE_eCall, ↓rE_eNew, ↓rE_eNewA, ↓rE_eInst, ↓rC_cI, ↓rC_cZ0, ↓rC_cN, ↓rC_cNot, ↓rC_cAnd, ↓rC_cOr, ↓rA_aN, ↓rA_aC, ↓rS_sP, ↓rS_sUF, ↓rS_sAI, ↓rS_sAJ, ↓rS_sAR, ↓rS_sUA, ↓rS_sCall, ↓rS_sObj, ↓rS_sSi, ↓rS_sSa, ↓rS_sSj, ↓rS_sInc, ↓rS_sSkip, ↓rS_sSeq, ↓rS_sIf, ↓rS_sRetI, ↓rS_sRetJ, ↓rS_sRetA, ↓rS_sRetV, ↓rS_sSw, ↓rD_meth, ↓rD_on, ↓kR_ref, ↓kI_int, ↓kJ_long, ↓kN_null, ↓kN_ref, ↓kN_rf, ↓kQ_ref, ↓kQ_null, ↓kQ_rf, o1_i, o1ij_i, o1ji_i, o2_i, o2d_i, o2j_i, o2ji_i, o2c_i, fv_0, fv_1, fv_2, fv_3, pf_0, pf_2, pf_3, pf_4, rf_s, rf_n, is_self, ge_0, ge_s, ge_n, gd_s, gd_n, se_0, se_s, ag_0, ex_n, ex_i, ex_r, ex_0, ex_j, ex_q, ap_c, ap_n, List.append_nil, ln_c, ln_n, rp_0, rp_s, rt_0, rt_1, rt_20, rt_21, rt_2, rt_3, rt_4, rt_4n, rt_4q, nl_0, nl_1, nl_2, nl_3, nl_4, nl_5, nl_6, nl_7, nl_8, nl_9, nlB_i, nlB_r, nlB_n, nlB_f, nlB_q, ↓reduceIte, reduceCtorEq, Nat.reduceAdd, Nat.reduceSub, Nat.reduceEqDiff, Nat.reduceLeDiff, Nat.reduceBEq, ite_true, ite_false, dt_t, Bool.not_true, Bool.not_false, Bool.false_eq_true, Nat.le_refl, true_and, and_true, true_or, or_true, false_or, or_false, false_and, and_false, qEq, qNe, qLt, qGe, qGt, qLe, hr, sT_11 hs, sT_12 hs, sT_13 hs, sT_14 hs, sT_15 hs, sT_16 hs, sT_17 hs, sT_18 hs, sT_19 hs, sT_20 hs, sT_21 hs, sT_22 hs, sT_23 hs, sT_24 hs, sT_25 hs, sT_26 hs, sT_27 hs, sT_28 hs, sT_29 hs, sT_30 hs, sT_31 hs, sT_32 hs, sT_33 hs, sT_34 hs, sL_13 hs, sL_14 hs, sL_16 hs, sL_17 hs, sL_18 hs, sL_19 hs, sL_20 hs, sL_21 hs, sL_22 hs, sL_23 hs, sL_24 hs, sL_25 hs, sL_26 hs, sL_28 hs, sL_30 hs, sL_31 hs, sL_32 hs, sL_33 hs, sL_34 hs, sR_11_2 hs, sR_11_3 hs, sR_11_4 hs, sR_11_5 hs, sR_11_7 hs, sR_11_8 hs, sR_11_9 hs, sR_27_0 hs, sR_29_0 hs, sR_15_0 hs, sR_15_3 hs, sR_15_5 hs, sR_15_6 hs, sR_15_7 hs, sR_15_8 hs, sR_15_9 hs, sR_15_10 hs, sR_15_11 hs, sR_15_12 hs, sR_15_13 hs, rD_tb1 (VR_T hv), rD_of (d_at_t hv hp), k1, k2]
      · refine rD_un.trans ?_
        have hk2 : ¬ (0 ≤ k ∧ k ≤ 5) := by rw [le5]; exact hk
        simp only [D_X12_turn, B_X12_turn, ↓rE_eK, ↓rE_eLi, ↓rE_eLj, ↓rE_eLa, ↓rE_eU, ↓rE_eB, ↓rE_eG, ↓rE_eIF, ↓rE_eAI, ↓rE_eAX, ↓rE_eAJ, ↓rE_eAR, ↓rE_eLen, ↓rE_eSI, ↓rE_eC, ↓rE_eCall, ↓rE_eNew, ↓rE_eNewA, ↓rE_eInst, ↓rC_cI, ↓rC_cZ0, ↓rC_cN, ↓rC_cNot, ↓rC_cAnd, ↓rC_cOr, ↓rA_aN, ↓rA_aC, ↓rS_sP, ↓rS_sUF, ↓rS_sAI, ↓rS_sAJ, ↓rS_sAR, ↓rS_sUA, ↓rS_sCall, ↓rS_sObj, ↓rS_sSi, ↓rS_sSa, ↓rS_sSj, ↓rS_sInc, ↓rS_sSkip, ↓rS_sSeq, ↓rS_sIf, ↓rS_sRetI, ↓rS_sRetJ, ↓rS_sRetA, ↓rS_sRetV, ↓rS_sSw, ↓rD_meth, ↓rD_on, ↓kR_ref, ↓kI_int, ↓kJ_long, ↓kN_null, ↓kN_ref, ↓kN_rf, ↓kQ_ref, ↓kQ_null, ↓kQ_rf, o1_i, o1ij_i, o1ji_i, o2_i, o2d_i, o2j_i, o2ji_i, o2c_i, fv_0, fv_1, fv_2, fv_3, pf_0, pf_2, pf_3, pf_4, rf_s, rf_n, is_self, ge_0, ge_s, ge_n, gd_s, gd_n, se_0, se_s, ag_0, ex_n, ex_i, ex_r, ex_0, ex_j, ex_q, ap_c, ap_n, List.append_nil, ln_c, ln_n, rp_0, rp_s, rt_0, rt_1, rt_20, rt_21, rt_2, rt_3, rt_4, rt_4n, rt_4q, nl_0, nl_1, nl_2, nl_3, nl_4, nl_5, nl_6, nl_7, nl_8, nl_9, nlB_i, nlB_r, nlB_n, nlB_f, nlB_q, ↓reduceIte, reduceCtorEq, Nat.reduceAdd, Nat.reduceSub, Nat.reduceEqDiff, Nat.reduceLeDiff, Nat.reduceBEq, ite_true, ite_false, dt_t, Bool.not_true, Bool.not_false, Bool.false_eq_true, Nat.le_refl, true_and, and_true, true_or, or_true, false_or, or_false, false_and, and_false, qEq, qNe, qLt, qGe, qGt, qLe, rD_tb1, rD_of (d_isPerson _ hs hn h8), rD_of (d_in _ _ _ _), sT_35 hs, sT_36 hs, sT_37 hs, sT_38 hs, sT_39 hs, sT_40 hs, sT_41 hs, sT_42 hs, sT_43 hs, sT_44 hs, sT_45 hs, sT_46 hs, sT_47 hs, sT_48 hs, sT_49 hs, sT_50 hs, sT_51 hs, sT_52 hs, sT_53 hs, sT_54 hs, sT_55 hs, sT_56 hs, sT_57 hs, sT_58 hs, sT_59 hs, sT_60 hs, sT_61 hs, sT_62 hs, sT_63 hs, sT_64 hs, sT_65 hs, sL_36 hs, sL_37 hs, sL_38 hs, sL_39 hs, sL_40 hs, sL_41 hs, sL_42 hs, sL_43 hs, sL_44 hs, sL_45 hs, sL_46 hs, sL_47 hs, sL_48 hs, sL_49 hs, sL_50 hs, sL_51 hs, sL_52 hs, sL_53 hs, sL_54 hs, sL_55 hs, sL_56 hs, sL_57 hs, sL_58 hs, sL_59 hs, sL_60 hs, sL_61 hs, sL_62 hs, sL_63 hs, sL_64 hs, sL_65 hs, sR_35_1 hs, sR_35_2 hs, sR_35_3 hs, sR_35_4 hs, sR_35_5 hs, sR_35_6 hs, sR_35_7 hs, sR_35_11 hs, sR_35_21 hs, sR_35_22 hs, sR_35_23 hs, sR_35_24 hs, sR_35_25 hs, sR_35_26 hs, sR_35_27 hs, sR_35_28 hs, sR_35_29 hs, sR_35_30 hs, sR_35_31 hs, sR_35_32 hs, sR_35_35 hs, sR_35_37 hs, sR_35_38 hs, sR_35_39 hs, sR_35_40 hs, sR_35_41 hs, sR_35_42 hs, sR_35_46 hs, sR_35_50 hs, sR_35_52 hs, b32_ne, nt_t, hp, hk2, not_true, not_false_eq_true]
  · refine ⟨-1, σ, σ, n, ?_, ?_, h, by omega, by omega⟩
    · refine rD_un.trans ?_
      simp only [D_X11_turn, B_X11_turn, ↓rE_eK, ↓rE_eLi, ↓rE_eLj, ↓rE_eLa, ↓rE_eU, ↓rE_eB, ↓rE_eG, ↓rE_eIF, ↓rE_eAI, ↓rE_eAX, ↓rE_eAJ, ↓rE_eAR, ↓rE_eLen, ↓rE_eSI, ↓rE_eC, ↓rE_eCall, ↓rE_eNew, ↓rE_eNewA, ↓rE_eInst, ↓rC_cI, ↓rC_cZ0, ↓rC_cN, ↓rC_cNot, ↓rC_cAnd, ↓rC_cOr, ↓rA_aN, ↓rA_aC, ↓rS_sP, ↓rS_sUF, ↓rS_sAI, ↓rS_sAJ, ↓rS_sAR, ↓rS_sUA, ↓rS_sCall, ↓rS_sObj, ↓rS_sSi, ↓rS_sSa, ↓rS_sSj, ↓rS_sInc, ↓rS_sSkip, ↓rS_sSeq, ↓rS_sIf, ↓rS_sRetI, ↓rS_sRetJ, ↓rS_sRetA, ↓rS_sRetV, ↓rS_sSw, ↓rD_meth, ↓rD_on, ↓kR_ref, ↓kI_int, ↓kJ_long, ↓kN_null, ↓kN_ref, ↓kN_rf, ↓kQ_ref, ↓kQ_null, ↓kQ_rf, o1_i, o1ij_i, o1ji_i, o2_i, o2d_i, o2j_i, o2ji_i, o2c_i, fv_0, fv_1, fv_2, fv_3, pf_0, pf_2, pf_3, pf_4, rf_s, rf_n, is_self, ge_0, ge_s, ge_n, gd_s, gd_n, se_0, se_s, ag_0, ex_n, ex_i, ex_r, ex_0, ex_j, ex_q, ap_c, ap_n, List.append_nil, ln_c, ln_n, rp_0, rp_s, rt_0, rt_1, rt_20, rt_21, rt_2, rt_3, rt_4, rt_4n, rt_4q, nl_0, nl_1, nl_2, nl_3, nl_4, nl_5, nl_6, nl_7, nl_8, nl_9, nlB_i, nlB_r, nlB_n, nlB_f, nlB_q, ↓reduceIte, reduceCtorEq, Nat.reduceAdd, Nat.reduceSub, Nat.reduceEqDiff, Nat.reduceLeDiff, Nat.reduceBEq, ite_true, ite_false, dt_t, Bool.not_true, Bool.not_false, Bool.false_eq_true, Nat.le_refl, true_and, and_true, true_or, or_true, false_or, or_false, false_and, and_false, qEq, qNe, qLt, qGe, qGt, qLe, hr, sT_11 hs, sT_12 hs, sT_13 hs, sT_14 hs, sT_15 hs, sT_16 hs, sT_17 hs, sT_18 hs, sT_19 hs, sT_20 hs, sT_21 hs, sT_22 hs, sT_23 hs, sT_24 hs, sT_25 hs, sT_26 hs, sT_27 hs, sT_28 hs, sT_29 hs, sT_30 hs, sT_31 hs, sT_32 hs, sT_33 hs, sT_34 hs, sL_13 hs, sL_14 hs, sL_16 hs, sL_17 hs, sL_18 hs, sL_19 hs, sL_20 hs, sL_21 hs, sL_22 hs, sL_23 hs, sL_24 hs, sL_25 hs, sL_26 hs, sL_28 hs, sL_30 hs, sL_31 hs, sL_32 hs, sL_33 hs, sL_34 hs, sR_11_2 hs, sR_11_3 hs, sR_11_4 hs, sR_11_5 hs, sR_11_7 hs, sR_11_8 hs, sR_11_9 hs, sR_27_0 hs, sR_29_0 hs, sR_15_0 hs, sR_15_3 hs, sR_15_5 hs, sR_15_6 hs, sR_15_7 hs, sR_15_8 hs, sR_15_9 hs, sR_15_10 hs, sR_15_11 hs, sR_15_12 hs, sR_15_13 hs, rD_tb1 (VR_T hv), rD_of (d_at_f hv hp)]
    · refine rD_un.trans ?_
      simp only [D_X12_turn, B_X12_turn, ↓rE_eK, ↓rE_eLi, ↓rE_eLj, ↓rE_eLa, ↓rE_eU, ↓rE_eB, ↓rE_eG, ↓rE_eIF, ↓rE_eAI, ↓rE_eAX, ↓rE_eAJ, ↓rE_eAR, ↓rE_eLen, ↓rE_eSI, ↓rE_eC, ↓rE_eCall, ↓rE_eNew, ↓rE_eNewA, ↓rE_eInst, ↓rC_cI, ↓rC_cZ0, ↓rC_cN, ↓rC_cNot, ↓rC_cAnd, ↓rC_cOr, ↓rA_aN, ↓rA_aC, ↓rS_sP, ↓rS_sUF, ↓rS_sAI, ↓rS_sAJ, ↓rS_sAR, ↓rS_sUA, ↓rS_sCall, ↓rS_sObj, ↓rS_sSi, ↓rS_sSa, ↓rS_sSj, ↓rS_sInc, ↓rS_sSkip, ↓rS_sSeq, ↓rS_sIf, ↓rS_sRetI, ↓rS_sRetJ, ↓rS_sRetA, ↓rS_sRetV, ↓rS_sSw, ↓rD_meth, ↓rD_on, ↓kR_ref, ↓kI_int, ↓kJ_long, ↓kN_null, ↓kN_ref, ↓kN_rf, ↓kQ_ref, ↓kQ_null, ↓kQ_rf, o1_i, o1ij_i, o1ji_i, o2_i, o2d_i, o2j_i, o2ji_i, o2c_i, fv_0, fv_1, fv_2, fv_3, pf_0, pf_2, pf_3, pf_4, rf_s, rf_n, is_self, ge_0, ge_s, ge_n, gd_s, gd_n, se_0, se_s, ag_0, ex_n, ex_i, ex_r, ex_0, ex_j, ex_q, ap_c, ap_n, List.append_nil, ln_c, ln_n, rp_0, rp_s, rt_0, rt_1, rt_20, rt_21, rt_2, rt_3, rt_4, rt_4n, rt_4q, nl_0, nl_1, nl_2, nl_3, nl_4, nl_5, nl_6, nl_7, nl_8, nl_9, nlB_i, nlB_r, nlB_n, nlB_f, nlB_q, ↓reduceIte, reduceCtorEq, Nat.reduceAdd, Nat.reduceSub, Nat.reduceEqDiff, Nat.reduceLeDiff, Nat.reduceBEq, ite_true, ite_false, dt_t, Bool.not_true, Bool.not_false, Bool.false_eq_true, Nat.le_refl, true_and, and_true, true_or, or_true, false_or, or_false, false_and, and_false, qEq, qNe, qLt, qGe, qGt, qLe, rD_tb1, rD_of (d_isPerson _ hs hn h8), sT_35 hs, sT_36 hs, sT_37 hs, sT_38 hs, sT_39 hs, sT_40 hs, sT_41 hs, sT_42 hs, sT_43 hs, sT_44 hs, sT_45 hs, sT_46 hs, sT_47 hs, sT_48 hs, sT_49 hs, sT_50 hs, sT_51 hs, sT_52 hs, sT_53 hs, sT_54 hs, sT_55 hs, sT_56 hs, sT_57 hs, sT_58 hs, sT_59 hs, sT_60 hs, sT_61 hs, sT_62 hs, sT_63 hs, sT_64 hs, sT_65 hs, sL_36 hs, sL_37 hs, sL_38 hs, sL_39 hs, sL_40 hs, sL_41 hs, sL_42 hs, sL_43 hs, sL_44 hs, sL_45 hs, sL_46 hs, sL_47 hs, sL_48 hs, sL_49 hs, sL_50 hs, sL_51 hs, sL_52 hs, sL_53 hs, sL_54 hs, sL_55 hs, sL_56 hs, sL_57 hs, sL_58 hs, sL_59 hs, sL_60 hs, sL_61 hs, sL_62 hs, sL_63 hs, sL_64 hs, sL_65 hs, sR_35_1 hs, sR_35_2 hs, sR_35_3 hs, sR_35_4 hs, sR_35_5 hs, sR_35_6 hs, sR_35_7 hs, sR_35_11 hs, sR_35_21 hs, sR_35_22 hs, sR_35_23 hs, sR_35_24 hs, sR_35_25 hs, sR_35_26 hs, sR_35_27 hs, sR_35_28 hs, sR_35_29 hs, sR_35_30 hs, sR_35_31 hs, sR_35_32 hs, sR_35_35 hs, sR_35_37 hs, sR_35_38 hs, sR_35_39 hs, sR_35_40 hs, sR_35_41 hs, sR_35_42 hs, sR_35_46 hs, sR_35_50 hs, sR_35_52 hs, b32_ne, nt_t, hp, not_false_eq_true]
