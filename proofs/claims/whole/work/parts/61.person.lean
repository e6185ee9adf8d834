/-! person, turn. -/
theorem Mdl_Gr {σ τ : pm_H} (h : Mdl σ τ) : Gr σ τ := by
  obtain ⟨b1, b2, b3, b4, b5, b6, b7, b8⟩ := h
  refine ⟨⟨by rw [b4]; exact Nat.le_refl _, fun a _ => by rw [b1], fun a _ => by rw [b2]⟩, fun a _ _ => by rw [b6], fun a k q => ?_, fun a q1 q2 q3 => ⟨b7 a (by omega) (by omega), by rw [b3]⟩, fun a k _ _ _ _ _ => by rw [b3]⟩
  unfold grc at q
  by_cases e : a = 35
  · subst e; exact b8 k (by omega) (by omega) (by omega) (by omega)
  · rw [b7 a e (by omega)]
theorem Rel_cg {Rk : (Nat → Nat → Int32) → Prop} {σ σ1 σ2 : pm_H} {n n2 : Nat} {vd : Nat → Int32} (h : Rel Rk σ n) (hg : Gr σ σ1) (hI : ∀ a, a < 66 → a ≠ 12 → a ≠ 13 → a ≠ 14 → pI σ1 a = pI σ a) (hf : ∀ a, a < pN σ → (a = 12 ∨ a = 13 ∨ a = 14 ∨ 66 ≤ a) → ¬ fp σ (nowA σ) n a → pI σ1 a = pI σ a ∧ pR σ1 a = pR σ a) (hR : ∀ k, pR σ1 11 k = pR σ 11 k) (hQ : vP σ1 (nowA σ) = vP σ (nowA σ) ∧ vD σ1 (nowA σ) = vD σ (nowA σ) ∧ ∀ i, i < n2 → (i < n ∧ vQ σ1 (nowA σ) i = vQ σ (nowA σ) i) ∨ pN σ ≤ vQ σ1 (nowA σ) i) (hv : VR σ1 (nowA σ) vd n2) (hm : Mdl σ1 σ2) (hd : cur σ2 = vd) : Rel Rk σ2 n2 := by
  have hg2 := Gr_tr hg (Mdl_Gr hm)
  obtain ⟨b1, b2, b3, b4, b5, b6, b7, b8⟩ := hm
  have hI2 : ∀ a, a < 66 → a ≠ 12 → a ≠ 13 → a ≠ 14 → a ≠ 35 → ¬ (36 ≤ a ∧ a ≤ 42) → pI σ2 a = pI σ a := fun a q1 q2 q3 q4 q5 q6 => (b7 a q5 q6).trans (hI a q1 q2 q3 q4)
  have h35 : ∀ k, k ≠ 0 → k ≠ 8 → k ≠ 9 → k ≠ 10 → pI σ2 35 k = pI σ 35 k := fun k q1 q2 q3 q4 => (b8 k q1 q2 q3 q4).trans (by rw [hI 35 (by decide) (by decide) (by decide) (by decide)])
  have hv2 : VR σ2 (nowA σ) (cur σ2) n2 := by
    rw [hd]
    exact (VR_fr hv (by rw [b4]; exact Nat.le_refl _) (fun a _ => by rw [b1]) (fun a _ => by rw [b2]) (fun a ha => ⟨b7 a (by have := fp_off hv ha; omega) (by have := fp_off hv ha; omega), by rw [b3]⟩)).1
  have en : nowA σ2 = nowA σ := by unfold nowA; rw [b3, hR]
  refine Rel_gr h hg2 (TapeR_fr h.2.1 ?_ (h35 12 (by decide) (by decide) (by decide) (by decide)) ?_ ?_) (RowR_fr h.2.2.1 ?_ (h35 36 (by decide) (by decide) (by decide) (by decide)) ?_ ?_) ⟨by rw [en, b3, hR]; exact Rel_nr h, by rw [en]; exact hv2⟩ (Kept_gr (Rel_NowR h) hv2 (Rel_kept h) hg2.1.1 hg2.1.2.1 hg2.1.2.2 (h35 49 (by decide) (by decide) (by decide) (by decide)) (by rw [b3, hR]) ?_ ⟨en, by unfold vP; rw [b3]; exact hQ.1, by unfold vD; rw [b3]; exact hQ.2.1, fun i hi => ?_⟩ (fun a q1 q2 q3 => ?_))
  all_goals first
    | exact congrFun (hI2 _ (by decide) (by decide) (by decide) (by decide) (by decide) (by decide)) _
    | exact hI2 _ (by decide) (by decide) (by decide) (by decide) (by decide) (by decide)
    | skip
  · have e : vQ σ2 (nowA σ) i = vQ σ1 (nowA σ) i := by unfold vQ vP; rw [b3]
    rw [e]; exact hQ.2.2 i hi
  · obtain ⟨g1, g2⟩ := hf a q1 q2 q3
    exact ⟨(b7 a (by omega) (by omega)).trans g1, by rw [b3]; exact g2⟩
theorem cur_0 {σ : pm_H} {x : Int32} : cur (uI σ 35 0 x) = upd (cur σ) 0 x := by
  funext j
  unfold cur upd
  rw [pI_uI_ne σ _ x (show (36 : Nat) ≠ 35 by decide), pI_uI_ne σ _ x (show (37 : Nat) ≠ 35 by decide), pI_uI_ne σ _ x (show (38 : Nat) ≠ 35 by decide), pI_uI_ne σ _ x (show (39 : Nat) ≠ 35 by decide), pI_uI_ne σ _ x (show (40 : Nat) ≠ 35 by decide), pI_uI_ne σ _ x (show (41 : Nat) ≠ 35 by decide), pI_uI_ne σ _ x (show (42 : Nat) ≠ 35 by decide), pI_uI, pI_uI, pI_uI, pI_uI]
  by_cases c1 : j = 0
  · subst c1; simp
  · simp [c1]
def pzV (vd : Nat → Int32) (n : Nat) : Nat → Nat → Int32
  | 0 => vd
  | q + 1 => upd (upd (pzV vd n q) (52 + (8 * n + q)) 0) (52 + (8 * q + n)) 0
theorem pzV_low (vd : Nat → Int32) (n q : Nat) {j : Nat} (hj : j < 52) : pzV vd n q j = vd j := by
  induction q with
  | zero => rfl
  | succ q ih => rw [pzV, upd_ne _ _ (by omega), upd_ne _ _ (by omega), ih]
theorem pzV_ow (vd : Nat → Int32) {n a b : Nat} (hn : n < 8) (ha : a < 8) (hb : b < 8) : ∀ q, q ≤ 8 → pzV vd n q (52 + (8 * a + b)) = if (a = n ∧ b < q) ∨ (b = n ∧ a < q) then 0 else vd (52 + (8 * a + b)) := by
  intro q hq
  induction q with
  | zero => rw [pzV, if_neg (by omega)]
  | succ q ih =>
    rw [pzV]
    by_cases c1 : b = n ∧ a = q
    · rw [show 52 + (8 * a + b) = 52 + (8 * q + n) by omega, upd_at, if_pos (by omega)]
    · rw [upd_ne _ _ (by omega)]
      by_cases c2 : a = n ∧ b = q
      · rw [show 52 + (8 * a + b) = 52 + (8 * n + q) by omega, upd_at, if_pos (by omega)]
      · rw [upd_ne _ _ (by omega), ih (by omega)]
        by_cases c3 : (a = n ∧ b < q) ∨ (b = n ∧ a < q)
        · rw [if_pos c3, if_pos (by omega)]
        · rw [if_neg c3, if_neg (by omega)]
/-- the row of a valley when one has joined -/
def pnB (vd : Nat → Int32) (n kd : Nat) (G : Int32) : Nat → Int32 := upd (upd (upd (upd (upd (upd vd (4 + n) (nI kd)) (12 + n) G) (20 + n) 100) (28 + n) 0) (36 + n) 0) (44 + n) 0
def pnV (vd : Nat → Int32) (n kd A : Nat) (G : Int32) : Nat → Int32 := upd (upd (pzV (pnB vd n kd G) n 8) 1 (nI (A ||| 2 ^ n))) 0 (nI (n + 1))
theorem pnB_old (vd : Nat → Int32) {n kd j : Nat} {G : Int32} (h : j ≠ 4 + n ∧ j ≠ 12 + n ∧ j ≠ 20 + n ∧ j ≠ 28 + n ∧ j ≠ 36 + n ∧ j ≠ 44 + n) : pnB vd n kd G j = vd j := by
  unfold pnB
  rw [upd_ne _ _ (by omega), upd_ne _ _ (by omega), upd_ne _ _ (by omega), upd_ne _ _ (by omega), upd_ne _ _ (by omega), upd_ne _ _ (by omega)]
theorem pnV_j (vd : Nat → Int32) {n kd A j : Nat} {G : Int32} (h1 : 1 < j) (h : j < 52) : pnV vd n kd A G j = pnB vd n kd G j := by
  unfold pnV
  rw [upd_ne _ _ (by omega), upd_ne _ _ (by omega), pzV_low _ _ _ h]
theorem d_person_m {σ : pm_H} (hS : Sh σ) {n kd A g : Nat} (hn : pI σ 35 0 = nI n) (n8 : n < 8) (hk : kd < 6) (hg : 1 ≤ g ∧ g ≤ 90) (eA : cur σ 1 = nI A) : ∃ σ', D_X12_person [.ref 35, .int (nI kd), .int (nI g)] σ = some (some (.int (nI n)), σ') ∧ Mdl σ σ' ∧ cur σ' = pnV (cur σ) n kd A (nI g) := by
  have hib := ib_nI n8 (show (8 : Nat) ≤ 1000000 by decide)
  have hcl := nI_cl (show n < 2147483648 by omega)
  have hin1 : 0 ≤ nI kd ∧ nI kd ≤ 5 := by rw [le5]; exact ib_nI hk (by decide)
  have hin2 : 1 ≤ nI g ∧ nI g ≤ 90 := by
    rw [i_le, i_le, show (1 : Int32).toInt = 1 by decide, show (90 : Int32).toInt = 90 by decide, nI_toInt (by omega)]; omega
  have ne8 : ¬ nI n = 8 := by rw [show (8 : Int32) = nI 8 from rfl, nI_inj (by omega) (by decide)]; omega
  obtain ⟨τ, eτ⟩ : ∃ τ, τ = uI (uI (uI (uI (uI (uI σ 36 n (nI kd)) 37 n (nI g)) 38 n 100) 39 n 0) 40 n 0) 41 n 0 := ⟨_, rfl⟩
  have hτ : Mdl σ τ := by rw [eτ]; exact Mdl_uI (Mdl_uI (Mdl_uI (Mdl_uI (Mdl_uI (Mdl_uI Mdl_rfl (by omega)) (by omega)) (by omega)) (by omega)) (by omega)) (by omega)
  have hτc : cur τ = pnB (cur σ) n kd (nI g) := by
    rw [eτ, show (41 : Nat) = 36 + 5 from rfl, cur_set (by decide) n8, show (40 : Nat) = 36 + 4 from rfl, cur_set (by decide) n8, show (39 : Nat) = 36 + 3 from rfl, cur_set (by decide) n8, show (38 : Nat) = 36 + 2 from rfl, cur_set (by decide) n8, show (37 : Nat) = 36 + 1 from rfl, cur_set (by decide) n8]
    have := cur_set (σ := σ) (f := 0) (i := n) (by decide) n8 (x := nI kd)
    rw [show (36 : Nat) + 0 = 36 from rfl] at this
    rw [this]
    rfl
  have h35 : ∀ s, Mdl σ s → cur s 0 = nI n → pI s 35 0 = nI n := fun s _ q => q
  have hl : ∃ r ρ, sLoop (cI qLt (eLi 3) (eK (.int 8))) (sSeq (sSeq (sAI (eG (is 12) 3 7 (eLa 0)) (eB f_iadd (eB f_imul (eK (.int 8)) (eG (is 12) 0 0 (eLa 0))) (eLi 3)) (eK (.int 0))) (sAI (eG (is 12) 3 7 (eLa 0)) (eB f_iadd (eB f_imul (eK (.int 8)) (eLi 3)) (eG (is 12) 0 0 (eLa 0))) (eK (.int 0)))) (sInc 3 1)) [.ref 35, .int (nI kd), .int (nI g), .int 0] τ = some (r, ρ) ∧ (Mdl σ ρ ∧ cur ρ = pzV (pnB (cur σ) n kd (nI g)) n 8 ∧ r = .inl [.ref 35, .int (nI kd), .int (nI g), .int (nI 8)]) := by
    refine loop_gen (fun q env s => Mdl σ s ∧ cur s = pzV (pnB (cur σ) n kd (nI g)) n q ∧ env = [.ref 35, .int (nI kd), .int (nI g), .int (nI q)]) _ 8 (by omega) ⟨hτ, hτc, by rw [nI_0]⟩ ?_
    rintro q env s hq ⟨hM, hcu, rfl⟩
    have hss := Mdl_Sh hM hS
    have hlt : (nI q < 8) = (q < 8) := nI_lt' (b := 8) (by omega) (by decide)
    have hns : pI s 35 0 = nI n := by rw [← cu0, hcu, pzV_low _ _ _ (by decide), pnB_old _ (by omega)]; exact hn
    by_cases e : q < 8
    · left
      have b1 := ib_nI (show 8 * n + q < 64 by omega) (by decide)
      have b2 := ib_nI (show 8 * q + n < 64 by omega) (by decide)
      have c1 := nI_cl (show 8 * n + q < 2147483648 by omega)
      have c2 := nI_cl (show 8 * q + n < 2147483648 by omega)
      have hns2 : pI (uI s 42 (8 * n + q) 0) 35 0 = nI n := by rw [pI_uI_ne _ _ _ (by decide)]; exact hns
      refine ⟨[.ref 35, .int (nI kd), .int (nI g), .int (nI (q + 1))], uI (uI s 42 (8 * n + q) 0) 42 (8 * q + n) 0, ?_, e, Mdl_uI (Mdl_uI hM (by omega)) (by omega), ?_, rfl⟩
      · simp only [lpStep, ↓rE_eK, ↓rE_eLi, ↓rE_eLj, ↓rE_eLa, ↓rE_eU, ↓rE_eB, ↓rE_eG, ↓rE_eIF, ↓rE_eAI, ↓rE_eAX, ↓rE_eAJ, ↓rE_eAR, ↓rE_eLen, ↓rE_eSI, ↓rE_eC, ↓rE_eCall, ↓rE_eNew, ↓rE_eNewA, ↓rE_eInst, ↓rC_cI, ↓rC_cZ0, ↓rC_cN, ↓rC_cNot, ↓rC_cAnd, ↓rC_cOr, ↓rA_aN, ↓rA_aC, ↓rS_sP, ↓rS_sUF, ↓rS_sAI, ↓rS_sAJ, ↓rS_sAR, ↓rS_sUA, ↓rS_sCall, ↓rS_sObj, ↓rS_sSi, ↓rS_sSa, ↓rS_sSj, ↓rS_sInc, ↓rS_sSkip, ↓rS_sSeq, ↓rS_sIf, ↓rS_sRetI, ↓rS_sRetJ, ↓rS_sRetA, ↓rS_sRetV, ↓rS_sSw, ↓rD_meth, ↓rD_on, ↓kR_ref, ↓kI_int, ↓kJ_long, ↓kN_null, ↓kN_ref, ↓kN_rf, ↓kQ_ref, ↓kQ_null, ↓kQ_rf, o1_i, o1ij_i, o1ji_i, o2_i, o2d_i, o2j_i, o2ji_i, o2c_i, fv_0, fv_1, fv_2, fv_3, pf_0, pf_2, pf_3, pf_4, rf_s, rf_n, is_self, ge_0, ge_s, ge_n, gd_s, gd_n, se_0, se_s, ag_0, ex_n, ex_i, ex_r, ex_0, ex_j, ex_q, ap_c, ap_n, List.append_nil, ln_c, ln_n, rp_0, rp_s, rt_0, rt_1, rt_20, rt_21, rt_2, rt_3, rt_4, rt_4n, rt_4q, nl_0, nl_1, nl_2, nl_3, nl_4, nl_5, nl_6, nl_7, nl_8, nl_9, nlB_i, nlB_r, nlB_n, nlB_f, nlB_q, ↓reduceIte, reduceCtorEq, Nat.reduceAdd, Nat.reduceSub, Nat.reduceEqDiff, Nat.reduceLeDiff, Nat.reduceBEq, ite_true, ite_false, dt_t, Bool.not_true, Bool.not_false, Bool.false_eq_true, Nat.le_refl, true_and, and_true, true_or, or_true, false_or, or_false, false_and, and_false, qEq, qNe, qLt, qGe, qGt, qLe, sT_35 hss, sT_36 hss, sT_37 hss, sT_38 hss, sT_39 hss, sT_40 hss, sT_41 hss, sT_42 hss, sT_43 hss, sT_44 hss, sT_45 hss, sT_46 hss, sT_47 hss, sT_48 hss, sT_49 hss, sT_50 hss, sT_51 hss, sT_52 hss, sT_53 hss, sT_54 hss, sT_55 hss, sT_56 hss, sT_57 hss, sT_58 hss, sT_59 hss, sT_60 hss, sT_61 hss, sT_62 hss, sT_63 hss, sT_64 hss, sT_65 hss, sL_36 hss, sL_37 hss, sL_38 hss, sL_39 hss, sL_40 hss, sL_41 hss, sL_42 hss, sL_43 hss, sL_44 hss, sL_45 hss, sL_46 hss, sL_47 hss, sL_48 hss, sL_49 hss, sL_50 hss, sL_51 hss, sL_52 hss, sL_53 hss, sL_54 hss, sL_55 hss, sL_56 hss, sL_57 hss, sL_58 hss, sL_59 hss, sL_60 hss, sL_61 hss, sL_62 hss, sL_63 hss, sL_64 hss, sL_65 hss, sR_35_1 hss, sR_35_2 hss, sR_35_3 hss, sR_35_4 hss, sR_35_5 hss, sR_35_6 hss, sR_35_7 hss, sR_35_11 hss, sR_35_21 hss, sR_35_22 hss, sR_35_23 hss, sR_35_24 hss, sR_35_25 hss, sR_35_26 hss, sR_35_27 hss, sR_35_28 hss, sR_35_29 hss, sR_35_30 hss, sR_35_31 hss, sR_35_32 hss, sR_35_35 hss, sR_35_37 hss, sR_35_38 hss, sR_35_39 hss, sR_35_40 hss, sR_35_41 hss, sR_35_42 hss, sR_35_46 hss, sR_35_50 hss, sR_35_52 hss, hlt, e, hns, hns2, ix8 n8 e, ix8 e n8, b1, b2, c1, c2, pT_uI, pL_uI, pR_uI, nI_1]
      · rw [cur_owed, cur_owed, hcu, pzV]
    · right
      have : q = 8 := by omega
      subst this
      refine ⟨_, _, ?_, hM, hcu, rfl⟩
      simp only [lpStep, ↓rE_eK, ↓rE_eLi, ↓rE_eLj, ↓rE_eLa, ↓rE_eU, ↓rE_eB, ↓rE_eG, ↓rE_eIF, ↓rE_eAI, ↓rE_eAX, ↓rE_eAJ, ↓rE_eAR, ↓rE_eLen, ↓rE_eSI, ↓rE_eC, ↓rE_eCall, ↓rE_eNew, ↓rE_eNewA, ↓rE_eInst, ↓rC_cI, ↓rC_cZ0, ↓rC_cN, ↓rC_cNot, ↓rC_cAnd, ↓rC_cOr, ↓rA_aN, ↓rA_aC, ↓rS_sP, ↓rS_sUF, ↓rS_sAI, ↓rS_sAJ, ↓rS_sAR, ↓rS_sUA, ↓rS_sCall, ↓rS_sObj, ↓rS_sSi, ↓rS_sSa, ↓rS_sSj, ↓rS_sInc, ↓rS_sSkip, ↓rS_sSeq, ↓rS_sIf, ↓rS_sRetI, ↓rS_sRetJ, ↓rS_sRetA, ↓rS_sRetV, ↓rS_sSw, ↓rD_meth, ↓rD_on, ↓kR_ref, ↓kI_int, ↓kJ_long, ↓kN_null, ↓kN_ref, ↓kN_rf, ↓kQ_ref, ↓kQ_null, ↓kQ_rf, o1_i, o1ij_i, o1ji_i, o2_i, o2d_i, o2j_i, o2ji_i, o2c_i, fv_0, fv_1, fv_2, fv_3, pf_0, pf_2, pf_3, pf_4, rf_s, rf_n, is_self, ge_0, ge_s, ge_n, gd_s, gd_n, se_0, se_s, ag_0, ex_n, ex_i, ex_r, ex_0, ex_j, ex_q, ap_c, ap_n, List.append_nil, ln_c, ln_n, rp_0, rp_s, rt_0, rt_1, rt_20, rt_21, rt_2, rt_3, rt_4, rt_4n, rt_4q, nl_0, nl_1, nl_2, nl_3, nl_4, nl_5, nl_6, nl_7, nl_8, nl_9, nlB_i, nlB_r, nlB_n, nlB_f, nlB_q, ↓reduceIte, reduceCtorEq, Nat.reduceAdd, Nat.reduceSub, Nat.reduceEqDiff, Nat.reduceLeDiff, Nat.reduceBEq, ite_true, ite_false, dt_t, Bool.not_true, Bool.not_false, Bool.false_eq_true, Nat.le_refl, true_and, and_true, true_or, or_true, false_or, or_false, false_and, and_false, qEq, qNe, qLt, qGe, qGt, qLe, hlt, Nat.lt_irrefl]
  obtain ⟨r, ρ, l1, hM, hcu, rfl⟩ := hl
  have hsρ := Mdl_Sh hM hS
  have r0 : pI ρ 35 0 = nI n := by rw [← cu0, hcu, pzV_low _ _ _ (by decide), pnB_old _ (by omega)]; exact hn
  have r8 : pI ρ 35 8 = nI A := by rw [← cu1, hcu, pzV_low _ _ _ (by decide), pnB_old _ (by omega)]; exact eA
  have q0 : pI (uI ρ 35 8 (nI (A ||| 2 ^ n))) 35 0 = nI n := by rw [pI_uI_nek _ _ _ _ (by decide)]; exact r0
  have q1 : pI (uI (uI ρ 35 8 (nI (A ||| 2 ^ n))) 35 0 (nI (n + 1))) 35 0 = nI (n + 1) := pI_uI_at _ _ _ _
  have q2 : nI (n + 1) - 1 = nI n := by rw [show (1 : Int32) = nI 1 from rfl, nI_sb (by omega)]; rfl
  refine ⟨uI (uI ρ 35 8 (nI (A ||| 2 ^ n))) 35 0 (nI (n + 1)), ?_, Mdl_uI (Mdl_uI hM (by omega)) (by omega), ?_⟩
  · refine rD_un.trans ?_
    have a36 : ∀ k : Nat, k ≠ 35 → ∀ x : Int32, ∀ s : pm_H, pI (uI s k n x) 35 0 = pI s 35 0 := fun k hk x s => by rw [pI_uI_ne _ _ _ (Ne.symm hk)]
    simp only [D_X12_person, B_X12_person, ↓rE_eK, ↓rE_eLi, ↓rE_eLj, ↓rE_eLa, ↓rE_eU, ↓rE_eB, ↓rE_eG, ↓rE_eIF, ↓rE_eAI, ↓rE_eAX, ↓rE_eAJ, ↓rE_eAR, ↓rE_eLen, ↓rE_eSI, ↓rE_eC, ↓rE_eCall, ↓rE_eNew, ↓rE_eNewA, ↓rE_eInst, ↓rC_cI, ↓rC_cZ0, ↓rC_cN, ↓rC_cNot, ↓rC_cAnd, ↓rC_cOr, ↓rA_aN, ↓rA_aC, ↓rS_sP, ↓rS_sUF, ↓rS_sAI, ↓rS_sAJ, ↓rS_sAR, ↓rS_sUA, ↓rS_sCall, ↓rS_sObj, ↓rS_sSi, ↓rS_sSa, ↓rS_sSj, ↓rS_sInc, ↓rS_sSkip, ↓rS_sSeq, ↓rS_sIf, ↓rS_sRetI, ↓rS_sRetJ, ↓rS_sRetA, ↓rS_sRetV, ↓rS_sSw, ↓rD_meth, ↓rD_on, ↓kR_ref, ↓kI_int, ↓kJ_long, ↓kN_null, ↓kN_ref, ↓kN_rf, ↓kQ_ref, ↓kQ_null, ↓kQ_rf, o1_i, o1ij_i, o1ji_i, o2_i, o2d_i, o2j_i, o2ji_i, o2c_i, fv_0, fv_1, fv_2, fv_3, pf_0, pf_2, pf_3, pf_4, rf_s, rf_n, is_self, ge_0, ge_s, ge_n, gd_s, gd_n, se_0, se_s, ag_0, ex_n, ex_i, ex_r, ex_0, ex_j, ex_q, ap_c, ap_n, List.append_nil, ln_c, ln_n, rp_0, rp_s, rt_0, rt_1, rt_20, rt_21, rt_2, rt_3, rt_4, rt_4n, rt_4q, nl_0, nl_1, nl_2, nl_3, nl_4, nl_5, nl_6, nl_7, nl_8, nl_9, nlB_i, nlB_r, nlB_n, nlB_f, nlB_q, ↓reduceIte, reduceCtorEq, Nat.reduceAdd, Nat.reduceSub, Nat.reduceEqDiff, Nat.reduceLeDiff, Nat.reduceBEq, ite_true, ite_false, dt_t, Bool.not_true, Bool.not_false, Bool.false_eq_true, Nat.le_refl, true_and, and_true, true_or, or_true, false_or, or_false, false_and, and_false, qEq, qNe, qLt, qGe, qGt, qLe, sT_35 hS, sT_36 hS, sT_37 hS, sT_38 hS, sT_39 hS, sT_40 hS, sT_41 hS, sT_42 hS, sT_43 hS, sT_44 hS, sT_45 hS, sT_46 hS, sT_47 hS, sT_48 hS, sT_49 hS, sT_50 hS, sT_51 hS, sT_52 hS, sT_53 hS, sT_54 hS, sT_55 hS, sT_56 hS, sT_57 hS, sT_58 hS, sT_59 hS, sT_60 hS, sT_61 hS, sT_62 hS, sT_63 hS, sT_64 hS, sT_65 hS, sL_36 hS, sL_37 hS, sL_38 hS, sL_39 hS, sL_40 hS, sL_41 hS, sL_42 hS, sL_43 hS, sL_44 hS, sL_45 hS, sL_46 hS, sL_47 hS, sL_48 hS, sL_49 hS, sL_50 hS, sL_51 hS, sL_52 hS, sL_53 hS, sL_54 hS, sL_55 hS, sL_56 hS, sL_57 hS, sL_58 hS, sL_59 hS, sL_60 hS, sL_61 hS, sL_62 hS, sL_63 hS, sL_64 hS, sL_65 hS, sR_35_1 hS, sR_35_2 hS, sR_35_3 hS, sR_35_4 hS, sR_35_5 hS, sR_35_6 hS, sR_35_7 hS, sR_35_11 hS, sR_35_21 hS, sR_35_22 hS, sR_35_23 hS, sR_35_24 hS, sR_35_25 hS, sR_35_26 hS, sR_35_27 hS, sR_35_28 hS, sR_35_29 hS, sR_35_30 hS, sR_35_31 hS, sR_35_32 hS, sR_35_35 hS, sR_35_37 hS, sR_35_38 hS, sR_35_39 hS, sR_35_40 hS, sR_35_41 hS, sR_35_42 hS, sR_35_46 hS, sR_35_50 hS, sR_35_52 hS, rD_of (d_in _ _ _ _), b32_ne, nt_t, hin1, hin2, not_true, hn, ne8, hib, hcl, pT_uI, pL_uI, pR_uI, a36 36 (by decide), a36 37 (by decide), a36 38 (by decide), a36 39 (by decide), a36 40 (by decide), a36 41 (by decide), ← eτ, rS_inl l1, sT_35 hsρ, sT_36 hsρ, sT_37 hsρ, sT_38 hsρ, sT_39 hsρ, sT_40 hsρ, sT_41 hsρ, sT_42 hsρ, sT_43 hsρ, sT_44 hsρ, sT_45 hsρ, sT_46 hsρ, sT_47 hsρ, sT_48 hsρ, sT_49 hsρ, sT_50 hsρ, sT_51 hsρ, sT_52 hsρ, sT_53 hsρ, sT_54 hsρ, sT_55 hsρ, sT_56 hsρ, sT_57 hsρ, sT_58 hsρ, sT_59 hsρ, sT_60 hsρ, sT_61 hsρ, sT_62 hsρ, sT_63 hsρ, sT_64 hsρ, sT_65 hsρ, sL_36 hsρ, sL_37 hsρ, sL_38 hsρ, sL_39 hsρ, sL_40 hsρ, sL_41 hsρ, sL_42 hsρ, sL_43 hsρ, sL_44 hsρ, sL_45 hsρ, sL_46 hsρ, sL_47 hsρ, sL_48 hsρ, sL_49 hsρ, sL_50 hsρ, sL_51 hsρ, sL_52 hsρ, sL_53 hsρ, sL_54 hsρ, sL_55 hsρ, sL_56 hsρ, sL_57 hsρ, sL_58 hsρ, sL_59 hsρ, sL_60 hsρ, sL_61 hsρ, sL_62 hsρ, sL_63 hsρ, sL_64 hsρ, sL_65 hsρ, sR_35_1 hsρ, sR_35_2 hsρ, sR_35_3 hsρ, sR_35_4 hsρ, sR_35_5 hsρ, sR_35_6 hsρ, sR_35_7 hsρ, sR_35_11 hsρ, sR_35_21 hsρ, sR_35_22 hsρ, sR_35_23 hsρ, sR_35_24 hsρ, sR_35_25 hsρ, sR_35_26 hsρ, sR_35_27 hsρ, sR_35_28 hsρ, sR_35_29 hsρ, sR_35_30 hsρ, sR_35_31 hsρ, sR_35_32 hsρ, sR_35_35 hsρ, sR_35_37 hsρ, sR_35_38 hsρ, sR_35_39 hsρ, sR_35_40 hsρ, sR_35_41 hsρ, sR_35_42 hsρ, sR_35_46 hsρ, sR_35_50 hsρ, sR_35_52 hsρ, r8, r0, nI_shl n8, nI_or, q0, nI_1, q1, q2]
  · rw [cur_0, cur_scal (Or.inl rfl), hcu]; rfl
theorem jn_Gr {σ : pm_H} {v n kd : Nat} {G : Int32} {vd : Nat → Int32} (h66 : 66 ≤ pN σ) (h : VR σ v vd n) : Gr σ (jn σ v n kd G) := by
  obtain ⟨a1, a2, a3⟩ := VR_66 h
  refine Gr_uI (Gr_uR (mk_Gr Gr_rfl h66 _ _ _) (by omega) (fun q => ?_)) (fun q => ?_) (fun q => ?_)
  · rw [VR_PT h] at q; exact absurd q.2.2 (by decide)
  · unfold grc at q; omega
  · rw [VR_T h] at q; exact absurd q.2.2 (by decide)
theorem or_pow_lt {A n : Nat} (hA : A < 2 ^ n) : A ||| 2 ^ n < 2 ^ (n + 1) := or_lt (Nat.lt_of_lt_of_le hA (Nat.pow_le_pow_right (by decide) (by omega))) (Nat.pow_lt_pow_right (by decide) (by omega))
theorem step_person (Rk : (Nat → Nat → Int32) → Prop) (k g : Int32) {σ : pm_H} {n : Nat} (h : Rel Rk σ n) : Step Rk D_X11_person D_X12_person [.int k, .int g] σ := by
  have hs := Rel_Sh h
  have h66 := hs.2.2.2
  have hv := Rel_VR h
  have hn := Rel_n h
  have h8 := Rel_8 h
  have hr := Rel_nr h
  obtain ⟨A, hA, eA, hA0⟩ := VR_A hv
  by_cases hk : ib k 6 = true
  · obtain ⟨kd, hkd, e1, e2⟩ := ib_ex hk
    subst e1
    have hk1 : 0 ≤ nI kd ∧ nI kd < 6 := by rw [lt6x]; exact hk
    have hk2 : 0 ≤ nI kd ∧ nI kd ≤ 5 := by rw [le5]; exact hk
    have k1 : ¬ nI kd < 0 := nI_nn (by omega)
    have k2 : ¬ 6 ≤ nI kd := by rw [Int32.not_le]; exact hk1.2
    by_cases hg : 1 ≤ g ∧ g ≤ 90
    · have g1 : ¬ g < 1 := by rw [Int32.not_lt]; exact hg.1
      have g2 : ¬ 90 < g := by rw [Int32.not_lt]; exact hg.2
      obtain ⟨y, y1, y2, rfl⟩ : ∃ y, 1 ≤ y ∧ y ≤ 90 ∧ g = nI y := by
        have q1 := hg.1
        have q2 := hg.2
        rw [i_le, show (1 : Int32).toInt = 1 by decide] at q1
        rw [i_le, show (90 : Int32).toInt = 90 by decide] at q2
        exact ⟨g.toInt.toNat, by omega, by omega, by rw [i_eq, nI_toInt (by omega)]; omega⟩
      by_cases n8 : n < 8
      · have hge : ¬ 8 ≤ nI n := by have := nI_le' (a := 8) (b := n) (by decide) (by omega); rw [show (8 : Int32) = nI 8 from rfl, this]; omega
        have hor := or_pow_lt hA
        have hA8 := Nat.lt_of_lt_of_le hA (p2n h8)
        have hor8 := Nat.lt_of_lt_of_le hor (p2n (show n + 1 ≤ 8 by omega))
        have w1 : pnV (cur σ) n kd A (nI y) 1 = nI (A ||| 2 ^ n) := by unfold pnV; rw [upd_ne _ _ (by decide), upd_at]
        have hB : ∀ j, 1 < j → j < 52 → (j ≠ 4 + n ∧ j ≠ 12 + n ∧ j ≠ 20 + n ∧ j ≠ 28 + n ∧ j ≠ 36 + n ∧ j ≠ 44 + n) → pnV (cur σ) n kd A (nI y) j = cur σ j := fun j q1 q2 q3 => by rw [pnV_j _ q1 q2, pnB_old _ q3]
        have wk : pnV (cur σ) n kd A (nI y) (4 + n) = nI kd := by rw [pnV_j _ (by omega) (by omega)]; unfold pnB; rw [upd_ne _ _ (by omega), upd_ne _ _ (by omega), upd_ne _ _ (by omega), upd_ne _ _ (by omega), upd_ne _ _ (by omega), upd_at]
        have wg : pnV (cur σ) n kd A (nI y) (12 + n) = nI y := by rw [pnV_j _ (by omega) (by omega)]; unfold pnB; rw [upd_ne _ _ (by omega), upd_ne _ _ (by omega), upd_ne _ _ (by omega), upd_ne _ _ (by omega), upd_at]
        have wv : pnV (cur σ) n kd A (nI y) (20 + n) = 100 := by rw [pnV_j _ (by omega) (by omega)]; unfold pnB; rw [upd_ne _ _ (by omega), upd_ne _ _ (by omega), upd_ne _ _ (by omega), upd_at]
        have wp : pnV (cur σ) n kd A (nI y) (28 + n) = 0 := by rw [pnV_j _ (by omega) (by omega)]; unfold pnB; rw [upd_ne _ _ (by omega), upd_ne _ _ (by omega), upd_at]
        have wl : pnV (cur σ) n kd A (nI y) (36 + n) = 0 := by rw [pnV_j _ (by omega) (by omega)]; unfold pnB; rw [upd_ne _ _ (by omega), upd_at]
        have ws : pnV (cur σ) n kd A (nI y) (44 + n) = 0 := by rw [pnV_j _ (by omega) (by omega)]; unfold pnB; rw [upd_at]
        have ok : vOk (pnV (cur σ) n kd A (nI y)) (n + 1) := by
          refine ⟨by omega, by unfold pnV; rw [upd_at], ⟨A ||| 2 ^ n, hor, w1, fun _ => ?_⟩, fun i hi => ?_⟩
          · exact Nat.lt_of_lt_of_le (Nat.pow_pos (by decide)) Nat.right_le_or
          · by_cases c : i = n
            · subst c
              rw [wg, wv]
              exact ⟨⟨y, y1, y2, rfl⟩, 100, by decide, rfl⟩
            · rw [hB (12 + i) (by omega) (by omega) (by omega), hB (20 + i) (by omega) (by omega) (by omega)]
              exact hv.1.2.2.2 i (by omega)
        have hjn := VR_join (kd := kd) (G := nI y) hv h66 n8 hkd ok (hB 2 (by decide) (by decide) (by omega)) (hB 3 (by decide) (by decide) (by omega)) (fun f i hf hi => hB _ (by omega) (by omega) (by omega)) (fun i hi => by rw [w1, eA, bt_nI hor8 (by omega), bt_nI hA8 (by omega), Nat.testBit_or, pw_bit]; simp [show ¬ n = i by omega]) wk wg wv wp wl ws (by rw [w1, bt_nI hor8 n8, Nat.testBit_or, pw_bit]; simp) (fun a b ha hb hab => by
          unfold pnV
          rw [upd_ne _ _ (by omega), upd_ne _ _ (by omega), pzV_ow _ n8 (by omega) (by omega) 8 (Nat.le_refl _)]
          by_cases c : a < n ∧ b < n
          · rw [if_pos c, if_neg (by omega), pnB_old _ (by omega)]
          · rw [if_neg c, if_pos (by omega)])
        obtain ⟨j1, j2, j3, j4, j5⟩ := hjn
        have hgr := jn_Gr (kd := kd) (G := nI y) h66 hv
        have hap := VR_apart hv
        have hlt := hv.2.2.2.2.2.2.2.2.2
        obtain ⟨a1, a2, a3⟩ := VR_66 hv
        have hI1 : ∀ a, a ≠ nowA σ → a ≠ pN σ → pI (jn σ (nowA σ) n kd (nI y)) a = pI σ a := fun a q1 q2 => by
          show pI (uI (uR (mkp σ kd (nI n) (nI y)) (vP σ (nowA σ)) n (some (pN σ))) (nowA σ) 2 (nI (n + 1))) a = _
          rw [pI_uI_ne _ _ _ q1]
          exact mk_I _ _ _ _ q2
        have hR1 : ∀ a, a ≠ vP σ (nowA σ) → a ≠ pN σ → pR (jn σ (nowA σ) n kd (nI y)) a = pR σ a := fun a q1 q2 => by
          show pR (uR (mkp σ kd (nI n) (nI y)) (vP σ (nowA σ)) n (some (pN σ))) a = _
          rw [pR_uR_ne _ _ _ q1, mk_R _ _ _ _ q2]
        have hcj : cur (jn σ (nowA σ) n kd (nI y)) = cur σ := cur_fr (by rw [hI1 35 (by omega) (by omega)]) (by rw [hI1 35 (by omega) (by omega)]) (by rw [hI1 35 (by omega) (by omega)]) (by rw [hI1 35 (by omega) (by omega)]) (fun a q1 q2 => hI1 a (by omega) (by omega))
        have hsj := Gr_Sh hgr hs
        obtain ⟨σ2, m1, m2, m3⟩ := d_person_m (σ := jn σ (nowA σ) n kd (nI y)) hsj (n := n) (kd := kd) (A := A) (g := y) (by rw [hI1 35 (by omega) (by omega)]; exact hn) n8 hkd ⟨y1, y2⟩ (by rw [hcj]; exact eA)
        rw [hcj] at m3
        refine ⟨nI n, jn σ (nowA σ) n kd (nI y), σ2, n + 1, ?_, m1, Rel_cg h hgr (fun a q1 q2 q3 q4 => hI1 a (by omega) (by omega)) (fun a q1 q2 q3 => ⟨hI1 a (fun q => q3 (Or.inl q)) (by omega), hR1 a (fun q => q3 (Or.inr (Or.inl q))) (by omega)⟩) (fun k => by rw [hR1 11 (by omega) (by omega)]) ⟨j2, j3, fun i hi => ?_⟩ j1 m2 m3, ?_, ?_⟩
        · refine rD_un.trans ?_
          have hvs := VR_s hv
          have y3 : pR (mkp σ kd (nI n) (nI y)) 11 0 = some (nowA σ) := by rw [mk_R _ _ _ _ (by omega)]; exact hr
          have y3j : pR (jn σ (nowA σ) n kd (nI y)) 11 0 = some (nowA σ) := by rw [hR1 11 (by omega) (by omega)]; exact hr
          have yT : pT (mkp σ kd (nI n) (nI y)) (nowA σ) = 10 := by rw [mk_T, if_neg (by omega)]; exact VR_T hv
          have q2 : nI (n + 1) - 1 = nI n := by rw [show (1 : Int32) = nI 1 from rfl, nI_sb (by omega)]; rfl
          simp only [D_X11_person, B_X11_person, ↓rE_eK, ↓rE_eLi, ↓rE_eLj, ↓rE_eLa, ↓rE_eU, ↓rE_eB, ↓rE_eG, ↓rE_eIF, ↓rE_eAI, ↓rE_eAX, ↓rE_eAJ, ↓rE_eAR, ↓rE_eLen, ↓rE_eSI, ↓rE_eC, ↓rE_eCall, ↓rE_eNew, ↓rE_eNewA, ↓rE_eInst, ↓rC_cI, ↓rC_cZ0, ↓rC_cN, ↓rC_cNot, ↓rC_cAnd, ↓rC_cOr, ↓rA_aN, ↓rA_aC, ↓rS_sP, ↓rS_sUF, ↓rS_sAI, ↓rS_sAJ, ↓rS_sAR, ↓rS_sUA, ↓rS_sCall, ↓rS_sObj, ↓rS_sSi, ↓rS_sSa, ↓rS_sSj, ↓rS_sInc, ↓rS_sSkip, ↓rS_sSeq, ↓rS_sIf, ↓rS_sRetI, ↓rS_sRetJ, ↓rS_sRetA, ↓rS_sRetV, ↓rS_sSw, ↓rD_meth, ↓rD_on, ↓kR_ref, ↓kI_int, ↓kJ_long, ↓kN_null, ↓kN_ref, ↓kN_rf, ↓kQ_ref, ↓kQ_null, ↓kQ_rf, o1_i, o1ij_i, o1ji_i, o2_i, o2d_i, o2j_i, o2ji_i, o2c_i, fv_0, fv_1, fv_2, fv_3, pf_0, pf_2, pf_3, pf_4, rf_s, rf_n, is_self, ge_0, ge_s, ge_n, gd_s, gd_n, se_0, se_s, ag_0, ex_n, ex_i, ex_r, ex_0, ex_j, ex_q, ap_c, ap_n, List.append_nil, ln_c, ln_n, rp_0, rp_s, rt_0, rt_1, rt_20, rt_21, rt_2, rt_3, rt_4, rt_4n, rt_4q, nl_0, nl_1, nl_2, nl_3, nl_4, nl_5, nl_6, nl_7, nl_8, nl_9, nlB_i, nlB_r, nlB_n, nlB_f, nlB_q, ↓reduceIte, reduceCtorEq, Nat.reduceAdd, Nat.reduceSub, Nat.reduceEqDiff, Nat.reduceLeDiff, Nat.reduceBEq, ite_true, ite_false, dt_t, Bool.not_true, Bool.not_false, Bool.false_eq_true, Nat.le_refl, true_and, and_true, true_or, or_true, false_or, or_false, false_and, and_false, qEq, qNe, qLt, qGe, qGt, qLe, sT_11 hs, sT_12 hs, sT_13 hs, sT_14 hs, sT_15 hs, sT_16 hs, sT_17 hs, sT_18 hs, sT_19 hs, sT_20 hs, sT_21 hs, sT_22 hs, sT_23 hs, sT_24 hs, sT_25 hs, sT_26 hs, sT_27 hs, sT_28 hs, sT_29 hs, sT_30 hs, sT_31 hs, sT_32 hs, sT_33 hs, sT_34 hs, sL_13 hs, sL_14 hs, sL_16 hs, sL_17 hs, sL_18 hs, sL_19 hs, sL_20 hs, sL_21 hs, sL_22 hs, sL_23 hs, sL_24 hs, sL_25 hs, sL_26 hs, sL_28 hs, sL_30 hs, sL_31 hs, sL_32 hs, sL_33 hs, sL_34 hs, sR_11_2 hs, sR_11_3 hs, sR_11_4 hs, sR_11_5 hs, sR_11_7 hs, sR_11_8 hs, sR_11_9 hs, sR_27_0 hs, sR_29_0 hs, sR_15_0 hs, sR_15_3 hs, sR_15_5 hs, sR_15_6 hs, sR_15_7 hs, sR_15_8 hs, sR_15_9 hs, sR_15_10 hs, sR_15_11 hs, sR_15_12 hs, sR_15_13 hs, hr, k1, k2, g1, g2, VR_T hv, hvs, hge, rD_of (d_made hkd _ _), rD_tb1 yT, rD_of (d_join hv n8 hkd), sT_11 hsj, sT_12 hsj, sT_13 hsj, sT_14 hsj, sT_15 hsj, sT_16 hsj, sT_17 hsj, sT_18 hsj, sT_19 hsj, sT_20 hsj, sT_21 hsj, sT_22 hsj, sT_23 hsj, sT_24 hsj, sT_25 hsj, sT_26 hsj, sT_27 hsj, sT_28 hsj, sT_29 hsj, sT_30 hsj, sT_31 hsj, sT_32 hsj, sT_33 hsj, sT_34 hsj, sL_13 hsj, sL_14 hsj, sL_16 hsj, sL_17 hsj, sL_18 hsj, sL_19 hsj, sL_20 hsj, sL_21 hsj, sL_22 hsj, sL_23 hsj, sL_24 hsj, sL_25 hsj, sL_26 hsj, sL_28 hsj, sL_30 hsj, sL_31 hsj, sL_32 hsj, sL_33 hsj, sL_34 hsj, sR_11_2 hsj, sR_11_3 hsj, sR_11_4 hsj, sR_11_5 hsj, sR_11_7 hsj, sR_11_8 hsj, sR_11_9 hsj, sR_27_0 hsj, sR_29_0 hsj, sR_15_0 hsj, sR_15_3 hsj, sR_15_5 hsj, sR_15_6 hsj, sR_15_7 hsj, sR_15_8 hsj, sR_15_9 hsj, sR_15_10 hsj, sR_15_11 hsj, sR_15_12 hsj, sR_15_13 hsj, y3j, VR_T j1, VR_s j1, q2]
        · by_cases c : i = n
          · subst c; right; rw [j5]; exact Nat.le_refl _
          · left; exact ⟨by omega, j4 i (by omega)⟩
        · rw [m2.2.2.2.1]; show pN σ + 1 ≤ _; omega
        · rw [m2.2.2.2.2.1]; show pS σ + 7 ≤ _; omega
      · have e8 : n = 8 := by omega
        subst e8
        have hge : (8 : Int32) ≤ nI 8 := by decide
        have heq : (nI 8 = 8) = True := eq_true rfl
        refine ⟨-2, σ, σ, 8, ?_, ?_, h, by omega, by omega⟩
        · refine rD_un.trans ?_
          simp only [D_X11_person, B_X11_person, ↓rE_eK, ↓rE_eLi, ↓rE_eLj, ↓rE_eLa, ↓rE_eU, ↓rE_eB, ↓rE_eG, ↓rE_eIF, ↓rE_eAI, ↓rE_eAX, ↓rE_eAJ, ↓rE_eAR, ↓rE_eLen, ↓rE_eSI, ↓rE_eC, ↓rE_eCall, ↓rE_eNew, ↓rE_eNewA, ↓rE_eInst, ↓rC_cI, ↓rC_cZ0, ↓rC_cN, ↓rC_cNot, ↓rC_cAnd, ↓rC_cOr, ↓rA_aN, ↓rA_aC, ↓rS_sP, ↓rS_sUF, ↓rS_sAI, ↓rS_sAJ, ↓rS_sAR, ↓rS_sUA, ↓rS_sCall, ↓rS_sObj, ↓rS_sSi, ↓rS_sSa, ↓rS_sSj, ↓rS_sInc, ↓rS_sSkip, ↓rS_sSeq, ↓rS_sIf, ↓rS_sRetI, ↓rS_sRetJ, ↓rS_sRetA, ↓rS_sRetV, ↓rS_sSw, ↓rD_meth, ↓rD_on, ↓kR_ref, ↓kI_int, ↓kJ_long, ↓kN_null, ↓kN_ref, ↓kN_rf, ↓kQ_ref, ↓kQ_null, ↓kQ_rf, o1_i, o1ij_i, o1ji_i, o2_i, o2d_i, o2j_i, o2ji_i, o2c_i, fv_0, fv_1, fv_2, fv_3, pf_0, pf_2, pf_3, pf_4, rf_s, rf_n, is_self, ge_0, ge_s, ge_n, gd_s, gd_n, se_0, se_s, ag_0, ex_n, ex_i, ex_r, ex_0, ex_j, ex_q, ap_c, ap_n, List.append_nil, ln_c, ln_n, rp_0, rp_s, rt_0, rt_1, rt_20, rt_21, rt_2, rt_3, rt_4, rt_4n, rt_4q, nl_0, nl_1, nl_2, nl_3, nl_4, nl_5, nl_6, nl_7, nl_8, nl_9, nlB_i, nlB_r, nlB_n, nlB_f, nlB_q, ↓reduceIte, reduceCtorEq, Nat.reduceAdd, Nat.reduceSub, Nat.reduceEqDiff, Nat.reduceLeDiff, Nat.reduceBEq, ite_true, ite_false, dt_t, Bool.not_true, Bool.not_false, Bool.false_eq_true, Nat.le_refl, true_and, and_true, true_or, or_true, false_or, or_false, false_and, and_false, qEq, qNe, qLt, qGe, qGt, qLe, sT_11 hs, sT_12 hs, sT_13 hs, sT_14 hs, sT_15 hs, sT_16 hs, sT_17 hs, sT_18 hs, sT_19 hs, sT_20 hs, sT_21 hs, sT_22 hs, sT_23 hs, sT_24 hs, sT_25 hs, sT_26 hs, sT_27 hs, sT_28 hs, sT_29 hs, sT_30 hs, sT_31 hs, sT_32 hs, sT_33 hs, sT_34 hs, sL_13 hs, sL_14 hs, sL_16 hs, sL_17 hs, sL_18 hs, sL_19 hs, sL_20 hs, sL_21 hs, sL_22 hs, sL_23 hs, sL_24 hs, sL_25 hs, sL_26 hs, sL_28 hs, sL_30 hs, sL_31 hs, sL_32 hs, sL_33 hs, sL_34 hs, sR_11_2 hs, sR_11_3 hs, sR_11_4 hs, sR_11_5 hs, sR_11_7 hs, sR_11_8 hs, sR_11_9 hs, sR_27_0 hs, sR_29_0 hs, sR_15_0 hs, sR_15_3 hs, sR_15_5 hs, sR_15_6 hs, sR_15_7 hs, sR_15_8 hs, sR_15_9 hs, sR_15_10 hs, sR_15_11 hs, sR_15_12 hs, sR_15_13 hs, hr, k1, k2, g1, g2, VR_T hv, VR_s hv, hge]
        · refine rD_un.trans ?_
          simp only [D_X12_person, B_X12_person, ↓rE_eK, ↓rE_eLi, ↓rE_eLj, ↓rE_eLa, ↓rE_eU, ↓rE_eB, ↓rE_eG, ↓rE_eIF, ↓rE_eAI, ↓rE_eAX, ↓rE_eAJ, ↓rE_eAR, ↓rE_eLen, ↓rE_eSI, ↓rE_eC, ↓rE_eCall, ↓rE_eNew, ↓rE_eNewA, ↓rE_eInst, ↓rC_cI, ↓rC_cZ0, ↓rC_cN, ↓rC_cNot, ↓rC_cAnd, ↓rC_cOr, ↓rA_aN, ↓rA_aC, ↓rS_sP, ↓rS_sUF, ↓rS_sAI, ↓rS_sAJ, ↓rS_sAR, ↓rS_sUA, ↓rS_sCall, ↓rS_sObj, ↓rS_sSi, ↓rS_sSa, ↓rS_sSj, ↓rS_sInc, ↓rS_sSkip, ↓rS_sSeq, ↓rS_sIf, ↓rS_sRetI, ↓rS_sRetJ, ↓rS_sRetA, ↓rS_sRetV, ↓rS_sSw, ↓rD_meth, ↓rD_on, ↓kR_ref, ↓kI_int, ↓kJ_long, ↓kN_null, ↓kN_ref, ↓kN_rf, ↓kQ_ref, ↓kQ_null, ↓kQ_rf, o1_i, o1ij_i, o1ji_i, o2_i, o2d_i, o2j_i, o2ji_i, o2c_i, fv_0, fv_1, fv_2, fv_3, pf_0, pf_2, pf_3, pf_4, rf_s, rf_n, is_self, ge_0, ge_s, ge_n, gd_s, gd_n, se_0, se_s, ag_0, ex_n, ex_i, ex_r, ex_0, ex_j, ex_q, ap_c, ap_n, List.append_nil, ln_c, ln_n, rp_0, rp_s, rt_0, rt_1, rt_20, rt_21, rt_2, rt_3, rt_4, rt_4n, rt_4q, nl_0, nl_1, nl_2, nl_3, nl_4, nl_5, nl_6, nl_7, nl_8, nl_9, nlB_i, nlB_r, nlB_n, nlB_f, nlB_q, ↓reduceIte, reduceCtorEq, Nat.reduceAdd, Nat.reduceSub, Nat.reduceEqDiff, Nat.reduceLeDiff, Nat.reduceBEq, ite_true, ite_false, dt_t, Bool.not_true, Bool.not_false, Bool.false_eq_true, Nat.le_refl, true_and, and_true, true_or, or_true, false_or, or_false, false_and, and_false, qEq, qNe, qLt, qGe, qGt, qLe, sT_35 hs, sT_36 hs, sT_37 hs, sT_38 hs, sT_39 hs, sT_40 hs, sT_41 hs, sT_42 hs, sT_43 hs, sT_44 hs, sT_45 hs, sT_46 hs, sT_47 hs, sT_48 hs, sT_49 hs, sT_50 hs, sT_51 hs, sT_52 hs, sT_53 hs, sT_54 hs, sT_55 hs, sT_56 hs, sT_57 hs, sT_58 hs, sT_59 hs, sT_60 hs, sT_61 hs, sT_62 hs, sT_63 hs, sT_64 hs, sT_65 hs, sL_36 hs, sL_37 hs, sL_38 hs, sL_39 hs, sL_40 hs, sL_41 hs, sL_42 hs, sL_43 hs, sL_44 hs, sL_45 hs, sL_46 hs, sL_47 hs, sL_48 hs, sL_49 hs, sL_50 hs, sL_51 hs, sL_52 hs, sL_53 hs, sL_54 hs, sL_55 hs, sL_56 hs, sL_57 hs, sL_58 hs, sL_59 hs, sL_60 hs, sL_61 hs, sL_62 hs, sL_63 hs, sL_64 hs, sL_65 hs, sR_35_1 hs, sR_35_2 hs, sR_35_3 hs, sR_35_4 hs, sR_35_5 hs, sR_35_6 hs, sR_35_7 hs, sR_35_11 hs, sR_35_21 hs, sR_35_22 hs, sR_35_23 hs, sR_35_24 hs, sR_35_25 hs, sR_35_26 hs, sR_35_27 hs, sR_35_28 hs, sR_35_29 hs, sR_35_30 hs, sR_35_31 hs, sR_35_32 hs, sR_35_35 hs, sR_35_37 hs, sR_35_38 hs, sR_35_39 hs, sR_35_40 hs, sR_35_41 hs, sR_35_42 hs, sR_35_46 hs, sR_35_50 hs, sR_35_52 hs, rD_of (d_in _ _ _ _), b32_ne, nt_t, hk2, hg, not_true, hn, heq]
    · refine ⟨-1, σ, σ, n, ?_, ?_, h, by omega, by omega⟩
      · refine rD_un.trans ?_
        by_cases g1 : g < 1
        · simp only [D_X11_person, B_X11_person, ↓rE_eK, ↓rE_eLi, ↓rE_eLj, ↓rE_eLa, ↓rE_eU, ↓rE_eB, ↓rE_eG, ↓rE_eIF, ↓rE_eAI, ↓rE_eAX, ↓rE_eAJ, ↓rE_eAR, ↓rE_eLen, ↓rE_eSI, ↓rE_eC, ↓rE_eCall, ↓rE_eNew, ↓rE_eNewA, ↓rE_eInst, ↓rC_cI, ↓rC_cZ0, ↓rC_cN, ↓rC_cNot, ↓rC_cAnd, ↓rC_cOr, ↓rA_aN, ↓rA_aC, ↓rS_sP, ↓rS_sUF, ↓rS_sAI, ↓rS_sAJ, ↓rS_sAR, ↓rS_sUA, ↓rS_sCall, ↓rS_sObj, ↓rS_sSi, ↓rS_sSa, ↓rS_sSj, ↓rS_sInc, ↓rS_sSkip, ↓rS_sSeq, ↓rS_sIf, ↓rS_sRetI, ↓rS_sRetJ, ↓rS_sRetA, ↓rS_sRetV, ↓rS_sSw, ↓rD_meth, ↓rD_on, ↓kR_ref, ↓kI_int, ↓kJ_long, ↓kN_null, ↓kN_ref, ↓kN_rf, ↓kQ_ref, ↓kQ_null, ↓kQ_rf, o1_i, o1ij_i, o1ji_i, o2_i, o2d_i, o2j_i, o2ji_i, o2c_i, fv_0, fv_1, fv_2, fv_3, pf_0, pf_2, pf_3, pf_4, rf_s, rf_n, is_self, ge_0, ge_s, ge_n, gd_s, gd_n, se_0, se_s, ag_0, ex_n, ex_i, ex_r, ex_0, ex_j, ex_q, ap_c, ap_n, List.append_nil, ln_c, ln_n, rp_0, rp_s, rt_0, rt_1, rt_20, rt_21, rt_2, rt_3, rt_4, rt_4n, rt_4q, nl_0, nl_1, nl_2, nl_3, nl_4, nl_5, nl_6, nl_7, nl_8, nl_9, nlB_i, nlB_r, nlB_n, nlB_f, nlB_q, ↓reduceIte, reduceCtorEq, Nat.reduceAdd, Nat.reduceSub, Nat.reduceEqDiff, Nat.reduceLeDiff, Nat.reduceBEq, ite_true, ite_false, dt_t, Bool.not_true, Bool.not_false, Bool.false_eq_true, Nat.le_refl, true_and, and_true, true_or, or_true, false_or, or_false, false_and, and_false, qEq, qNe, qLt, qGe, qGt, qLe, k1, k2, g1]
        · have g2 : 90 < g := by
            rw [← Int32.not_le]
            rw [Int32.not_lt] at g1
            exact fun q => hg ⟨g1, q⟩
          simp only [D_X11_person, B_X11_person, ↓rE_eK, ↓rE_eLi, ↓rE_eLj, ↓rE_eLa, ↓rE_eU, ↓rE_eB, ↓rE_eG, ↓rE_eIF, ↓rE_eAI, ↓rE_eAX, ↓rE_eAJ, ↓rE_eAR, ↓rE_eLen, ↓rE_eSI, ↓rE_eC, ↓rE_eCall, ↓rE_eNew, ↓rE_eNewA, ↓rE_eInst, ↓rC_cI, ↓rC_cZ0, ↓rC_cN, ↓rC_cNot, ↓rC_cAnd, ↓rC_cOr, ↓rA_aN, ↓rA_aC, ↓rS_sP, ↓rS_sUF, ↓rS_sAI, ↓rS_sAJ, ↓rS_sAR, ↓rS_sUA, ↓rS_sCall, ↓rS_sObj, ↓rS_sSi, ↓rS_sSa, ↓rS_sSj, ↓rS_sInc, ↓rS_sSkip, ↓rS_sSeq, ↓rS_sIf, ↓rS_sRetI, ↓rS_sRetJ, ↓rS_sRetA, ↓rS_sRetV, ↓rS_sSw, ↓rD_meth, ↓rD_on, ↓kR_ref, ↓kI_int, ↓kJ_long, ↓kN_null, ↓kN_ref, ↓kN_rf, ↓kQ_ref, ↓kQ_null, ↓kQ_rf, o1_i, o1ij_i, o1ji_i, o2_i, o2d_i, o2j_i, o2ji_i, o2c_i, fv_0, fv_1, fv_2, fv_3, pf_0, pf_2, pf_3, pf_4, rf_s, rf_n, is_self, ge_0, ge_s, ge_n, gd_s, gd_n, se_0, se_s, ag_0, ex_n, ex_i, ex_r, ex_0, ex_j, ex_q, ap_c, ap_n, List.append_nil, ln_c, ln_n, rp_0, rp_s, rt_0, rt_1, rt_20, rt_21, rt_2, rt_3, rt_4, rt_4n, rt_4q, nl_0, nl_1, nl_2, nl_3, nl_4, nl_5, nl_6, nl_7, nl_8, nl_9, nlB_i, nlB_r, nlB_n, nlB_f, nlB_q, ↓reduceIte, reduceCtorEq, Nat.reduceAdd, Nat.reduceSub, Nat.reduceEqDiff, Nat.reduceLeDiff, Nat.reduceBEq, ite_true, ite_false, dt_t, Bool.not_true, Bool.not_false, Bool.false_eq_true, Nat.le_refl, true_and, and_true, true_or, or_true, false_or, or_false, false_and, and_false, qEq, qNe, qLt, qGe, qGt, qLe, k1, k2, g1, g2]
      · refine rD_un.trans ?_
        simp only [D_X12_person, B_X12_person, ↓rE_eK, ↓rE_eLi, ↓rE_eLj, ↓rE_eLa, ↓rE_eU, ↓rE_eB, ↓rE_eG, ↓rE_eIF, ↓rE_eAI, ↓rE_eAX, ↓rE_eAJ, ↓rE_eAR, ↓rE_eLen, ↓rE_eSI, ↓rE_eC, ↓rE_eCall, ↓rE_eNew, ↓rE_eNewA, ↓rE_eInst, ↓rC_cI, ↓rC_cZ0, ↓rC_cN, ↓rC_cNot, ↓rC_cAnd, ↓rC_cOr, ↓rA_aN, ↓rA_aC, ↓rS_sP, ↓rS_sUF, ↓rS_sAI, ↓rS_sAJ, ↓rS_sAR, ↓rS_sUA, ↓rS_sCall, ↓rS_sObj, ↓rS_sSi, ↓rS_sSa, ↓rS_sSj, ↓rS_sInc, ↓rS_sSkip, ↓rS_sSeq, ↓rS_sIf, ↓rS_sRetI, ↓rS_sRetJ, ↓rS_sRetA, ↓rS_sRetV, ↓rS_sSw, ↓rD_meth, ↓rD_on, ↓kR_ref, ↓kI_int, ↓kJ_long, ↓kN_null, ↓kN_ref, ↓kN_rf, ↓kQ_ref, ↓kQ_null, ↓kQ_rf, o1_i, o1ij_i, o1ji_i, o2_i, o2d_i, o2j_i, o2ji_i, o2c_i, fv_0, fv_1, fv_2, fv_3, pf_0, pf_2, pf_3, pf_4, rf_s, rf_n, is_self, ge_0, ge_s, ge_n, gd_s, gd_n, se_0, se_s, ag_0, ex_n, ex_i, ex_r, ex_0, ex_j, ex_q, ap_c, ap_n, List.append_nil, ln_c, ln_n, rp_0, rp_s, rt_0, rt_1, rt_20, rt_21, rt_2, rt_3, rt_4, rt_4n, rt_4q, nl_0, nl_1, nl_2, nl_3, nl_4, nl_5, nl_6, nl_7, nl_8, nl_9, nlB_i, nlB_r, nlB_n, nlB_f, nlB_q, ↓reduceIte, reduceCtorEq, Nat.reduceAdd, Nat.reduceSub, Nat.reduceEqDiff, Nat.reduceLeDiff, Nat.reduceBEq, ite_true, ite_false, dt_t, Bool.not_true, Bool.not_false, Bool.false_eq_true, Nat.le_refl, true_and, and_true, true_or, or_true, false_or, or_false, false_and, and_false, qEq, qNe, qLt, qGe, qGt, qLe, rD_of (d_in _ _ _ _), b32_ne, nt_t, hk2, hg, not_true, not_false_eq_true]
  · refine ⟨-1, σ, σ, n, ?_, ?_, h, by omega, by omega⟩
    · refine rD_un.trans ?_
      by_cases k1 : k < 0
      · simp only [D_X11_person, B_X11_person, ↓rE_eK, ↓rE_eLi, ↓rE_eLj, ↓rE_eLa, ↓rE_eU, ↓rE_eB, ↓rE_eG, ↓rE_eIF, ↓rE_eAI, ↓rE_eAX, ↓rE_eAJ, ↓rE_eAR, ↓rE_eLen, ↓rE_eSI, ↓rE_eC, ↓rE_eCall, ↓rE_eNew, ↓rE_eNewA, ↓rE_eInst, ↓rC_cI, ↓rC_cZ0, ↓rC_cN, ↓rC_cNot, ↓rC_cAnd, ↓rC_cOr, ↓rA_aN, ↓rA_aC, ↓rS_sP, ↓rS_sUF, ↓rS_sAI, ↓rS_sAJ, ↓rS_sAR, ↓rS_sUA, ↓rS_sCall, ↓rS_sObj, ↓rS_sSi, ↓rS_sSa, ↓rS_sSj, ↓rS_sInc, ↓rS_sSkip, ↓rS_sSeq, ↓rS_sIf, ↓rS_sRetI, ↓rS_sRetJ, ↓rS_sRetA, ↓rS_sRetV, ↓rS_sSw, ↓rD_meth, ↓rD_on, ↓kR_ref, ↓kI_int, ↓kJ_long, ↓kN_null, ↓kN_ref, ↓kN_rf, ↓kQ_ref, ↓kQ_null, ↓kQ_rf, o1_i, o1ij_i, o1ji_i, o2_i, o2d_i, o2j_i, o2ji_i, o2c_i, fv_0, fv_1, fv_2, fv_3, pf_0, pf_2, pf_3, pf_4, rf_s, rf_n, is_self, ge_0, ge_s, ge_n, gd_s, gd_n, se_0, se_s, ag_0, ex_n, ex_i, ex_r, ex_0, ex_j, ex_q, ap_c, ap_n, List.append_nil, ln_c, ln_n, rp_0, rp_s, rt_0, rt_1, rt_20, rt_21, rt_2, rt_3, rt_4, rt_4n, rt_4q, nl_0, nl_1, nl_2, nl_3, nl_4, nl_5, nl_6, nl_7, nl_8, nl_9, nlB_i, nlB_r, nlB_n, nlB_f, nlB_q, ↓reduceIte, reduceCtorEq, Nat.reduceAdd, Nat.reduceSub, Nat.reduceEqDiff, Nat.reduceLeDiff, Nat.reduceBEq, ite_true, ite_false, dt_t, Bool.not_true, Bool.not_false, Bool.false_eq_true, Nat.le_refl, true_and, and_true, true_or, or_true, false_or, or_false, false_and, and_false, qEq, qNe, qLt, qGe, qGt, qLe, k1]
      · have k2 : 6 ≤ k := by
          rw [← Int32.not_lt]
          rw [Int32.not_lt] at k1
          exact fun q => hk (by rw [← lt6x]; exact ⟨k1, q⟩)
        simp only [D_X11_person, B_X11_person, ↓rE_eK, ↓rE_eLi, ↓rE_eLj, ↓rE_eLa, ↓rE_eU, ↓rE_eB, ↓rE_eG, ↓rE_eIF, ↓rE_eAI, ↓rE_eAX, ↓rE_eAJ, ↓rE_eAR, ↓rE_eLen, ↓rE_eSI, ↓rE_eC, ↓rE_eCall, ↓rE_eNew, ↓rE_eNewA, ↓rE_eInst, ↓rC_cI, ↓rC_cZ0, ↓rC_cN, ↓rC_cNot, ↓rC_cAnd, ↓rC_cOr, ↓rA_aN, ↓rA_aC, ↓rS_sP, ↓rS_sUF, ↓rS_sAI, ↓rS_sAJ, ↓rS_sAR, ↓rS_sUA, ↓rS_sCall, ↓rS_sObj, ↓rS_sSi, ↓rS_sSa, ↓rS_sSj, ↓rS_sInc, ↓rS_sSkip, ↓rS_sSeq, ↓rS_sIf, ↓rS_sRetI, ↓rS_sRetJ, ↓rS_sRetA, ↓rS_sRetV, ↓rS_sSw, ↓rD_meth, ↓rD_on, ↓kR_ref, ↓kI_int, ↓kJ_long, ↓kN_null, ↓kN_ref, ↓kN_rf, ↓kQ_ref, ↓kQ_null, ↓kQ_rf, o1_i, o1ij_i, o1ji_i, o2_i, o2d_i, o2j_i, o2ji_i, o2c_i, fv_0, fv_1, fv_2, fv_3, pf_0, pf_2, pf_3, pf_4, rf_s, rf_n, is_self, ge_0, ge_s, ge_n, gd_s, gd_n, se_0, se_s, ag_0, ex_n, ex_i, ex_r, ex_0, ex_j, ex_q, ap_c, ap_n, List.append_nil, ln_c, ln_n, rp_0, rp_s, rt_0, rt_1, rt_20, rt_21, rt_2, rt_3, rt_4, rt_4n, rt_4q, nl_0, nl_1, nl_2, nl_3, nl_4, nl_5, nl_6, nl_7, nl_8, nl_9, nlB_i, nlB_r, nlB_n, nlB_f, nlB_q, ↓reduceIte, reduceCtorEq, Nat.reduceAdd, Nat.reduceSub, Nat.reduceEqDiff, Nat.reduceLeDiff, Nat.reduceBEq, ite_true, ite_false, dt_t, Bool.not_true, Bool.not_false, Bool.false_eq_true, Nat.le_refl, true_and, and_true, true_or, or_true, false_or, or_false, false_and, and_false, qEq, qNe, qLt, qGe, qGt, qLe, k1, k2]
    · refine rD_un.trans ?_
      have hk2 : ¬ (0 ≤ k ∧ k ≤ 5) := by rw [le5]; exact hk
      simp only [D_X12_person, B_X12_person, ↓rE_eK, ↓rE_eLi, ↓rE_eLj, ↓rE_eLa, ↓rE_eU, ↓rE_eB, ↓rE_eG, ↓rE_eIF, ↓rE_eAI, ↓rE_eAX, ↓rE_eAJ, ↓rE_eAR, ↓rE_eLen, ↓rE_eSI, ↓rE_eC, ↓rE_eCall, ↓rE_eNew, ↓rE_eNewA, ↓rE_eInst, ↓rC_cI, ↓rC_cZ0, ↓rC_cN, ↓rC_cNot, ↓rC_cAnd, ↓rC_cOr, ↓rA_aN, ↓rA_aC, ↓rS_sP, ↓rS_sUF, ↓rS_sAI, ↓rS_sAJ, ↓rS_sAR, ↓rS_sUA, ↓rS_sCall, ↓rS_sObj, ↓rS_sSi, ↓rS_sSa, ↓rS_sSj, ↓rS_sInc, ↓rS_sSkip, ↓rS_sSeq, ↓rS_sIf, ↓rS_sRetI, ↓rS_sRetJ, ↓rS_sRetA, ↓rS_sRetV, ↓rS_sSw, ↓rD_meth, ↓rD_on, ↓kR_ref, ↓kI_int, ↓kJ_long, ↓kN_null, ↓kN_ref, ↓kN_rf, ↓kQ_ref, ↓kQ_null, ↓kQ_rf, o1_i, o1ij_i, o1ji_i, o2_i, o2d_i, o2j_i, o2ji_i, o2c_i, fv_0, fv_1, fv_2, fv_3, pf_0, pf_2, pf_3, pf_4, rf_s, rf_n, is_self, ge_0, ge_s, ge_n, gd_s, gd_n, se_0, se_s, ag_0, ex_n, ex_i, ex_r, ex_0, ex_j, ex_q, ap_c, ap_n, List.append_nil, ln_c, ln_n, rp_0, rp_s, rt_0, rt_1, rt_20, rt_21, rt_2, rt_3, rt_4, rt_4n, rt_4q, nl_0, nl_1, nl_2, nl_3, nl_4, nl_5, nl_6, nl_7, nl_8, nl_9, nlB_i, nlB_r, nlB_n, nlB_f, nlB_q, ↓reduceIte, reduceCtorEq, Nat.reduceAdd, Nat.reduceSub, Nat.reduceEqDiff, Nat.reduceLeDiff, Nat.reduceBEq, ite_true, ite_false, dt_t, Bool.not_true, Bool.not_false, Bool.false_eq_true, Nat.le_refl, true_and, and_true, true_or, or_true, false_or, or_false, false_and, and_false, qEq, qNe, qLt, qGe, qGt, qLe, rD_of (d_in _ _ _ _), b32_ne, nt_t, hk2, not_false_eq_true]
