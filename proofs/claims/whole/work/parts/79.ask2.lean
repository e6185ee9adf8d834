/-! The class's question is asked. -/
variable {Q : (Nat → Int32) × Nat}
theorem upd_same {s : pm_H} {a k : Nat} {x : Int32} (h : pI s a k = x) : pI (uI s a k x) a = pI s a := by
  funext j
  rw [pI_uI]
  by_cases c : j = k
  · rw [if_pos ⟨rfl, c⟩, c, h]
  · rw [if_neg (fun q => c q.2)]
theorem nqN_k {vd : Nat → Int32} {n A i : Nat} (hm : mOk vd n) : nqN vd n A i = nI (if i < n ∧ A.testBit i = true then nN vd i else 0) ∧ (if i < n ∧ A.testBit i = true then nN vd i else 0) ≤ 200 ∧ (0 < (if i < n ∧ A.testBit i = true then nN vd i else 0) ↔ i < n ∧ A.testBit i = true) := by
  unfold nqN
  by_cases c : i < n ∧ A.testBit i = true
  · obtain ⟨q1, q2, q3⟩ := nd_m hm c.1
    rw [if_pos c, if_pos c]
    exact ⟨q1, q3, fun _ => c, fun _ => by omega⟩
  · rw [if_neg c, if_neg c]
    exact ⟨by rw [nI_0], by omega, fun q => by omega, fun q => absurd q c⟩
theorem Nq_nI {f : Nat → Int32} {i k : Nat} (h : f i = nI k) (hk : k < 2147483648) : Nq f i = k := by
  unfold Nq
  rw [h, nI_toInt (by omega)]; omega
set_option maxRecDepth 20000 in
theorem d_ask {σ : pm_H} {n : Nat} (h : Rel (RkT Q) σ n) {A E : Nat} (hA : A < 2 ^ n) (eA : cur σ 1 = nI A) (hE0 : 0 < E) (hE : E < 256) (sn vo : Int32) : ∃ s, D_X3_ask [.ref 15, .ref (nowA σ), .int sn, .int vo, .int (nI E)] σ = some (none, s) ∧ OC σ s ∧ pI s 18 0 = 0 ∧ pI s 15 1 = nI A ∧ Tb s ∧ (∀ i, i < 8 → pI s 16 i = nqN (cur σ) n A i ∧ pI s 16 (8 + i) = nqV (cur σ) n A sn vo i) ∧ pI s 16 16 = nI E ∧ pI s 16 17 = nI (alS (cur σ) n) := by
  have hS := Rel_Sh h
  have hv := Rel_VR h
  have h8 := Rel_8 h
  have hm := VR_mOk hv
  have hA8 := Nat.lt_of_lt_of_le hA (p2n h8)
  have hRk := h.2.2.2.2.2.2.2.2
  have h180 := RkT_0 hRk
  obtain ⟨L, eL⟩ : ∃ L, alS (cur σ) n = L := ⟨_, rfl⟩
  have hL : L < 256 := by rw [← eL]; exact lt_of_bits (n := 8) fun i hi => by have := ((alS_bit n).mp hi).1; omega
  rw [eL]
  obtain ⟨s0, es0⟩ : ∃ s0, s0 = uI (uI (uI (uI σ 15 1 (nI A)) 15 2 (nI L)) 16 16 (nI E)) 16 17 (nI L) := ⟨_, rfl⟩
  obtain ⟨f0, ef0⟩ : ∃ f0, (if pI (uI (uI σ 15 1 (nI A)) 15 2 (nI L)) 16 16 = nI E then (0 : Int32) else 1) ||| (if pI (uI (uI (uI σ 15 1 (nI A)) 15 2 (nI L)) 16 16 (nI E)) 16 17 = nI L then (0 : Int32) else 1) = f0 := ⟨_, rfl⟩
  have b01 : ∀ (P : Prop) [Decidable P], (if P then (0 : Int32) else 1) = 0 ∨ (if P then (0 : Int32) else 1) = 1 := fun P _ => by by_cases c : P <;> simp [c]
  have p0 : ∀ (P : Prop) [Decidable P], (if P then (0 : Int32) else 1) = 0 → P := fun P _ q => by
    by_cases c : P
    · exact c
    · rw [if_neg c] at q; exact absurd q (by decide)
  have I0 : OC σ s0 ∧ (∀ a, a ≠ 15 → a ≠ 16 → pI s0 a = pI σ a) ∧ (pI s0 15 1 = nI A ∧ pI s0 15 2 = nI L ∧ ∀ k, k ≠ 1 → k ≠ 2 → pI s0 15 k = pI σ 15 k) ∧ (pI s0 16 16 = nI E ∧ pI s0 16 17 = nI L) ∧ (f0 = 0 ∨ f0 = 1) ∧ (f0 = 0 → pI s0 16 = pI σ 16) := by
    obtain ⟨o1, o2⟩ := fr_or (b01 (pI (uI (uI σ 15 1 (nI A)) 15 2 (nI L)) 16 16 = nI E)) (b01 (pI (uI (uI (uI σ 15 1 (nI A)) 15 2 (nI L)) 16 16 (nI E)) 16 17 = nI L))
    rw [ef0] at o1 o2
    refine ⟨by rw [es0]; exact OC_uI (OC_uI (OC_uI (OC_uI OC_rfl (by omega)) (by omega)) (by omega)) (by omega), fun a g1 g2 => by rw [es0, pI_uI_ne _ _ _ g2, pI_uI_ne _ _ _ g2, pI_uI_ne _ _ _ g1, pI_uI_ne _ _ _ g1], ⟨by rw [es0, pI_uI_ne _ _ _ (by decide), pI_uI_ne _ _ _ (by decide), pI_uI_nek _ _ _ _ (by decide), pI_uI_at], by rw [es0, pI_uI_ne _ _ _ (by decide), pI_uI_ne _ _ _ (by decide), pI_uI_at], fun k g1 g2 => by rw [es0, pI_uI_ne _ _ _ (by decide), pI_uI_ne _ _ _ (by decide), pI_uI_nek _ _ _ _ g2, pI_uI_nek _ _ _ _ g1]⟩, ⟨by rw [es0, pI_uI_nek _ _ _ _ (by decide), pI_uI_at], by rw [es0, pI_uI_at]⟩, o1, fun q => ?_⟩
    obtain ⟨r1, r2⟩ := o2 q
    rw [es0, upd_same (p0 _ r2), upd_same (p0 _ r1), pI_uI_ne _ _ _ (by decide), pI_uI_ne _ _ _ (by decide)]
  have hl : ∃ r s, sLoop (cI qLt (eLi 6) (eK (.int 8))) (sSeq (sSeq (sSa 7 (eCall (pm_disp (tb1 10 D_X10_at)) (aC (eLa 1) (aC (eLi 6) (aN))))) (sSeq (sSi 8 (eC (cAnd (cNot (cN (eLa 7))) (cZ0 qNe (eG pm_slp 1 6 (eLa 7)))) (eK (.int 1)) (eK (.int 0)))) (sSeq (sSi 9 (eC (cAnd (cZ0 qNe (eLi 8)) (cI qEq (eB f_iand (eB f_ishr (eLi 2) (eLi 6)) (eK (.int 1))) (eK (.int 1)))) (eK (.int 1)) (eK (.int 0)))) (sSeq (sSi 5 (eB f_ior (eLi 5) (eCall (pm_disp (tb1 3 D_X3_note)) (aC (eLa 0) (aC (eLi 6) (aC (eC (cZ0 qNe (eLi 8)) (eCall (pm_disp (tb6 D_X0_minutes D_X2_minutes D_X2_minutes D_X4_minutes D_X6_minutes D_X6_minutes)) (aC (eLa 7) (aN))) (eK (.int 0))) (aN))))))) (sSi 5 (eB f_ior (eLi 5) (eCall (pm_disp (tb1 3 D_X3_note)) (aC (eLa 0) (aC (eB f_iadd (eK (.int 8)) (eLi 6)) (aC (eC (cNot (cZ0 qNe (eLi 9))) (eK (.int (-1))) (eC (cI qEq (eLi 3) (eK (.int (-1)))) (eG pm_slp 0 2 (eLa 7)) (eLi 3))) (aN))))))))))) (sInc 6 1)) [.ref 15, .ref (nowA σ), .int sn, .int vo, .int (nI E), .int f0, .int 0, .float 0, .float 0, .float 0] s0 = some (r, s) ∧ (∃ f w7 w8 w9, OC σ s ∧ (∀ a, a ≠ 15 → a ≠ 16 → pI s a = pI σ a) ∧ (pI s 15 1 = nI A ∧ pI s 15 2 = nI L ∧ ∀ k, k ≠ 1 → k ≠ 2 → pI s 15 k = pI σ 15 k) ∧ (pI s 16 16 = nI E ∧ pI s 16 17 = nI L) ∧ (f = 0 ∨ f = 1) ∧ (f = 0 → pI s 16 = pI σ 16) ∧ (∀ j, j < 8 → pI s 16 j = nqN (cur σ) n A j ∧ pI s 16 (8 + j) = nqV (cur σ) n A sn vo j) ∧ r = .inl [.ref 15, .ref (nowA σ), .int sn, .int vo, .int (nI E), .int f, .int (nI 8), w7, w8, w9]) := by
    refine loop_gen (fun i env s => ∃ f w7 w8 w9, nlB (some w7) = true ∧ nlB (some w8) = true ∧ OC σ s ∧ (∀ a, a ≠ 15 → a ≠ 16 → pI s a = pI σ a) ∧ (pI s 15 1 = nI A ∧ pI s 15 2 = nI L ∧ ∀ k, k ≠ 1 → k ≠ 2 → pI s 15 k = pI σ 15 k) ∧ (pI s 16 16 = nI E ∧ pI s 16 17 = nI L) ∧ (f = 0 ∨ f = 1) ∧ (f = 0 → pI s 16 = pI σ 16) ∧ (∀ j, j < i → pI s 16 j = nqN (cur σ) n A j ∧ pI s 16 (8 + j) = nqV (cur σ) n A sn vo j) ∧ env = [.ref 15, .ref (nowA σ), .int sn, .int vo, .int (nI E), .int f, .int (nI i), w7, w8, w9]) _ 8 (by decide) ⟨f0, .float 0, .float 0, .float 0, rfl, rfl, I0.1, I0.2.1, I0.2.2.1, I0.2.2.2.1, I0.2.2.2.2.1, I0.2.2.2.2.2, fun j hj => by omega, by rw [nI_0]⟩ ?_
    rintro i env s hi ⟨f, w7, w8, w9, hw7, hw8, o1, o2, o3, o4, o5, o6, o7, rfl⟩
    have hss := Fr_Sh (OC_Fr o1) hS
    have hvs := Fr_VR (OC_Fr o1) hv
    have hlt : (nI i < 8) = (i < 8) := nI_lt' (b := 8) (by omega) (by decide)
    by_cases e : i < 8
    · left
      obtain ⟨x, ex⟩ : ∃ x, nqN (cur σ) n A i = x := ⟨_, rfl⟩
      obtain ⟨y, ey⟩ : ∃ y, nqV (cur σ) n A sn vo i = y := ⟨_, rfl⟩
      obtain ⟨s1, es1⟩ : ∃ s1, s1 = uI s 16 i x := ⟨_, rfl⟩
      have hs1 : Sh s1 := by rw [es1]; exact hss
      have n1 := d_note hss (p := i) (by omega) x
      have n2 := d_note hs1 (p := 8 + i) (by omega) y
      rw [← es1] at n1
      have ei : (8 : Int32) + nI i = nI (8 + i) := nI_ad 8 i
      obtain ⟨g1, eg1⟩ : ∃ g1, (if pI s 16 i = x then (0 : Int32) else 1) = g1 := ⟨_, rfl⟩
      obtain ⟨g2, eg2⟩ : ∃ g2, (if pI s1 16 (8 + i) = y then (0 : Int32) else 1) = g2 := ⟨_, rfl⟩
      rw [eg1] at n1
      rw [eg2] at n2
      have hbg1 : g1 = 0 ∨ g1 = 1 := by rw [← eg1]; exact b01 _
      have hbg2 : g2 = 0 ∨ g2 = 1 := by rw [← eg2]; exact b01 _
      obtain ⟨u1, u2⟩ := fr_or o5 hbg1
      obtain ⟨u3, u4⟩ := fr_or u1 hbg2
      have fin : ∀ w7 w8 w9 : Value, nlB (some w7) = true → nlB (some w8) = true → ∃ f' w7' w8' w9', nlB (some w7') = true ∧ nlB (some w8') = true ∧ OC σ (uI s1 16 (8 + i) y) ∧ (∀ a, a ≠ 15 → a ≠ 16 → pI (uI s1 16 (8 + i) y) a = pI σ a) ∧ (pI (uI s1 16 (8 + i) y) 15 1 = nI A ∧ pI (uI s1 16 (8 + i) y) 15 2 = nI L ∧ ∀ k, k ≠ 1 → k ≠ 2 → pI (uI s1 16 (8 + i) y) 15 k = pI σ 15 k) ∧ (pI (uI s1 16 (8 + i) y) 16 16 = nI E ∧ pI (uI s1 16 (8 + i) y) 16 17 = nI L) ∧ (f' = 0 ∨ f' = 1) ∧ (f' = 0 → pI (uI s1 16 (8 + i) y) 16 = pI σ 16) ∧ (∀ j, j < i + 1 → pI (uI s1 16 (8 + i) y) 16 j = nqN (cur σ) n A j ∧ pI (uI s1 16 (8 + i) y) 16 (8 + j) = nqV (cur σ) n A sn vo j) ∧ ([.ref 15, .ref (nowA σ), .int sn, .int vo, .int (nI E), .int (f ||| g1 ||| g2), .int (nI (i + 1)), w7, w8, w9] : List Value) = [.ref 15, .ref (nowA σ), .int sn, .int vo, .int (nI E), .int f', .int (nI (i + 1)), w7', w8', w9'] := by
        intro w7 w8 w9 q7 q8
        refine ⟨_, _, _, _, q7, q8, OC_uI (by rw [es1]; exact OC_uI o1 (by omega)) (by omega), fun a p1 p2 => by rw [pI_uI_ne _ _ _ p2, es1, pI_uI_ne _ _ _ p2]; exact o2 a p1 p2, ?_, ⟨by rw [pI_uI_nek _ _ _ _ (by omega), es1, pI_uI_nek _ _ _ _ (by omega)]; exact o4.1, by rw [pI_uI_nek _ _ _ _ (by omega), es1, pI_uI_nek _ _ _ _ (by omega)]; exact o4.2⟩, u3, fun q => ?_, fun j hj => ?_, rfl⟩
        · rw [pI_uI_ne _ _ _ (by decide), es1, pI_uI_ne _ _ _ (by decide)]; exact o3
        · obtain ⟨r1, r2⟩ := u4 q
          obtain ⟨r3, r4⟩ := u2 r1
          rw [← eg2] at r2
          rw [← eg1] at r4
          rw [upd_same (p0 _ r2), es1, upd_same (p0 _ r4)]; exact o6 r3
        · by_cases c : j = i
          · subst c
            refine ⟨by rw [pI_uI_nek _ _ _ _ (by omega), es1, pI_uI_at, ex], by rw [pI_uI_at, ey]⟩
          · rw [pI_uI_nek _ _ _ _ (by omega), pI_uI_nek _ _ _ _ (by omega), es1, pI_uI_nek _ _ _ _ c, pI_uI_nek _ _ _ _ (by omega)]
            exact o7 j (by omega)
      by_cases en : i < n
      · have hib := ib_nI en (show n ≤ 1000000 by omega)
        have hcl := nI_cl (show i < 2147483648 by omega)
        have hb := bt_nI hA8 e
        have hq1 : pm_slp (pT s1 (vQ s (nowA σ) i)) = true := by rw [es1]; exact VR_slp hvs en
        have hvo : pI s1 (vQ s (nowA σ) i) 2 = cur σ (20 + i) := by
          have h66 : 66 ≤ vQ s (nowA σ) i := hvs.2.2.2.2.2.2.2.2.1 i en
          rw [es1, pI_uI_ne _ _ _ (by omega)]; exact VR_f2 hvs en
        by_cases hAi : A.testBit i = true
        · rw [if_pos hAi] at hb
          have exv : x = nd (cur σ) i := by rw [← ex]; unfold nqN; rw [if_pos ⟨en, hAi⟩]
          have n1' : D_X3_note [.ref 15, .int (nI i), .int (nd (cur σ) i)] s = some (some (.int g1), s1) := by rw [← exv]; exact n1
          by_cases hsg : sn >>> (nI i &&& 31) &&& 1 = 1
          · have hsg' : (sn >>> (nI i &&& 31) &&& 1 = 1) = True := eq_true hsg
            by_cases hvm : vo = -1
            · have eyv : y = cur σ (20 + i) := by rw [← ey]; unfold nqV; rw [if_pos ⟨en, hAi, hsg⟩, if_pos hvm]
              have n2' : D_X3_note [.ref 15, .int (nI (8 + i)), .int (cur σ (20 + i))] s1 = some (some (.int g2), uI s1 16 (8 + i) y) := by rw [← eyv]; exact n2
              have hvm' : (vo = -1) = True := eq_true hvm
              refine ⟨[.ref 15, .ref (nowA σ), .int sn, .int vo, .int (nI E), .int (f ||| g1 ||| g2), .int (nI (i + 1)), .ref (vQ s (nowA σ) i), .int 1, .int 1], uI s1 16 (8 + i) y, ?_, e, fin _ _ _ nlB_r nlB_i⟩
              simp only [lpStep, ↓rE_eK, ↓rE_eLi, ↓rE_eLj, ↓rE_eLa, ↓rE_eU, ↓rE_eB, ↓rE_eG, ↓rE_eIF, ↓rE_eAI, ↓rE_eAX, ↓rE_eAJ, ↓rE_eAR, ↓rE_eLen, ↓rE_eSI, ↓rE_eC, ↓rE_eCall, ↓rE_eNew, ↓rE_eNewA, ↓rE_eInst, ↓rC_cI, ↓rC_cZ0, ↓rC_cN, ↓rC_cNot, ↓rC_cAnd, ↓rC_cOr, ↓rA_aN, ↓rA_aC, ↓rS_sP, ↓rS_sUF, ↓rS_sAI, ↓rS_sAJ, ↓rS_sAR, ↓rS_sUA, ↓rS_sCall, ↓rS_sObj, ↓rS_sSi, ↓rS_sSa, ↓rS_sSj, ↓rS_sInc, ↓rS_sSkip, ↓rS_sSeq, ↓rS_sIf, ↓rS_sRetI, ↓rS_sRetJ, ↓rS_sRetA, ↓rS_sRetV, ↓rS_sSw, ↓rD_meth, ↓rD_on, ↓kR_ref, ↓kI_int, ↓kJ_long, ↓kN_null, ↓kN_ref, ↓kN_rf, ↓kQ_ref, ↓kQ_null, ↓kQ_rf, o1_i, o1ij_i, o1ji_i, o2_i, o2d_i, o2j_i, o2ji_i, o2c_i, fv_0, fv_1, fv_2, fv_3, pf_0, pf_2, pf_3, pf_4, rf_s, rf_n, is_self, ge_0, ge_s, ge_n, gd_s, gd_n, se_0, se_s, ag_0, ex_n, ex_i, ex_r, ex_0, ex_j, ex_q, ap_c, ap_n, List.append_nil, ln_c, ln_n, rp_0, rp_s, rt_0, rt_1, rt_20, rt_21, rt_2, rt_3, rt_4, rt_4n, rt_4q, nl_0, nl_1, nl_2, nl_3, nl_4, nl_5, nl_6, nl_7, nl_8, nl_9, nlB_i, nlB_r, nlB_n, nlB_f, nlB_q, ↓reduceIte, reduceCtorEq, Nat.reduceAdd, Nat.reduceSub, Nat.reduceEqDiff, Nat.reduceLeDiff, Nat.reduceBEq, ite_true, ite_false, dt_t, Bool.not_true, Bool.not_false, Bool.false_eq_true, Nat.le_refl, true_and, and_true, true_or, or_true, false_or, or_false, false_and, and_false, qEq, qNe, qLt, qGe, qGt, qLe, hlt, e, rD_tb1 (VR_T hvs), rD_of (d_at_t hvs hib), hcl, VR_slp hvs en, VR_f6 hvs en, eA, hb, one_ne0, not_false_eq_true, hsg', rD_tb1 (sT_15 hss), rD_of (v_minutes hvs en), rD_of n1', hvm', hq1, hvo, ei, rD_tb1 (sT_15 hs1), rD_of n2', hw7, hw8, nt_t, not_true, nI_1]
            · have eyv : y = vo := by rw [← ey]; unfold nqV; rw [if_pos ⟨en, hAi, hsg⟩, if_neg hvm]
              have n2' : D_X3_note [.ref 15, .int (nI (8 + i)), .int vo] s1 = some (some (.int g2), uI s1 16 (8 + i) y) := by rw [← eyv]; exact n2
              refine ⟨[.ref 15, .ref (nowA σ), .int sn, .int vo, .int (nI E), .int (f ||| g1 ||| g2), .int (nI (i + 1)), .ref (vQ s (nowA σ) i), .int 1, .int 1], uI s1 16 (8 + i) y, ?_, e, fin _ _ _ nlB_r nlB_i⟩
              simp only [lpStep, ↓rE_eK, ↓rE_eLi, ↓rE_eLj, ↓rE_eLa, ↓rE_eU, ↓rE_eB, ↓rE_eG, ↓rE_eIF, ↓rE_eAI, ↓rE_eAX, ↓rE_eAJ, ↓rE_eAR, ↓rE_eLen, ↓rE_eSI, ↓rE_eC, ↓rE_eCall, ↓rE_eNew, ↓rE_eNewA, ↓rE_eInst, ↓rC_cI, ↓rC_cZ0, ↓rC_cN, ↓rC_cNot, ↓rC_cAnd, ↓rC_cOr, ↓rA_aN, ↓rA_aC, ↓rS_sP, ↓rS_sUF, ↓rS_sAI, ↓rS_sAJ, ↓rS_sAR, ↓rS_sUA, ↓rS_sCall, ↓rS_sObj, ↓rS_sSi, ↓rS_sSa, ↓rS_sSj, ↓rS_sInc, ↓rS_sSkip, ↓rS_sSeq, ↓rS_sIf, ↓rS_sRetI, ↓rS_sRetJ, ↓rS_sRetA, ↓rS_sRetV, ↓rS_sSw, ↓rD_meth, ↓rD_on, ↓kR_ref, ↓kI_int, ↓kJ_long, ↓kN_null, ↓kN_ref, ↓kN_rf, ↓kQ_ref, ↓kQ_null, ↓kQ_rf, o1_i, o1ij_i, o1ji_i, o2_i, o2d_i, o2j_i, o2ji_i, o2c_i, fv_0, fv_1, fv_2, fv_3, pf_0, pf_2, pf_3, pf_4, rf_s, rf_n, is_self, ge_0, ge_s, ge_n, gd_s, gd_n, se_0, se_s, ag_0, ex_n, ex_i, ex_r, ex_0, ex_j, ex_q, ap_c, ap_n, List.append_nil, ln_c, ln_n, rp_0, rp_s, rt_0, rt_1, rt_20, rt_21, rt_2, rt_3, rt_4, rt_4n, rt_4q, nl_0, nl_1, nl_2, nl_3, nl_4, nl_5, nl_6, nl_7, nl_8, nl_9, nlB_i, nlB_r, nlB_n, nlB_f, nlB_q, ↓reduceIte, reduceCtorEq, Nat.reduceAdd, Nat.reduceSub, Nat.reduceEqDiff, Nat.reduceLeDiff, Nat.reduceBEq, ite_true, ite_false, dt_t, Bool.not_true, Bool.not_false, Bool.false_eq_true, Nat.le_refl, true_and, and_true, true_or, or_true, false_or, or_false, false_and, and_false, qEq, qNe, qLt, qGe, qGt, qLe, hlt, e, rD_tb1 (VR_T hvs), rD_of (d_at_t hvs hib), hcl, VR_slp hvs en, VR_f6 hvs en, eA, hb, one_ne0, not_false_eq_true, hsg', rD_tb1 (sT_15 hss), rD_of (v_minutes hvs en), rD_of n1', hvm, ei, rD_tb1 (sT_15 hs1), rD_of n2', hw7, hw8, nt_t, not_true, nI_1]
          · have eyv : y = -1 := by rw [← ey]; unfold nqV; rw [if_neg (fun q => hsg q.2.2)]
            have n2' : D_X3_note [.ref 15, .int (nI (8 + i)), .int (-1)] s1 = some (some (.int g2), uI s1 16 (8 + i) y) := by rw [← eyv]; exact n2
            refine ⟨[.ref 15, .ref (nowA σ), .int sn, .int vo, .int (nI E), .int (f ||| g1 ||| g2), .int (nI (i + 1)), .ref (vQ s (nowA σ) i), .int 1, .int 0], uI s1 16 (8 + i) y, ?_, e, fin _ _ _ nlB_r nlB_i⟩
            simp only [lpStep, ↓rE_eK, ↓rE_eLi, ↓rE_eLj, ↓rE_eLa, ↓rE_eU, ↓rE_eB, ↓rE_eG, ↓rE_eIF, ↓rE_eAI, ↓rE_eAX, ↓rE_eAJ, ↓rE_eAR, ↓rE_eLen, ↓rE_eSI, ↓rE_eC, ↓rE_eCall, ↓rE_eNew, ↓rE_eNewA, ↓rE_eInst, ↓rC_cI, ↓rC_cZ0, ↓rC_cN, ↓rC_cNot, ↓rC_cAnd, ↓rC_cOr, ↓rA_aN, ↓rA_aC, ↓rS_sP, ↓rS_sUF, ↓rS_sAI, ↓rS_sAJ, ↓rS_sAR, ↓rS_sUA, ↓rS_sCall, ↓rS_sObj, ↓rS_sSi, ↓rS_sSa, ↓rS_sSj, ↓rS_sInc, ↓rS_sSkip, ↓rS_sSeq, ↓rS_sIf, ↓rS_sRetI, ↓rS_sRetJ, ↓rS_sRetA, ↓rS_sRetV, ↓rS_sSw, ↓rD_meth, ↓rD_on, ↓kR_ref, ↓kI_int, ↓kJ_long, ↓kN_null, ↓kN_ref, ↓kN_rf, ↓kQ_ref, ↓kQ_null, ↓kQ_rf, o1_i, o1ij_i, o1ji_i, o2_i, o2d_i, o2j_i, o2ji_i, o2c_i, fv_0, fv_1, fv_2, fv_3, pf_0, pf_2, pf_3, pf_4, rf_s, rf_n, is_self, ge_0, ge_s, ge_n, gd_s, gd_n, se_0, se_s, ag_0, ex_n, ex_i, ex_r, ex_0, ex_j, ex_q, ap_c, ap_n, List.append_nil, ln_c, ln_n, rp_0, rp_s, rt_0, rt_1, rt_20, rt_21, rt_2, rt_3, rt_4, rt_4n, rt_4q, nl_0, nl_1, nl_2, nl_3, nl_4, nl_5, nl_6, nl_7, nl_8, nl_9, nlB_i, nlB_r, nlB_n, nlB_f, nlB_q, ↓reduceIte, reduceCtorEq, Nat.reduceAdd, Nat.reduceSub, Nat.reduceEqDiff, Nat.reduceLeDiff, Nat.reduceBEq, ite_true, ite_false, dt_t, Bool.not_true, Bool.not_false, Bool.false_eq_true, Nat.le_refl, true_and, and_true, true_or, or_true, false_or, or_false, false_and, and_false, qEq, qNe, qLt, qGe, qGt, qLe, hlt, e, rD_tb1 (VR_T hvs), rD_of (d_at_t hvs hib), hcl, VR_slp hvs en, VR_f6 hvs en, eA, hb, one_ne0, not_false_eq_true, hsg, rD_tb1 (sT_15 hss), rD_of (v_minutes hvs en), rD_of n1', ei, rD_tb1 (sT_15 hs1), rD_of n2', hw7, hw8, nt_t, not_true, nI_1]
        · rw [if_neg hAi] at hb
          have exv : x = 0 := by rw [← ex]; unfold nqN; rw [if_neg (fun q => hAi q.2)]
          have eyv : y = -1 := by rw [← ey]; unfold nqV; rw [if_neg (fun q => hAi q.2.1)]
          have n1' : D_X3_note [.ref 15, .int (nI i), .int 0] s = some (some (.int g1), s1) := by rw [← exv]; exact n1
          have n2' : D_X3_note [.ref 15, .int (nI (8 + i)), .int (-1)] s1 = some (some (.int g2), uI s1 16 (8 + i) y) := by rw [← eyv]; exact n2
          refine ⟨[.ref 15, .ref (nowA σ), .int sn, .int vo, .int (nI E), .int (f ||| g1 ||| g2), .int (nI (i + 1)), .ref (vQ s (nowA σ) i), .int 0, .int 0], uI s1 16 (8 + i) y, ?_, e, fin _ _ _ nlB_r nlB_i⟩
          simp only [lpStep, ↓rE_eK, ↓rE_eLi, ↓rE_eLj, ↓rE_eLa, ↓rE_eU, ↓rE_eB, ↓rE_eG, ↓rE_eIF, ↓rE_eAI, ↓rE_eAX, ↓rE_eAJ, ↓rE_eAR, ↓rE_eLen, ↓rE_eSI, ↓rE_eC, ↓rE_eCall, ↓rE_eNew, ↓rE_eNewA, ↓rE_eInst, ↓rC_cI, ↓rC_cZ0, ↓rC_cN, ↓rC_cNot, ↓rC_cAnd, ↓rC_cOr, ↓rA_aN, ↓rA_aC, ↓rS_sP, ↓rS_sUF, ↓rS_sAI, ↓rS_sAJ, ↓rS_sAR, ↓rS_sUA, ↓rS_sCall, ↓rS_sObj, ↓rS_sSi, ↓rS_sSa, ↓rS_sSj, ↓rS_sInc, ↓rS_sSkip, ↓rS_sSeq, ↓rS_sIf, ↓rS_sRetI, ↓rS_sRetJ, ↓rS_sRetA, ↓rS_sRetV, ↓rS_sSw, ↓rD_meth, ↓rD_on, ↓kR_ref, ↓kI_int, ↓kJ_long, ↓kN_null, ↓kN_ref, ↓kN_rf, ↓kQ_ref, ↓kQ_null, ↓kQ_rf, o1_i, o1ij_i, o1ji_i, o2_i, o2d_i, o2j_i, o2ji_i, o2c_i, fv_0, fv_1, fv_2, fv_3, pf_0, pf_2, pf_3, pf_4, rf_s, rf_n, is_self, ge_0, ge_s, ge_n, gd_s, gd_n, se_0, se_s, ag_0, ex_n, ex_i, ex_r, ex_0, ex_j, ex_q, ap_c, ap_n, List.append_nil, ln_c, ln_n, rp_0, rp_s, rt_0, rt_1, rt_20, rt_21, rt_2, rt_3, rt_4, rt_4n, rt_4q, nl_0, nl_1, nl_2, nl_3, nl_4, nl_5, nl_6, nl_7, nl_8, nl_9, nlB_i, nlB_r, nlB_n, nlB_f, nlB_q, ↓reduceIte, reduceCtorEq, Nat.reduceAdd, Nat.reduceSub, Nat.reduceEqDiff, Nat.reduceLeDiff, Nat.reduceBEq, ite_true, ite_false, dt_t, Bool.not_true, Bool.not_false, Bool.false_eq_true, Nat.le_refl, true_and, and_true, true_or, or_true, false_or, or_false, false_and, and_false, qEq, qNe, qLt, qGe, qGt, qLe, hlt, e, rD_tb1 (VR_T hvs), rD_of (d_at_t hvs hib), hcl, VR_slp hvs en, VR_f6 hvs en, eA, hb, not_true, rD_tb1 (sT_15 hss), rD_of n1', ei, rD_tb1 (sT_15 hs1), rD_of n2', hw7, hw8, nt_t, not_false_eq_true, nI_1]
      · have hib : ¬ ib (nI i) n = true := by rw [ib_iff, nI_toInt (by omega)]; omega
        have exv : x = 0 := by rw [← ex]; unfold nqN; rw [if_neg (fun q => en q.1)]
        have eyv : y = -1 := by rw [← ey]; unfold nqV; rw [if_neg (fun q => en q.1)]
        have n1' : D_X3_note [.ref 15, .int (nI i), .int 0] s = some (some (.int g1), s1) := by rw [← exv]; exact n1
        have n2' : D_X3_note [.ref 15, .int (nI (8 + i)), .int (-1)] s1 = some (some (.int g2), uI s1 16 (8 + i) y) := by rw [← eyv]; exact n2
        refine ⟨[.ref 15, .ref (nowA σ), .int sn, .int vo, .int (nI E), .int (f ||| g1 ||| g2), .int (nI (i + 1)), .null, .int 0, .int 0], uI s1 16 (8 + i) y, ?_, e, fin _ _ _ nlB_n nlB_i⟩
        simp only [lpStep, ↓rE_eK, ↓rE_eLi, ↓rE_eLj, ↓rE_eLa, ↓rE_eU, ↓rE_eB, ↓rE_eG, ↓rE_eIF, ↓rE_eAI, ↓rE_eAX, ↓rE_eAJ, ↓rE_eAR, ↓rE_eLen, ↓rE_eSI, ↓rE_eC, ↓rE_eCall, ↓rE_eNew, ↓rE_eNewA, ↓rE_eInst, ↓rC_cI, ↓rC_cZ0, ↓rC_cN, ↓rC_cNot, ↓rC_cAnd, ↓rC_cOr, ↓rA_aN, ↓rA_aC, ↓rS_sP, ↓rS_sUF, ↓rS_sAI, ↓rS_sAJ, ↓rS_sAR, ↓rS_sUA, ↓rS_sCall, ↓rS_sObj, ↓rS_sSi, ↓rS_sSa, ↓rS_sSj, ↓rS_sInc, ↓rS_sSkip, ↓rS_sSeq, ↓rS_sIf, ↓rS_sRetI, ↓rS_sRetJ, ↓rS_sRetA, ↓rS_sRetV, ↓rS_sSw, ↓rD_meth, ↓rD_on, ↓kR_ref, ↓kI_int, ↓kJ_long, ↓kN_null, ↓kN_ref, ↓kN_rf, ↓kQ_ref, ↓kQ_null, ↓kQ_rf, o1_i, o1ij_i, o1ji_i, o2_i, o2d_i, o2j_i, o2ji_i, o2c_i, fv_0, fv_1, fv_2, fv_3, pf_0, pf_2, pf_3, pf_4, rf_s, rf_n, is_self, ge_0, ge_s, ge_n, gd_s, gd_n, se_0, se_s, ag_0, ex_n, ex_i, ex_r, ex_0, ex_j, ex_q, ap_c, ap_n, List.append_nil, ln_c, ln_n, rp_0, rp_s, rt_0, rt_1, rt_20, rt_21, rt_2, rt_3, rt_4, rt_4n, rt_4q, nl_0, nl_1, nl_2, nl_3, nl_4, nl_5, nl_6, nl_7, nl_8, nl_9, nlB_i, nlB_r, nlB_n, nlB_f, nlB_q, ↓reduceIte, reduceCtorEq, Nat.reduceAdd, Nat.reduceSub, Nat.reduceEqDiff, Nat.reduceLeDiff, Nat.reduceBEq, ite_true, ite_false, dt_t, Bool.not_true, Bool.not_false, Bool.false_eq_true, Nat.le_refl, true_and, and_true, true_or, or_true, false_or, or_false, false_and, and_false, qEq, qNe, qLt, qGe, qGt, qLe, hlt, e, rD_tb1 (VR_T hvs), rD_of (d_at_f hvs hib), not_true, rD_tb1 (sT_15 hss), rD_of n1', ei, rD_tb1 (sT_15 hs1), rD_of n2', hw7, hw8, nt_t, not_false_eq_true, nI_1]
    · right
      have : i = 8 := by omega
      subst this
      refine ⟨_, _, ?_, f, w7, w8, w9, o1, o2, o3, o4, o5, o6, o7, rfl⟩
      simp only [lpStep, ↓rE_eK, ↓rE_eLi, ↓rE_eLj, ↓rE_eLa, ↓rE_eU, ↓rE_eB, ↓rE_eG, ↓rE_eIF, ↓rE_eAI, ↓rE_eAX, ↓rE_eAJ, ↓rE_eAR, ↓rE_eLen, ↓rE_eSI, ↓rE_eC, ↓rE_eCall, ↓rE_eNew, ↓rE_eNewA, ↓rE_eInst, ↓rC_cI, ↓rC_cZ0, ↓rC_cN, ↓rC_cNot, ↓rC_cAnd, ↓rC_cOr, ↓rA_aN, ↓rA_aC, ↓rS_sP, ↓rS_sUF, ↓rS_sAI, ↓rS_sAJ, ↓rS_sAR, ↓rS_sUA, ↓rS_sCall, ↓rS_sObj, ↓rS_sSi, ↓rS_sSa, ↓rS_sSj, ↓rS_sInc, ↓rS_sSkip, ↓rS_sSeq, ↓rS_sIf, ↓rS_sRetI, ↓rS_sRetJ, ↓rS_sRetA, ↓rS_sRetV, ↓rS_sSw, ↓rD_meth, ↓rD_on, ↓kR_ref, ↓kI_int, ↓kJ_long, ↓kN_null, ↓kN_ref, ↓kN_rf, ↓kQ_ref, ↓kQ_null, ↓kQ_rf, o1_i, o1ij_i, o1ji_i, o2_i, o2d_i, o2j_i, o2ji_i, o2c_i, fv_0, fv_1, fv_2, fv_3, pf_0, pf_2, pf_3, pf_4, rf_s, rf_n, is_self, ge_0, ge_s, ge_n, gd_s, gd_n, se_0, se_s, ag_0, ex_n, ex_i, ex_r, ex_0, ex_j, ex_q, ap_c, ap_n, List.append_nil, ln_c, ln_n, rp_0, rp_s, rt_0, rt_1, rt_20, rt_21, rt_2, rt_3, rt_4, rt_4n, rt_4q, nl_0, nl_1, nl_2, nl_3, nl_4, nl_5, nl_6, nl_7, nl_8, nl_9, nlB_i, nlB_r, nlB_n, nlB_f, nlB_q, ↓reduceIte, reduceCtorEq, Nat.reduceAdd, Nat.reduceSub, Nat.reduceEqDiff, Nat.reduceLeDiff, Nat.reduceBEq, ite_true, ite_false, dt_t, Bool.not_true, Bool.not_false, Bool.false_eq_true, Nat.le_refl, true_and, and_true, true_or, or_true, false_or, or_false, false_and, and_false, qEq, qNe, qLt, qGe, qGt, qLe, hlt, Nat.lt_irrefl]
  obtain ⟨r, s, l1, f, w7, w8, w9, o1, o2, o3, o4, o5, o6, o7, rfl⟩ := hl
  have hss := Fr_Sh (OC_Fr o1) hS
  have hNi : ∀ i, i < 8 → Nq (pI s 16) i = (if i < n ∧ A.testBit i = true then nN (cur σ) i else 0) := fun i hi => by
    obtain ⟨k1, k2, -⟩ := nqN_k (i := i) (A := A) hm
    exact Nq_nI (by rw [(o7 i hi).1]; exact k1) (by omega)
  have hUA : Us (pI s 16) 8 = A := by
    apply Nat.eq_of_testBit_eq
    intro i
    have e1 := Us_bit (f := pI s 16) (i := i) 8
    have e2 : (Us (pI s 16) 8).testBit i = true ↔ A.testBit i = true := by
      rw [e1]
      constructor
      · rintro ⟨q1, q2⟩
        rw [hNi i q1] at q2
        exact ((nqN_k (i := i) (A := A) hm).2.2.mp q2).2
      · intro q
        have hi := bitlt hA q
        refine ⟨by omega, ?_⟩
        rw [hNi i (by omega)]
        exact (nqN_k (i := i) (A := A) hm).2.2.mpr ⟨hi, q⟩
    cases c1 : (Us (pI s 16) 8).testBit i <;> cases c2 : A.testBit i
    · rfl
    · exact absurd (e2.mpr c2) (by rw [c1]; decide)
    · exact absurd (e2.mp c1) (by rw [c2]; decide)
    · rfl
  have hE16 : Nq (pI s 16) 16 = E := Nq_nI o4.1 (by omega)
  have hL17 : Nq (pI s 16) 17 = L := Nq_nI o4.2 (by omega)
  have hQ : QA s (Nq (pI s 16)) (Vq (pI s 16)) E L A := by
    refine ⟨fun i hi => ?_, ⟨o4.1, o4.2, o3.1, o3.2.1⟩, ⟨hE, hL, hA8⟩, fun i hi => ?_⟩
    · obtain ⟨k1, k2, -⟩ := nqN_k (i := i) (A := A) hm
      rw [hNi i hi]
      exact ⟨by rw [(o7 i hi).1]; exact k1, k2, rfl⟩
    · rw [← hUA, Us_bit]
      exact ⟨fun q => q.2, fun q => ⟨hi, q⟩⟩
  have hs18 : pI s 18 0 = 0 := by rw [o2 18 (by decide) (by decide)]; exact h180
  have hn0 : ¬ nI E = 0 := nI_ne0 (by omega) (by omega)
  have call : ∀ s', (¬ f = 0 → D_X3_reckon [.ref 15, .int (nI E)] s = some (none, s')) → (f = 0 → s' = s) → D_X3_ask [.ref 15, .ref (nowA σ), .int sn, .int vo, .int (nI E)] σ = some (none, s') := by
    intro s' c1 c2
    refine rD_un.trans ?_
    have q1 := d_awakeSet hv
    rw [eA] at q1
    have hs1 : Sh (uI σ 15 1 (nI A)) := hS
    have hv1 : VR (uI σ 15 1 (nI A)) (nowA σ) (cur σ) n := Fr_VR (OC_Fr (OC_uI OC_rfl (by omega))) hv
    have q2 := d_aloneSet hv1
    rw [eL] at q2
    have hs2 : Sh (uI (uI σ 15 1 (nI A)) 15 2 (nI L)) := hS
    have q3 := d_note hs2 (p := 16) (by decide) (nI E)
    have hs3 : Sh (uI (uI (uI σ 15 1 (nI A)) 15 2 (nI L)) 16 16 (nI E)) := hS
    have q4 := d_note hs3 (p := 17) (by decide) (nI L)
    have r2 : pI (uI (uI (uI σ 15 1 (nI A)) 15 2 (nI L)) 16 16 (nI E)) 15 2 = nI L := by rw [pI_uI_ne _ _ _ (by decide), pI_uI_at]
    have k16 : nI 16 = 16 := rfl
    have k17 : nI 17 = 17 := rfl
    rw [k16] at q3
    rw [k17] at q4
    by_cases c : f = 0
    · have c' : (f = 0) = True := eq_true c
      simp only [D_X3_ask, B_X3_ask, ↓rE_eK, ↓rE_eLi, ↓rE_eLj, ↓rE_eLa, ↓rE_eU, ↓rE_eB, ↓rE_eG, ↓rE_eIF, ↓rE_eAI, ↓rE_eAX, ↓rE_eAJ, ↓rE_eAR, ↓rE_eLen, ↓rE_eSI, ↓rE_eC, ↓rE_eCall, ↓rE_eNew, ↓rE_eNewA, ↓rE_eInst, ↓rC_cI, ↓rC_cZ0, ↓rC_cN, ↓rC_cNot, ↓rC_cAnd, ↓rC_cOr, ↓rA_aN, ↓rA_aC, ↓rS_sP, ↓rS_sUF, ↓rS_sAI, ↓rS_sAJ, ↓rS_sAR, ↓rS_sUA, ↓rS_sCall, ↓rS_sObj, ↓rS_sSi, ↓rS_sSa, ↓rS_sSj, ↓rS_sInc, ↓rS_sSkip, ↓rS_sSeq, ↓rS_sIf, ↓rS_sRetI, ↓rS_sRetJ, ↓rS_sRetA, ↓rS_sRetV, ↓rS_sSw, ↓rD_meth, ↓rD_on, ↓kR_ref, ↓kI_int, ↓kJ_long, ↓kN_null, ↓kN_ref, ↓kN_rf, ↓kQ_ref, ↓kQ_null, ↓kQ_rf, o1_i, o1ij_i, o1ji_i, o2_i, o2d_i, o2j_i, o2ji_i, o2c_i, fv_0, fv_1, fv_2, fv_3, pf_0, pf_2, pf_3, pf_4, rf_s, rf_n, is_self, ge_0, ge_s, ge_n, gd_s, gd_n, se_0, se_s, ag_0, ex_n, ex_i, ex_r, ex_0, ex_j, ex_q, ap_c, ap_n, List.append_nil, ln_c, ln_n, rp_0, rp_s, rt_0, rt_1, rt_20, rt_21, rt_2, rt_3, rt_4, rt_4n, rt_4q, nl_0, nl_1, nl_2, nl_3, nl_4, nl_5, nl_6, nl_7, nl_8, nl_9, nlB_i, nlB_r, nlB_n, nlB_f, nlB_q, ↓reduceIte, reduceCtorEq, Nat.reduceAdd, Nat.reduceSub, Nat.reduceEqDiff, Nat.reduceLeDiff, Nat.reduceBEq, ite_true, ite_false, dt_t, Bool.not_true, Bool.not_false, Bool.false_eq_true, Nat.le_refl, true_and, and_true, true_or, or_true, false_or, or_false, false_and, and_false, qEq, qNe, qLt, qGe, qGt, qLe, sT_15 hS, rD_tb1 (VR_T hv), rD_of q1, sT_15 hs1, rD_tb1 (VR_T hv1), rD_of q2, rD_tb1 (sT_15 hs2), rD_of q3, sT_15 hs3, r2, rD_tb1 (sT_15 hs3), rD_of q4, ef0, ← es0, rS_inl l1, c', not_true, c2 c]
    · simp only [D_X3_ask, B_X3_ask, ↓rE_eK, ↓rE_eLi, ↓rE_eLj, ↓rE_eLa, ↓rE_eU, ↓rE_eB, ↓rE_eG, ↓rE_eIF, ↓rE_eAI, ↓rE_eAX, ↓rE_eAJ, ↓rE_eAR, ↓rE_eLen, ↓rE_eSI, ↓rE_eC, ↓rE_eCall, ↓rE_eNew, ↓rE_eNewA, ↓rE_eInst, ↓rC_cI, ↓rC_cZ0, ↓rC_cN, ↓rC_cNot, ↓rC_cAnd, ↓rC_cOr, ↓rA_aN, ↓rA_aC, ↓rS_sP, ↓rS_sUF, ↓rS_sAI, ↓rS_sAJ, ↓rS_sAR, ↓rS_sUA, ↓rS_sCall, ↓rS_sObj, ↓rS_sSi, ↓rS_sSa, ↓rS_sSj, ↓rS_sInc, ↓rS_sSkip, ↓rS_sSeq, ↓rS_sIf, ↓rS_sRetI, ↓rS_sRetJ, ↓rS_sRetA, ↓rS_sRetV, ↓rS_sSw, ↓rD_meth, ↓rD_on, ↓kR_ref, ↓kI_int, ↓kJ_long, ↓kN_null, ↓kN_ref, ↓kN_rf, ↓kQ_ref, ↓kQ_null, ↓kQ_rf, o1_i, o1ij_i, o1ji_i, o2_i, o2d_i, o2j_i, o2ji_i, o2c_i, fv_0, fv_1, fv_2, fv_3, pf_0, pf_2, pf_3, pf_4, rf_s, rf_n, is_self, ge_0, ge_s, ge_n, gd_s, gd_n, se_0, se_s, ag_0, ex_n, ex_i, ex_r, ex_0, ex_j, ex_q, ap_c, ap_n, List.append_nil, ln_c, ln_n, rp_0, rp_s, rt_0, rt_1, rt_20, rt_21, rt_2, rt_3, rt_4, rt_4n, rt_4q, nl_0, nl_1, nl_2, nl_3, nl_4, nl_5, nl_6, nl_7, nl_8, nl_9, nlB_i, nlB_r, nlB_n, nlB_f, nlB_q, ↓reduceIte, reduceCtorEq, Nat.reduceAdd, Nat.reduceSub, Nat.reduceEqDiff, Nat.reduceLeDiff, Nat.reduceBEq, ite_true, ite_false, dt_t, Bool.not_true, Bool.not_false, Bool.false_eq_true, Nat.le_refl, true_and, and_true, true_or, or_true, false_or, or_false, false_and, and_false, qEq, qNe, qLt, qGe, qGt, qLe, sT_15 hS, rD_tb1 (VR_T hv), rD_of q1, sT_15 hs1, rD_tb1 (VR_T hv1), rD_of q2, rD_tb1 (sT_15 hs2), rD_of q3, sT_15 hs3, r2, rD_tb1 (sT_15 hs3), rD_of q4, ef0, ← es0, rS_inl l1, c, not_false_eq_true, rD_tb1 (sT_15 hss), rD_of (c1 c)]
  by_cases c : f = 0
  · have h16 := o6 c
    have hTσ := RkT_Tb hRk (by rw [← h16, o4.1]; exact hn0)
    refine ⟨s, call s (fun q => absurd c q) (fun _ => rfl), o1, hs18, o3.1, ?_, o7, o4.1, o4.2⟩
    unfold Tb at hTσ ⊢
    rw [h16]
    exact CTb_fr hTσ (o3.2.2 4 (by decide) (by decide)) (fun a q1 q2 => o2 a (by omega) (by omega))
  · obtain ⟨s', d1, d2, ⟨d3, d4, d5, -⟩, d6⟩ := d_reckon hss hQ hs18
    refine ⟨s', call s' (fun _ => d1) (fun q => absurd q c), OC_tr o1 d2, d5, by rw [d4 1 (by decide)]; exact o3.1, ?_, by rw [d3]; exact o7, by rw [d3]; exact o4.1, by rw [d3]; exact o4.2⟩
    unfold Tb
    rw [d3, hE16, hL17, hUA]
    exact d6
