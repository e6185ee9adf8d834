/-! The reference: findMore, findAll. -/
def Mo (bs : Nat → Nat → Bool) (S Bt : Nat → Nat) (A : Nat) (seen : Nat → Nat → Prop) (x z : Nat) : Prop := x ≤ 1000000 ∧ (∀ s W, seen s W → bs s W = true → x ≤ S (sd A W) + 1) ∧ (x = 1000000 ∨ ∃ s W, bs s W = true ∧ x = S (sd A W) + 1) ∧ z < 256 ∧ ∀ p, z.testBit p = true ↔ ∃ s W, seen s W ∧ bs s W = true ∧ (Bt (sd A W)).testBit p = true
theorem Mo_ext {bs : Nat → Nat → Bool} {S Bt : Nat → Nat} {A : Nat} {seen seen' : Nat → Nat → Prop} {x z : Nat} (h : Mo bs S Bt A seen x z) (e : ∀ s W, bs s W = true → (seen s W ↔ seen' s W)) : Mo bs S Bt A seen' x z := by
  obtain ⟨h1, h2, h3, h4, h5⟩ := h
  refine ⟨h1, fun s W q1 q2 => h2 s W ((e s W q2).mpr q1) q2, h3, h4, fun p => ?_⟩
  rw [h5 p]
  exact ⟨fun ⟨s, W, q1, q2, q3⟩ => ⟨s, W, (e s W q2).mp q1, q2, q3⟩, fun ⟨s, W, q1, q2, q3⟩ => ⟨s, W, (e s W q2).mpr q1, q2, q3⟩⟩
/-- a best song is added -/
theorem Mo_add {bs : Nat → Nat → Bool} {S Bt : Nat → Nat} {A s w : Nat} {seen seen' : Nat → Nat → Prop} {x z : Nat} (h : Mo bs S Bt A seen x z) (hb : bs s w = true) (hB : Bt (sd A w) < 256) (e : ∀ s' W, bs s' W = true → (seen' s' W ↔ seen s' W ∨ (s' = s ∧ W = w))) : Mo bs S Bt A seen' (if 1 + S (sd A w) < x then 1 + S (sd A w) else x) (z ||| Bt (sd A w)) := by
  obtain ⟨h1, h2, h3, h4, h5⟩ := h
  have hle : (if 1 + S (sd A w) < x then 1 + S (sd A w) else x) ≤ x ∧ (if 1 + S (sd A w) < x then 1 + S (sd A w) else x) ≤ S (sd A w) + 1 := by split <;> omega
  refine ⟨by omega, fun s' W q1 q2 => ?_, ?_, Nat.or_lt_two_pow (n := 8) h4 hB, fun p => ?_⟩
  · rcases (e s' W q2).mp q1 with q | ⟨rfl, rfl⟩
    · have := h2 s' W q q2; omega
    · exact hle.2
  · split
    · exact Or.inr ⟨s, w, hb, by omega⟩
    · exact h3
  · rw [Nat.testBit_or, Bool.or_eq_true, h5 p]
    constructor
    · rintro (⟨s', W, q1, q2, q3⟩ | q)
      · exact ⟨s', W, (e s' W q2).mpr (Or.inl q1), q2, q3⟩
      · exact ⟨s, w, (e s w hb).mpr (Or.inr ⟨rfl, rfl⟩), hb, q⟩
    · rintro ⟨s', W, q1, q2, q3⟩
      rcases (e s' W q2).mp q1 with q | ⟨rfl, rfl⟩
      · exact Or.inl ⟨s', W, q, q2, q3⟩
      · exact Or.inr q3
theorem min_add {a b : Nat} : min 1000000 (min 1000000 a + b) = min 1000000 (a + b) := by omega
theorem d_findMore {σ : pm_H} (hS : Sh σ) {n A : Nat} {M S Bt R : Nat → Nat} (hn : pI σ 35 0 = nI n) (hm : mOk (cur σ) n) (hA : A < 2 ^ n) (h49 : ∀ W, W < 2 ^ n → pI σ 49 W = lnI (lnR (cur σ) n W)) (h50 : ∀ B, B < 2 ^ n → pI σ 50 B = nI (M B) ∧ M B ≤ 1000000) (hT : ∀ B, B < A → (pI σ 51 B = nI (S B) ∧ S B ≤ 1000000) ∧ (pI σ 52 B = nI (Bt B) ∧ Bt B < 256) ∧ (pI σ 53 B = nI (R B) ∧ R B ≤ 1000000)) : ∃ x z w, D_X12_findMore [.ref 35, .int (nI A)] σ = some (none, st3 σ A (nI x) (nI z) (nI w)) ∧ Mo (bsB (lnR (cur σ) n) (sgR (cur σ) n (-1)) M A) S Bt A (fun _ _ => True) x z ∧ w = min 1000000 (wsum (lnR (cur σ) n) (sgR (cur σ) n (-1)) M R A) := by
  have h8 := hm.1.1
  have hA8 := Nat.lt_of_lt_of_le hA (p2n h8)
  obtain ⟨bs, ebs⟩ : ∃ bs, bs = bsB (lnR (cur σ) n) (sgR (cur σ) n (-1)) M A := ⟨_, rfl⟩
  obtain ⟨g, eg⟩ : ∃ g, g = gR (lnR (cur σ) n) (sgR (cur σ) n (-1)) M R A := ⟨_, rfl⟩
  have gdef : ∀ s W, g s W = if bs s W = true then R (sd A W) else 0 := fun s W => by rw [eg, ebs]; rfl
  have bsu : ∀ s W, bs s W = true → A.testBit s = true ∧ ¬ W.testBit s = true ∧ 0 < W ∧ sub W A := fun s W q => by
    rw [ebs] at q
    obtain ⟨c1, c2, c3, c4, -⟩ := cd_iff.mp (bs_iff.mp q).1
    exact ⟨c1, c2, c3, c4⟩
  have hrd : ∀ {x z w : Nat}, Sh (st3 σ A (nI x) (nI z) (nI w)) ∧ cur (st3 σ A (nI x) (nI z) (nI w)) = cur σ ∧ pI (st3 σ A (nI x) (nI z) (nI w)) 35 0 = nI n ∧ (∀ W, W < 2 ^ n → pI (st3 σ A (nI x) (nI z) (nI w)) 49 W = lnI (lnR (cur σ) n W)) ∧ (∀ B, B < 2 ^ n → pI (st3 σ A (nI x) (nI z) (nI w)) 50 B = nI (M B) ∧ M B ≤ 1000000) := by
    intro x z w
    have hOD := st3_OD OD_rfl (σ := σ) A (nI x) (nI z) (nI w)
    have hF := OD_Fr hOD
    exact ⟨Fr_Sh hF hS, Fr_cur hF, by rw [st3_I _ _ _ _ _ (by omega)]; exact hn, fun W hW => by rw [st3_I _ _ _ _ _ (by omega)]; exact h49 W hW, fun B hB => by rw [st3_I _ _ _ _ _ (by omega)]; exact h50 B hB⟩
  have hin : ∀ s, s < n → ∀ r, r < 256 → (∀ W, bs s W = true → sub W r) → (∀ w, 0 < w → sub w r → A.testBit s = true ∧ ¬ w.testBit s = true ∧ sub w A) → ∀ x z w5, Mo bs S Bt A (fun s' _ => s' < s) x z → ∃ q t, sLoop (cZ0 qGt (eLi 4)) (sSeq (sIf (cZ0 qNe (eCall (pm_disp (tb1 12 D_X12_isBest)) (aC (eLa 0) (aC (eLi 1) (aC (eLi 2) (aC (eLi 4) (aN))))))) (sSeq (sSi 5 (eB f_iand (eLi 1) (eB f_ixor (eLi 4) (eK (.int (-1)))))) (sSeq (sAI (eG (is 12) 3 28 (eLa 0)) (eLi 1) (eC (cI qLt (eB f_iadd (eK (.int 1)) (eAI (eG (is 12) 3 28 (eLa 0)) (eLi 5))) (eAI (eG (is 12) 3 28 (eLa 0)) (eLi 1))) (eB f_iadd (eK (.int 1)) (eAI (eG (is 12) 3 28 (eLa 0)) (eLi 5))) (eAI (eG (is 12) 3 28 (eLa 0)) (eLi 1)))) (sSeq (sUA f_ior (eG (is 12) 3 29 (eLa 0)) (eLi 1) (eAI (eG (is 12) 3 29 (eLa 0)) (eLi 5))) (sAI (eG (is 12) 3 30 (eLa 0)) (eLi 1) (eC (cI qGt (eB f_iadd (eAI (eG (is 12) 3 30 (eLa 0)) (eLi 1)) (eAI (eG (is 12) 3 30 (eLa 0)) (eLi 5))) (eK (.int 1000000))) (eK (.int 1000000)) (eB f_iadd (eAI (eG (is 12) 3 30 (eLa 0)) (eLi 1)) (eAI (eG (is 12) 3 30 (eLa 0)) (eLi 5)))))))) sSkip) (sSi 4 (eB f_iand (eB f_isub (eLi 4) (eK (.int 1))) (eLi 3)))) [.ref 35, .int (nI A), .int (nI s), .int (nI r), .int (nI r), w5] (st3 σ A (nI x) (nI z) (nI (min 1000000 (sumN (fun s => sumN (g s) 256) s)))) = some (q, t) ∧ (∃ x' z' w5, Mo bs S Bt A (fun s' _ => s' < s + 1) x' z' ∧ t = st3 σ A (nI x') (nI z') (nI (min 1000000 (sumN (fun s => sumN (g s) 256) (s + 1)))) ∧ q = .inl [.ref 35, .int (nI A), .int (nI s), .int (nI r), .int (nI 0), w5]) := by
    intro s hs r hr8 hbr hwr x z w5 hMo
    have g0 : g s 0 = 0 := by rw [gdef, if_neg (fun q => by have := (bsu s 0 q).2.2.1; omega)]
    refine loop_gen (fun k env t => ∃ x z w w5, k + w ≤ 256 ∧ sub w r ∧ Mo bs S Bt A (fun s' W => s' < s ∨ (s' = s ∧ w < W)) x z ∧ t = st3 σ A (nI x) (nI z) (nI (min 1000000 (sumN (fun s => sumN (g s) 256) s + tl (g s) w))) ∧ env = [.ref 35, .int (nI A), .int (nI s), .int (nI r), .int (nI w), w5]) _ 256 (by decide) ⟨x, z, r, w5, by omega, sub_rfl _, Mo_ext hMo (fun s' W q => ⟨fun c => Or.inl c, fun c => c.elim (fun c => c) (fun c => ?_)⟩), ?_, rfl⟩ ?_
    · obtain ⟨rfl, c⟩ := c
      have := sub_le (hbr W q)
      omega
    · rw [tl_top (fun W hW => ?_), Nat.add_zero]
      rw [gdef, if_neg]
      intro q
      have := sub_le (hbr W q)
      omega
    rintro k env t hk ⟨x, z, w, w5, hkw, hw, hMo, rfl, rfl⟩
    have hw8 : w < 256 := by have := sub_le hw; omega
    have hgt : (0 < nI w) = (0 < w) := by have := nI_lt' (a := 0) (b := w) (by decide) (by omega); rw [nI_0] at this; exact this
    obtain ⟨hS1, hc1, hn1, h491, h501⟩ := hrd (x := x) (z := z) (w := min 1000000 (sumN (fun s => sumN (g s) 256) s + tl (g s) w))
    obtain ⟨cw, ecw⟩ : ∃ cw, cw = min 1000000 (sumN (fun s => sumN (g s) 256) s + tl (g s) w) := ⟨_, rfl⟩
    rw [← ecw] at hS1 hc1 hn1 h491 h501 ⊢
    by_cases e : 0 < w
    · left
      obtain ⟨n1, n2, n3, n4⟩ := sm_next hr8 hw e
      obtain ⟨hAs, hws, hwA⟩ := hwr w e hw
      have hwn : w < 2 ^ n := by have := sub_le hwA; omega
      have hsd := sd_lt' e hwA
      have hs8 := sd_lt256 (W := w) hA8
      have hbest := d_isBest hS1 (by rw [hc1]; exact hm) hA (by rw [hc1]; exact h491) h501 hs hAs hws e hwA
      rw [hc1] at hbest
      have hbest2 : D_X12_isBest [.ref 35, .int (nI A), .int (nI s), .int (nI w)] (st3 σ A (nI x) (nI z) (nI cw)) = some (some (.int (b32 (bs s w = true))), st3 σ A (nI x) (nI z) (nI cw)) := by rw [ebs]; exact hbest
      have htl : tl (g s) ((w - 1) &&& r) = tl (g s) w + g s w := tl_step hw8 n2 (fun W q1 q2 => by
        rw [gdef, if_neg]
        intro q
        have := n4 W (hbr W q) q2
        omega)
      have hseen : ∀ s' W, bs s' W = true → ((s' < s ∨ (s' = s ∧ (w - 1) &&& r < W)) ↔ ((s' < s ∨ (s' = s ∧ w < W)) ∨ (s' = s ∧ W = w))) := fun s' W q => by
        constructor
        · rintro (c | ⟨rfl, c⟩)
          · exact Or.inl (Or.inl c)
          · by_cases d : w < W
            · exact Or.inl (Or.inr ⟨rfl, d⟩)
            · by_cases d2 : W = w
              · exact Or.inr ⟨rfl, d2⟩
              · have := n4 W (hbr W q) (by omega); omega
        · rintro ((c | ⟨rfl, c⟩) | ⟨rfl, rfl⟩)
          · exact Or.inl c
          · exact Or.inr ⟨rfl, by omega⟩
          · exact Or.inr ⟨rfl, n2⟩
      have hibs := ib_nI hs8 (show (256 : Nat) ≤ 1000000 by decide)
      have hcls := nI_cl (show sd A w < 2147483648 by omega)
      have hibA := ib_nI hA8 (show (256 : Nat) ≤ 1000000 by decide)
      have hclA := nI_cl (show A < 2147483648 by omega)
      by_cases hb : bs s w = true
      · obtain ⟨⟨a1, a2⟩, ⟨a3, a4⟩, ⟨a5, a6⟩⟩ := hT (sd A w) hsd
        obtain ⟨o1, -, -, o4, -⟩ := id hMo
        have hcw : cw ≤ 1000000 := by rw [ecw]; omega
        have r51 : ∀ {x z c : Int32}, pI (st3 σ A x z c) 51 (sd A w) = nI (S (sd A w)) := fun {x z c} => by rw [st3_I _ _ _ _ _ (by omega)]; exact a1
        have r52 : ∀ {x z c : Int32}, pI (st3 σ A x z c) 52 (sd A w) = nI (Bt (sd A w)) := fun {x z c} => by rw [st3_I _ _ _ _ _ (by omega)]; exact a3
        have r53 : ∀ {x z c : Int32}, pI (st3 σ A x z c) 53 (sd A w) = nI (R (sd A w)) := fun {x z c} => by rw [st3_I _ _ _ _ _ (by omega)]; exact a5
        have v51 : ∀ {x z c : Int32}, pI (st3 σ A x z c) 51 A = x := fun {x z c} => (st3_a σ A x z c).1
        have v52 : ∀ {x z c : Int32}, pI (st3 σ A x z c) 52 A = z := fun {x z c} => (st3_a σ A x z c).2.1
        have v53 : ∀ {x z c : Int32}, pI (st3 σ A x z c) 53 A = c := fun {x z c} => (st3_a σ A x z c).2.2
        have sT : ∀ {x z c : Int32}, Sh (st3 σ A x z c) := fun {x z c} => hS
        have e1 : (1 : Int32) + nI (S (sd A w)) = nI (1 + S (sd A w)) := nI_ad 1 _
        have lt1 : (nI (1 + S (sd A w)) < nI x) = (1 + S (sd A w) < x) := nI_lt' (by omega) (by omega)
        have gt1 : (1000000 < nI (cw + R (sd A w))) = (1000000 < cw + R (sd A w)) := nI_lt' (a := 1000000) (by decide) (by omega)
        have ew : min 1000000 (sumN (fun s => sumN (g s) 256) s + tl (g s) ((w - 1) &&& r)) = if 1000000 < cw + R (sd A w) then 1000000 else cw + R (sd A w) := by
          rw [htl, gdef, if_pos hb, ecw]
          split <;> omega
        have hb1 : (b32 (bs s w = true) = 0) = False := eq_false (by rw [b32_t hb]; decide)
        refine ⟨[.ref 35, .int (nI A), .int (nI s), .int (nI r), .int (nI ((w - 1) &&& r)), .int (nI (sd A w))], st3 σ A (nI (if 1 + S (sd A w) < x then 1 + S (sd A w) else x)) (nI (z ||| Bt (sd A w))) (nI (if 1000000 < cw + R (sd A w) then 1000000 else cw + R (sd A w))), ?_, by omega, _, _, _, _, by omega, n3, Mo_add hMo hb a4 hseen, by rw [ew], rfl⟩
        by_cases c1 : 1 + S (sd A w) < x
        · rw [if_pos c1]
          by_cases c2 : 1000000 < cw + R (sd A w)
          · rw [if_pos c2]
            have hM : nI 1000000 = 1000000 := rfl
            simp only [lpStep, ↓rE_eK, ↓rE_eLi, ↓rE_eLj, ↓rE_eLa, ↓rE_eU, ↓rE_eB, ↓rE_eG, ↓rE_eIF, ↓rE_eAI, ↓rE_eAX, ↓rE_eAJ, ↓rE_eAR, ↓rE_eLen, ↓rE_eSI, ↓rE_eC, ↓rE_eCall, ↓rE_eNew, ↓rE_eNewA, ↓rE_eInst, ↓rC_cI, ↓rC_cZ0, ↓rC_cN, ↓rC_cNot, ↓rC_cAnd, ↓rC_cOr, ↓rA_aN, ↓rA_aC, ↓rS_sP, ↓rS_sUF, ↓rS_sAI, ↓rS_sAJ, ↓rS_sAR, ↓rS_sUA, ↓rS_sCall, ↓rS_sObj, ↓rS_sSi, ↓rS_sSa, ↓rS_sSj, ↓rS_sInc, ↓rS_sSkip, ↓rS_sSeq, ↓rS_sIf, ↓rS_sRetI, ↓rS_sRetJ, ↓rS_sRetA, ↓rS_sRetV, ↓rS_sSw, ↓rD_meth, ↓rD_on, ↓kR_ref, ↓kI_int, ↓kJ_long, ↓kN_null, ↓kN_ref, ↓kN_rf, ↓kQ_ref, ↓kQ_null, ↓kQ_rf, o1_i, o1ij_i, o1ji_i, o2_i, o2d_i, o2j_i, o2ji_i, o2c_i, fv_0, fv_1, fv_2, fv_3, pf_0, pf_2, pf_3, pf_4, rf_s, rf_n, is_self, ge_0, ge_s, ge_n, gd_s, gd_n, se_0, se_s, ag_0, ex_n, ex_i, ex_r, ex_0, ex_j, ex_q, ap_c, ap_n, List.append_nil, ln_c, ln_n, rp_0, rp_s, rt_0, rt_1, rt_20, rt_21, rt_2, rt_3, rt_4, rt_4n, rt_4q, nl_0, nl_1, nl_2, nl_3, nl_4, nl_5, nl_6, nl_7, nl_8, nl_9, nlB_i, nlB_r, nlB_n, nlB_f, nlB_q, ↓reduceIte, reduceCtorEq, Nat.reduceAdd, Nat.reduceSub, Nat.reduceEqDiff, Nat.reduceLeDiff, Nat.reduceBEq, ite_true, ite_false, dt_t, Bool.not_true, Bool.not_false, Bool.false_eq_true, Nat.le_refl, true_and, and_true, true_or, or_true, false_or, or_false, false_and, and_false, qEq, qNe, qLt, qGe, qGt, qLe, hgt, e, sT_35 sT, rD_tb1 (sT_35 sT), rD_of hbest2, hb1, not_false_eq_true, nI_sdx, sR_35_28 sT, sR_35_29 sT, sR_35_30 sT, sT_51 sT, sT_52 sT, sT_53 sT, sL_51 sT, sL_52 sT, sL_53 sT, hibs, hcls, hibA, hclA, r51, v51, e1, lt1, c1, st3_51, r52, v52, nI_or, st3_52, r53, v53, nI_ad, gt1, c2, st3_53, n1, hM]
          · rw [if_neg c2]
            simp only [lpStep, ↓rE_eK, ↓rE_eLi, ↓rE_eLj, ↓rE_eLa, ↓rE_eU, ↓rE_eB, ↓rE_eG, ↓rE_eIF, ↓rE_eAI, ↓rE_eAX, ↓rE_eAJ, ↓rE_eAR, ↓rE_eLen, ↓rE_eSI, ↓rE_eC, ↓rE_eCall, ↓rE_eNew, ↓rE_eNewA, ↓rE_eInst, ↓rC_cI, ↓rC_cZ0, ↓rC_cN, ↓rC_cNot, ↓rC_cAnd, ↓rC_cOr, ↓rA_aN, ↓rA_aC, ↓rS_sP, ↓rS_sUF, ↓rS_sAI, ↓rS_sAJ, ↓rS_sAR, ↓rS_sUA, ↓rS_sCall, ↓rS_sObj, ↓rS_sSi, ↓rS_sSa, ↓rS_sSj, ↓rS_sInc, ↓rS_sSkip, ↓rS_sSeq, ↓rS_sIf, ↓rS_sRetI, ↓rS_sRetJ, ↓rS_sRetA, ↓rS_sRetV, ↓rS_sSw, ↓rD_meth, ↓rD_on, ↓kR_ref, ↓kI_int, ↓kJ_long, ↓kN_null, ↓kN_ref, ↓kN_rf, ↓kQ_ref, ↓kQ_null, ↓kQ_rf, o1_i, o1ij_i, o1ji_i, o2_i, o2d_i, o2j_i, o2ji_i, o2c_i, fv_0, fv_1, fv_2, fv_3, pf_0, pf_2, pf_3, pf_4, rf_s, rf_n, is_self, ge_0, ge_s, ge_n, gd_s, gd_n, se_0, se_s, ag_0, ex_n, ex_i, ex_r, ex_0, ex_j, ex_q, ap_c, ap_n, List.append_nil, ln_c, ln_n, rp_0, rp_s, rt_0, rt_1, rt_20, rt_21, rt_2, rt_3, rt_4, rt_4n, rt_4q, nl_0, nl_1, nl_2, nl_3, nl_4, nl_5, nl_6, nl_7, nl_8, nl_9, nlB_i, nlB_r, nlB_n, nlB_f, nlB_q, ↓reduceIte, reduceCtorEq, Nat.reduceAdd, Nat.reduceSub, Nat.reduceEqDiff, Nat.reduceLeDiff, Nat.reduceBEq, ite_true, ite_false, dt_t, Bool.not_true, Bool.not_false, Bool.false_eq_true, Nat.le_refl, true_and, and_true, true_or, or_true, false_or, or_false, false_and, and_false, qEq, qNe, qLt, qGe, qGt, qLe, hgt, e, sT_35 sT, rD_tb1 (sT_35 sT), rD_of hbest2, hb1, not_false_eq_true, nI_sdx, sR_35_28 sT, sR_35_29 sT, sR_35_30 sT, sT_51 sT, sT_52 sT, sT_53 sT, sL_51 sT, sL_52 sT, sL_53 sT, hibs, hcls, hibA, hclA, r51, v51, e1, lt1, c1, st3_51, r52, v52, nI_or, st3_52, r53, v53, nI_ad, gt1, c2, st3_53, n1]
        · rw [if_neg c1]
          by_cases c2 : 1000000 < cw + R (sd A w)
          · rw [if_pos c2]
            have hM : nI 1000000 = 1000000 := rfl
            simp only [lpStep, ↓rE_eK, ↓rE_eLi, ↓rE_eLj, ↓rE_eLa, ↓rE_eU, ↓rE_eB, ↓rE_eG, ↓rE_eIF, ↓rE_eAI, ↓rE_eAX, ↓rE_eAJ, ↓rE_eAR, ↓rE_eLen, ↓rE_eSI, ↓rE_eC, ↓rE_eCall, ↓rE_eNew, ↓rE_eNewA, ↓rE_eInst, ↓rC_cI, ↓rC_cZ0, ↓rC_cN, ↓rC_cNot, ↓rC_cAnd, ↓rC_cOr, ↓rA_aN, ↓rA_aC, ↓rS_sP, ↓rS_sUF, ↓rS_sAI, ↓rS_sAJ, ↓rS_sAR, ↓rS_sUA, ↓rS_sCall, ↓rS_sObj, ↓rS_sSi, ↓rS_sSa, ↓rS_sSj, ↓rS_sInc, ↓rS_sSkip, ↓rS_sSeq, ↓rS_sIf, ↓rS_sRetI, ↓rS_sRetJ, ↓rS_sRetA, ↓rS_sRetV, ↓rS_sSw, ↓rD_meth, ↓rD_on, ↓kR_ref, ↓kI_int, ↓kJ_long, ↓kN_null, ↓kN_ref, ↓kN_rf, ↓kQ_ref, ↓kQ_null, ↓kQ_rf, o1_i, o1ij_i, o1ji_i, o2_i, o2d_i, o2j_i, o2ji_i, o2c_i, fv_0, fv_1, fv_2, fv_3, pf_0, pf_2, pf_3, pf_4, rf_s, rf_n, is_self, ge_0, ge_s, ge_n, gd_s, gd_n, se_0, se_s, ag_0, ex_n, ex_i, ex_r, ex_0, ex_j, ex_q, ap_c, ap_n, List.append_nil, ln_c, ln_n, rp_0, rp_s, rt_0, rt_1, rt_20, rt_21, rt_2, rt_3, rt_4, rt_4n, rt_4q, nl_0, nl_1, nl_2, nl_3, nl_4, nl_5, nl_6, nl_7, nl_8, nl_9, nlB_i, nlB_r, nlB_n, nlB_f, nlB_q, ↓reduceIte, reduceCtorEq, Nat.reduceAdd, Nat.reduceSub, Nat.reduceEqDiff, Nat.reduceLeDiff, Nat.reduceBEq, ite_true, ite_false, dt_t, Bool.not_true, Bool.not_false, Bool.false_eq_true, Nat.le_refl, true_and, and_true, true_or, or_true, false_or, or_false, false_and, and_false, qEq, qNe, qLt, qGe, qGt, qLe, hgt, e, sT_35 sT, rD_tb1 (sT_35 sT), rD_of hbest2, hb1, not_false_eq_true, nI_sdx, sR_35_28 sT, sR_35_29 sT, sR_35_30 sT, sT_51 sT, sT_52 sT, sT_53 sT, sL_51 sT, sL_52 sT, sL_53 sT, hibs, hcls, hibA, hclA, r51, v51, e1, lt1, c1, st3_51, r52, v52, nI_or, st3_52, r53, v53, nI_ad, gt1, c2, st3_53, n1, hM]
          · rw [if_neg c2]
            simp only [lpStep, ↓rE_eK, ↓rE_eLi, ↓rE_eLj, ↓rE_eLa, ↓rE_eU, ↓rE_eB, ↓rE_eG, ↓rE_eIF, ↓rE_eAI, ↓rE_eAX, ↓rE_eAJ, ↓rE_eAR, ↓rE_eLen, ↓rE_eSI, ↓rE_eC, ↓rE_eCall, ↓rE_eNew, ↓rE_eNewA, ↓rE_eInst, ↓rC_cI, ↓rC_cZ0, ↓rC_cN, ↓rC_cNot, ↓rC_cAnd, ↓rC_cOr, ↓rA_aN, ↓rA_aC, ↓rS_sP, ↓rS_sUF, ↓rS_sAI, ↓rS_sAJ, ↓rS_sAR, ↓rS_sUA, ↓rS_sCall, ↓rS_sObj, ↓rS_sSi, ↓rS_sSa, ↓rS_sSj, ↓rS_sInc, ↓rS_sSkip, ↓rS_sSeq, ↓rS_sIf, ↓rS_sRetI, ↓rS_sRetJ, ↓rS_sRetA, ↓rS_sRetV, ↓rS_sSw, ↓rD_meth, ↓rD_on, ↓kR_ref, ↓kI_int, ↓kJ_long, ↓kN_null, ↓kN_ref, ↓kN_rf, ↓kQ_ref, ↓kQ_null, ↓kQ_rf, o1_i, o1ij_i, o1ji_i, o2_i, o2d_i, o2j_i, o2ji_i, o2c_i, fv_0, fv_1, fv_2, fv_3, pf_0, pf_2, pf_3, pf_4, rf_s, rf_n, is_self, ge_0, ge_s, ge_n, gd_s, gd_n, se_0, se_s, ag_0, ex_n, ex_i, ex_r, ex_0, ex_j, ex_q, ap_c, ap_n, List.append_nil, ln_c, ln_n, rp_0, rp_s, rt_0, rt_1, rt_20, rt_21, rt_2, rt_3, rt_4, rt_4n, rt_4q, nl_0, nl_1, nl_2, nl_3, nl_4, nl_5, nl_6, nl_7, nl_8, nl_9, nlB_i, nlB_r, nlB_n, nlB_f, nlB_q, ↓reduceIte, reduceCtorEq, Nat.reduceAdd, Nat.reduceSub, Nat.reduceEqDiff, Nat.reduceLeDiff, Nat.reduceBEq, ite_true, ite_false, dt_t, Bool.not_true, Bool.not_false, Bool.false_eq_true, Nat.le_refl, true_and, and_true, true_or, or_true, false_or, or_false, false_and, and_false, qEq, qNe, qLt, qGe, qGt, qLe, hgt, e, sT_35 sT, rD_tb1 (sT_35 sT), rD_of hbest2, hb1, not_false_eq_true, nI_sdx, sR_35_28 sT, sR_35_29 sT, sR_35_30 sT, sT_51 sT, sT_52 sT, sT_53 sT, sL_51 sT, sL_52 sT, sL_53 sT, hibs, hcls, hibA, hclA, r51, v51, e1, lt1, c1, st3_51, r52, v52, nI_or, st3_52, r53, v53, nI_ad, gt1, c2, st3_53, n1]
      · have hb0 : (b32 (bs s w = true) = 0) = True := eq_true (b32_f hb)
        refine ⟨[.ref 35, .int (nI A), .int (nI s), .int (nI r), .int (nI ((w - 1) &&& r)), w5], st3 σ A (nI x) (nI z) (nI cw), ?_, by omega, x, z, (w - 1) &&& r, w5, by omega, n3, Mo_ext hMo (fun s' W q => ?_), by rw [htl, gdef, if_neg hb, Nat.add_zero, ecw], rfl⟩
        · simp only [lpStep, ↓rE_eK, ↓rE_eLi, ↓rE_eLj, ↓rE_eLa, ↓rE_eU, ↓rE_eB, ↓rE_eG, ↓rE_eIF, ↓rE_eAI, ↓rE_eAX, ↓rE_eAJ, ↓rE_eAR, ↓rE_eLen, ↓rE_eSI, ↓rE_eC, ↓rE_eCall, ↓rE_eNew, ↓rE_eNewA, ↓rE_eInst, ↓rC_cI, ↓rC_cZ0, ↓rC_cN, ↓rC_cNot, ↓rC_cAnd, ↓rC_cOr, ↓rA_aN, ↓rA_aC, ↓rS_sP, ↓rS_sUF, ↓rS_sAI, ↓rS_sAJ, ↓rS_sAR, ↓rS_sUA, ↓rS_sCall, ↓rS_sObj, ↓rS_sSi, ↓rS_sSa, ↓rS_sSj, ↓rS_sInc, ↓rS_sSkip, ↓rS_sSeq, ↓rS_sIf, ↓rS_sRetI, ↓rS_sRetJ, ↓rS_sRetA, ↓rS_sRetV, ↓rS_sSw, ↓rD_meth, ↓rD_on, ↓kR_ref, ↓kI_int, ↓kJ_long, ↓kN_null, ↓kN_ref, ↓kN_rf, ↓kQ_ref, ↓kQ_null, ↓kQ_rf, o1_i, o1ij_i, o1ji_i, o2_i, o2d_i, o2j_i, o2ji_i, o2c_i, fv_0, fv_1, fv_2, fv_3, pf_0, pf_2, pf_3, pf_4, rf_s, rf_n, is_self, ge_0, ge_s, ge_n, gd_s, gd_n, se_0, se_s, ag_0, ex_n, ex_i, ex_r, ex_0, ex_j, ex_q, ap_c, ap_n, List.append_nil, ln_c, ln_n, rp_0, rp_s, rt_0, rt_1, rt_20, rt_21, rt_2, rt_3, rt_4, rt_4n, rt_4q, nl_0, nl_1, nl_2, nl_3, nl_4, nl_5, nl_6, nl_7, nl_8, nl_9, nlB_i, nlB_r, nlB_n, nlB_f, nlB_q, ↓reduceIte, reduceCtorEq, Nat.reduceAdd, Nat.reduceSub, Nat.reduceEqDiff, Nat.reduceLeDiff, Nat.reduceBEq, ite_true, ite_false, dt_t, Bool.not_true, Bool.not_false, Bool.false_eq_true, Nat.le_refl, true_and, and_true, true_or, or_true, false_or, or_false, false_and, and_false, qEq, qNe, qLt, qGe, qGt, qLe, hgt, e, rD_tb1 (sT_35 hS1), rD_of hbest2, hb0, not_true, n1]
        · rw [hseen s' W q]
          constructor
          · exact fun c => Or.inl c
          · rintro (c | ⟨rfl, rfl⟩)
            · exact c
            · exact absurd q hb
    · right
      have hw0 : w = 0 := by omega
      subst hw0
      refine ⟨_, st3 σ A (nI x) (nI z) (nI cw), ?_, x, z, w5, Mo_ext hMo (fun s' W q => ?_), by rw [ecw, tl_0 g0]; rfl, rfl⟩
      · simp only [lpStep, ↓rE_eK, ↓rE_eLi, ↓rE_eLj, ↓rE_eLa, ↓rE_eU, ↓rE_eB, ↓rE_eG, ↓rE_eIF, ↓rE_eAI, ↓rE_eAX, ↓rE_eAJ, ↓rE_eAR, ↓rE_eLen, ↓rE_eSI, ↓rE_eC, ↓rE_eCall, ↓rE_eNew, ↓rE_eNewA, ↓rE_eInst, ↓rC_cI, ↓rC_cZ0, ↓rC_cN, ↓rC_cNot, ↓rC_cAnd, ↓rC_cOr, ↓rA_aN, ↓rA_aC, ↓rS_sP, ↓rS_sUF, ↓rS_sAI, ↓rS_sAJ, ↓rS_sAR, ↓rS_sUA, ↓rS_sCall, ↓rS_sObj, ↓rS_sSi, ↓rS_sSa, ↓rS_sSj, ↓rS_sInc, ↓rS_sSkip, ↓rS_sSeq, ↓rS_sIf, ↓rS_sRetI, ↓rS_sRetJ, ↓rS_sRetA, ↓rS_sRetV, ↓rS_sSw, ↓rD_meth, ↓rD_on, ↓kR_ref, ↓kI_int, ↓kJ_long, ↓kN_null, ↓kN_ref, ↓kN_rf, ↓kQ_ref, ↓kQ_null, ↓kQ_rf, o1_i, o1ij_i, o1ji_i, o2_i, o2d_i, o2j_i, o2ji_i, o2c_i, fv_0, fv_1, fv_2, fv_3, pf_0, pf_2, pf_3, pf_4, rf_s, rf_n, is_self, ge_0, ge_s, ge_n, gd_s, gd_n, se_0, se_s, ag_0, ex_n, ex_i, ex_r, ex_0, ex_j, ex_q, ap_c, ap_n, List.append_nil, ln_c, ln_n, rp_0, rp_s, rt_0, rt_1, rt_20, rt_21, rt_2, rt_3, rt_4, rt_4n, rt_4q, nl_0, nl_1, nl_2, nl_3, nl_4, nl_5, nl_6, nl_7, nl_8, nl_9, nlB_i, nlB_r, nlB_n, nlB_f, nlB_q, ↓reduceIte, reduceCtorEq, Nat.reduceAdd, Nat.reduceSub, Nat.reduceEqDiff, Nat.reduceLeDiff, Nat.reduceBEq, ite_true, ite_false, dt_t, Bool.not_true, Bool.not_false, Bool.false_eq_true, Nat.le_refl, true_and, and_true, true_or, or_true, false_or, or_false, false_and, and_false, qEq, qNe, qLt, qGe, qGt, qLe, hgt, Nat.lt_irrefl]
      · have := (bsu s' W q).2.2.1
        constructor
        · rintro (c | ⟨rfl, -⟩) <;> omega
        · intro c
          by_cases d : s' < s
          · exact Or.inl d
          · exact Or.inr ⟨by omega, this⟩
  have hl : ∃ q t, sLoop (cI qLt (eLi 2) (eG (is 12) 0 0 (eLa 0))) (sSeq (sSeq (sSi 3 (eC (cZ0 qNe (eCall D_X12_has (aC (eLi 1) (aC (eLi 2) (aN))))) (eB f_iand (eLi 1) (eB f_ixor (eB f_ishl (eK (.int 1)) (eLi 2)) (eK (.int (-1))))) (eK (.int 0)))) (sSeq (sSi 4 (eLi 3)) (sLoop (cZ0 qGt (eLi 4)) (sSeq (sIf (cZ0 qNe (eCall (pm_disp (tb1 12 D_X12_isBest)) (aC (eLa 0) (aC (eLi 1) (aC (eLi 2) (aC (eLi 4) (aN))))))) (sSeq (sSi 5 (eB f_iand (eLi 1) (eB f_ixor (eLi 4) (eK (.int (-1)))))) (sSeq (sAI (eG (is 12) 3 28 (eLa 0)) (eLi 1) (eC (cI qLt (eB f_iadd (eK (.int 1)) (eAI (eG (is 12) 3 28 (eLa 0)) (eLi 5))) (eAI (eG (is 12) 3 28 (eLa 0)) (eLi 1))) (eB f_iadd (eK (.int 1)) (eAI (eG (is 12) 3 28 (eLa 0)) (eLi 5))) (eAI (eG (is 12) 3 28 (eLa 0)) (eLi 1)))) (sSeq (sUA f_ior (eG (is 12) 3 29 (eLa 0)) (eLi 1) (eAI (eG (is 12) 3 29 (eLa 0)) (eLi 5))) (sAI (eG (is 12) 3 30 (eLa 0)) (eLi 1) (eC (cI qGt (eB f_iadd (eAI (eG (is 12) 3 30 (eLa 0)) (eLi 1)) (eAI (eG (is 12) 3 30 (eLa 0)) (eLi 5))) (eK (.int 1000000))) (eK (.int 1000000)) (eB f_iadd (eAI (eG (is 12) 3 30 (eLa 0)) (eLi 1)) (eAI (eG (is 12) 3 30 (eLa 0)) (eLi 5)))))))) sSkip) (sSi 4 (eB f_iand (eB f_isub (eLi 4) (eK (.int 1))) (eLi 3))))))) (sInc 2 1)) [.ref 35, .int (nI A), .int 0, .float 0, .float 0, .float 0] (st3 σ A (nI 1000000) (nI 0) (nI 0)) = some (q, t) ∧ (∃ x z w3 w4 w5, Mo bs S Bt A (fun s' _ => s' < n) x z ∧ t = st3 σ A (nI x) (nI z) (nI (min 1000000 (sumN (fun s => sumN (g s) 256) n))) ∧ q = .inl [.ref 35, .int (nI A), .int (nI n), w3, w4, w5]) := by
    refine loop_gen (fun s env t => ∃ x z w3 w4 w5, nlB (some w3) = true ∧ nlB (some w4) = true ∧ Mo bs S Bt A (fun s' _ => s' < s) x z ∧ t = st3 σ A (nI x) (nI z) (nI (min 1000000 (sumN (fun s => sumN (g s) 256) s))) ∧ env = [.ref 35, .int (nI A), .int (nI s), w3, w4, w5]) _ n (by omega) ⟨1000000, 0, .float 0, .float 0, .float 0, rfl, rfl, ⟨Nat.le_refl _, fun s W q => by omega, Or.inl rfl, by decide, fun p => ⟨fun q => (by rw [Nat.zero_testBit] at q; exact absurd q (by decide)), fun ⟨s, W, q, _⟩ => (by omega)⟩⟩, rfl, by rw [nI_0]⟩ ?_
    rintro s env t hs ⟨x, z, w3, w4, w5, hw3, hw4, hMo, rfl, rfl⟩
    obtain ⟨hS1, hc1, hn1, h491, h501⟩ := hrd (x := x) (z := z) (w := min 1000000 (sumN (fun s => sumN (g s) 256) s))
    by_cases e : s < n
    · left
      have hlt : nI s < nI n := by rw [nI_lt' (by omega) (by omega)]; exact e
      have hb := bt_nI hA8 (show s < 8 by omega)
      have h01 : ¬ (0 : Int32) = 1 := by decide
      by_cases hAs : A.testBit s = true
      · rw [if_pos hAs] at hb
        obtain ⟨q, t', q1, x', z', v5, hMo', rfl, rfl⟩ := hin s e (sd A (2 ^ s)) (sd_lt256 hA8) (fun W q => by obtain ⟨-, c2, -, c4⟩ := bsu s W q; exact sub_sd_pow.mpr ⟨c4, c2⟩) (fun w _ hw => by obtain ⟨c1, c2⟩ := sub_sd_pow.mp hw; exact ⟨hAs, c2, c1⟩) x z w5 hMo
        refine ⟨[.ref 35, .int (nI A), .int (nI (s + 1)), .int (nI (sd A (2 ^ s))), .int (nI 0), v5], _, ?_, e, x', z', _, _, _, nlB_i, nlB_i, hMo', rfl, rfl⟩
        simp only [lpStep, ↓rE_eK, ↓rE_eLi, ↓rE_eLj, ↓rE_eLa, ↓rE_eU, ↓rE_eB, ↓rE_eG, ↓rE_eIF, ↓rE_eAI, ↓rE_eAX, ↓rE_eAJ, ↓rE_eAR, ↓rE_eLen, ↓rE_eSI, ↓rE_eC, ↓rE_eCall, ↓rE_eNew, ↓rE_eNewA, ↓rE_eInst, ↓rC_cI, ↓rC_cZ0, ↓rC_cN, ↓rC_cNot, ↓rC_cAnd, ↓rC_cOr, ↓rA_aN, ↓rA_aC, ↓rS_sP, ↓rS_sUF, ↓rS_sAI, ↓rS_sAJ, ↓rS_sAR, ↓rS_sUA, ↓rS_sCall, ↓rS_sObj, ↓rS_sSi, ↓rS_sSa, ↓rS_sSj, ↓rS_sInc, ↓rS_sSkip, ↓rS_sSeq, ↓rS_sIf, ↓rS_sRetI, ↓rS_sRetJ, ↓rS_sRetA, ↓rS_sRetV, ↓rS_sSw, ↓rD_meth, ↓rD_on, ↓kR_ref, ↓kI_int, ↓kJ_long, ↓kN_null, ↓kN_ref, ↓kN_rf, ↓kQ_ref, ↓kQ_null, ↓kQ_rf, o1_i, o1ij_i, o1ji_i, o2_i, o2d_i, o2j_i, o2ji_i, o2c_i, fv_0, fv_1, fv_2, fv_3, pf_0, pf_2, pf_3, pf_4, rf_s, rf_n, is_self, ge_0, ge_s, ge_n, gd_s, gd_n, se_0, se_s, ag_0, ex_n, ex_i, ex_r, ex_0, ex_j, ex_q, ap_c, ap_n, List.append_nil, ln_c, ln_n, rp_0, rp_s, rt_0, rt_1, rt_20, rt_21, rt_2, rt_3, rt_4, rt_4n, rt_4q, nl_0, nl_1, nl_2, nl_3, nl_4, nl_5, nl_6, nl_7, nl_8, nl_9, nlB_i, nlB_r, nlB_n, nlB_f, nlB_q, ↓reduceIte, reduceCtorEq, Nat.reduceAdd, Nat.reduceSub, Nat.reduceEqDiff, Nat.reduceLeDiff, Nat.reduceBEq, ite_true, ite_false, dt_t, Bool.not_true, Bool.not_false, Bool.false_eq_true, Nat.le_refl, true_and, and_true, true_or, or_true, false_or, or_false, false_and, and_false, qEq, qNe, qLt, qGe, qGt, qLe, sT_35 hS1, sT_36 hS1, sT_37 hS1, sT_38 hS1, sT_39 hS1, sT_40 hS1, sT_41 hS1, sT_42 hS1, sT_43 hS1, sT_44 hS1, sT_45 hS1, sT_46 hS1, sT_47 hS1, sT_48 hS1, sT_49 hS1, sT_50 hS1, sT_51 hS1, sT_52 hS1, sT_53 hS1, sT_54 hS1, sT_55 hS1, sT_56 hS1, sT_57 hS1, sT_58 hS1, sT_59 hS1, sT_60 hS1, sT_61 hS1, sT_62 hS1, sT_63 hS1, sT_64 hS1, sT_65 hS1, sL_36 hS1, sL_37 hS1, sL_38 hS1, sL_39 hS1, sL_40 hS1, sL_41 hS1, sL_42 hS1, sL_43 hS1, sL_44 hS1, sL_45 hS1, sL_46 hS1, sL_47 hS1, sL_48 hS1, sL_49 hS1, sL_50 hS1, sL_51 hS1, sL_52 hS1, sL_53 hS1, sL_54 hS1, sL_55 hS1, sL_56 hS1, sL_57 hS1, sL_58 hS1, sL_59 hS1, sL_60 hS1, sL_61 hS1, sL_62 hS1, sL_63 hS1, sL_64 hS1, sL_65 hS1, sR_35_1 hS1, sR_35_2 hS1, sR_35_3 hS1, sR_35_4 hS1, sR_35_5 hS1, sR_35_6 hS1, sR_35_7 hS1, sR_35_11 hS1, sR_35_21 hS1, sR_35_22 hS1, sR_35_23 hS1, sR_35_24 hS1, sR_35_25 hS1, sR_35_26 hS1, sR_35_27 hS1, sR_35_28 hS1, sR_35_29 hS1, sR_35_30 hS1, sR_35_31 hS1, sR_35_32 hS1, sR_35_35 hS1, sR_35_37 hS1, sR_35_38 hS1, sR_35_39 hS1, sR_35_40 hS1, sR_35_41 hS1, sR_35_42 hS1, sR_35_46 hS1, sR_35_50 hS1, sR_35_52 hS1, hn1, hlt, rD_of (d_has _ _ _), b32_ne, hb, nI_shl (show s < 8 by omega), nI_sdx, hw3, rS_inl q1, nI_1]
      · rw [if_neg hAs] at hb
        obtain ⟨q, t', q1, x', z', v5, hMo', rfl, rfl⟩ := hin s e 0 (by decide) (fun W q => absurd (bsu s W q).1 hAs) (fun w h0 hw => by have := sub_le hw; omega) x z w5 hMo
        refine ⟨[.ref 35, .int (nI A), .int (nI (s + 1)), .int (nI 0), .int (nI 0), v5], _, ?_, e, x', z', _, _, _, nlB_i, nlB_i, hMo', rfl, rfl⟩
        rw [nI_0] at q1 ⊢
        simp only [lpStep, ↓rE_eK, ↓rE_eLi, ↓rE_eLj, ↓rE_eLa, ↓rE_eU, ↓rE_eB, ↓rE_eG, ↓rE_eIF, ↓rE_eAI, ↓rE_eAX, ↓rE_eAJ, ↓rE_eAR, ↓rE_eLen, ↓rE_eSI, ↓rE_eC, ↓rE_eCall, ↓rE_eNew, ↓rE_eNewA, ↓rE_eInst, ↓rC_cI, ↓rC_cZ0, ↓rC_cN, ↓rC_cNot, ↓rC_cAnd, ↓rC_cOr, ↓rA_aN, ↓rA_aC, ↓rS_sP, ↓rS_sUF, ↓rS_sAI, ↓rS_sAJ, ↓rS_sAR, ↓rS_sUA, ↓rS_sCall, ↓rS_sObj, ↓rS_sSi, ↓rS_sSa, ↓rS_sSj, ↓rS_sInc, ↓rS_sSkip, ↓rS_sSeq, ↓rS_sIf, ↓rS_sRetI, ↓rS_sRetJ, ↓rS_sRetA, ↓rS_sRetV, ↓rS_sSw, ↓rD_meth, ↓rD_on, ↓kR_ref, ↓kI_int, ↓kJ_long, ↓kN_null, ↓kN_ref, ↓kN_rf, ↓kQ_ref, ↓kQ_null, ↓kQ_rf, o1_i, o1ij_i, o1ji_i, o2_i, o2d_i, o2j_i, o2ji_i, o2c_i, fv_0, fv_1, fv_2, fv_3, pf_0, pf_2, pf_3, pf_4, rf_s, rf_n, is_self, ge_0, ge_s, ge_n, gd_s, gd_n, se_0, se_s, ag_0, ex_n, ex_i, ex_r, ex_0, ex_j, ex_q, ap_c, ap_n, List.append_nil, ln_c, ln_n, rp_0, rp_s, rt_0, rt_1, rt_20, rt_21, rt_2, rt_3, rt_4, rt_4n, rt_4q, nl_0, nl_1, nl_2, nl_3, nl_4, nl_5, nl_6, nl_7, nl_8, nl_9, nlB_i, nlB_r, nlB_n, nlB_f, nlB_q, ↓reduceIte, reduceCtorEq, Nat.reduceAdd, Nat.reduceSub, Nat.reduceEqDiff, Nat.reduceLeDiff, Nat.reduceBEq, ite_true, ite_false, dt_t, Bool.not_true, Bool.not_false, Bool.false_eq_true, Nat.le_refl, true_and, and_true, true_or, or_true, false_or, or_false, false_and, and_false, qEq, qNe, qLt, qGe, qGt, qLe, sT_35 hS1, sT_36 hS1, sT_37 hS1, sT_38 hS1, sT_39 hS1, sT_40 hS1, sT_41 hS1, sT_42 hS1, sT_43 hS1, sT_44 hS1, sT_45 hS1, sT_46 hS1, sT_47 hS1, sT_48 hS1, sT_49 hS1, sT_50 hS1, sT_51 hS1, sT_52 hS1, sT_53 hS1, sT_54 hS1, sT_55 hS1, sT_56 hS1, sT_57 hS1, sT_58 hS1, sT_59 hS1, sT_60 hS1, sT_61 hS1, sT_62 hS1, sT_63 hS1, sT_64 hS1, sT_65 hS1, sL_36 hS1, sL_37 hS1, sL_38 hS1, sL_39 hS1, sL_40 hS1, sL_41 hS1, sL_42 hS1, sL_43 hS1, sL_44 hS1, sL_45 hS1, sL_46 hS1, sL_47 hS1, sL_48 hS1, sL_49 hS1, sL_50 hS1, sL_51 hS1, sL_52 hS1, sL_53 hS1, sL_54 hS1, sL_55 hS1, sL_56 hS1, sL_57 hS1, sL_58 hS1, sL_59 hS1, sL_60 hS1, sL_61 hS1, sL_62 hS1, sL_63 hS1, sL_64 hS1, sL_65 hS1, sR_35_1 hS1, sR_35_2 hS1, sR_35_3 hS1, sR_35_4 hS1, sR_35_5 hS1, sR_35_6 hS1, sR_35_7 hS1, sR_35_11 hS1, sR_35_21 hS1, sR_35_22 hS1, sR_35_23 hS1, sR_35_24 hS1, sR_35_25 hS1, sR_35_26 hS1, sR_35_27 hS1, sR_35_28 hS1, sR_35_29 hS1, sR_35_30 hS1, sR_35_31 hS1, sR_35_32 hS1, sR_35_35 hS1, sR_35_37 hS1, sR_35_38 hS1, sR_35_39 hS1, sR_35_40 hS1, sR_35_41 hS1, sR_35_42 hS1, sR_35_46 hS1, sR_35_50 hS1, sR_35_52 hS1, hn1, hlt, rD_of (d_has _ _ _), b32_ne, hb, h01, hw3, rS_inl q1, nI_1]
    · right
      have : s = n := by omega
      subst this
      have hlt : ¬ nI s < nI s := by rw [nI_lt' (by omega) (by omega)]; omega
      refine ⟨_, _, ?_, x, z, w3, w4, w5, hMo, rfl, rfl⟩
      simp only [lpStep, ↓rE_eK, ↓rE_eLi, ↓rE_eLj, ↓rE_eLa, ↓rE_eU, ↓rE_eB, ↓rE_eG, ↓rE_eIF, ↓rE_eAI, ↓rE_eAX, ↓rE_eAJ, ↓rE_eAR, ↓rE_eLen, ↓rE_eSI, ↓rE_eC, ↓rE_eCall, ↓rE_eNew, ↓rE_eNewA, ↓rE_eInst, ↓rC_cI, ↓rC_cZ0, ↓rC_cN, ↓rC_cNot, ↓rC_cAnd, ↓rC_cOr, ↓rA_aN, ↓rA_aC, ↓rS_sP, ↓rS_sUF, ↓rS_sAI, ↓rS_sAJ, ↓rS_sAR, ↓rS_sUA, ↓rS_sCall, ↓rS_sObj, ↓rS_sSi, ↓rS_sSa, ↓rS_sSj, ↓rS_sInc, ↓rS_sSkip, ↓rS_sSeq, ↓rS_sIf, ↓rS_sRetI, ↓rS_sRetJ, ↓rS_sRetA, ↓rS_sRetV, ↓rS_sSw, ↓rD_meth, ↓rD_on, ↓kR_ref, ↓kI_int, ↓kJ_long, ↓kN_null, ↓kN_ref, ↓kN_rf, ↓kQ_ref, ↓kQ_null, ↓kQ_rf, o1_i, o1ij_i, o1ji_i, o2_i, o2d_i, o2j_i, o2ji_i, o2c_i, fv_0, fv_1, fv_2, fv_3, pf_0, pf_2, pf_3, pf_4, rf_s, rf_n, is_self, ge_0, ge_s, ge_n, gd_s, gd_n, se_0, se_s, ag_0, ex_n, ex_i, ex_r, ex_0, ex_j, ex_q, ap_c, ap_n, List.append_nil, ln_c, ln_n, rp_0, rp_s, rt_0, rt_1, rt_20, rt_21, rt_2, rt_3, rt_4, rt_4n, rt_4q, nl_0, nl_1, nl_2, nl_3, nl_4, nl_5, nl_6, nl_7, nl_8, nl_9, nlB_i, nlB_r, nlB_n, nlB_f, nlB_q, ↓reduceIte, reduceCtorEq, Nat.reduceAdd, Nat.reduceSub, Nat.reduceEqDiff, Nat.reduceLeDiff, Nat.reduceBEq, ite_true, ite_false, dt_t, Bool.not_true, Bool.not_false, Bool.false_eq_true, Nat.le_refl, true_and, and_true, true_or, or_true, false_or, or_false, false_and, and_false, qEq, qNe, qLt, qGe, qGt, qLe, sT_35 hS1, sT_36 hS1, sT_37 hS1, sT_38 hS1, sT_39 hS1, sT_40 hS1, sT_41 hS1, sT_42 hS1, sT_43 hS1, sT_44 hS1, sT_45 hS1, sT_46 hS1, sT_47 hS1, sT_48 hS1, sT_49 hS1, sT_50 hS1, sT_51 hS1, sT_52 hS1, sT_53 hS1, sT_54 hS1, sT_55 hS1, sT_56 hS1, sT_57 hS1, sT_58 hS1, sT_59 hS1, sT_60 hS1, sT_61 hS1, sT_62 hS1, sT_63 hS1, sT_64 hS1, sT_65 hS1, sL_36 hS1, sL_37 hS1, sL_38 hS1, sL_39 hS1, sL_40 hS1, sL_41 hS1, sL_42 hS1, sL_43 hS1, sL_44 hS1, sL_45 hS1, sL_46 hS1, sL_47 hS1, sL_48 hS1, sL_49 hS1, sL_50 hS1, sL_51 hS1, sL_52 hS1, sL_53 hS1, sL_54 hS1, sL_55 hS1, sL_56 hS1, sL_57 hS1, sL_58 hS1, sL_59 hS1, sL_60 hS1, sL_61 hS1, sL_62 hS1, sL_63 hS1, sL_64 hS1, sL_65 hS1, sR_35_1 hS1, sR_35_2 hS1, sR_35_3 hS1, sR_35_4 hS1, sR_35_5 hS1, sR_35_6 hS1, sR_35_7 hS1, sR_35_11 hS1, sR_35_21 hS1, sR_35_22 hS1, sR_35_23 hS1, sR_35_24 hS1, sR_35_25 hS1, sR_35_26 hS1, sR_35_27 hS1, sR_35_28 hS1, sR_35_29 hS1, sR_35_30 hS1, sR_35_31 hS1, sR_35_32 hS1, sR_35_35 hS1, sR_35_37 hS1, sR_35_38 hS1, sR_35_39 hS1, sR_35_40 hS1, sR_35_41 hS1, sR_35_42 hS1, sR_35_46 hS1, sR_35_50 hS1, sR_35_52 hS1, hn1, hlt]
  obtain ⟨q, t, l1, x, z, w3, w4, w5, hMo, rfl, rfl⟩ := hl
  refine ⟨x, z, min 1000000 (sumN (fun s => sumN (g s) 256) n), ?_, ?_, ?_⟩
  · refine rD_un.trans ?_
    have hibA := ib_nI hA8 (show (256 : Nat) ≤ 1000000 by decide)
    have hclA := nI_cl (show A < 2147483648 by omega)
    have es : uI (uI (uI σ 51 A 1000000) 52 A 0) 53 A 0 = st3 σ A (nI 1000000) (nI 0) (nI 0) := rfl
    simp only [D_X12_findMore, B_X12_findMore, ↓rE_eK, ↓rE_eLi, ↓rE_eLj, ↓rE_eLa, ↓rE_eU, ↓rE_eB, ↓rE_eG, ↓rE_eIF, ↓rE_eAI, ↓rE_eAX, ↓rE_eAJ, ↓rE_eAR, ↓rE_eLen, ↓rE_eSI, ↓rE_eC, ↓rE_eCall, ↓rE_eNew, ↓rE_eNewA, ↓rE_eInst, ↓rC_cI, ↓rC_cZ0, ↓rC_cN, ↓rC_cNot, ↓rC_cAnd, ↓rC_cOr, ↓rA_aN, ↓rA_aC, ↓rS_sP, ↓rS_sUF, ↓rS_sAI, ↓rS_sAJ, ↓rS_sAR, ↓rS_sUA, ↓rS_sCall, ↓rS_sObj, ↓rS_sSi, ↓rS_sSa, ↓rS_sSj, ↓rS_sInc, ↓rS_sSkip, ↓rS_sSeq, ↓rS_sIf, ↓rS_sRetI, ↓rS_sRetJ, ↓rS_sRetA, ↓rS_sRetV, ↓rS_sSw, ↓rD_meth, ↓rD_on, ↓kR_ref, ↓kI_int, ↓kJ_long, ↓kN_null, ↓kN_ref, ↓kN_rf, ↓kQ_ref, ↓kQ_null, ↓kQ_rf, o1_i, o1ij_i, o1ji_i, o2_i, o2d_i, o2j_i, o2ji_i, o2c_i, fv_0, fv_1, fv_2, fv_3, pf_0, pf_2, pf_3, pf_4, rf_s, rf_n, is_self, ge_0, ge_s, ge_n, gd_s, gd_n, se_0, se_s, ag_0, ex_n, ex_i, ex_r, ex_0, ex_j, ex_q, ap_c, ap_n, List.append_nil, ln_c, ln_n, rp_0, rp_s, rt_0, rt_1, rt_20, rt_21, rt_2, rt_3, rt_4, rt_4n, rt_4q, nl_0, nl_1, nl_2, nl_3, nl_4, nl_5, nl_6, nl_7, nl_8, nl_9, nlB_i, nlB_r, nlB_n, nlB_f, nlB_q, ↓reduceIte, reduceCtorEq, Nat.reduceAdd, Nat.reduceSub, Nat.reduceEqDiff, Nat.reduceLeDiff, Nat.reduceBEq, ite_true, ite_false, dt_t, Bool.not_true, Bool.not_false, Bool.false_eq_true, Nat.le_refl, true_and, and_true, true_or, or_true, false_or, or_false, false_and, and_false, qEq, qNe, qLt, qGe, qGt, qLe, sT_35 hS, sT_36 hS, sT_37 hS, sT_38 hS, sT_39 hS, sT_40 hS, sT_41 hS, sT_42 hS, sT_43 hS, sT_44 hS, sT_45 hS, sT_46 hS, sT_47 hS, sT_48 hS, sT_49 hS, sT_50 hS, sT_51 hS, sT_52 hS, sT_53 hS, sT_54 hS, sT_55 hS, sT_56 hS, sT_57 hS, sT_58 hS, sT_59 hS, sT_60 hS, sT_61 hS, sT_62 hS, sT_63 hS, sT_64 hS, sT_65 hS, sL_36 hS, sL_37 hS, sL_38 hS, sL_39 hS, sL_40 hS, sL_41 hS, sL_42 hS, sL_43 hS, sL_44 hS, sL_45 hS, sL_46 hS, sL_47 hS, sL_48 hS, sL_49 hS, sL_50 hS, sL_51 hS, sL_52 hS, sL_53 hS, sL_54 hS, sL_55 hS, sL_56 hS, sL_57 hS, sL_58 hS, sL_59 hS, sL_60 hS, sL_61 hS, sL_62 hS, sL_63 hS, sL_64 hS, sL_65 hS, sR_35_1 hS, sR_35_2 hS, sR_35_3 hS, sR_35_4 hS, sR_35_5 hS, sR_35_6 hS, sR_35_7 hS, sR_35_11 hS, sR_35_21 hS, sR_35_22 hS, sR_35_23 hS, sR_35_24 hS, sR_35_25 hS, sR_35_26 hS, sR_35_27 hS, sR_35_28 hS, sR_35_29 hS, sR_35_30 hS, sR_35_31 hS, sR_35_32 hS, sR_35_35 hS, sR_35_37 hS, sR_35_38 hS, sR_35_39 hS, sR_35_40 hS, sR_35_41 hS, sR_35_42 hS, sR_35_46 hS, sR_35_50 hS, sR_35_52 hS, hibA, hclA, pT_uI, pL_uI, pR_uI, es, rS_inl l1]
  · rw [← ebs]
    exact Mo_ext hMo (fun s W q => ⟨fun _ => trivial, fun _ => bitlt hA (bsu s W q).1⟩)
  · rw [eg, wsum_R h8 hA]
