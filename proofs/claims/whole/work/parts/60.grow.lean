/-! New cells: person, turn, keep, again. -/
def grc (a k : Nat) : Prop := a ≤ 10 ∨ (15 ≤ a ∧ a ≤ 26) ∨ a = 29 ∨ a = 30 ∨ a = 34 ∨ a = 57 ∨ a = 58 ∨ (60 ≤ a ∧ a ≤ 63) ∨ (a = 35 ∧ k = 47)
/-- cells are made, and the valleys change -/
def Gr (σ σ2 : pm_H) : Prop := (pN σ ≤ pN σ2 ∧ (∀ a, a < pN σ → pT σ2 a = pT σ a) ∧ (∀ a, a < pN σ → pL σ2 a = pL σ a)) ∧ (∀ a, a < pN σ → a ≠ 35 → pJ σ2 a = pJ σ a) ∧ (∀ a k, grc a k → pI σ2 a k = pI σ a k) ∧ (∀ a, 66 ≤ a → a < pN σ → pT σ a = 5 → pI σ2 a = pI σ a ∧ pR σ2 a = pR σ a) ∧ (∀ a k, a < 66 → a ≠ 12 → a ≠ 13 → a ≠ 14 → ¬ (a = 11 ∧ k < 2) → pR σ2 a k = pR σ a k)
theorem Gr_rfl {σ : pm_H} : Gr σ σ := ⟨⟨Nat.le_refl _, fun _ _ => rfl, fun _ _ => rfl⟩, fun _ _ _ => rfl, fun _ _ _ => rfl, fun _ _ _ _ => ⟨rfl, rfl⟩, fun _ _ _ _ _ _ _ => rfl⟩
theorem Gr_tr {σ τ ρ : pm_H} (h : Gr σ τ) (h' : Gr τ ρ) : Gr σ ρ := by
  obtain ⟨⟨a1, a2, a3⟩, a4, a5, a6, a7⟩ := h
  obtain ⟨⟨b1, b2, b3⟩, b4, b5, b6, b7⟩ := h'
  exact ⟨⟨by omega, fun a h => (b2 a (by omega)).trans (a2 a h), fun a h => (b3 a (by omega)).trans (a3 a h)⟩, fun a h q => (b4 a (by omega) q).trans (a4 a h q), fun a k h => (b5 a k h).trans (a5 a k h), fun a q1 q2 q3 => by
    have := b6 a q1 (by omega) (by rw [a2 a q2]; exact q3)
    have := a6 a q1 q2 q3
    constructor
    · rw [(b6 a q1 (by omega) (by rw [a2 a q2]; exact q3)).1, this.1]
    · rw [(b6 a q1 (by omega) (by rw [a2 a q2]; exact q3)).2, this.2], fun a k q1 q2 q3 q4 q5 => (b7 a k q1 q2 q3 q4 q5).trans (a7 a k q1 q2 q3 q4 q5)⟩
theorem Gr_uI {σ τ : pm_H} (h : Gr σ τ) {a k : Nat} {x : Int32} (ha : ¬ grc a k) (hr : ¬ (66 ≤ a ∧ a < pN σ ∧ pT σ a = 5)) : Gr σ (uI τ a k x) := by
  obtain ⟨a1, a4, a5, a6, a7⟩ := h
  refine ⟨a1, a4, fun b j hb => ?_, fun b q1 q2 q3 => ⟨?_, (a6 b q1 q2 q3).2⟩, a7⟩
  · rw [pI_uI, if_neg]
    · exact a5 b j hb
    · rintro ⟨rfl, rfl⟩; exact ha hb
  · rw [pI_uI_ne]
    · exact (a6 b q1 q2 q3).1
    · rintro rfl; exact hr ⟨q1, q2, q3⟩
theorem Gr_uR {σ τ : pm_H} (h : Gr σ τ) {a k : Nat} {x : Option Nat} (ha : (a = 11 ∧ k < 2) ∨ a = 12 ∨ a = 13 ∨ a = 14 ∨ 66 ≤ a) (hr : ¬ (66 ≤ a ∧ a < pN σ ∧ pT σ a = 5)) : Gr σ (uR τ a k x) := by
  obtain ⟨a1, a4, a5, a6, a7⟩ := h
  refine ⟨a1, a4, a5, fun b q1 q2 q3 => ⟨(a6 b q1 q2 q3).1, ?_⟩, fun b j q1 q2 q3 q4 q5 => ?_⟩
  · rw [pR_uR_ne]
    · exact (a6 b q1 q2 q3).2
    · rintro rfl; exact hr ⟨q1, q2, q3⟩
  · rw [pR_uR, if_neg]
    · exact a7 b j q1 q2 q3 q4 q5
    · rintro ⟨rfl, rfl⟩; omega
theorem Gr_nw {σ τ : pm_H} (h : Gr σ τ) (h66 : 66 ≤ pN σ) {t n s : Nat} : Gr σ (nw τ t n s) := by
  obtain ⟨⟨a1, a2, a3⟩, a4, a5, a6, a7⟩ := h
  have hc : ∀ a k, grc a k → a < 66 := fun a k q => by unfold grc at q; omega
  refine ⟨⟨by rw [pN_nw]; omega, fun a h => by rw [pT_nw, if_neg (by omega)]; exact a2 a h, fun a h => by rw [pL_nw, if_neg (by omega)]; exact a3 a h⟩, fun a h q => ?_, fun a k h => ?_, fun a q1 q2 q3 => ⟨?_, ?_⟩, fun a k q1 q2 q3 q4 q5 => ?_⟩
  · funext j; rw [pJ_nw, if_neg (by omega)]; exact congrFun (a4 a h q) j
  · have := hc a k h; rw [pI_nw, if_neg (by omega)]; exact a5 a k h
  · funext j; rw [pI_nw, if_neg (by omega)]; exact congrFun (a6 a q1 q2 q3).1 j
  · funext j; rw [pR_nw, if_neg (by omega)]; exact congrFun (a6 a q1 q2 q3).2 j
  · rw [pR_nw, if_neg (by omega)]; exact a7 a k q1 q2 q3 q4 q5
theorem Gr_Sh {σ τ : pm_H} (h : Gr σ τ) (hs : Sh σ) : Sh τ := by
  obtain ⟨⟨a1, a2, a3⟩, a4, a5, a6, a7⟩ := h
  obtain ⟨h1, h2, h3, h4⟩ := hs
  refine ⟨fun a ha => by rw [a2 a (by omega)]; exact h1 a ha, fun a q ha => by rw [a3 a (by omega)]; exact h2 a q ha, fun q hq => ?_, by omega⟩
  have : ∀ q ∈ sh_r, q.1 ≠ 12 ∧ q.1 ≠ 13 ∧ q.1 ≠ 14 ∧ q.1 < 66 ∧ ¬ (q.1 = 11 ∧ q.2.1 < 2) := by decide +kernel
  obtain ⟨q1, q2, q3, q4, q5⟩ := this q hq
  rw [a7 q.1 q.2.1 q4 q1 q2 q3 q5]; exact h3 q hq
theorem Rel_gr {Rk : (Nat → Nat → Int32) → Prop} {σ σ2 : pm_H} {n n2 : Nat} (h : Rel Rk σ n) (hg : Gr σ σ2) (ht : TapeR σ2) (hr : RowR σ2) (hn : NowR σ2 n2) (hk : KeptR σ2) : Rel Rk σ2 n2 := by
  have hs := Rel_Sh h
  have hs2 := Gr_Sh hg hs
  have h66 := hs.2.2.2
  obtain ⟨⟨a1, a2, a3⟩, a4, a5, a6, a7⟩ := hg
  have hI : ∀ a, (∀ k, grc a k) → pI σ2 a = pI σ a := fun a q => funext fun k => a5 a k (q k)
  have hR : ∀ a, a < 66 → a ≠ 11 → a ≠ 12 → a ≠ 13 → a ≠ 14 → pR σ2 a = pR σ a := fun a q1 q2 q3 q4 q5 => funext fun k => a7 a k q1 q3 q4 q5 (fun q => q2 q.1)
  have hrk : rowsKept σ σ2 := fun ra q1 q2 q3 => ⟨by rw [(a6 ra q1 q2 q3).1], (a6 ra q1 q2 q3).2⟩
  refine ⟨hs2, ht, hr, TrR_fr h.2.2.2.1 (a5 _ _ (by unfold grc; omega)) (a5 _ _ (by unfold grc; omega)) (hI _ (fun k => by unfold grc; omega)) (hI _ (fun k => by unfold grc; omega)), ?_, ?_, hn, hk, ?_⟩
  · exact SheetR_fr (Rel_sheet h) a1 a2 a3 hrk (fun a q => a4 a (by omega) (by omega)) (hI _ (fun k => by unfold grc; omega)) (hI _ (fun k => by unfold grc; omega)) (hR _ (by decide) (by decide) (by decide) (by decide) (by decide))
  · exact ShelfR_fr (Rel_shelf h) a1 a2 a3 hrk (hI _ (fun k => by unfold grc; omega)) (hI _ (fun k => by unfold grc; omega)) (hI _ (fun k => by unfold grc; omega)) (hI _ (fun k => by unfold grc; omega)) (hR _ (by decide) (by decide) (by decide) (by decide) (by decide))
  · have e : rkF σ2 = rkF σ := rkF_of (fun a ha => hI _ (fun k => by unfold grc; omega)) (a3 10 (by omega))
    rw [e]; exact h.2.2.2.2.2.2.2.2
theorem Rel_kept {Rk : (Nat → Nat → Int32) → Prop} {σ : pm_H} {n : Nat} (h : Rel Rk σ n) : KeptR σ := h.2.2.2.2.2.2.2.1
theorem Rel_NowR {Rk : (Nat → Nat → Int32) → Prop} {σ : pm_H} {n : Nat} (h : Rel Rk σ n) : NowR σ n := h.2.2.2.2.2.2.1
/-- what was kept stays, when now's people were some of the old, or new -/
theorem Kept_gr {σ σ2 : pm_H} {n n2 : Nat} (hn : NowR σ n) (hn2 : VR σ2 (nowA σ) (cur σ2) n2) (h : KeptR σ) (hN : pN σ ≤ pN σ2) (hT : ∀ a, a < pN σ → pT σ2 a = pT σ a) (hL : ∀ a, a < pN σ → pL σ2 a = pL σ a) (e0 : pI σ2 35 49 = pI σ 35 49) (e1 : pR σ2 11 1 = pR σ 11 1) (e2 : pI σ2 64 = pI σ 64) (e3 : nowA σ2 = nowA σ ∧ vP σ2 (nowA σ) = vP σ (nowA σ) ∧ vD σ2 (nowA σ) = vD σ (nowA σ) ∧ ∀ i, i < n2 → (i < n ∧ vQ σ2 (nowA σ) i = vQ σ (nowA σ) i) ∨ pN σ ≤ vQ σ2 (nowA σ) i) (hf : ∀ a, a < pN σ → (a = 12 ∨ a = 13 ∨ a = 14 ∨ 66 ≤ a) → ¬ fp σ (nowA σ) n a → pI σ2 a = pI σ a ∧ pR σ2 a = pR σ a) : KeptR σ2 := by
  rcases h with ⟨h1, h2⟩ | ⟨h1, kv, m, h2, h3, h4⟩
  · exact Or.inl ⟨e0.trans h1, e1.trans h2⟩
  · have hfk : ∀ a, fp σ kv m a → pI σ2 a = pI σ a ∧ pR σ2 a = pR σ a := fun a ha => hf a (fp_lt h3 ha) (fp_off h3 ha) (fun q => Sep_fp h4 hn.2 h3 q ha)
    obtain ⟨k1, k2, k3, k4, k5⟩ := VR_fr h3 hN hT hL hfk
    refine Or.inr ⟨e0.trans h1, kv, m, e1.trans h2, by rw [e2]; exact k1, ?_⟩
    obtain ⟨q1, q2, q3, q4⟩ := h4
    obtain ⟨f1, f2, f3, f4⟩ := e3
    rw [f1]
    refine ⟨q1, by rw [f2, k2]; exact q2, by rw [f3, k3]; exact q3, fun i j hi hj => ?_⟩
    rw [VR_nOf hn2] at hi
    rw [k5, VR_nOf h3] at hj
    rw [k4 j hj]
    rcases f4 i hi with ⟨g1, g2⟩ | g
    · rw [g2]; exact q4 i j (by rw [VR_nOf hn.2]; exact g1) (by rw [VR_nOf h3]; exact hj)
    · have := fp_lt h3 (fpq hj)
      omega
/-- a person is made -/
def mkp (σ : pm_H) (kd : Nat) (N G : Int32) : pm_H := uI (uI (uI (uI (nw σ (kTag kd) 0 7) (pN σ) 2 100) (pN σ) 6 1) (pN σ) 0 N) (pN σ) 1 G
theorem mk_T (σ : pm_H) (kd : Nat) (N G : Int32) (a : Nat) : pT (mkp σ kd N G) a = if a = pN σ then kTag kd else pT σ a := pT_nw σ (kTag kd) 0 7 a
theorem mk_L (σ : pm_H) (kd : Nat) (N G : Int32) (a : Nat) : pL (mkp σ kd N G) a = if a = pN σ then 0 else pL σ a := pL_nw σ (kTag kd) 0 7 a
theorem mk_R (σ : pm_H) (kd : Nat) (N G : Int32) {a : Nat} (h : a ≠ pN σ) : pR (mkp σ kd N G) a = pR σ a := by funext k; exact (pR_nw σ (kTag kd) 0 7 a k).trans (if_neg h)
theorem mk_N (σ : pm_H) (kd : Nat) (N G : Int32) : pN (mkp σ kd N G) = pN σ + 1 := rfl
theorem mk_S (σ : pm_H) (kd : Nat) (N G : Int32) : pS (mkp σ kd N G) = pS σ + 7 := rfl
theorem mk_I (σ : pm_H) (kd : Nat) (N G : Int32) {a : Nat} (h : a ≠ pN σ) : pI (mkp σ kd N G) a = pI σ a := by
  unfold mkp
  rw [pI_uI_ne _ _ _ h, pI_uI_ne _ _ _ h, pI_uI_ne _ _ _ h, pI_uI_ne _ _ _ h]
  funext k; rw [pI_nw, if_neg h]
theorem mk_I0 (σ : pm_H) (kd : Nat) (N G : Int32) : pI (mkp σ kd N G) (pN σ) 0 = N := by unfold mkp; rw [pI_uI_nek _ _ _ _ (by decide), pI_uI_at]
theorem mk_I1 (σ : pm_H) (kd : Nat) (N G : Int32) : pI (mkp σ kd N G) (pN σ) 1 = G := by unfold mkp; rw [pI_uI_at]
theorem mk_I2 (σ : pm_H) (kd : Nat) (N G : Int32) : pI (mkp σ kd N G) (pN σ) 2 = 100 := by unfold mkp; rw [pI_uI_nek _ _ _ _ (by decide), pI_uI_nek _ _ _ _ (by decide), pI_uI_nek _ _ _ _ (by decide), pI_uI_at]
theorem mk_I6 (σ : pm_H) (kd : Nat) (N G : Int32) : pI (mkp σ kd N G) (pN σ) 6 = 1 := by unfold mkp; rw [pI_uI_nek _ _ _ _ (by decide), pI_uI_nek _ _ _ _ (by decide), pI_uI_at]
theorem mk_Iz (σ : pm_H) (kd : Nat) (N G : Int32) {k : Nat} (h : k = 3 ∨ k = 4 ∨ k = 5) : pI (mkp σ kd N G) (pN σ) k = 0 := by
  unfold mkp
  rw [pI_uI_nek _ _ _ _ (by omega), pI_uI_nek _ _ _ _ (by omega), pI_uI_nek _ _ _ _ (by omega), pI_uI_nek _ _ _ _ (by omega), pI_nw, if_pos rfl]
theorem mk_Gr {σ τ : pm_H} (h : Gr σ τ) (h66 : 66 ≤ pN σ) (kd : Nat) (N G : Int32) : Gr σ (mkp τ kd N G) := by
  have h1 := h.1.1
  have hg : ∀ k, ¬ grc (pN τ) k := fun k q => by unfold grc at q; omega
  exact Gr_uI (Gr_uI (Gr_uI (Gr_uI (Gr_nw h h66) (hg _) (by omega)) (hg _) (by omega)) (hg _) (by omega)) (hg _) (by omega)
theorem kTag_lt {k : Nat} (hk : k < 6) : kTag k ≠ 5 := by
  rcases k6 hk with rfl | rfl | rfl | rfl | rfl | rfl <;> decide
theorem d_made {σ : pm_H} {kd : Nat} (hk : kd < 6) (N G : Int32) : D_X11_made [.int (nI kd), .int N, .int G] σ = some (some (.ref (pN σ)), mkp σ kd N G) := by
  refine rD_un.trans ?_
  have hT : ∀ t, pT (nw σ t 0 7) (pN σ) = t := fun t => by rw [pT_nw, if_pos rfl]
  rcases k6 hk with rfl | rfl | rfl | rfl | rfl | rfl
  · have f1 : (nI 0).toInt < 1 := by decide
    simp only [D_X11_made, B_X11_made, ↓rE_eK, ↓rE_eLi, ↓rE_eLj, ↓rE_eLa, ↓rE_eU, ↓rE_eB, ↓rE_eG, ↓rE_eIF, ↓rE_eAI, ↓rE_eAX, ↓rE_eAJ, ↓rE_eAR, ↓rE_eLen, ↓rE_eSI, ↓rE_eC, ↓rE_eCall, ↓rE_eNew, ↓rE_eNewA, ↓rE_eInst, ↓rC_cI, ↓rC_cZ0, ↓rC_cN, ↓rC_cNot, ↓rC_cAnd, ↓rC_cOr, ↓rA_aN, ↓rA_aC, ↓rS_sP, ↓rS_sUF, ↓rS_sAI, ↓rS_sAJ, ↓rS_sAR, ↓rS_sUA, ↓rS_sCall, ↓rS_sObj, ↓rS_sSi, ↓rS_sSa, ↓rS_sSj, ↓rS_sInc, ↓rS_sSkip, ↓rS_sSeq, ↓rS_sIf, ↓rS_sRetI, ↓rS_sRetJ, ↓rS_sRetA, ↓rS_sRetV, ↓rS_sSw, ↓rD_meth, ↓rD_on, ↓kR_ref, ↓kI_int, ↓kJ_long, ↓kN_null, ↓kN_ref, ↓kN_rf, ↓kQ_ref, ↓kQ_null, ↓kQ_rf, o1_i, o1ij_i, o1ji_i, o2_i, o2d_i, o2j_i, o2ji_i, o2c_i, fv_0, fv_1, fv_2, fv_3, pf_0, pf_2, pf_3, pf_4, rf_s, rf_n, is_self, ge_0, ge_s, ge_n, gd_s, gd_n, se_0, se_s, ag_0, ex_n, ex_i, ex_r, ex_0, ex_j, ex_q, ap_c, ap_n, List.append_nil, ln_c, ln_n, rp_0, rp_s, rt_0, rt_1, rt_20, rt_21, rt_2, rt_3, rt_4, rt_4n, rt_4q, nl_0, nl_1, nl_2, nl_3, nl_4, nl_5, nl_6, nl_7, nl_8, nl_9, nlB_i, nlB_r, nlB_n, nlB_f, nlB_q, ↓reduceIte, reduceCtorEq, Nat.reduceAdd, Nat.reduceSub, Nat.reduceEqDiff, Nat.reduceLeDiff, Nat.reduceBEq, ite_true, ite_false, dt_t, Bool.not_true, Bool.not_false, Bool.false_eq_true, Nat.le_refl, true_and, and_true, true_or, or_true, false_or, or_false, false_and, and_false, qEq, qNe, qLt, qGe, qGt, qLe, f1, D_X6_init, B_X6_init, pT_uI, hT, slp_6, pf_1 (Or.inr rfl)]; rfl
  · have f1 : ¬ (nI 1).toInt < 1 := by decide
    have f2 : ((nI 1).toInt - 1).toNat = 0 := by decide
    simp only [D_X11_made, B_X11_made, ↓rE_eK, ↓rE_eLi, ↓rE_eLj, ↓rE_eLa, ↓rE_eU, ↓rE_eB, ↓rE_eG, ↓rE_eIF, ↓rE_eAI, ↓rE_eAX, ↓rE_eAJ, ↓rE_eAR, ↓rE_eLen, ↓rE_eSI, ↓rE_eC, ↓rE_eCall, ↓rE_eNew, ↓rE_eNewA, ↓rE_eInst, ↓rC_cI, ↓rC_cZ0, ↓rC_cN, ↓rC_cNot, ↓rC_cAnd, ↓rC_cOr, ↓rA_aN, ↓rA_aC, ↓rS_sP, ↓rS_sUF, ↓rS_sAI, ↓rS_sAJ, ↓rS_sAR, ↓rS_sUA, ↓rS_sCall, ↓rS_sObj, ↓rS_sSi, ↓rS_sSa, ↓rS_sSj, ↓rS_sInc, ↓rS_sSkip, ↓rS_sSeq, ↓rS_sIf, ↓rS_sRetI, ↓rS_sRetJ, ↓rS_sRetA, ↓rS_sRetV, ↓rS_sSw, ↓rD_meth, ↓rD_on, ↓kR_ref, ↓kI_int, ↓kJ_long, ↓kN_null, ↓kN_ref, ↓kN_rf, ↓kQ_ref, ↓kQ_null, ↓kQ_rf, o1_i, o1ij_i, o1ji_i, o2_i, o2d_i, o2j_i, o2ji_i, o2c_i, fv_0, fv_1, fv_2, fv_3, pf_0, pf_2, pf_3, pf_4, rf_s, rf_n, is_self, ge_0, ge_s, ge_n, gd_s, gd_n, se_0, se_s, ag_0, ex_n, ex_i, ex_r, ex_0, ex_j, ex_q, ap_c, ap_n, List.append_nil, ln_c, ln_n, rp_0, rp_s, rt_0, rt_1, rt_20, rt_21, rt_2, rt_3, rt_4, rt_4n, rt_4q, nl_0, nl_1, nl_2, nl_3, nl_4, nl_5, nl_6, nl_7, nl_8, nl_9, nlB_i, nlB_r, nlB_n, nlB_f, nlB_q, ↓reduceIte, reduceCtorEq, Nat.reduceAdd, Nat.reduceSub, Nat.reduceEqDiff, Nat.reduceLeDiff, Nat.reduceBEq, ite_true, ite_false, dt_t, Bool.not_true, Bool.not_false, Bool.false_eq_true, Nat.le_refl, true_and, and_true, true_or, or_true, false_or, or_false, false_and, and_false, qEq, qNe, qLt, qGe, qGt, qLe, f1, f2, D_X0_init, B_X0_init, D_X6_init, B_X6_init, pT_uI, hT, slp_0, pf_1 (Or.inr rfl)]; rfl
  · have f1 : ¬ (nI 2).toInt < 1 := by decide
    have f2 : ((nI 2).toInt - 1).toNat = 1 := by decide
    simp only [D_X11_made, B_X11_made, ↓rE_eK, ↓rE_eLi, ↓rE_eLj, ↓rE_eLa, ↓rE_eU, ↓rE_eB, ↓rE_eG, ↓rE_eIF, ↓rE_eAI, ↓rE_eAX, ↓rE_eAJ, ↓rE_eAR, ↓rE_eLen, ↓rE_eSI, ↓rE_eC, ↓rE_eCall, ↓rE_eNew, ↓rE_eNewA, ↓rE_eInst, ↓rC_cI, ↓rC_cZ0, ↓rC_cN, ↓rC_cNot, ↓rC_cAnd, ↓rC_cOr, ↓rA_aN, ↓rA_aC, ↓rS_sP, ↓rS_sUF, ↓rS_sAI, ↓rS_sAJ, ↓rS_sAR, ↓rS_sUA, ↓rS_sCall, ↓rS_sObj, ↓rS_sSi, ↓rS_sSa, ↓rS_sSj, ↓rS_sInc, ↓rS_sSkip, ↓rS_sSeq, ↓rS_sIf, ↓rS_sRetI, ↓rS_sRetJ, ↓rS_sRetA, ↓rS_sRetV, ↓rS_sSw, ↓rD_meth, ↓rD_on, ↓kR_ref, ↓kI_int, ↓kJ_long, ↓kN_null, ↓kN_ref, ↓kN_rf, ↓kQ_ref, ↓kQ_null, ↓kQ_rf, o1_i, o1ij_i, o1ji_i, o2_i, o2d_i, o2j_i, o2ji_i, o2c_i, fv_0, fv_1, fv_2, fv_3, pf_0, pf_2, pf_3, pf_4, rf_s, rf_n, is_self, ge_0, ge_s, ge_n, gd_s, gd_n, se_0, se_s, ag_0, ex_n, ex_i, ex_r, ex_0, ex_j, ex_q, ap_c, ap_n, List.append_nil, ln_c, ln_n, rp_0, rp_s, rt_0, rt_1, rt_20, rt_21, rt_2, rt_3, rt_4, rt_4n, rt_4q, nl_0, nl_1, nl_2, nl_3, nl_4, nl_5, nl_6, nl_7, nl_8, nl_9, nlB_i, nlB_r, nlB_n, nlB_f, nlB_q, ↓reduceIte, reduceCtorEq, Nat.reduceAdd, Nat.reduceSub, Nat.reduceEqDiff, Nat.reduceLeDiff, Nat.reduceBEq, ite_true, ite_false, dt_t, Bool.not_true, Bool.not_false, Bool.false_eq_true, Nat.le_refl, true_and, and_true, true_or, or_true, false_or, or_false, false_and, and_false, qEq, qNe, qLt, qGe, qGt, qLe, f1, f2, D_X2_init, B_X2_init, D_X6_init, B_X6_init, pT_uI, hT, slp_2, pf_1 (Or.inr rfl)]; rfl
  · have f1 : ¬ (nI 3).toInt < 1 := by decide
    have f2 : ((nI 3).toInt - 1).toNat = 2 := by decide
    simp only [D_X11_made, B_X11_made, ↓rE_eK, ↓rE_eLi, ↓rE_eLj, ↓rE_eLa, ↓rE_eU, ↓rE_eB, ↓rE_eG, ↓rE_eIF, ↓rE_eAI, ↓rE_eAX, ↓rE_eAJ, ↓rE_eAR, ↓rE_eLen, ↓rE_eSI, ↓rE_eC, ↓rE_eCall, ↓rE_eNew, ↓rE_eNewA, ↓rE_eInst, ↓rC_cI, ↓rC_cZ0, ↓rC_cN, ↓rC_cNot, ↓rC_cAnd, ↓rC_cOr, ↓rA_aN, ↓rA_aC, ↓rS_sP, ↓rS_sUF, ↓rS_sAI, ↓rS_sAJ, ↓rS_sAR, ↓rS_sUA, ↓rS_sCall, ↓rS_sObj, ↓rS_sSi, ↓rS_sSa, ↓rS_sSj, ↓rS_sInc, ↓rS_sSkip, ↓rS_sSeq, ↓rS_sIf, ↓rS_sRetI, ↓rS_sRetJ, ↓rS_sRetA, ↓rS_sRetV, ↓rS_sSw, ↓rD_meth, ↓rD_on, ↓kR_ref, ↓kI_int, ↓kJ_long, ↓kN_null, ↓kN_ref, ↓kN_rf, ↓kQ_ref, ↓kQ_null, ↓kQ_rf, o1_i, o1ij_i, o1ji_i, o2_i, o2d_i, o2j_i, o2ji_i, o2c_i, fv_0, fv_1, fv_2, fv_3, pf_0, pf_2, pf_3, pf_4, rf_s, rf_n, is_self, ge_0, ge_s, ge_n, gd_s, gd_n, se_0, se_s, ag_0, ex_n, ex_i, ex_r, ex_0, ex_j, ex_q, ap_c, ap_n, List.append_nil, ln_c, ln_n, rp_0, rp_s, rt_0, rt_1, rt_20, rt_21, rt_2, rt_3, rt_4, rt_4n, rt_4q, nl_0, nl_1, nl_2, nl_3, nl_4, nl_5, nl_6, nl_7, nl_8, nl_9, nlB_i, nlB_r, nlB_n, nlB_f, nlB_q, ↓reduceIte, reduceCtorEq, Nat.reduceAdd, Nat.reduceSub, Nat.reduceEqDiff, Nat.reduceLeDiff, Nat.reduceBEq, ite_true, ite_false, dt_t, Bool.not_true, Bool.not_false, Bool.false_eq_true, Nat.le_refl, true_and, and_true, true_or, or_true, false_or, or_false, false_and, and_false, qEq, qNe, qLt, qGe, qGt, qLe, f1, f2, D_X4_init, B_X4_init, D_X0_init, B_X0_init, D_X6_init, B_X6_init, pT_uI, hT, slp_4, pf_1 (Or.inr rfl)]; rfl
  · have f1 : ¬ (nI 4).toInt < 1 := by decide
    have f2 : ((nI 4).toInt - 1).toNat = 3 := by decide
    simp only [D_X11_made, B_X11_made, ↓rE_eK, ↓rE_eLi, ↓rE_eLj, ↓rE_eLa, ↓rE_eU, ↓rE_eB, ↓rE_eG, ↓rE_eIF, ↓rE_eAI, ↓rE_eAX, ↓rE_eAJ, ↓rE_eAR, ↓rE_eLen, ↓rE_eSI, ↓rE_eC, ↓rE_eCall, ↓rE_eNew, ↓rE_eNewA, ↓rE_eInst, ↓rC_cI, ↓rC_cZ0, ↓rC_cN, ↓rC_cNot, ↓rC_cAnd, ↓rC_cOr, ↓rA_aN, ↓rA_aC, ↓rS_sP, ↓rS_sUF, ↓rS_sAI, ↓rS_sAJ, ↓rS_sAR, ↓rS_sUA, ↓rS_sCall, ↓rS_sObj, ↓rS_sSi, ↓rS_sSa, ↓rS_sSj, ↓rS_sInc, ↓rS_sSkip, ↓rS_sSeq, ↓rS_sIf, ↓rS_sRetI, ↓rS_sRetJ, ↓rS_sRetA, ↓rS_sRetV, ↓rS_sSw, ↓rD_meth, ↓rD_on, ↓kR_ref, ↓kI_int, ↓kJ_long, ↓kN_null, ↓kN_ref, ↓kN_rf, ↓kQ_ref, ↓kQ_null, ↓kQ_rf, o1_i, o1ij_i, o1ji_i, o2_i, o2d_i, o2j_i, o2ji_i, o2c_i, fv_0, fv_1, fv_2, fv_3, pf_0, pf_2, pf_3, pf_4, rf_s, rf_n, is_self, ge_0, ge_s, ge_n, gd_s, gd_n, se_0, se_s, ag_0, ex_n, ex_i, ex_r, ex_0, ex_j, ex_q, ap_c, ap_n, List.append_nil, ln_c, ln_n, rp_0, rp_s, rt_0, rt_1, rt_20, rt_21, rt_2, rt_3, rt_4, rt_4n, rt_4q, nl_0, nl_1, nl_2, nl_3, nl_4, nl_5, nl_6, nl_7, nl_8, nl_9, nlB_i, nlB_r, nlB_n, nlB_f, nlB_q, ↓reduceIte, reduceCtorEq, Nat.reduceAdd, Nat.reduceSub, Nat.reduceEqDiff, Nat.reduceLeDiff, Nat.reduceBEq, ite_true, ite_false, dt_t, Bool.not_true, Bool.not_false, Bool.false_eq_true, Nat.le_refl, true_and, and_true, true_or, or_true, false_or, or_false, false_and, and_false, qEq, qNe, qLt, qGe, qGt, qLe, f1, f2, D_X1_init, B_X1_init, D_X2_init, B_X2_init, D_X6_init, B_X6_init, pT_uI, hT, slp_1, pf_1 (Or.inr rfl)]; rfl
  · have f1 : ¬ (nI 5).toInt < 1 := by decide
    have f2 : ((nI 5).toInt - 1).toNat = 4 := by decide
    simp only [D_X11_made, B_X11_made, ↓rE_eK, ↓rE_eLi, ↓rE_eLj, ↓rE_eLa, ↓rE_eU, ↓rE_eB, ↓rE_eG, ↓rE_eIF, ↓rE_eAI, ↓rE_eAX, ↓rE_eAJ, ↓rE_eAR, ↓rE_eLen, ↓rE_eSI, ↓rE_eC, ↓rE_eCall, ↓rE_eNew, ↓rE_eNewA, ↓rE_eInst, ↓rC_cI, ↓rC_cZ0, ↓rC_cN, ↓rC_cNot, ↓rC_cAnd, ↓rC_cOr, ↓rA_aN, ↓rA_aC, ↓rS_sP, ↓rS_sUF, ↓rS_sAI, ↓rS_sAJ, ↓rS_sAR, ↓rS_sUA, ↓rS_sCall, ↓rS_sObj, ↓rS_sSi, ↓rS_sSa, ↓rS_sSj, ↓rS_sInc, ↓rS_sSkip, ↓rS_sSeq, ↓rS_sIf, ↓rS_sRetI, ↓rS_sRetJ, ↓rS_sRetA, ↓rS_sRetV, ↓rS_sSw, ↓rD_meth, ↓rD_on, ↓kR_ref, ↓kI_int, ↓kJ_long, ↓kN_null, ↓kN_ref, ↓kN_rf, ↓kQ_ref, ↓kQ_null, ↓kQ_rf, o1_i, o1ij_i, o1ji_i, o2_i, o2d_i, o2j_i, o2ji_i, o2c_i, fv_0, fv_1, fv_2, fv_3, pf_0, pf_2, pf_3, pf_4, rf_s, rf_n, is_self, ge_0, ge_s, ge_n, gd_s, gd_n, se_0, se_s, ag_0, ex_n, ex_i, ex_r, ex_0, ex_j, ex_q, ap_c, ap_n, List.append_nil, ln_c, ln_n, rp_0, rp_s, rt_0, rt_1, rt_20, rt_21, rt_2, rt_3, rt_4, rt_4n, rt_4q, nl_0, nl_1, nl_2, nl_3, nl_4, nl_5, nl_6, nl_7, nl_8, nl_9, nlB_i, nlB_r, nlB_n, nlB_f, nlB_q, ↓reduceIte, reduceCtorEq, Nat.reduceAdd, Nat.reduceSub, Nat.reduceEqDiff, Nat.reduceLeDiff, Nat.reduceBEq, ite_true, ite_false, dt_t, Bool.not_true, Bool.not_false, Bool.false_eq_true, Nat.le_refl, true_and, and_true, true_or, or_true, false_or, or_false, false_and, and_false, qEq, qNe, qLt, qGe, qGt, qLe, f1, f2, D_X9_init, B_X9_init, D_X6_init, B_X6_init, pT_uI, hT, slp_9, pf_1 (Or.inr rfl)]; rfl
/-- one joins a valley -/
def jn (σ : pm_H) (v n kd : Nat) (G : Int32) : pm_H := uI (uR (mkp σ kd (nI n) G) (vP σ v) n (some (pN σ))) v 2 (nI (n + 1))
theorem VR_66 {σ : pm_H} {v n : Nat} {vd : Nat → Int32} (h : VR σ v vd n) : (v = 12 ∨ 66 ≤ v) ∧ (vP σ v = 13 ∨ 66 ≤ vP σ v) ∧ (vD σ v = 14 ∨ 66 ≤ vD σ v) := ⟨h.2.2.2.2.2.1, h.2.2.2.2.2.2.1, h.2.2.2.2.2.2.2.1⟩
theorem VR_join {σ : pm_H} {v n kd : Nat} {vd wd : Nat → Int32} {G : Int32} (h : VR σ v vd n) (h66 : 66 ≤ pN σ) (n8 : n < 8) (hkd : kd < 6) (ok : vOk wd (n + 1)) (w2 : wd 2 = vd 2) (w3 : wd 3 = vd 3) (wf : ∀ f i, f ≤ 5 → i < n → wd (4 + 8 * f + i) = vd (4 + 8 * f + i)) (wa : ∀ i, i < n → bt (wd 1) (nI i) = bt (vd 1) (nI i)) (wk : wd (4 + n) = nI kd) (wg : wd (12 + n) = G) (wv : wd (20 + n) = 100) (wp : wd (28 + n) = 0) (wl : wd (36 + n) = 0) (ws : wd (44 + n) = 0) (wan : bt (wd 1) (nI n) = 1) (wo : ∀ a b, a < n + 1 → b < n + 1 → a ≠ b → wd (52 + (8 * a + b)) = if a < n ∧ b < n then vd (52 + (8 * a + b)) else 0) : VR (jn σ v n kd G) v wd (n + 1) ∧ vP (jn σ v n kd G) v = vP σ v ∧ vD (jn σ v n kd G) v = vD σ v ∧ (∀ i, i < n → vQ (jn σ v n kd G) v i = vQ σ v i) ∧ vQ (jn σ v n kd G) v n = pN σ := by
  have hap := VR_apart h
  have hlt := h.2.2.2.2.2.2.2.2.2
  have hvN : v ≠ pN σ := by omega
  have hPN : vP σ v ≠ pN σ := by omega
  have hDN : vD σ v ≠ pN σ := by omega
  have hR : ∀ a, a ≠ vP σ v → a ≠ pN σ → pR (jn σ v n kd G) a = pR σ a := fun a q1 q2 => by
    show pR (uR (mkp σ kd (nI n) G) (vP σ v) n (some (pN σ))) a = _
    rw [pR_uR_ne _ _ _ q1, mk_R _ _ _ _ q2]
  have hRP : ∀ k, pR (jn σ v n kd G) (vP σ v) k = if k = n then some (pN σ) else pR σ (vP σ v) k := fun k => by
    show pR (uR (mkp σ kd (nI n) G) (vP σ v) n (some (pN σ))) (vP σ v) k = _
    rw [pR_uR, mk_R _ _ _ _ hPN]
    by_cases c : k = n
    · rw [if_pos ⟨rfl, c⟩, if_pos c]
    · rw [if_neg (fun q => c q.2), if_neg c]
  have hI : ∀ a, a ≠ v → a ≠ pN σ → pI (jn σ v n kd G) a = pI σ a := fun a q1 q2 => by
    show pI (uI (uR (mkp σ kd (nI n) G) (vP σ v) n (some (pN σ))) v 2 (nI (n + 1))) a = _
    rw [pI_uI_ne _ _ _ q1]
    exact mk_I _ _ _ _ q2
  have hIN : pI (jn σ v n kd G) (pN σ) = pI (mkp σ kd (nI n) G) (pN σ) := by
    show pI (uI (uR (mkp σ kd (nI n) G) (vP σ v) n (some (pN σ))) v 2 (nI (n + 1))) (pN σ) = _
    rw [pI_uI_ne _ _ _ hvN.symm]; rfl
  have hIv : ∀ k, pI (jn σ v n kd G) v k = if k = 2 then nI (n + 1) else pI σ v k := fun k => by
    show pI (uI (uR (mkp σ kd (nI n) G) (vP σ v) n (some (pN σ))) v 2 (nI (n + 1))) v k = _
    rw [pI_uI]
    by_cases c : k = 2
    · rw [if_pos ⟨rfl, c⟩, if_pos c]
    · rw [if_neg (fun q => c q.2), if_neg c]
      exact congrFun (mk_I _ _ _ _ hvN) k
  have hT : ∀ a, pT (jn σ v n kd G) a = if a = pN σ then kTag kd else pT σ a := fun a => mk_T σ kd (nI n) G a
  have hL : ∀ a, pL (jn σ v n kd G) a = if a = pN σ then 0 else pL σ a := fun a => mk_L σ kd (nI n) G a
  have eP : vP (jn σ v n kd G) v = vP σ v := by unfold vP; rw [hR v hap.1 hvN]
  have eD : vD (jn σ v n kd G) v = vD σ v := by unfold vD; rw [hR v hap.1 hvN]
  have eQ : ∀ i, i < n → vQ (jn σ v n kd G) v i = vQ σ v i := fun i hi => by unfold vQ; rw [eP, hRP, if_neg (by omega)]
  have eQn : vQ (jn σ v n kd G) v n = pN σ := by unfold vQ; rw [eP, hRP, if_pos rfl]; rfl
  refine ⟨⟨ok, ⟨?_, ?_, ?_, ?_, ?_, ?_, ?_⟩, ⟨?_, ?_, ?_⟩, fun i hi => ?_, fun a b ha hb => ?_, ?_⟩, eP, eD, eQ, eQn⟩
  · rw [hT, if_neg hvN]; exact VR_T h
  · rw [eP, hR v hap.1 hvN]; exact VR_r0 h
  · rw [eD, hR v hap.1 hvN]; exact VR_r1 h
  · rw [eP, hT, if_neg hPN]; exact VR_PT h
  · rw [eP, hL, if_neg hPN]; exact VR_PL h
  · rw [eD, hT, if_neg hDN]; exact VR_DT h
  · rw [eD, hL, if_neg hDN]; exact VR_DL h
  · rw [hIv, if_pos rfl]
  · rw [hIv, if_neg (by decide), w2]; exact VR_mi h
  · rw [hIv, if_neg (by decide), w3]; exact VR_z h
  · rw [eP, hRP]
    by_cases c : i = n
    · subst c
      rw [if_pos rfl, eQn]
      refine ⟨rfl, ⟨kd, hkd, wk, by rw [hT, if_pos rfl]⟩, ?_⟩
      rw [hIN, mk_I0, mk_I1, mk_I2, mk_I6, mk_Iz _ _ _ _ (by omega), mk_Iz _ _ _ _ (by omega), mk_Iz _ _ _ _ (by omega)]
      exact ⟨rfl, wg.symm, wv.symm, wp.symm, wl.symm, ws.symm, wan.symm⟩
    · have hi' : i < n := by omega
      have hqN : vQ σ v i ≠ pN σ := by have := hlt.2.2.2 i hi'; omega
      rw [if_neg c, eQ i hi']
      obtain ⟨⟨k, k1, k2, k3⟩, p2, p3, p4, p5, p6, p7, p8⟩ := VR_p h hi'
      refine ⟨VR_q h hi', ⟨k, k1, by have := wf 0 i (by decide) hi'; rw [show 4 + i = 4 + 8 * 0 + i by omega, this]; exact k2, by rw [hT, if_neg hqN]; exact k3⟩, ?_⟩
      rw [hI _ (hap.2.2.2 i hi').1 hqN, wa i hi']
      have e1 := wf 1 i (by decide) hi'
      have e2 := wf 2 i (by decide) hi'
      have e3 := wf 3 i (by decide) hi'
      have e4 := wf 4 i (by decide) hi'
      have e5 := wf 5 i (by decide) hi'
      exact ⟨p2, p3.trans e1.symm, p4.trans e2.symm, p5.trans e3.symm, p6.trans e4.symm, p7.trans e5.symm, p8⟩
  · rw [eD, hI _ hap.2.1.symm hDN, h.2.2.2.2.1 a b ha hb]
    by_cases c : a < n + 1 ∧ b < n + 1 ∧ a ≠ b
    · rw [if_pos c, wo a b c.1 c.2.1 c.2.2]
      by_cases d : a < n ∧ b < n
      · rw [if_pos ⟨d.1, d.2, c.2.2⟩, if_pos d]
      · rw [if_neg (fun q => d ⟨q.1, q.2.1⟩), if_neg d]
    · rw [if_neg c, if_neg (fun q => c ⟨by omega, by omega, q.2.2⟩)]
  · obtain ⟨a1, a2, a3⟩ := VR_66 h
    have a4 := h.2.2.2.2.2.2.2.2.1
    obtain ⟨b1, b2, b3, b4⟩ := hlt
    have hN : pN (jn σ v n kd G) = pN σ + 1 := rfl
    refine ⟨a1, by rw [eP]; exact a2, by rw [eD]; exact a3, fun i hi => ?_, by omega, by rw [eP]; omega, by rw [eD]; omega, fun i hi => ?_⟩
    · by_cases c : i = n
      · subst c; rw [eQn]; exact h66
      · rw [eQ i (by omega)]; exact a4 i (by omega)
    · by_cases c : i = n
      · subst c; rw [eQn]; omega
      · rw [eQ i (by omega)]; have := b4 i (by omega); omega
theorem d_join {σ : pm_H} {v n kd : Nat} {G : Int32} {vd : Nat → Int32} (h : VR σ v vd n) (n8 : n < 8) (hkd : kd < 6) : D_X10_join [.ref v, .ref (pN σ)] (mkp σ kd (nI n) G) = some (none, jn σ v n kd G) := by
  have hlt := h.2.2.2.2.2.2.2.2.2
  have hvN : v ≠ pN σ := by omega
  have hPN : vP σ v ≠ pN σ := by omega
  have y1 : pT (mkp σ kd (nI n) G) v = 10 := by rw [mk_T, if_neg hvN]; exact VR_T h
  have y2 : pI (mkp σ kd (nI n) G) v 2 = nI n := by rw [mk_I _ _ _ _ hvN]; exact VR_s h
  have y3 : pR (mkp σ kd (nI n) G) v 0 = some (vP σ v) := by rw [mk_R _ _ _ _ hvN]; exact VR_r0 h
  have y4 : pT (mkp σ kd (nI n) G) (vP σ v) = 15 := by rw [mk_T, if_neg hPN]; exact VR_PT h
  have y5 : pL (mkp σ kd (nI n) G) (vP σ v) = 8 := by rw [mk_L, if_neg hPN]; exact VR_PL h
  have y6 : pT (mkp σ kd (nI n) G) (pN σ) = kTag kd := by rw [mk_T, if_pos rfl]
  have hge : ¬ 8 ≤ nI n := by have := nI_le' (a := 8) (b := n) (by decide) (by omega); rw [show (8 : Int32) = nI 8 from rfl, this]; omega
  refine rD_un.trans ?_
  simp only [D_X10_join, B_X10_join, ↓rE_eK, ↓rE_eLi, ↓rE_eLj, ↓rE_eLa, ↓rE_eU, ↓rE_eB, ↓rE_eG, ↓rE_eIF, ↓rE_eAI, ↓rE_eAX, ↓rE_eAJ, ↓rE_eAR, ↓rE_eLen, ↓rE_eSI, ↓rE_eC, ↓rE_eCall, ↓rE_eNew, ↓rE_eNewA, ↓rE_eInst, ↓rC_cI, ↓rC_cZ0, ↓rC_cN, ↓rC_cNot, ↓rC_cAnd, ↓rC_cOr, ↓rA_aN, ↓rA_aC, ↓rS_sP, ↓rS_sUF, ↓rS_sAI, ↓rS_sAJ, ↓rS_sAR, ↓rS_sUA, ↓rS_sCall, ↓rS_sObj, ↓rS_sSi, ↓rS_sSa, ↓rS_sSj, ↓rS_sInc, ↓rS_sSkip, ↓rS_sSeq, ↓rS_sIf, ↓rS_sRetI, ↓rS_sRetJ, ↓rS_sRetA, ↓rS_sRetV, ↓rS_sSw, ↓rD_meth, ↓rD_on, ↓kR_ref, ↓kI_int, ↓kJ_long, ↓kN_null, ↓kN_ref, ↓kN_rf, ↓kQ_ref, ↓kQ_null, ↓kQ_rf, o1_i, o1ij_i, o1ji_i, o2_i, o2d_i, o2j_i, o2ji_i, o2c_i, fv_0, fv_1, fv_2, fv_3, pf_0, pf_2, pf_3, pf_4, rf_s, rf_n, is_self, ge_0, ge_s, ge_n, gd_s, gd_n, se_0, se_s, ag_0, ex_n, ex_i, ex_r, ex_0, ex_j, ex_q, ap_c, ap_n, List.append_nil, ln_c, ln_n, rp_0, rp_s, rt_0, rt_1, rt_20, rt_21, rt_2, rt_3, rt_4, rt_4n, rt_4q, nl_0, nl_1, nl_2, nl_3, nl_4, nl_5, nl_6, nl_7, nl_8, nl_9, nlB_i, nlB_r, nlB_n, nlB_f, nlB_q, ↓reduceIte, reduceCtorEq, Nat.reduceAdd, Nat.reduceSub, Nat.reduceEqDiff, Nat.reduceLeDiff, Nat.reduceBEq, ite_true, ite_false, dt_t, Bool.not_true, Bool.not_false, Bool.false_eq_true, Nat.le_refl, true_and, and_true, true_or, or_true, false_or, or_false, false_and, and_false, qEq, qNe, qLt, qGe, qGt, qLe, y1, y2, hge, y3, y4, y5, y6, tk_15 (kTag_slp kd), ib_nI n8 (show (8 : Nat) ≤ 1000000 by decide), nI_cl (show n < 2147483648 by omega), pT_uR, pI_uR, nI_1]
  rfl
