/-! a valley told in a text: debts, sleep, people, as the reference reads them. -/
variable {T : Nat} {c : Nat → Nat}
theorem vOk_d {wd : Nat → Int32} {n k : Nat} {x : Int32} (h : vOk wd n) (hk : 52 ≤ k) : vOk (upd wd k x) n := by
  have h8 := h.1
  refine ⟨h.1, by rw [upd_ne _ _ (by omega)]; exact h.2.1, by rw [upd_ne _ _ (by omega)]; exact h.2.2.1, fun j hj => ?_⟩
  rw [upd_ne _ _ (by omega), upd_ne _ _ (by omega)]
  exact h.2.2.2 j hj
theorem vOk_s {wd : Nat → Int32} {n i : Nat} (h : vOk wd n) (hi : i < n) (hb : (wA wd).testBit i = true) (h1 : 1 < pc (wA wd)) : vOk (upd wd 1 (nI (sd (wA wd) (2 ^ i)))) n := by
  obtain ⟨a1, a2, a3⟩ := vOk_A h
  have h8 := h.1
  have a4 := Nat.lt_of_lt_of_le a1 (p2n h8)
  obtain ⟨s1, s2⟩ := sd_pos hb h1 a4 (by omega)
  exact ⟨h8, by rw [upd_ne _ _ (by decide)]; exact h.2.1, ⟨sd (wA wd) (2 ^ i), by omega, upd_at _ _ _, fun _ => s1⟩, fun j hj => by rw [upd_ne _ _ (by omega), upd_ne _ _ (by omega)]; exact h.2.2.2 j hj⟩
theorem Gd_debt {σ1 s : pm_H} {p n k : Nat} {wd : Nat → Int32} {z : Int32} (h : Gd σ1 T c p n wd s) (hk : k < 64) : Gd σ1 T c p n (upd wd (52 + k) z) (uI s 48 k z) := by
  obtain ⟨f1, f2, f3, f4⟩ := h.2.2.2.2.1
  have h8 := h.2.2.2.2.2.1
  refine Gd_fr h (Fs_uI Fs_rfl (by unfold sc2; omega)) (fun j q1 q2 => by rw [pI_uI_ne _ _ _ (by decide)]) rfl ⟨by rw [pI_uI_ne _ _ _ (by decide)]; exact f1, by rw [pI_uI_ne _ _ _ (by decide), upd_ne _ _ (by omega)]; exact f2, fun i hi => ?_, fun j hj => ?_⟩ (vOk_d h.2.2.2.2.2 (by omega))
  · rw [pI_uI_ne _ _ _ (by decide), pI_uI_ne _ _ _ (by decide), pI_uI_ne _ _ _ (by decide), pI_uI_ne _ _ _ (by decide), upd_ne _ _ (by omega), upd_ne _ _ (by omega), upd_ne _ _ (by omega), upd_ne _ _ (by omega)]
    exact f3 i hi
  · by_cases e : j = k
    · subst e; rw [pI_uI_at, upd_at]
    · rw [pI_uI_nek _ _ _ _ e, upd_ne _ _ (by omega)]; exact f4 j hj
theorem Gd_sleep {σ1 s : pm_H} {p n i : Nat} {wd : Nat → Int32} (h : Gd σ1 T c p n wd s) (hi : i < n) (hb : (wA wd).testBit i = true) (h1 : 1 < pc (wA wd)) : Gd σ1 T c p n (upd wd 1 (nI (sd (wA wd) (2 ^ i)))) (uI s 35 20 (nI (sd (wA wd) (2 ^ i)))) := by
  obtain ⟨f1, f2, f3, f4⟩ := h.2.2.2.2.1
  have h8 := h.2.2.2.2.2.1
  refine Gd_fr h (Fs_uI Fs_rfl (by unfold sc2; omega)) (fun j q1 q2 => by rw [pI_uI_nek _ _ _ _ (by omega)]) rfl ⟨by rw [pI_uI_nek _ _ _ _ (by decide)]; exact f1, by rw [pI_uI_at, upd_at], fun i hi => ?_, fun j hj => ?_⟩ (vOk_s h.2.2.2.2.2 hi hb h1)
  · rw [pI_uI_ne _ _ _ (by decide), pI_uI_ne _ _ _ (by decide), pI_uI_ne _ _ _ (by decide), pI_uI_ne _ _ _ (by decide), upd_ne _ _ (by omega), upd_ne _ _ (by omega), upd_ne _ _ (by omega), upd_ne _ _ (by omega)]
    exact f3 i hi
  · rw [pI_uI_ne _ _ _ (by decide), upd_ne _ _ (by omega)]; exact f4 j hj
def prM (s : pm_H) (n kd g x y A : Nat) : pm_H := uI (uI (uI (uI (uI (uI s 44 n (nI kd)) 45 n (nI g)) 46 n (nI x)) 47 n (nI y)) 35 20 (nI (A ||| 2 ^ n))) 35 19 (nI (n + 1))
theorem Gd_person {σ1 s : pm_H} {p n kd g x y : Nat} {wd : Nat → Int32} (h : Gd σ1 T c p n wd s) (n8 : n < 8) (hg : 1 ≤ g ∧ g ≤ 90) (hx : x ≤ 200) : Gd σ1 T c p (n + 1) (upd (upd (newP wd n kd g) (20 + n) (nI x)) (28 + n) (nI y)) (prM s n kd g x y (wA wd)) := by
  obtain ⟨f1, f2, f3, f4⟩ := h.2.2.2.2.1
  unfold prM
  refine Gd_fr h (Fs_uI (Fs_uI (Fs_uI (Fs_uI (Fs_uI (Fs_uI Fs_rfl (by unfold sc2; omega)) (by unfold sc2; omega)) (by unfold sc2; omega)) (by unfold sc2; omega)) (by unfold sc2; omega)) (by unfold sc2; omega)) (fun j q1 q2 => ?_) rfl ⟨pI_uI_at _ _ _ _, ?_, fun i hi => ?_, fun j hj => ?_⟩ (vOk_p (vOk_v (np_ok h.2.2.2.2.2 n8 hg) (by omega) hx) (by omega))
  · rw [pI_uI_nek _ _ _ _ (by omega), pI_uI_nek _ _ _ _ (by omega), pI_uI_ne _ _ _ (by decide), pI_uI_ne _ _ _ (by decide), pI_uI_ne _ _ _ (by decide), pI_uI_ne _ _ _ (by decide)]
  · rw [pI_uI_nek _ _ _ _ (by decide), pI_uI_at, upd_ne _ _ (by omega), upd_ne _ _ (by omega), np_1]
  · rw [pI_uI_ne _ _ _ (show (44 : Nat) ≠ 35 by decide), pI_uI_ne _ _ _ (show (44 : Nat) ≠ 35 by decide), pI_uI_ne _ _ _ (show (44 : Nat) ≠ 47 by decide), pI_uI_ne _ _ _ (show (44 : Nat) ≠ 46 by decide), pI_uI_ne _ _ _ (show (44 : Nat) ≠ 45 by decide), pI_uI_ne _ _ _ (show (45 : Nat) ≠ 35 by decide), pI_uI_ne _ _ _ (show (45 : Nat) ≠ 35 by decide), pI_uI_ne _ _ _ (show (45 : Nat) ≠ 47 by decide), pI_uI_ne _ _ _ (show (45 : Nat) ≠ 46 by decide), pI_uI_ne _ _ _ (show (46 : Nat) ≠ 35 by decide), pI_uI_ne _ _ _ (show (46 : Nat) ≠ 35 by decide), pI_uI_ne _ _ _ (show (46 : Nat) ≠ 47 by decide), pI_uI_ne _ _ _ (show (47 : Nat) ≠ 35 by decide), pI_uI_ne _ _ _ (show (47 : Nat) ≠ 35 by decide)]
    by_cases e : i = n
    · subst e
      rw [pI_uI_at, pI_uI_at, pI_uI_at, pI_uI_at, upd_at, upd_ne _ _ (by omega), upd_ne _ _ (by omega), np_k, upd_ne _ _ (by omega), upd_ne _ _ (by omega), np_g, upd_ne _ _ (by omega), upd_at]
      exact ⟨rfl, rfl, rfl, rfl⟩
    · have hi' : i < n := by omega
      simp only [pI_uI_nek _ _ _ _ e]
      have q : ∀ j, j ≠ 0 → j ≠ 1 → j ≠ 4 + n → j ≠ 12 + n → j ≠ 20 + n → j ≠ 28 + n → upd (upd (newP wd n kd g) (20 + n) (nI x)) (28 + n) (nI y) j = wd j := fun j j0 j1 j2 j3 j4 j5 => by rw [upd_ne _ _ j5, upd_ne _ _ j4, np_o ⟨j0, j1, j2, j3, j4, j5⟩]
      rw [q (4 + i) (by omega) (by omega) (by omega) (by omega) (by omega) (by omega), q (12 + i) (by omega) (by omega) (by omega) (by omega) (by omega) (by omega), q (20 + i) (by omega) (by omega) (by omega) (by omega) (by omega) (by omega), q (28 + i) (by omega) (by omega) (by omega) (by omega) (by omega) (by omega)]
      exact f3 i hi'
  · rw [pI_uI_ne _ _ _ (by decide), pI_uI_ne _ _ _ (by decide), pI_uI_ne _ _ _ (by decide), pI_uI_ne _ _ _ (by decide), pI_uI_ne _ _ _ (by decide), pI_uI_ne _ _ _ (by decide), upd_ne _ _ (by omega), upd_ne _ _ (by omega), np_o (by omega)]
    exact f4 j hj
theorem Gd_word {σ1 s : pm_H} {p n w : Nat} {wd : Nat → Int32} (h : Gd σ1 T c p n wd s) (hw : w < 10) (e : wId T c p = w) : ∃ t, D_X12_advance [.ref 35] s = some (none, t) ∧ Gd σ1 T c (skE T c (leE T c p)) n wd t := by
  have hT := h.1.2.1
  exact Gd_adv h (e := leE T c p) (by unfold tE; rw [if_pos (wd_L hT hw e)]) ((le_sp (c := c) hT p).2.2.2 h.2.2.1.1.2)
theorem Gd_T {σ1 s : pm_H} {p n : Nat} {wd : Nat → Int32} (h : Gd σ1 T c p n wd s) : pT s 35 = 12 := sT_35 h.1.1
theorem Bd_T {σ1 s : pm_H} {p : Nat} (h : Bd σ1 p s) : pT s 35 = 12 := sT_35 h.1
theorem g_owes {σ1 s : pm_H} {p n : Nat} {wd : Nat → Int32} (h : Gd σ1 T c p n wd s) (e : wId T c p = 8) : ∃ t, D_X12_wantOwes [.ref 35] s = some (none, t) ∧ Go σ1 T c t (clOw1 T c (skE T c (leE T c p)) n wd) := by
  have hT := h.1.2.1
  have n8 := h.2.2.2.2.2.1
  obtain ⟨s1, d1, h1⟩ := Gd_word h (by decide) e
  obtain ⟨p1, e1⟩ : ∃ p1, skE T c (leE T c p) = p1 := ⟨_, rfl⟩
  rw [e1] at h1 ⊢
  have t0 := Gd_T h
  have t1 := Gd_T h1
  have f19 := h1.2.2.2.2.1.1
  unfold clOw1
  cases r1 : numR T c p1 0 n with
  | none =>
    obtain ⟨x, s2, d2, h2⟩ := g_num_f h1 (by decide) (H_n n8) r1
    rw [nI_0] at d2
    have t2 := Bd_T h2
    have h3 := Bd_0 h2
    obtain ⟨x3, s4, d3, h4⟩ := b_num h3 0 (pI (uI s2 35 18 0) 35 19 - 1)
    obtain ⟨x5, s5, d5, h5⟩ := b_num h4 0 999
    obtain ⟨s6, d6, h6⟩ := b_end h5
    refine ⟨s6, ?_, Go_l h6⟩
    refine rD_un.trans ?_
    simp only [D_X12_wantOwes, B_X12_wantOwes, nt_t, not_true, not_false_eq_true, pf_1 (Or.inl rfl), pf_1 (Or.inr rfl), ↓rE_eK, ↓rE_eLi, ↓rE_eLj, ↓rE_eLa, ↓rE_eU, ↓rE_eB, ↓rE_eG, ↓rE_eIF, ↓rE_eAI, ↓rE_eAX, ↓rE_eAJ, ↓rE_eAR, ↓rE_eLen, ↓rE_eSI, ↓rE_eC, ↓rE_eCall, ↓rE_eNew, ↓rE_eNewA, ↓rE_eInst, ↓rC_cI, ↓rC_cZ0, ↓rC_cN, ↓rC_cNot, ↓rC_cAnd, ↓rC_cOr, ↓rA_aN, ↓rA_aC, ↓rS_sP, ↓rS_sUF, ↓rS_sAI, ↓rS_sAJ, ↓rS_sAR, ↓rS_sUA, ↓rS_sCall, ↓rS_sObj, ↓rS_sSi, ↓rS_sSa, ↓rS_sSj, ↓rS_sInc, ↓rS_sSkip, ↓rS_sSeq, ↓rS_sIf, ↓rS_sRetI, ↓rS_sRetJ, ↓rS_sRetA, ↓rS_sRetV, ↓rS_sSw, ↓rD_meth, ↓rD_on, ↓kR_ref, ↓kI_int, ↓kJ_long, ↓kN_null, ↓kN_ref, ↓kN_rf, ↓kQ_ref, ↓kQ_null, ↓kQ_rf, o1_i, o1ij_i, o1ji_i, o2_i, o2d_i, o2j_i, o2ji_i, o2c_i, fv_0, fv_1, fv_2, fv_3, pf_0, pf_2, pf_3, pf_4, rf_s, rf_n, is_self, ge_0, ge_s, ge_n, gd_s, gd_n, se_0, se_s, ag_0, ex_n, ex_i, ex_r, ex_0, ex_j, ex_q, ap_c, ap_n, List.append_nil, ln_c, ln_n, rp_0, rp_s, rt_0, rt_1, rt_20, rt_21, rt_2, rt_3, rt_4, rt_4n, rt_4q, nl_0, nl_1, nl_2, nl_3, nl_4, nl_5, nl_6, nl_7, nl_8, nl_9, nlB_i, nlB_r, nlB_n, nlB_f, nlB_q, ↓reduceIte, reduceCtorEq, Nat.reduceAdd, Nat.reduceSub, Nat.reduceEqDiff, Nat.reduceLeDiff, Nat.reduceBEq, ite_true, ite_false, dt_t, Bool.not_true, Bool.not_false, Bool.false_eq_true, Nat.le_refl, true_and, and_true, true_or, or_true, false_or, or_false, false_and, and_false, qEq, qNe, qLt, qGe, qGt, qLe, rD_tb1 t0, rD_of d1, rD_tb1 t1, t1, f19, rD_of d2, t2, h2.2.2.1, not_true, pT_uI, rD_tb1 (show pT (uI s2 35 18 0) 35 = 12 from t2), rD_of d3, rD_tb1 (Bd_T h4), rD_of d5, rD_tb1 (Bd_T h5), rD_of d6, Bd_T h6, h6.2.2.1]
  | some a =>
    have ha := (num_some r1).2.2.2
    obtain ⟨s2, d2, h2⟩ := g_num_t h1 (by omega) (H_n n8) r1
    rw [nI_0] at d2
    have t2 := Gd_T h2
    have f13 := h2.2.2.1.2.1
    have f17 := h2.2.2.1.2.2.2.2
    have f18 := h2.2.2.2.1
    obtain ⟨p2, e2⟩ : ∃ p2, skE T c (deE T c p1) = p2 := ⟨_, rfl⟩
    rw [e2] at h2 f13 f17
    have x1 : (nI 2 = 2) = True := eq_true rfl
    show ∃ t, _ ∧ Go σ1 T c t (clOw2 T c (skE T c (deE T c p1)) n wd a)
    rw [e2]
    unfold clOw2
    cases r2 : numR T c p2 0 n with
    | none =>
      have h3 := Gd_18 h2
      have f19' : pI (uI s2 35 18 1) 35 19 = nI n := h3.2.2.2.2.1.1
      obtain ⟨x, s4, d4, h4⟩ := g_num_f h3 (by decide) (H_n n8) r2
      rw [nI_0] at d4
      obtain ⟨x5, s5, d5, h5⟩ := b_num h4 0 999
      obtain ⟨s6, d6, h6⟩ := b_end h5
      refine ⟨s6, ?_, Go_l h6⟩
      refine rD_un.trans ?_
      by_cases y1 : tS T c p2 = 2
      · rw [y1] at f13
        have y2 : (tV T c p2 = nI a) = False := by
          refine eq_false ?_
          rcases tn_n hT r2 y1 with q | ⟨d, q1, q2, q3⟩
          · rw [q]; exact fun y => (nI_m1 (k := a) (by omega)).1 y.symm
          · rw [q2, nI_inj (by omega) (by omega)]; omega
        simp only [D_X12_wantOwes, B_X12_wantOwes, nt_t, not_true, not_false_eq_true, pf_1 (Or.inl rfl), pf_1 (Or.inr rfl), ↓rE_eK, ↓rE_eLi, ↓rE_eLj, ↓rE_eLa, ↓rE_eU, ↓rE_eB, ↓rE_eG, ↓rE_eIF, ↓rE_eAI, ↓rE_eAX, ↓rE_eAJ, ↓rE_eAR, ↓rE_eLen, ↓rE_eSI, ↓rE_eC, ↓rE_eCall, ↓rE_eNew, ↓rE_eNewA, ↓rE_eInst, ↓rC_cI, ↓rC_cZ0, ↓rC_cN, ↓rC_cNot, ↓rC_cAnd, ↓rC_cOr, ↓rA_aN, ↓rA_aC, ↓rS_sP, ↓rS_sUF, ↓rS_sAI, ↓rS_sAJ, ↓rS_sAR, ↓rS_sUA, ↓rS_sCall, ↓rS_sObj, ↓rS_sSi, ↓rS_sSa, ↓rS_sSj, ↓rS_sInc, ↓rS_sSkip, ↓rS_sSeq, ↓rS_sIf, ↓rS_sRetI, ↓rS_sRetJ, ↓rS_sRetA, ↓rS_sRetV, ↓rS_sSw, ↓rD_meth, ↓rD_on, ↓kR_ref, ↓kI_int, ↓kJ_long, ↓kN_null, ↓kN_ref, ↓kN_rf, ↓kQ_ref, ↓kQ_null, ↓kQ_rf, o1_i, o1ij_i, o1ji_i, o2_i, o2d_i, o2j_i, o2ji_i, o2c_i, fv_0, fv_1, fv_2, fv_3, pf_0, pf_2, pf_3, pf_4, rf_s, rf_n, is_self, ge_0, ge_s, ge_n, gd_s, gd_n, se_0, se_s, ag_0, ex_n, ex_i, ex_r, ex_0, ex_j, ex_q, ap_c, ap_n, List.append_nil, ln_c, ln_n, rp_0, rp_s, rt_0, rt_1, rt_20, rt_21, rt_2, rt_3, rt_4, rt_4n, rt_4q, nl_0, nl_1, nl_2, nl_3, nl_4, nl_5, nl_6, nl_7, nl_8, nl_9, nlB_i, nlB_r, nlB_n, nlB_f, nlB_q, ↓reduceIte, reduceCtorEq, Nat.reduceAdd, Nat.reduceSub, Nat.reduceEqDiff, Nat.reduceLeDiff, Nat.reduceBEq, ite_true, ite_false, dt_t, Bool.not_true, Bool.not_false, Bool.false_eq_true, Nat.le_refl, true_and, and_true, true_or, or_true, false_or, or_false, false_and, and_false, qEq, qNe, qLt, qGe, qGt, qLe, rD_tb1 t0, rD_of d1, rD_tb1 t1, t1, f19, rD_of d2, t2, f18, one_ne0, not_false_eq_true, f13, x1, f17, y2, pT_uI, f19', rD_tb1 (show pT (uI s2 35 18 1) 35 = 12 from t2), rD_of d4, rD_tb1 (Bd_T h4), rD_of d5, rD_tb1 (Bd_T h5), rD_of d6, Bd_T h6, h6.2.2.1, not_true]
      · have y2 : (nI (tS T c p2) = 2) = False := (nI_inj (b := 2) (by have := tS_lt (T := T) (c := c) p2; omega) (by decide)).trans (eq_false y1)
        simp only [D_X12_wantOwes, B_X12_wantOwes, nt_t, not_true, not_false_eq_true, pf_1 (Or.inl rfl), pf_1 (Or.inr rfl), ↓rE_eK, ↓rE_eLi, ↓rE_eLj, ↓rE_eLa, ↓rE_eU, ↓rE_eB, ↓rE_eG, ↓rE_eIF, ↓rE_eAI, ↓rE_eAX, ↓rE_eAJ, ↓rE_eAR, ↓rE_eLen, ↓rE_eSI, ↓rE_eC, ↓rE_eCall, ↓rE_eNew, ↓rE_eNewA, ↓rE_eInst, ↓rC_cI, ↓rC_cZ0, ↓rC_cN, ↓rC_cNot, ↓rC_cAnd, ↓rC_cOr, ↓rA_aN, ↓rA_aC, ↓rS_sP, ↓rS_sUF, ↓rS_sAI, ↓rS_sAJ, ↓rS_sAR, ↓rS_sUA, ↓rS_sCall, ↓rS_sObj, ↓rS_sSi, ↓rS_sSa, ↓rS_sSj, ↓rS_sInc, ↓rS_sSkip, ↓rS_sSeq, ↓rS_sIf, ↓rS_sRetI, ↓rS_sRetJ, ↓rS_sRetA, ↓rS_sRetV, ↓rS_sSw, ↓rD_meth, ↓rD_on, ↓kR_ref, ↓kI_int, ↓kJ_long, ↓kN_null, ↓kN_ref, ↓kN_rf, ↓kQ_ref, ↓kQ_null, ↓kQ_rf, o1_i, o1ij_i, o1ji_i, o2_i, o2d_i, o2j_i, o2ji_i, o2c_i, fv_0, fv_1, fv_2, fv_3, pf_0, pf_2, pf_3, pf_4, rf_s, rf_n, is_self, ge_0, ge_s, ge_n, gd_s, gd_n, se_0, se_s, ag_0, ex_n, ex_i, ex_r, ex_0, ex_j, ex_q, ap_c, ap_n, List.append_nil, ln_c, ln_n, rp_0, rp_s, rt_0, rt_1, rt_20, rt_21, rt_2, rt_3, rt_4, rt_4n, rt_4q, nl_0, nl_1, nl_2, nl_3, nl_4, nl_5, nl_6, nl_7, nl_8, nl_9, nlB_i, nlB_r, nlB_n, nlB_f, nlB_q, ↓reduceIte, reduceCtorEq, Nat.reduceAdd, Nat.reduceSub, Nat.reduceEqDiff, Nat.reduceLeDiff, Nat.reduceBEq, ite_true, ite_false, dt_t, Bool.not_true, Bool.not_false, Bool.false_eq_true, Nat.le_refl, true_and, and_true, true_or, or_true, false_or, or_false, false_and, and_false, qEq, qNe, qLt, qGe, qGt, qLe, rD_tb1 t0, rD_of d1, rD_tb1 t1, t1, f19, rD_of d2, t2, f18, one_ne0, not_false_eq_true, f13, y2, pT_uI, f19', rD_tb1 (show pT (uI s2 35 18 1) 35 = 12 from t2), rD_of d4, rD_tb1 (Bd_T h4), rD_of d5, rD_tb1 (Bd_T h5), rD_of d6, Bd_T h6, h6.2.2.1, not_true]
    | some y =>
      have hy := (num_some r2).2.2.2
      obtain ⟨y1, y2, y3⟩ := tn_s hT r2
      rw [y1] at f13
      rw [y2] at f17
      have l3 : (nI y = nI a) = (y = a) := nI_inj (by omega) (by omega)
      show ∃ t, _ ∧ Go σ1 T c t (if y = a then _ else _)
      by_cases e3 : y = a
      · rw [if_pos e3]
        have l4 : (nI y = nI a) = True := l3.trans (eq_true e3)
        have h3 := Gd_Bd h2
        obtain ⟨x3, s4, d3, h4⟩ := b_num h3 0 (pI (uI s2 35 18 0) 35 19 - 1)
        obtain ⟨x5, s5, d5, h5⟩ := b_num h4 0 999
        obtain ⟨s6, d6, h6⟩ := b_end h5
        refine ⟨s6, ?_, Go_l h6⟩
        refine rD_un.trans ?_
        simp only [D_X12_wantOwes, B_X12_wantOwes, nt_t, not_true, not_false_eq_true, pf_1 (Or.inl rfl), pf_1 (Or.inr rfl), ↓rE_eK, ↓rE_eLi, ↓rE_eLj, ↓rE_eLa, ↓rE_eU, ↓rE_eB, ↓rE_eG, ↓rE_eIF, ↓rE_eAI, ↓rE_eAX, ↓rE_eAJ, ↓rE_eAR, ↓rE_eLen, ↓rE_eSI, ↓rE_eC, ↓rE_eCall, ↓rE_eNew, ↓rE_eNewA, ↓rE_eInst, ↓rC_cI, ↓rC_cZ0, ↓rC_cN, ↓rC_cNot, ↓rC_cAnd, ↓rC_cOr, ↓rA_aN, ↓rA_aC, ↓rS_sP, ↓rS_sUF, ↓rS_sAI, ↓rS_sAJ, ↓rS_sAR, ↓rS_sUA, ↓rS_sCall, ↓rS_sObj, ↓rS_sSi, ↓rS_sSa, ↓rS_sSj, ↓rS_sInc, ↓rS_sSkip, ↓rS_sSeq, ↓rS_sIf, ↓rS_sRetI, ↓rS_sRetJ, ↓rS_sRetA, ↓rS_sRetV, ↓rS_sSw, ↓rD_meth, ↓rD_on, ↓kR_ref, ↓kI_int, ↓kJ_long, ↓kN_null, ↓kN_ref, ↓kN_rf, ↓kQ_ref, ↓kQ_null, ↓kQ_rf, o1_i, o1ij_i, o1ji_i, o2_i, o2d_i, o2j_i, o2ji_i, o2c_i, fv_0, fv_1, fv_2, fv_3, pf_0, pf_2, pf_3, pf_4, rf_s, rf_n, is_self, ge_0, ge_s, ge_n, gd_s, gd_n, se_0, se_s, ag_0, ex_n, ex_i, ex_r, ex_0, ex_j, ex_q, ap_c, ap_n, List.append_nil, ln_c, ln_n, rp_0, rp_s, rt_0, rt_1, rt_20, rt_21, rt_2, rt_3, rt_4, rt_4n, rt_4q, nl_0, nl_1, nl_2, nl_3, nl_4, nl_5, nl_6, nl_7, nl_8, nl_9, nlB_i, nlB_r, nlB_n, nlB_f, nlB_q, ↓reduceIte, reduceCtorEq, Nat.reduceAdd, Nat.reduceSub, Nat.reduceEqDiff, Nat.reduceLeDiff, Nat.reduceBEq, ite_true, ite_false, dt_t, Bool.not_true, Bool.not_false, Bool.false_eq_true, Nat.le_refl, true_and, and_true, true_or, or_true, false_or, or_false, false_and, and_false, qEq, qNe, qLt, qGe, qGt, qLe, rD_tb1 t0, rD_of d1, rD_tb1 t1, t1, f19, rD_of d2, t2, f18, one_ne0, not_false_eq_true, f13, x1, f17, l4, pT_uI, rD_tb1 (show pT (uI s2 35 18 0) 35 = 12 from t2), rD_of d3, rD_tb1 (Bd_T h4), rD_of d5, rD_tb1 (Bd_T h5), rD_of d6, Bd_T h6, h6.2.2.1, not_true]
      · rw [if_neg e3]
        have l4 : (nI y = nI a) = False := l3.trans (eq_false e3)
        have h3 := Gd_18 h2
        have f19' : pI (uI s2 35 18 1) 35 19 = nI n := h3.2.2.2.2.1.1
        obtain ⟨s4, d4, h4⟩ := g_num_t h3 (by omega) (H_n n8) r2
        rw [nI_0] at d4
        obtain ⟨p3, e4⟩ : ∃ p3, skE T c (deE T c p2) = p3 := ⟨_, rfl⟩
        rw [e4] at h4 ⊢
        unfold clOw3
        cases r3 : numR T c p3 0 1000 with
        | none =>
          obtain ⟨x5, s5, d5, h5⟩ := g_num_f h4 (by decide) H_999 r3
          rw [nI_0] at d5
          obtain ⟨s6, d6, h6⟩ := b_end h5
          refine ⟨s6, ?_, Go_l h6⟩
          refine rD_un.trans ?_
          simp only [D_X12_wantOwes, B_X12_wantOwes, nt_t, not_true, not_false_eq_true, pf_1 (Or.inl rfl), pf_1 (Or.inr rfl), ↓rE_eK, ↓rE_eLi, ↓rE_eLj, ↓rE_eLa, ↓rE_eU, ↓rE_eB, ↓rE_eG, ↓rE_eIF, ↓rE_eAI, ↓rE_eAX, ↓rE_eAJ, ↓rE_eAR, ↓rE_eLen, ↓rE_eSI, ↓rE_eC, ↓rE_eCall, ↓rE_eNew, ↓rE_eNewA, ↓rE_eInst, ↓rC_cI, ↓rC_cZ0, ↓rC_cN, ↓rC_cNot, ↓rC_cAnd, ↓rC_cOr, ↓rA_aN, ↓rA_aC, ↓rS_sP, ↓rS_sUF, ↓rS_sAI, ↓rS_sAJ, ↓rS_sAR, ↓rS_sUA, ↓rS_sCall, ↓rS_sObj, ↓rS_sSi, ↓rS_sSa, ↓rS_sSj, ↓rS_sInc, ↓rS_sSkip, ↓rS_sSeq, ↓rS_sIf, ↓rS_sRetI, ↓rS_sRetJ, ↓rS_sRetA, ↓rS_sRetV, ↓rS_sSw, ↓rD_meth, ↓rD_on, ↓kR_ref, ↓kI_int, ↓kJ_long, ↓kN_null, ↓kN_ref, ↓kN_rf, ↓kQ_ref, ↓kQ_null, ↓kQ_rf, o1_i, o1ij_i, o1ji_i, o2_i, o2d_i, o2j_i, o2ji_i, o2c_i, fv_0, fv_1, fv_2, fv_3, pf_0, pf_2, pf_3, pf_4, rf_s, rf_n, is_self, ge_0, ge_s, ge_n, gd_s, gd_n, se_0, se_s, ag_0, ex_n, ex_i, ex_r, ex_0, ex_j, ex_q, ap_c, ap_n, List.append_nil, ln_c, ln_n, rp_0, rp_s, rt_0, rt_1, rt_20, rt_21, rt_2, rt_3, rt_4, rt_4n, rt_4q, nl_0, nl_1, nl_2, nl_3, nl_4, nl_5, nl_6, nl_7, nl_8, nl_9, nlB_i, nlB_r, nlB_n, nlB_f, nlB_q, ↓reduceIte, reduceCtorEq, Nat.reduceAdd, Nat.reduceSub, Nat.reduceEqDiff, Nat.reduceLeDiff, Nat.reduceBEq, ite_true, ite_false, dt_t, Bool.not_true, Bool.not_false, Bool.false_eq_true, Nat.le_refl, true_and, and_true, true_or, or_true, false_or, or_false, false_and, and_false, qEq, qNe, qLt, qGe, qGt, qLe, rD_tb1 t0, rD_of d1, rD_tb1 t1, t1, f19, rD_of d2, t2, f18, one_ne0, not_false_eq_true, f13, x1, f17, l4, pT_uI, f19', rD_tb1 (show pT (uI s2 35 18 1) 35 = 12 from t2), rD_of d4, rD_tb1 (Gd_T h4), rD_of d5, rD_tb1 (Bd_T h5), rD_of d6, Bd_T h6, h6.2.2.1, not_true]
        | some z =>
          obtain ⟨s5, d5, h5⟩ := g_num_t h4 (by omega) H_999 r3
          rw [nI_0] at d5
          obtain ⟨p4, e5⟩ : ∃ p4, skE T c (deE T c p3) = p4 := ⟨_, rfl⟩
          rw [e5] at h5
          show ∃ t, _ ∧ Go σ1 T c t (cSemi T c (skE T c (deE T c p3)) n (upd wd (52 + (8 * a + y)) (nI z)))
          rw [e5]
          unfold cSemi
          by_cases e6 : p4 < T ∧ c p4 = 59
          · rw [if_pos e6]
            obtain ⟨s6, d6, h6⟩ := g_end_t h5 e6
            have hS6 := h6.1.1
            refine ⟨_, ?_, Go_r (Gd_debt h6 (k := 8 * a + y) (z := nI z) (by omega))⟩
            refine rD_un.trans ?_
            simp only [D_X12_wantOwes, B_X12_wantOwes, nt_t, not_true, not_false_eq_true, pf_1 (Or.inl rfl), pf_1 (Or.inr rfl), ↓rE_eK, ↓rE_eLi, ↓rE_eLj, ↓rE_eLa, ↓rE_eU, ↓rE_eB, ↓rE_eG, ↓rE_eIF, ↓rE_eAI, ↓rE_eAX, ↓rE_eAJ, ↓rE_eAR, ↓rE_eLen, ↓rE_eSI, ↓rE_eC, ↓rE_eCall, ↓rE_eNew, ↓rE_eNewA, ↓rE_eInst, ↓rC_cI, ↓rC_cZ0, ↓rC_cN, ↓rC_cNot, ↓rC_cAnd, ↓rC_cOr, ↓rA_aN, ↓rA_aC, ↓rS_sP, ↓rS_sUF, ↓rS_sAI, ↓rS_sAJ, ↓rS_sAR, ↓rS_sUA, ↓rS_sCall, ↓rS_sObj, ↓rS_sSi, ↓rS_sSa, ↓rS_sSj, ↓rS_sInc, ↓rS_sSkip, ↓rS_sSeq, ↓rS_sIf, ↓rS_sRetI, ↓rS_sRetJ, ↓rS_sRetA, ↓rS_sRetV, ↓rS_sSw, ↓rD_meth, ↓rD_on, ↓kR_ref, ↓kI_int, ↓kJ_long, ↓kN_null, ↓kN_ref, ↓kN_rf, ↓kQ_ref, ↓kQ_null, ↓kQ_rf, o1_i, o1ij_i, o1ji_i, o2_i, o2d_i, o2j_i, o2ji_i, o2c_i, fv_0, fv_1, fv_2, fv_3, pf_0, pf_2, pf_3, pf_4, rf_s, rf_n, is_self, ge_0, ge_s, ge_n, gd_s, gd_n, se_0, se_s, ag_0, ex_n, ex_i, ex_r, ex_0, ex_j, ex_q, ap_c, ap_n, List.append_nil, ln_c, ln_n, rp_0, rp_s, rt_0, rt_1, rt_20, rt_21, rt_2, rt_3, rt_4, rt_4n, rt_4q, nl_0, nl_1, nl_2, nl_3, nl_4, nl_5, nl_6, nl_7, nl_8, nl_9, nlB_i, nlB_r, nlB_n, nlB_f, nlB_q, ↓reduceIte, reduceCtorEq, Nat.reduceAdd, Nat.reduceSub, Nat.reduceEqDiff, Nat.reduceLeDiff, Nat.reduceBEq, ite_true, ite_false, dt_t, Bool.not_true, Bool.not_false, Bool.false_eq_true, Nat.le_refl, true_and, and_true, true_or, or_true, false_or, or_false, false_and, and_false, qEq, qNe, qLt, qGe, qGt, qLe, rD_tb1 t0, rD_of d1, rD_tb1 t1, t1, f19, rD_of d2, t2, f18, one_ne0, not_false_eq_true, f13, x1, f17, l4, pT_uI, f19', rD_tb1 (show pT (uI s2 35 18 1) 35 = 12 from t2), rD_of d4, rD_tb1 (Gd_T h4), rD_of d5, rD_tb1 (Gd_T h5), rD_of d6, sT_35 hS6, sT_36 hS6, sT_37 hS6, sT_38 hS6, sT_39 hS6, sT_40 hS6, sT_41 hS6, sT_42 hS6, sT_43 hS6, sT_44 hS6, sT_45 hS6, sT_46 hS6, sT_47 hS6, sT_48 hS6, sT_49 hS6, sT_50 hS6, sT_51 hS6, sT_52 hS6, sT_53 hS6, sT_54 hS6, sT_55 hS6, sT_56 hS6, sT_57 hS6, sT_58 hS6, sT_59 hS6, sT_60 hS6, sT_61 hS6, sT_62 hS6, sT_63 hS6, sT_64 hS6, sT_65 hS6, sL_36 hS6, sL_37 hS6, sL_38 hS6, sL_39 hS6, sL_40 hS6, sL_41 hS6, sL_42 hS6, sL_43 hS6, sL_44 hS6, sL_45 hS6, sL_46 hS6, sL_47 hS6, sL_48 hS6, sL_49 hS6, sL_50 hS6, sL_51 hS6, sL_52 hS6, sL_53 hS6, sL_54 hS6, sL_55 hS6, sL_56 hS6, sL_57 hS6, sL_58 hS6, sL_59 hS6, sL_60 hS6, sL_61 hS6, sL_62 hS6, sL_63 hS6, sL_64 hS6, sL_65 hS6, sR_35_1 hS6, sR_35_2 hS6, sR_35_3 hS6, sR_35_4 hS6, sR_35_5 hS6, sR_35_6 hS6, sR_35_7 hS6, sR_35_11 hS6, sR_35_21 hS6, sR_35_22 hS6, sR_35_23 hS6, sR_35_24 hS6, sR_35_25 hS6, sR_35_26 hS6, sR_35_27 hS6, sR_35_28 hS6, sR_35_29 hS6, sR_35_30 hS6, sR_35_31 hS6, sR_35_32 hS6, sR_35_35 hS6, sR_35_37 hS6, sR_35_38 hS6, sR_35_39 hS6, sR_35_40 hS6, sR_35_41 hS6, sR_35_42 hS6, sR_35_46 hS6, sR_35_50 hS6, sR_35_52 hS6, h6.2.2.2.1, ix8 (show a < 8 by omega) (show y < 8 by omega), ib_nI (show 8 * a + y < 64 by omega) (by decide), nI_cl (show 8 * a + y < 2147483648 by omega)]
          · rw [if_neg e6]
            obtain ⟨s6, d6, h6⟩ := g_end_f h5 e6
            refine ⟨s6, ?_, Go_l h6⟩
            refine rD_un.trans ?_
            simp only [D_X12_wantOwes, B_X12_wantOwes, nt_t, not_true, not_false_eq_true, pf_1 (Or.inl rfl), pf_1 (Or.inr rfl), ↓rE_eK, ↓rE_eLi, ↓rE_eLj, ↓rE_eLa, ↓rE_eU, ↓rE_eB, ↓rE_eG, ↓rE_eIF, ↓rE_eAI, ↓rE_eAX, ↓rE_eAJ, ↓rE_eAR, ↓rE_eLen, ↓rE_eSI, ↓rE_eC, ↓rE_eCall, ↓rE_eNew, ↓rE_eNewA, ↓rE_eInst, ↓rC_cI, ↓rC_cZ0, ↓rC_cN, ↓rC_cNot, ↓rC_cAnd, ↓rC_cOr, ↓rA_aN, ↓rA_aC, ↓rS_sP, ↓rS_sUF, ↓rS_sAI, ↓rS_sAJ, ↓rS_sAR, ↓rS_sUA, ↓rS_sCall, ↓rS_sObj, ↓rS_sSi, ↓rS_sSa, ↓rS_sSj, ↓rS_sInc, ↓rS_sSkip, ↓rS_sSeq, ↓rS_sIf, ↓rS_sRetI, ↓rS_sRetJ, ↓rS_sRetA, ↓rS_sRetV, ↓rS_sSw, ↓rD_meth, ↓rD_on, ↓kR_ref, ↓kI_int, ↓kJ_long, ↓kN_null, ↓kN_ref, ↓kN_rf, ↓kQ_ref, ↓kQ_null, ↓kQ_rf, o1_i, o1ij_i, o1ji_i, o2_i, o2d_i, o2j_i, o2ji_i, o2c_i, fv_0, fv_1, fv_2, fv_3, pf_0, pf_2, pf_3, pf_4, rf_s, rf_n, is_self, ge_0, ge_s, ge_n, gd_s, gd_n, se_0, se_s, ag_0, ex_n, ex_i, ex_r, ex_0, ex_j, ex_q, ap_c, ap_n, List.append_nil, ln_c, ln_n, rp_0, rp_s, rt_0, rt_1, rt_20, rt_21, rt_2, rt_3, rt_4, rt_4n, rt_4q, nl_0, nl_1, nl_2, nl_3, nl_4, nl_5, nl_6, nl_7, nl_8, nl_9, nlB_i, nlB_r, nlB_n, nlB_f, nlB_q, ↓reduceIte, reduceCtorEq, Nat.reduceAdd, Nat.reduceSub, Nat.reduceEqDiff, Nat.reduceLeDiff, Nat.reduceBEq, ite_true, ite_false, dt_t, Bool.not_true, Bool.not_false, Bool.false_eq_true, Nat.le_refl, true_and, and_true, true_or, or_true, false_or, or_false, false_and, and_false, qEq, qNe, qLt, qGe, qGt, qLe, rD_tb1 t0, rD_of d1, rD_tb1 t1, t1, f19, rD_of d2, t2, f18, one_ne0, not_false_eq_true, f13, x1, f17, l4, pT_uI, f19', rD_tb1 (show pT (uI s2 35 18 1) 35 = 12 from t2), rD_of d4, rD_tb1 (Gd_T h4), rD_of d5, rD_tb1 (Gd_T h5), rD_of d6, Bd_T h6, h6.2.2.1, not_true]
theorem num_8 {p n i : Nat} (h : numR T c p 0 n = some i) (n8 : n ≤ 8) : numR T c p 0 8 = some i := by
  obtain ⟨⟨h1, h2⟩, h3, -, h4⟩ := num_some h
  unfold numR
  rw [if_pos ⟨h1, h2, Nat.zero_le _, by omega⟩, h3]
theorem H_7 : ∀ v, v < 1000 → ((7 : Int32) < nI v) = (8 ≤ v) := fun v hv => nI_lt' (a := 7) (by decide) (by omega)
theorem g_asleep {σ1 s : pm_H} {p n : Nat} {wd : Nat → Int32} (h : Gd σ1 T c p n wd s) (e : wId T c p = 9) : ∃ t, D_X12_wantAsleep [.ref 35] s = some (none, t) ∧ Go σ1 T c t (clAs1 T c (skE T c (leE T c p)) n wd) := by
  have hT := h.1.2.1
  have n8 := h.2.2.2.2.2.1
  obtain ⟨s1, d1, h1⟩ := Gd_word h (by decide) e
  obtain ⟨p1, e1⟩ : ∃ p1, skE T c (leE T c p) = p1 := ⟨_, rfl⟩
  rw [e1] at h1 ⊢
  have t0 := Gd_T h
  have t1 := Gd_T h1
  obtain ⟨f19, f20, -, -⟩ := h1.2.2.2.2.1
  obtain ⟨A1, A2, A3⟩ := vOk_A h1.2.2.2.2.2
  have A4 := Nat.lt_of_lt_of_le A1 (p2n n8)
  rw [A2] at f20
  have f13 := h1.2.2.1.2.1
  have f17 := h1.2.2.1.2.2.2.2
  have x1 : (nI 2 = 2) = True := eq_true rfl
  have hB := Gd_Bd h1
  obtain ⟨x3, s4, d3, h4⟩ := b_num hB 0 7
  obtain ⟨s6, d6, h6⟩ := b_end h4
  have hN := H_n n8
  unfold clAs1
  cases r1 : numR T c p1 0 n with
  | none =>
    refine ⟨s6, ?_, Go_l h6⟩
    refine rD_un.trans ?_
    by_cases y1 : tS T c p1 = 2
    · rw [y1] at f13
      have x2 : ¬ (0 ≤ tV T c p1 ∧ tV T c p1 ≤ nI n - 1) := by
        rcases tn_n hT r1 y1 with q | ⟨d, q1, q2, q3⟩
        · rw [q]; exact fun y => absurd y.1 (by decide)
        · rw [q2]
          rintro ⟨z1, z2⟩
          rw [← Int32.not_lt, hN d q1] at z2
          exact q3 ⟨Nat.zero_le _, by omega⟩
      simp only [D_X12_wantAsleep, B_X12_wantAsleep, pf_1 (Or.inl rfl), pf_1 (Or.inr rfl), ↓rE_eK, ↓rE_eLi, ↓rE_eLj, ↓rE_eLa, ↓rE_eU, ↓rE_eB, ↓rE_eG, ↓rE_eIF, ↓rE_eAI, ↓rE_eAX, ↓rE_eAJ, ↓rE_eAR, ↓rE_eLen, ↓rE_eSI, ↓rE_eC, ↓rE_eCall, ↓rE_eNew, ↓rE_eNewA, ↓rE_eInst, ↓rC_cI, ↓rC_cZ0, ↓rC_cN, ↓rC_cNot, ↓rC_cAnd, ↓rC_cOr, ↓rA_aN, ↓rA_aC, ↓rS_sP, ↓rS_sUF, ↓rS_sAI, ↓rS_sAJ, ↓rS_sAR, ↓rS_sUA, ↓rS_sCall, ↓rS_sObj, ↓rS_sSi, ↓rS_sSa, ↓rS_sSj, ↓rS_sInc, ↓rS_sSkip, ↓rS_sSeq, ↓rS_sIf, ↓rS_sRetI, ↓rS_sRetJ, ↓rS_sRetA, ↓rS_sRetV, ↓rS_sSw, ↓rD_meth, ↓rD_on, ↓kR_ref, ↓kI_int, ↓kJ_long, ↓kN_null, ↓kN_ref, ↓kN_rf, ↓kQ_ref, ↓kQ_null, ↓kQ_rf, o1_i, o1ij_i, o1ji_i, o2_i, o2d_i, o2j_i, o2ji_i, o2c_i, fv_0, fv_1, fv_2, fv_3, pf_0, pf_2, pf_3, pf_4, rf_s, rf_n, is_self, ge_0, ge_s, ge_n, gd_s, gd_n, se_0, se_s, ag_0, ex_n, ex_i, ex_r, ex_0, ex_j, ex_q, ap_c, ap_n, List.append_nil, ln_c, ln_n, rp_0, rp_s, rt_0, rt_1, rt_20, rt_21, rt_2, rt_3, rt_4, rt_4n, rt_4q, nl_0, nl_1, nl_2, nl_3, nl_4, nl_5, nl_6, nl_7, nl_8, nl_9, nlB_i, nlB_r, nlB_n, nlB_f, nlB_q, ↓reduceIte, reduceCtorEq, Nat.reduceAdd, Nat.reduceSub, Nat.reduceEqDiff, Nat.reduceLeDiff, Nat.reduceBEq, ite_true, ite_false, dt_t, Bool.not_true, Bool.not_false, Bool.false_eq_true, Nat.le_refl, true_and, and_true, true_or, or_true, false_or, or_false, false_and, and_false, qEq, qNe, qLt, qGe, qGt, qLe, rD_tb1 t0, rD_of d1, t1, f13, x1, f17, f19, rD_of (d_in _ _ _ _), b32_ne, x2, pT_uI, rD_tb1 (show pT (uI s1 35 18 0) 35 = 12 from t1), rD_of d3, rD_tb1 (Bd_T h4), rD_of d6, Bd_T h6, h6.2.2.1, not_true]
    · have y2 : (nI (tS T c p1) = 2) = False := (nI_inj (b := 2) (by have := tS_lt (T := T) (c := c) p1; omega) (by decide)).trans (eq_false y1)
      simp only [D_X12_wantAsleep, B_X12_wantAsleep, pf_1 (Or.inl rfl), pf_1 (Or.inr rfl), ↓rE_eK, ↓rE_eLi, ↓rE_eLj, ↓rE_eLa, ↓rE_eU, ↓rE_eB, ↓rE_eG, ↓rE_eIF, ↓rE_eAI, ↓rE_eAX, ↓rE_eAJ, ↓rE_eAR, ↓rE_eLen, ↓rE_eSI, ↓rE_eC, ↓rE_eCall, ↓rE_eNew, ↓rE_eNewA, ↓rE_eInst, ↓rC_cI, ↓rC_cZ0, ↓rC_cN, ↓rC_cNot, ↓rC_cAnd, ↓rC_cOr, ↓rA_aN, ↓rA_aC, ↓rS_sP, ↓rS_sUF, ↓rS_sAI, ↓rS_sAJ, ↓rS_sAR, ↓rS_sUA, ↓rS_sCall, ↓rS_sObj, ↓rS_sSi, ↓rS_sSa, ↓rS_sSj, ↓rS_sInc, ↓rS_sSkip, ↓rS_sSeq, ↓rS_sIf, ↓rS_sRetI, ↓rS_sRetJ, ↓rS_sRetA, ↓rS_sRetV, ↓rS_sSw, ↓rD_meth, ↓rD_on, ↓kR_ref, ↓kI_int, ↓kJ_long, ↓kN_null, ↓kN_ref, ↓kN_rf, ↓kQ_ref, ↓kQ_null, ↓kQ_rf, o1_i, o1ij_i, o1ji_i, o2_i, o2d_i, o2j_i, o2ji_i, o2c_i, fv_0, fv_1, fv_2, fv_3, pf_0, pf_2, pf_3, pf_4, rf_s, rf_n, is_self, ge_0, ge_s, ge_n, gd_s, gd_n, se_0, se_s, ag_0, ex_n, ex_i, ex_r, ex_0, ex_j, ex_q, ap_c, ap_n, List.append_nil, ln_c, ln_n, rp_0, rp_s, rt_0, rt_1, rt_20, rt_21, rt_2, rt_3, rt_4, rt_4n, rt_4q, nl_0, nl_1, nl_2, nl_3, nl_4, nl_5, nl_6, nl_7, nl_8, nl_9, nlB_i, nlB_r, nlB_n, nlB_f, nlB_q, ↓reduceIte, reduceCtorEq, Nat.reduceAdd, Nat.reduceSub, Nat.reduceEqDiff, Nat.reduceLeDiff, Nat.reduceBEq, ite_true, ite_false, dt_t, Bool.not_true, Bool.not_false, Bool.false_eq_true, Nat.le_refl, true_and, and_true, true_or, or_true, false_or, or_false, false_and, and_false, qEq, qNe, qLt, qGe, qGt, qLe, rD_tb1 t0, rD_of d1, t1, f13, y2, pT_uI, rD_tb1 (show pT (uI s1 35 18 0) 35 = 12 from t1), rD_of d3, rD_tb1 (Bd_T h4), rD_of d6, Bd_T h6, h6.2.2.1, not_true]
  | some i =>
    have hi := (num_some r1).2.2.2
    obtain ⟨y1, y2, y3⟩ := tn_s hT r1
    rw [y1] at f13
    rw [y2] at f17
    have x2 : 0 ≤ nI i ∧ nI i ≤ nI n - 1 := ⟨by rw [← Int32.not_lt]; exact nI_nn (by omega), by rw [← Int32.not_lt, hN i (by omega)]; omega⟩
    have hbt := bt_nI A4 (show i < 8 by omega)
    have l1 : (1 < nI (pc (wA wd))) = (1 < pc (wA wd)) := nI_lt' (a := 1) (by decide) (by have := pc_le (A := wA wd); omega)
    show ∃ t, _ ∧ Go σ1 T c t (if (wA wd).testBit i = true ∧ 1 < pc (wA wd) then _ else _)
    by_cases e2 : (wA wd).testBit i = true
    · rw [if_pos e2] at hbt
      have b1 : (bt (nI (wA wd)) (nI i) = 1) = True := eq_true hbt
      by_cases e3 : 1 < pc (wA wd)
      · rw [if_pos ⟨e2, e3⟩]
        have h2 := Gd_18 h1
        obtain ⟨s3, d7, h3⟩ := g_num_t h2 (by decide) H_7 (num_8 r1 n8)
        rw [nI_0] at d7
        obtain ⟨p2, e4⟩ : ∃ p2, skE T c (deE T c p1) = p2 := ⟨_, rfl⟩
        rw [e4] at h3 ⊢
        unfold cSemi
        by_cases e6 : p2 < T ∧ c p2 = 59
        · rw [if_pos e6]
          obtain ⟨s7, d8, h7⟩ := g_end_t h3 e6
          have f20' : pI s7 35 20 = nI (wA wd) := by rw [h7.2.2.2.2.1.2.1]; exact A2
          refine ⟨_, ?_, Go_r (Gd_sleep h7 hi e2 e3)⟩
          refine rD_un.trans ?_
          simp only [D_X12_wantAsleep, B_X12_wantAsleep, pf_1 (Or.inl rfl), pf_1 (Or.inr rfl), ↓rE_eK, ↓rE_eLi, ↓rE_eLj, ↓rE_eLa, ↓rE_eU, ↓rE_eB, ↓rE_eG, ↓rE_eIF, ↓rE_eAI, ↓rE_eAX, ↓rE_eAJ, ↓rE_eAR, ↓rE_eLen, ↓rE_eSI, ↓rE_eC, ↓rE_eCall, ↓rE_eNew, ↓rE_eNewA, ↓rE_eInst, ↓rC_cI, ↓rC_cZ0, ↓rC_cN, ↓rC_cNot, ↓rC_cAnd, ↓rC_cOr, ↓rA_aN, ↓rA_aC, ↓rS_sP, ↓rS_sUF, ↓rS_sAI, ↓rS_sAJ, ↓rS_sAR, ↓rS_sUA, ↓rS_sCall, ↓rS_sObj, ↓rS_sSi, ↓rS_sSa, ↓rS_sSj, ↓rS_sInc, ↓rS_sSkip, ↓rS_sSeq, ↓rS_sIf, ↓rS_sRetI, ↓rS_sRetJ, ↓rS_sRetA, ↓rS_sRetV, ↓rS_sSw, ↓rD_meth, ↓rD_on, ↓kR_ref, ↓kI_int, ↓kJ_long, ↓kN_null, ↓kN_ref, ↓kN_rf, ↓kQ_ref, ↓kQ_null, ↓kQ_rf, o1_i, o1ij_i, o1ji_i, o2_i, o2d_i, o2j_i, o2ji_i, o2c_i, fv_0, fv_1, fv_2, fv_3, pf_0, pf_2, pf_3, pf_4, rf_s, rf_n, is_self, ge_0, ge_s, ge_n, gd_s, gd_n, se_0, se_s, ag_0, ex_n, ex_i, ex_r, ex_0, ex_j, ex_q, ap_c, ap_n, List.append_nil, ln_c, ln_n, rp_0, rp_s, rt_0, rt_1, rt_20, rt_21, rt_2, rt_3, rt_4, rt_4n, rt_4q, nl_0, nl_1, nl_2, nl_3, nl_4, nl_5, nl_6, nl_7, nl_8, nl_9, nlB_i, nlB_r, nlB_n, nlB_f, nlB_q, ↓reduceIte, reduceCtorEq, Nat.reduceAdd, Nat.reduceSub, Nat.reduceEqDiff, Nat.reduceLeDiff, Nat.reduceBEq, ite_true, ite_false, dt_t, Bool.not_true, Bool.not_false, Bool.false_eq_true, Nat.le_refl, true_and, and_true, true_or, or_true, false_or, or_false, false_and, and_false, qEq, qNe, qLt, qGe, qGt, qLe, rD_tb1 t0, rD_of d1, t1, f13, x1, f17, f19, f20, rD_of (d_in _ _ _ _), rD_of (d_has _ _ _), rD_of (d_ones A4 _), b32_ne, x2, b1, l1, e3, pT_uI, rD_tb1 (show pT (uI s1 35 18 1) 35 = 12 from t1), rD_of d7, rD_tb1 (Gd_T h3), rD_of d8, Gd_T h7, h7.2.2.2.1, one_ne0, not_false_eq_true, f20', nI_shl (show i < 8 by omega), nI_sdx]
        · rw [if_neg e6]
          obtain ⟨s7, d8, h7⟩ := g_end_f h3 e6
          refine ⟨s7, ?_, Go_l h7⟩
          refine rD_un.trans ?_
          simp only [D_X12_wantAsleep, B_X12_wantAsleep, pf_1 (Or.inl rfl), pf_1 (Or.inr rfl), ↓rE_eK, ↓rE_eLi, ↓rE_eLj, ↓rE_eLa, ↓rE_eU, ↓rE_eB, ↓rE_eG, ↓rE_eIF, ↓rE_eAI, ↓rE_eAX, ↓rE_eAJ, ↓rE_eAR, ↓rE_eLen, ↓rE_eSI, ↓rE_eC, ↓rE_eCall, ↓rE_eNew, ↓rE_eNewA, ↓rE_eInst, ↓rC_cI, ↓rC_cZ0, ↓rC_cN, ↓rC_cNot, ↓rC_cAnd, ↓rC_cOr, ↓rA_aN, ↓rA_aC, ↓rS_sP, ↓rS_sUF, ↓rS_sAI, ↓rS_sAJ, ↓rS_sAR, ↓rS_sUA, ↓rS_sCall, ↓rS_sObj, ↓rS_sSi, ↓rS_sSa, ↓rS_sSj, ↓rS_sInc, ↓rS_sSkip, ↓rS_sSeq, ↓rS_sIf, ↓rS_sRetI, ↓rS_sRetJ, ↓rS_sRetA, ↓rS_sRetV, ↓rS_sSw, ↓rD_meth, ↓rD_on, ↓kR_ref, ↓kI_int, ↓kJ_long, ↓kN_null, ↓kN_ref, ↓kN_rf, ↓kQ_ref, ↓kQ_null, ↓kQ_rf, o1_i, o1ij_i, o1ji_i, o2_i, o2d_i, o2j_i, o2ji_i, o2c_i, fv_0, fv_1, fv_2, fv_3, pf_0, pf_2, pf_3, pf_4, rf_s, rf_n, is_self, ge_0, ge_s, ge_n, gd_s, gd_n, se_0, se_s, ag_0, ex_n, ex_i, ex_r, ex_0, ex_j, ex_q, ap_c, ap_n, List.append_nil, ln_c, ln_n, rp_0, rp_s, rt_0, rt_1, rt_20, rt_21, rt_2, rt_3, rt_4, rt_4n, rt_4q, nl_0, nl_1, nl_2, nl_3, nl_4, nl_5, nl_6, nl_7, nl_8, nl_9, nlB_i, nlB_r, nlB_n, nlB_f, nlB_q, ↓reduceIte, reduceCtorEq, Nat.reduceAdd, Nat.reduceSub, Nat.reduceEqDiff, Nat.reduceLeDiff, Nat.reduceBEq, ite_true, ite_false, dt_t, Bool.not_true, Bool.not_false, Bool.false_eq_true, Nat.le_refl, true_and, and_true, true_or, or_true, false_or, or_false, false_and, and_false, qEq, qNe, qLt, qGe, qGt, qLe, rD_tb1 t0, rD_of d1, t1, f13, x1, f17, f19, f20, rD_of (d_in _ _ _ _), rD_of (d_has _ _ _), rD_of (d_ones A4 _), b32_ne, x2, b1, l1, e3, pT_uI, rD_tb1 (show pT (uI s1 35 18 1) 35 = 12 from t1), rD_of d7, rD_tb1 (Gd_T h3), rD_of d8, Bd_T h7, h7.2.2.1, not_true]
      · rw [if_neg (fun q => e3 q.2)]
        refine ⟨s6, ?_, Go_l h6⟩
        refine rD_un.trans ?_
        simp only [D_X12_wantAsleep, B_X12_wantAsleep, pf_1 (Or.inl rfl), pf_1 (Or.inr rfl), ↓rE_eK, ↓rE_eLi, ↓rE_eLj, ↓rE_eLa, ↓rE_eU, ↓rE_eB, ↓rE_eG, ↓rE_eIF, ↓rE_eAI, ↓rE_eAX, ↓rE_eAJ, ↓rE_eAR, ↓rE_eLen, ↓rE_eSI, ↓rE_eC, ↓rE_eCall, ↓rE_eNew, ↓rE_eNewA, ↓rE_eInst, ↓rC_cI, ↓rC_cZ0, ↓rC_cN, ↓rC_cNot, ↓rC_cAnd, ↓rC_cOr, ↓rA_aN, ↓rA_aC, ↓rS_sP, ↓rS_sUF, ↓rS_sAI, ↓rS_sAJ, ↓rS_sAR, ↓rS_sUA, ↓rS_sCall, ↓rS_sObj, ↓rS_sSi, ↓rS_sSa, ↓rS_sSj, ↓rS_sInc, ↓rS_sSkip, ↓rS_sSeq, ↓rS_sIf, ↓rS_sRetI, ↓rS_sRetJ, ↓rS_sRetA, ↓rS_sRetV, ↓rS_sSw, ↓rD_meth, ↓rD_on, ↓kR_ref, ↓kI_int, ↓kJ_long, ↓kN_null, ↓kN_ref, ↓kN_rf, ↓kQ_ref, ↓kQ_null, ↓kQ_rf, o1_i, o1ij_i, o1ji_i, o2_i, o2d_i, o2j_i, o2ji_i, o2c_i, fv_0, fv_1, fv_2, fv_3, pf_0, pf_2, pf_3, pf_4, rf_s, rf_n, is_self, ge_0, ge_s, ge_n, gd_s, gd_n, se_0, se_s, ag_0, ex_n, ex_i, ex_r, ex_0, ex_j, ex_q, ap_c, ap_n, List.append_nil, ln_c, ln_n, rp_0, rp_s, rt_0, rt_1, rt_20, rt_21, rt_2, rt_3, rt_4, rt_4n, rt_4q, nl_0, nl_1, nl_2, nl_3, nl_4, nl_5, nl_6, nl_7, nl_8, nl_9, nlB_i, nlB_r, nlB_n, nlB_f, nlB_q, ↓reduceIte, reduceCtorEq, Nat.reduceAdd, Nat.reduceSub, Nat.reduceEqDiff, Nat.reduceLeDiff, Nat.reduceBEq, ite_true, ite_false, dt_t, Bool.not_true, Bool.not_false, Bool.false_eq_true, Nat.le_refl, true_and, and_true, true_or, or_true, false_or, or_false, false_and, and_false, qEq, qNe, qLt, qGe, qGt, qLe, rD_tb1 t0, rD_of d1, t1, f13, x1, f17, f19, f20, rD_of (d_in _ _ _ _), rD_of (d_has _ _ _), rD_of (d_ones A4 _), b32_ne, x2, b1, l1, e3, pT_uI, rD_tb1 (show pT (uI s1 35 18 0) 35 = 12 from t1), rD_of d3, rD_tb1 (Bd_T h4), rD_of d6, Bd_T h6, h6.2.2.1, not_true]
    · rw [if_neg e2] at hbt
      have b1 : (bt (nI (wA wd)) (nI i) = 1) = False := by rw [hbt]; exact eq_false (by decide)
      rw [if_neg (fun q => e2 q.1)]
      refine ⟨s6, ?_, Go_l h6⟩
      refine rD_un.trans ?_
      simp only [D_X12_wantAsleep, B_X12_wantAsleep, pf_1 (Or.inl rfl), pf_1 (Or.inr rfl), ↓rE_eK, ↓rE_eLi, ↓rE_eLj, ↓rE_eLa, ↓rE_eU, ↓rE_eB, ↓rE_eG, ↓rE_eIF, ↓rE_eAI, ↓rE_eAX, ↓rE_eAJ, ↓rE_eAR, ↓rE_eLen, ↓rE_eSI, ↓rE_eC, ↓rE_eCall, ↓rE_eNew, ↓rE_eNewA, ↓rE_eInst, ↓rC_cI, ↓rC_cZ0, ↓rC_cN, ↓rC_cNot, ↓rC_cAnd, ↓rC_cOr, ↓rA_aN, ↓rA_aC, ↓rS_sP, ↓rS_sUF, ↓rS_sAI, ↓rS_sAJ, ↓rS_sAR, ↓rS_sUA, ↓rS_sCall, ↓rS_sObj, ↓rS_sSi, ↓rS_sSa, ↓rS_sSj, ↓rS_sInc, ↓rS_sSkip, ↓rS_sSeq, ↓rS_sIf, ↓rS_sRetI, ↓rS_sRetJ, ↓rS_sRetA, ↓rS_sRetV, ↓rS_sSw, ↓rD_meth, ↓rD_on, ↓kR_ref, ↓kI_int, ↓kJ_long, ↓kN_null, ↓kN_ref, ↓kN_rf, ↓kQ_ref, ↓kQ_null, ↓kQ_rf, o1_i, o1ij_i, o1ji_i, o2_i, o2d_i, o2j_i, o2ji_i, o2c_i, fv_0, fv_1, fv_2, fv_3, pf_0, pf_2, pf_3, pf_4, rf_s, rf_n, is_self, ge_0, ge_s, ge_n, gd_s, gd_n, se_0, se_s, ag_0, ex_n, ex_i, ex_r, ex_0, ex_j, ex_q, ap_c, ap_n, List.append_nil, ln_c, ln_n, rp_0, rp_s, rt_0, rt_1, rt_20, rt_21, rt_2, rt_3, rt_4, rt_4n, rt_4q, nl_0, nl_1, nl_2, nl_3, nl_4, nl_5, nl_6, nl_7, nl_8, nl_9, nlB_i, nlB_r, nlB_n, nlB_f, nlB_q, ↓reduceIte, reduceCtorEq, Nat.reduceAdd, Nat.reduceSub, Nat.reduceEqDiff, Nat.reduceLeDiff, Nat.reduceBEq, ite_true, ite_false, dt_t, Bool.not_true, Bool.not_false, Bool.false_eq_true, Nat.le_refl, true_and, and_true, true_or, or_true, false_or, or_false, false_and, and_false, qEq, qNe, qLt, qGe, qGt, qLe, rD_tb1 t0, rD_of d1, t1, f13, x1, f17, f19, f20, rD_of (d_in _ _ _ _), rD_of (d_has _ _ _), b32_ne, x2, b1, pT_uI, rD_tb1 (show pT (uI s1 35 18 0) 35 = 12 from t1), rD_of d3, rD_tb1 (Bd_T h4), rD_of d6, Bd_T h6, h6.2.2.1, not_true]
