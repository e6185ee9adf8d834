/-! What the constructors make (lists printed by gen_init.py). -/
def op1 (q : Nat × Nat × Nat × Nat) (σ : pm_H) : pm_H := if q.1 = 0 then nw σ q.2.1 q.2.2.1 q.2.2.2 else if q.1 = 1 then uR σ q.2.1 q.2.2.1 (some q.2.2.2) else uI σ q.2.1 q.2.2.1 (if q.2.2.2 = 0 then -1 else 1)
def ops : List (Nat × Nat × Nat × Nat) → pm_H → pm_H
  | [], σ => σ
  | q :: l, σ => ops l (op1 q σ)
def kT : List (Nat × Nat × Nat × Nat) → Nat → Nat → Nat → Nat
  | [], _, _, d => d
  | q :: l, p, a, d => if q.1 = 0 then kT l (p + 1) a (if a = p then q.2.1 else d) else kT l p a d
def kLn : List (Nat × Nat × Nat × Nat) → Nat → Nat → Nat → Nat
  | [], _, _, d => d
  | q :: l, p, a, d => if q.1 = 0 then kLn l (p + 1) a (if a = p then q.2.2.1 else d) else kLn l p a d
def kIn : List (Nat × Nat × Nat × Nat) → Nat → Nat → Nat → Int32 → Int32
  | [], _, _, _, d => d
  | q :: l, p, a, k, d => if q.1 = 0 then kIn l (p + 1) a k (if a = p then 0 else d) else if q.1 = 1 then kIn l p a k d else kIn l p a k (if a = q.2.1 ∧ k = q.2.2.1 then (if q.2.2.2 = 0 then -1 else 1) else d)
def kRf : List (Nat × Nat × Nat × Nat) → Nat → Nat → Nat → Option Nat → Option Nat
  | [], _, _, _, d => d
  | q :: l, p, a, k, d => if q.1 = 0 then kRf l (p + 1) a k (if a = p then none else d) else if q.1 = 1 then kRf l p a k (if a = q.2.1 ∧ k = q.2.2.1 then some q.2.2.2 else d) else kRf l p a k d
def kNN : List (Nat × Nat × Nat × Nat) → Nat → Nat
  | [], p => p
  | q :: l, p => if q.1 = 0 then kNN l (p + 1) else kNN l p
def kSS : List (Nat × Nat × Nat × Nat) → Nat → Nat
  | [], p => p
  | q :: l, p => if q.1 = 0 then kSS l (p + q.2.2.2) else kSS l p
theorem op_cases (q : Nat × Nat × Nat × Nat) (σ : pm_H) : (q.1 = 0 ∧ op1 q σ = nw σ q.2.1 q.2.2.1 q.2.2.2) ∨ (¬ q.1 = 0 ∧ q.1 = 1 ∧ op1 q σ = uR σ q.2.1 q.2.2.1 (some q.2.2.2)) ∨ (¬ q.1 = 0 ∧ ¬ q.1 = 1 ∧ op1 q σ = uI σ q.2.1 q.2.2.1 (if q.2.2.2 = 0 then -1 else 1)) := by
  unfold op1
  by_cases h0 : q.1 = 0
  · exact Or.inl ⟨h0, if_pos h0⟩
  · by_cases h1 : q.1 = 1
    · exact Or.inr (Or.inl ⟨h0, h1, by rw [if_neg h0, if_pos h1]⟩)
    · exact Or.inr (Or.inr ⟨h0, h1, by rw [if_neg h0, if_neg h1]⟩)
theorem ops_T : ∀ (l : List (Nat × Nat × Nat × Nat)) (σ : pm_H) (a : Nat), pT (ops l σ) a = kT l (pN σ) a (pT σ a) := by
  intro l
  induction l with
  | nil => intro σ a; rfl
  | cons q l ih =>
    intro σ a
    show pT (ops l (op1 q σ)) a = if q.1 = 0 then kT l (pN σ + 1) a (if a = pN σ then q.2.1 else pT σ a) else kT l (pN σ) a (pT σ a)
    rw [ih]
    rcases op_cases q σ with ⟨h0, e⟩ | ⟨h0, h1, e⟩ | ⟨h0, h1, e⟩
    · rw [if_pos h0, e, pT_nw, pN_nw]
    · rw [if_neg h0, e]; rfl
    · rw [if_neg h0, e]; rfl
theorem ops_L : ∀ (l : List (Nat × Nat × Nat × Nat)) (σ : pm_H) (a : Nat), pL (ops l σ) a = kLn l (pN σ) a (pL σ a) := by
  intro l
  induction l with
  | nil => intro σ a; rfl
  | cons q l ih =>
    intro σ a
    show pL (ops l (op1 q σ)) a = if q.1 = 0 then kLn l (pN σ + 1) a (if a = pN σ then q.2.2.1 else pL σ a) else kLn l (pN σ) a (pL σ a)
    rw [ih]
    rcases op_cases q σ with ⟨h0, e⟩ | ⟨h0, h1, e⟩ | ⟨h0, h1, e⟩
    · rw [if_pos h0, e, pL_nw, pN_nw]
    · rw [if_neg h0, e]; rfl
    · rw [if_neg h0, e]; rfl
theorem ops_I : ∀ (l : List (Nat × Nat × Nat × Nat)) (σ : pm_H) (a k : Nat), pI (ops l σ) a k = kIn l (pN σ) a k (pI σ a k) := by
  intro l
  induction l with
  | nil => intro σ a k; rfl
  | cons q l ih =>
    intro σ a k
    show pI (ops l (op1 q σ)) a k = if q.1 = 0 then kIn l (pN σ + 1) a k (if a = pN σ then 0 else pI σ a k) else if q.1 = 1 then kIn l (pN σ) a k (pI σ a k) else kIn l (pN σ) a k (if a = q.2.1 ∧ k = q.2.2.1 then (if q.2.2.2 = 0 then -1 else 1) else pI σ a k)
    rw [ih]
    rcases op_cases q σ with ⟨h0, e⟩ | ⟨h0, h1, e⟩ | ⟨h0, h1, e⟩
    · rw [if_pos h0, e, pI_nw, pN_nw]
    · rw [if_neg h0, if_pos h1, e]; rfl
    · rw [if_neg h0, if_neg h1, e, pI_uI]; rfl
theorem ops_R : ∀ (l : List (Nat × Nat × Nat × Nat)) (σ : pm_H) (a k : Nat), pR (ops l σ) a k = kRf l (pN σ) a k (pR σ a k) := by
  intro l
  induction l with
  | nil => intro σ a k; rfl
  | cons q l ih =>
    intro σ a k
    show pR (ops l (op1 q σ)) a k = if q.1 = 0 then kRf l (pN σ + 1) a k (if a = pN σ then none else pR σ a k) else if q.1 = 1 then kRf l (pN σ) a k (if a = q.2.1 ∧ k = q.2.2.1 then some q.2.2.2 else pR σ a k) else kRf l (pN σ) a k (pR σ a k)
    rw [ih]
    rcases op_cases q σ with ⟨h0, e⟩ | ⟨h0, h1, e⟩ | ⟨h0, h1, e⟩
    · rw [if_pos h0, e, pR_nw, pN_nw]
    · rw [if_neg h0, if_pos h1, e, pR_uR]; rfl
    · rw [if_neg h0, if_neg h1, e]; rfl
theorem ops_N : ∀ (l : List (Nat × Nat × Nat × Nat)) (σ : pm_H), pN (ops l σ) = kNN l (pN σ) := by
  intro l
  induction l with
  | nil => intro σ; rfl
  | cons q l ih =>
    intro σ
    show pN (ops l (op1 q σ)) = if q.1 = 0 then kNN l (pN σ + 1) else kNN l (pN σ)
    rw [ih]
    rcases op_cases q σ with ⟨h0, e⟩ | ⟨h0, h1, e⟩ | ⟨h0, h1, e⟩
    · rw [if_pos h0, e, pN_nw]
    · rw [if_neg h0, e]; rfl
    · rw [if_neg h0, e]; rfl
theorem ops_S : ∀ (l : List (Nat × Nat × Nat × Nat)) (σ : pm_H), pS (ops l σ) = kSS l (pS σ) := by
  intro l
  induction l with
  | nil => intro σ; rfl
  | cons q l ih =>
    intro σ
    show pS (ops l (op1 q σ)) = if q.1 = 0 then kSS l (pS σ + q.2.2.2) else kSS l (pS σ)
    rw [ih]
    rcases op_cases q σ with ⟨h0, e⟩ | ⟨h0, h1, e⟩ | ⟨h0, h1, e⟩
    · rw [if_pos h0, e, pS_nw]
    · rw [if_neg h0, e]; rfl
    · rw [if_neg h0, e]; rfl
theorem ops_n (σ : pm_H) : ops [] σ = σ := Eq.trans rfl rfl
theorem ops_c (q : Nat × Nat × Nat × Nat) (l : List (Nat × Nat × Nat × Nat)) (σ : pm_H) : ops (q :: l) σ = ops l (op1 q σ) := Eq.trans rfl rfl
theorem op_0 (t n s : Nat) (σ : pm_H) : op1 (0, t, n, s) σ = nw σ t n s := Eq.trans rfl rfl
theorem op_1 (a k v : Nat) (σ : pm_H) : op1 (1, a, k, v) σ = uR σ a k (some v) := Eq.trans rfl rfl
theorem op_20 (a k : Nat) (σ : pm_H) : op1 (2, a, k, 0) σ = uI σ a k (-1) := Eq.trans rfl rfl
theorem op_21 (a k : Nat) (σ : pm_H) : op1 (2, a, k, 1) σ = uI σ a k 1 := Eq.trans rfl rfl
theorem ops_app : ∀ (l m : List (Nat × Nat × Nat × Nat)) (σ : pm_H), ops (l ++ m) σ = ops m (ops l σ) := by
  intro l
  induction l with
  | nil => intro m σ; rfl
  | cons q l ih => intro m σ; exact ih m (op1 q σ)
theorem kT_old : ∀ (l : List (Nat × Nat × Nat × Nat)) (p a d : Nat), a < p → kT l p a d = d := by
  intro l
  induction l with
  | nil => intro p a d _; rfl
  | cons q l ih =>
    intro p a d h
    show (if q.1 = 0 then kT l (p + 1) a (if a = p then q.2.1 else d) else kT l p a d) = d
    rw [if_neg (show ¬ a = p by omega), ih _ _ _ (show a < p + 1 by omega), ih _ _ _ h]
    by_cases h0 : q.1 = 0
    · rw [if_pos h0]
    · rw [if_neg h0]
theorem ops_o {l : List (Nat × Nat × Nat × Nat)} {σ : pm_H} {a : Nat} (h : a < pN σ) : pT (ops l σ) a = pT σ a := by rw [ops_T, kT_old _ _ _ _ h]
def l_s (o k p : Nat) : List (Nat × Nat × Nat × Nat) := [(0, 13, 4, 4), (2, p, 0, 0), (2, p, 1, 0), (2, p, 2, 0), (2, p, 3, 0), (1, o, k, p)]
def mkl (o : Nat) : Nat → List (Nat × Nat × Nat) → List (Nat × Nat × Nat × Nat)
  | _, [] => []
  | p, q :: l => (0, q.2.1, q.2.2, q.2.2) :: (1, o, q.1, p) :: mkl o (p + 1) l
def bds (c : Nat) : List (Nat × Nat × Nat) → pm_S → pm_S
  | [], b => b
  | q :: l, b => sSeq (sP (is c) 3 q.1 (eLa 0) (eNewA q.2.1 (eK (.int (Int32.ofNat q.2.2))))) (bds c l b)
section INI
variable {α : Type} {kn : List Value → pm_H → Option α} {kr : Option Value → pm_H → Option α}
theorem nI_c1 {m : Nat} (h : m ≤ 1000) : ¬ nI m < 0 ∧ (nI m).toNatClampNeg = m := ⟨nI_nn (by omega), nI_cl (by omega)⟩
theorem fld {σ : pm_H} {o c k t m : Nat} {b : pm_S} (hT : pT σ o = c) (ho : o < pN σ) (hm : m ≤ 1000) : rS (sSeq (sP (is c) 3 k (eLa 0) (eNewA t (eK (.int (nI m))))) b) [.ref o] σ kn kr = rS b [.ref o] (uR (nw σ t m m) o k (some (pN σ))) kn kr := by
  obtain ⟨h1, h2⟩ := nI_c1 hm
  have h3 : pT (nw σ t m m) o = c := by rw [pT_nw, if_neg (by omega)]; exact hT
  simp only [↓rE_eK, ↓rE_eLi, ↓rE_eLj, ↓rE_eLa, ↓rE_eU, ↓rE_eB, ↓rE_eG, ↓rE_eIF, ↓rE_eAI, ↓rE_eAX, ↓rE_eAJ, ↓rE_eAR, ↓rE_eLen, ↓rE_eSI, ↓rE_eC, ↓rE_eCall, ↓rE_eNew, ↓rE_eNewA, ↓rE_eInst, ↓rC_cI, ↓rC_cZ0, ↓rC_cN, ↓rC_cNot, ↓rC_cAnd, ↓rC_cOr, ↓rA_aN, ↓rA_aC, ↓rS_sP, ↓rS_sUF, ↓rS_sAI, ↓rS_sAJ, ↓rS_sAR, ↓rS_sUA, ↓rS_sCall, ↓rS_sObj, ↓rS_sSi, ↓rS_sSa, ↓rS_sSj, ↓rS_sInc, ↓rS_sSkip, ↓rS_sSeq, ↓rS_sIf, ↓rS_sRetI, ↓rS_sRetJ, ↓rS_sRetA, ↓rS_sRetV, ↓rS_sSw, ↓rD_meth, ↓rD_on, ↓kR_ref, ↓kI_int, ↓kJ_long, ↓kN_null, ↓kN_ref, ↓kN_rf, ↓kQ_ref, ↓kQ_null, ↓kQ_rf, o1_i, o1ij_i, o1ji_i, o2_i, o2d_i, o2j_i, o2ji_i, o2c_i, fv_0, fv_1, fv_2, fv_3, pf_0, pf_2, pf_3, pf_4, rf_s, rf_n, is_self, ge_0, ge_s, ge_n, gd_s, gd_n, se_0, se_s, ag_0, ex_n, ex_i, ex_r, ex_0, ex_j, ex_q, ap_c, ap_n, List.append_nil, ln_c, ln_n, rp_0, rp_s, rt_0, rt_1, rt_20, rt_21, rt_2, rt_3, rt_4, rt_4n, rt_4q, nl_0, nl_1, nl_2, nl_3, nl_4, nl_5, nl_6, nl_7, nl_8, nl_9, nlB_i, nlB_r, nlB_n, nlB_f, nlB_q, ↓reduceIte, reduceCtorEq, Nat.reduceAdd, Nat.reduceSub, Nat.reduceEqDiff, Nat.reduceLeDiff, Nat.reduceBEq, ite_true, ite_false, dt_t, Bool.not_true, Bool.not_false, Bool.false_eq_true, Nat.le_refl, true_and, and_true, true_or, or_true, false_or, or_false, false_and, and_false, qEq, qNe, qLt, qGe, qGt, qLe, h1, h2, hm, h3, not_false_eq_true]
theorem rS_bds {o c : Nat} {b : pm_S} : ∀ (l : List (Nat × Nat × Nat)) (p : Nat) (σ : pm_H), pT σ o = c → pN σ = p → o < p → (∀ q ∈ l, q.2.2 ≤ 1000) → rS (bds c l b) [.ref o] σ kn kr = rS b [.ref o] (ops (mkl o p l) σ) kn kr := by
  intro l
  induction l with
  | nil => intro p σ _ _ _ _; rfl
  | cons q l ih =>
    intro p σ hT hp ho hl
    subst hp
    refine (fld (m := q.2.2) hT ho (hl q List.mem_cons_self)).trans ?_
    refine (ih (pN σ + 1) _ ?_ rfl (by omega) (fun q' hq => hl q' (List.mem_cons_of_mem _ hq))).trans rfl
    show pT (nw σ q.2.1 q.2.2 q.2.2) o = c
    rw [pT_nw, if_neg (by omega)]; exact hT
theorem fldN {σ σ' : pm_H} {o c k cc N p : Nat} {D : pm_D} {b : pm_S} (hp : pN σ = p) (hD : D [.ref p] (nw σ cc 0 N) = some (none, σ')) (hT : pT σ' o = c) : rS (sSeq (sP (is c) 3 k (eLa 0) (eNew cc N D (aN))) b) [.ref o] σ kn kr = rS b [.ref o] (uR σ' o k (some p)) kn kr := by
  subst hp
  simp only [↓rE_eK, ↓rE_eLi, ↓rE_eLj, ↓rE_eLa, ↓rE_eU, ↓rE_eB, ↓rE_eG, ↓rE_eIF, ↓rE_eAI, ↓rE_eAX, ↓rE_eAJ, ↓rE_eAR, ↓rE_eLen, ↓rE_eSI, ↓rE_eC, ↓rE_eCall, ↓rE_eNew, ↓rE_eNewA, ↓rE_eInst, ↓rC_cI, ↓rC_cZ0, ↓rC_cN, ↓rC_cNot, ↓rC_cAnd, ↓rC_cOr, ↓rA_aN, ↓rA_aC, ↓rS_sP, ↓rS_sUF, ↓rS_sAI, ↓rS_sAJ, ↓rS_sAR, ↓rS_sUA, ↓rS_sCall, ↓rS_sObj, ↓rS_sSi, ↓rS_sSa, ↓rS_sSj, ↓rS_sInc, ↓rS_sSkip, ↓rS_sSeq, ↓rS_sIf, ↓rS_sRetI, ↓rS_sRetJ, ↓rS_sRetA, ↓rS_sRetV, ↓rS_sSw, ↓rD_meth, ↓rD_on, ↓kR_ref, ↓kI_int, ↓kJ_long, ↓kN_null, ↓kN_ref, ↓kN_rf, ↓kQ_ref, ↓kQ_null, ↓kQ_rf, o1_i, o1ij_i, o1ji_i, o2_i, o2d_i, o2j_i, o2ji_i, o2c_i, fv_0, fv_1, fv_2, fv_3, pf_0, pf_2, pf_3, pf_4, rf_s, rf_n, is_self, ge_0, ge_s, ge_n, gd_s, gd_n, se_0, se_s, ag_0, ex_n, ex_i, ex_r, ex_0, ex_j, ex_q, ap_c, ap_n, List.append_nil, ln_c, ln_n, rp_0, rp_s, rt_0, rt_1, rt_20, rt_21, rt_2, rt_3, rt_4, rt_4n, rt_4q, nl_0, nl_1, nl_2, nl_3, nl_4, nl_5, nl_6, nl_7, nl_8, nl_9, nlB_i, nlB_r, nlB_n, nlB_f, nlB_q, ↓reduceIte, reduceCtorEq, Nat.reduceAdd, Nat.reduceSub, Nat.reduceEqDiff, Nat.reduceLeDiff, Nat.reduceBEq, ite_true, ite_false, dt_t, Bool.not_true, Bool.not_false, Bool.false_eq_true, Nat.le_refl, true_and, and_true, true_or, or_true, false_or, or_false, false_and, and_false, qEq, qNe, qLt, qGe, qGt, qLe, rD_of hD, hT]
theorem fldS {σ : pm_H} {o c k p : Nat} {b : pm_S} (hp : pN σ = p) (hT : pT σ o = c) (ho : o < p) : rS (sSeq (sP (is c) 3 k (eLa 0) (eSI (eSI (eSI (eSI (eNewA 13 (eK (.int 4))) (eK (.int 0)) (eK (.int (-1)))) (eK (.int 1)) (eK (.int (-1)))) (eK (.int 2)) (eK (.int (-1)))) (eK (.int 3)) (eK (.int (-1))))) b) [.ref o] σ kn kr = rS b [.ref o] (ops (l_s o k p) σ) kn kr := by
  subst hp
  unfold l_s
  have f1 : ¬ (4 : Int32) < 0 := by decide
  have f2 : (4 : Int32).toNatClampNeg = 4 := by decide
  have i0 : ib 0 4 = true := by decide
  have i1 : ib 1 4 = true := by decide
  have i2 : ib 2 4 = true := by decide
  have i3 : ib 3 4 = true := by decide
  have c0 : (0 : Int32).toNatClampNeg = 0 := by decide
  have c1 : (1 : Int32).toNatClampNeg = 1 := by decide
  have c2 : (2 : Int32).toNatClampNeg = 2 := by decide
  have c3 : (3 : Int32).toNatClampNeg = 3 := by decide
  have h3 : pT (nw σ 13 4 4) o = c := by rw [pT_nw, if_neg (by omega)]; exact hT
  have h4 : pT (nw σ 13 4 4) (pN σ) = 13 := by rw [pT_nw, if_pos rfl]
  have h5 : pL (nw σ 13 4 4) (pN σ) = 4 := by rw [pL_nw, if_pos rfl]
  simp only [↓rE_eK, ↓rE_eLi, ↓rE_eLj, ↓rE_eLa, ↓rE_eU, ↓rE_eB, ↓rE_eG, ↓rE_eIF, ↓rE_eAI, ↓rE_eAX, ↓rE_eAJ, ↓rE_eAR, ↓rE_eLen, ↓rE_eSI, ↓rE_eC, ↓rE_eCall, ↓rE_eNew, ↓rE_eNewA, ↓rE_eInst, ↓rC_cI, ↓rC_cZ0, ↓rC_cN, ↓rC_cNot, ↓rC_cAnd, ↓rC_cOr, ↓rA_aN, ↓rA_aC, ↓rS_sP, ↓rS_sUF, ↓rS_sAI, ↓rS_sAJ, ↓rS_sAR, ↓rS_sUA, ↓rS_sCall, ↓rS_sObj, ↓rS_sSi, ↓rS_sSa, ↓rS_sSj, ↓rS_sInc, ↓rS_sSkip, ↓rS_sSeq, ↓rS_sIf, ↓rS_sRetI, ↓rS_sRetJ, ↓rS_sRetA, ↓rS_sRetV, ↓rS_sSw, ↓rD_meth, ↓rD_on, ↓kR_ref, ↓kI_int, ↓kJ_long, ↓kN_null, ↓kN_ref, ↓kN_rf, ↓kQ_ref, ↓kQ_null, ↓kQ_rf, o1_i, o1ij_i, o1ji_i, o2_i, o2d_i, o2j_i, o2ji_i, o2c_i, fv_0, fv_1, fv_2, fv_3, pf_0, pf_2, pf_3, pf_4, rf_s, rf_n, is_self, ge_0, ge_s, ge_n, gd_s, gd_n, se_0, se_s, ag_0, ex_n, ex_i, ex_r, ex_0, ex_j, ex_q, ap_c, ap_n, List.append_nil, ln_c, ln_n, rp_0, rp_s, rt_0, rt_1, rt_20, rt_21, rt_2, rt_3, rt_4, rt_4n, rt_4q, nl_0, nl_1, nl_2, nl_3, nl_4, nl_5, nl_6, nl_7, nl_8, nl_9, nlB_i, nlB_r, nlB_n, nlB_f, nlB_q, ↓reduceIte, reduceCtorEq, Nat.reduceAdd, Nat.reduceSub, Nat.reduceEqDiff, Nat.reduceLeDiff, Nat.reduceBEq, ite_true, ite_false, dt_t, Bool.not_true, Bool.not_false, Bool.false_eq_true, Nat.le_refl, true_and, and_true, true_or, or_true, false_or, or_false, false_and, and_false, qEq, qNe, qLt, qGe, qGt, qLe, f1, f2, i0, i1, i2, i3, c0, c1, c2, c3, h3, h4, h5, pT_uI, pL_uI, not_false_eq_true, ops_c, ops_n, op_0, op_1, op_20]
end INI
theorem d_bds {c o p : Nat} {l : List (Nat × Nat × Nat)} {σ : pm_H} (hT : pT σ o = c) (hp : pN σ = p) (ho : o < p) (hl : ∀ q ∈ l, q.2.2 ≤ 1000) : pm_meth 0 1 (sSeq (sObj (eLa 0)) (bds c l sRetV)) [.ref o] σ = some (none, ops (mkl o p l) σ) := by
  refine rD_un.trans ?_
  simp only [↓rE_eK, ↓rE_eLi, ↓rE_eLj, ↓rE_eLa, ↓rE_eU, ↓rE_eB, ↓rE_eG, ↓rE_eIF, ↓rE_eAI, ↓rE_eAX, ↓rE_eAJ, ↓rE_eAR, ↓rE_eLen, ↓rE_eSI, ↓rE_eC, ↓rE_eCall, ↓rE_eNew, ↓rE_eNewA, ↓rE_eInst, ↓rC_cI, ↓rC_cZ0, ↓rC_cN, ↓rC_cNot, ↓rC_cAnd, ↓rC_cOr, ↓rA_aN, ↓rA_aC, ↓rS_sP, ↓rS_sUF, ↓rS_sAI, ↓rS_sAJ, ↓rS_sAR, ↓rS_sUA, ↓rS_sCall, ↓rS_sObj, ↓rS_sSi, ↓rS_sSa, ↓rS_sSj, ↓rS_sInc, ↓rS_sSkip, ↓rS_sSeq, ↓rS_sIf, ↓rS_sRetI, ↓rS_sRetJ, ↓rS_sRetA, ↓rS_sRetV, ↓rS_sSw, ↓rD_meth, ↓rD_on, ↓kR_ref, ↓kI_int, ↓kJ_long, ↓kN_null, ↓kN_ref, ↓kN_rf, ↓kQ_ref, ↓kQ_null, ↓kQ_rf, o1_i, o1ij_i, o1ji_i, o2_i, o2d_i, o2j_i, o2ji_i, o2c_i, fv_0, fv_1, fv_2, fv_3, pf_0, pf_2, pf_3, pf_4, rf_s, rf_n, is_self, ge_0, ge_s, ge_n, gd_s, gd_n, se_0, se_s, ag_0, ex_n, ex_i, ex_r, ex_0, ex_j, ex_q, ap_c, ap_n, List.append_nil, ln_c, ln_n, rp_0, rp_s, rt_0, rt_1, rt_20, rt_21, rt_2, rt_3, rt_4, rt_4n, rt_4q, nl_0, nl_1, nl_2, nl_3, nl_4, nl_5, nl_6, nl_7, nl_8, nl_9, nlB_i, nlB_r, nlB_n, nlB_f, nlB_q, ↓reduceIte, reduceCtorEq, Nat.reduceAdd, Nat.reduceSub, Nat.reduceEqDiff, Nat.reduceLeDiff, Nat.reduceBEq, ite_true, ite_false, dt_t, Bool.not_true, Bool.not_false, Bool.false_eq_true, Nat.le_refl, true_and, and_true, true_or, or_true, false_or, or_false, false_and, and_false, qEq, qNe, qLt, qGe, qGt, qLe, rS_bds l p σ hT hp ho hl]
def f_3 : List (Nat × Nat × Nat) := [(0, 13, 18), (3, 13, 92), (5, 13, 256), (6, 13, 256), (7, 13, 256), (8, 13, 256), (9, 13, 256), (10, 13, 256), (11, 13, 256), (12, 13, 8), (13, 13, 8)]
theorem d_i3 {σ : pm_H} {p : Nat} (hp : pN σ = p) : D_X3_init [.ref p] (nw σ 3 0 15) = some (none, ops (mkl p (p + 1) f_3) (nw σ 3 0 15)) := by
  have e : B_X3_init = sSeq (sObj (eLa 0)) (bds 3 f_3 sRetV) := rfl
  unfold D_X3_init
  rw [e]
  exact d_bds (by rw [pT_nw, if_pos hp.symm]) (by rw [pN_nw, hp]) (by omega) (by decide)
theorem d_i7 {σ : pm_H} {p : Nat} (hp : pN σ = p) : D_X7_init [.ref p] (nw σ 7 0 4) = some (none, ops (mkl p (p + 1) [(0, 13, 200)]) (nw σ 7 0 4)) := by
  have e : B_X7_init = sSeq (sObj (eLa 0)) (bds 7 [(0, 13, 200)] sRetV) := rfl
  unfold D_X7_init
  rw [e]
  exact d_bds (by rw [pT_nw, if_pos hp.symm]) (by rw [pN_nw, hp]) (by omega) (by decide)
theorem d_i8 {σ : pm_H} {p : Nat} (hp : pN σ = p) : D_X8_init [.ref p] (nw σ 8 0 3) = some (none, ops (mkl p (p + 1) [(0, 13, 30)]) (nw σ 8 0 3)) := by
  have e : B_X8_init = sSeq (sObj (eLa 0)) (bds 8 [(0, 13, 30)] sRetV) := rfl
  unfold D_X8_init
  rw [e]
  exact d_bds (by rw [pT_nw, if_pos hp.symm]) (by rw [pN_nw, hp]) (by omega) (by decide)
theorem d_i10 {σ : pm_H} {p : Nat} (hp : pN σ = p) : D_X10_init [.ref p] (nw σ 10 0 5) = some (none, ops [(0, 15, 8, 8), (1, p, 0, p + 1), (0, 13, 64, 64), (1, p, 1, p + 2), (2, p, 4, 1)] (nw σ 10 0 5)) := by
  subst hp
  exact d_newValley σ
def l_1 : List (Nat × Nat × Nat × Nat) := [(0, 15, 8, 8), (1, 12, 0, 13), (0, 13, 64, 64), (1, 12, 1, 14), (2, 12, 4, 1)]
def f_c : List (Nat × Nat × Nat) := [(5, 13, 24), (7, 16, 4), (8, 16, 4)]
def lsC : List (Nat × Nat × Nat × Nat) := (0, 11, 0, 10) :: (0, 10, 0, 5) :: (l_1 ++ ((1, 11, 0, 12) :: (0, 3, 0, 15) :: (mkl 15 16 f_3 ++ ((1, 11, 2, 15) :: (0, 7, 0, 4) :: (mkl 27 28 [(0, 13, 200)] ++ ((1, 11, 3, 27) :: (0, 8, 0, 3) :: (mkl 29 30 [(0, 13, 30)] ++ ((1, 11, 4, 29) :: (mkl 11 31 f_c ++ l_s 11 9 34)))))))))
theorem lsC_is : lsC = [(0, 11, 0, 10), (0, 10, 0, 5), (0, 15, 8, 8), (1, 12, 0, 13), (0, 13, 64, 64), (1, 12, 1, 14), (2, 12, 4, 1), (1, 11, 0, 12), (0, 3, 0, 15), (0, 13, 18, 18), (1, 15, 0, 16), (0, 13, 92, 92), (1, 15, 3, 17), (0, 13, 256, 256), (1, 15, 5, 18), (0, 13, 256, 256), (1, 15, 6, 19), (0, 13, 256, 256), (1, 15, 7, 20), (0, 13, 256, 256), (1, 15, 8, 21), (0, 13, 256, 256), (1, 15, 9, 22), (0, 13, 256, 256), (1, 15, 10, 23), (0, 13, 256, 256), (1, 15, 11, 24), (0, 13, 8, 8), (1, 15, 12, 25), (0, 13, 8, 8), (1, 15, 13, 26), (1, 11, 2, 15), (0, 7, 0, 4), (0, 13, 200, 200), (1, 27, 0, 28), (1, 11, 3, 27), (0, 8, 0, 3), (0, 13, 30, 30), (1, 29, 0, 30), (1, 11, 4, 29), (0, 13, 24, 24), (1, 11, 5, 31), (0, 16, 4, 4), (1, 11, 7, 32), (0, 16, 4, 4), (1, 11, 8, 33), (0, 13, 4, 4), (2, 34, 0, 0), (2, 34, 1, 0), (2, 34, 2, 0), (2, 34, 3, 0), (1, 11, 9, 34)] := by decide +kernel
theorem d_initC {σ : pm_H} (hN : pN σ = 11) : D_X11_init [.ref 11] (nw σ 11 0 10) = some (none, ops lsC σ) := by
  have eB : B_X11_init = sSeq (sObj (eLa 0)) (sSeq (sP (is 11) 3 0 (eLa 0) (eNew 10 5 D_X10_init (aN))) (sSeq (sP (is 11) 3 2 (eLa 0) (eNew 3 15 D_X3_init (aN))) (sSeq (sP (is 11) 3 3 (eLa 0) (eNew 7 4 D_X7_init (aN))) (sSeq (sP (is 11) 3 4 (eLa 0) (eNew 8 3 D_X8_init (aN))) (bds 11 f_c (sSeq (sP (is 11) 3 9 (eLa 0) (eSI (eSI (eSI (eSI (eNewA 13 (eK (.int 4))) (eK (.int 0)) (eK (.int (-1)))) (eK (.int 1)) (eK (.int (-1)))) (eK (.int 2)) (eK (.int (-1)))) (eK (.int 3)) (eK (.int (-1))))) (sRetV))))))) := rfl
  obtain ⟨S0, e0⟩ : ∃ S0, S0 = nw σ 11 0 10 := ⟨_, rfl⟩
  have n0 : pN S0 = 12 := by rw [e0, pN_nw, hN]
  have t0 : pT S0 11 = 11 := by rw [e0, pT_nw, if_pos hN.symm]
  obtain ⟨S1, e1⟩ : ∃ S1, S1 = ops l_1 (nw S0 10 0 5) := ⟨_, rfl⟩
  have m1 : pN (nw S0 10 0 5) = 13 := by rw [pN_nw, n0]
  have n1 : pN S1 = 15 := by rw [e1, ops_N, m1]; decide +kernel
  have t1 : pT S1 11 = 11 := by rw [e1, ops_o (by omega), pT_nw, if_neg (by omega)]; exact t0
  obtain ⟨A1, a1⟩ : ∃ A1, A1 = uR S1 11 0 (some 12) := ⟨_, rfl⟩
  have o1 : pN A1 = 15 := by rw [a1]; exact n1
  have u1 : pT A1 11 = 11 := by rw [a1]; exact t1
  obtain ⟨S2, e2⟩ : ∃ S2, S2 = ops (mkl 15 16 f_3) (nw A1 3 0 15) := ⟨_, rfl⟩
  have m2 : pN (nw A1 3 0 15) = 16 := by rw [pN_nw, o1]
  have n2 : pN S2 = 27 := by rw [e2, ops_N, m2]; decide +kernel
  have t2 : pT S2 11 = 11 := by rw [e2, ops_o (by omega), pT_nw, if_neg (by omega)]; exact u1
  obtain ⟨A2, a2⟩ : ∃ A2, A2 = uR S2 11 2 (some 15) := ⟨_, rfl⟩
  have o2 : pN A2 = 27 := by rw [a2]; exact n2
  have u2 : pT A2 11 = 11 := by rw [a2]; exact t2
  obtain ⟨S3, e3⟩ : ∃ S3, S3 = ops (mkl 27 28 [(0, 13, 200)]) (nw A2 7 0 4) := ⟨_, rfl⟩
  have m3 : pN (nw A2 7 0 4) = 28 := by rw [pN_nw, o2]
  have n3 : pN S3 = 29 := by rw [e3, ops_N, m3]; decide +kernel
  have t3 : pT S3 11 = 11 := by rw [e3, ops_o (by omega), pT_nw, if_neg (by omega)]; exact u2
  obtain ⟨A3, a3⟩ : ∃ A3, A3 = uR S3 11 3 (some 27) := ⟨_, rfl⟩
  have o3 : pN A3 = 29 := by rw [a3]; exact n3
  have u3 : pT A3 11 = 11 := by rw [a3]; exact t3
  obtain ⟨S4, e4⟩ : ∃ S4, S4 = ops (mkl 29 30 [(0, 13, 30)]) (nw A3 8 0 3) := ⟨_, rfl⟩
  have m4 : pN (nw A3 8 0 3) = 30 := by rw [pN_nw, o3]
  have n4 : pN S4 = 31 := by rw [e4, ops_N, m4]; decide +kernel
  have t4 : pT S4 11 = 11 := by rw [e4, ops_o (by omega), pT_nw, if_neg (by omega)]; exact u3
  obtain ⟨A4, a4⟩ : ∃ A4, A4 = uR S4 11 4 (some 29) := ⟨_, rfl⟩
  have o4 : pN A4 = 31 := by rw [a4]; exact n4
  have u4 : pT A4 11 = 11 := by rw [a4]; exact t4
  obtain ⟨A5, a5⟩ : ∃ A5, A5 = ops (mkl 11 31 f_c) A4 := ⟨_, rfl⟩
  have o5 : pN A5 = 34 := by rw [a5, ops_N, o4]; decide +kernel
  have u5 : pT A5 11 = 11 := by rw [a5, ops_o (by omega)]; exact u4
  have hE : ops lsC σ = ops (l_s 11 9 34) A5 := by
    simp only [lsC, ops_c, ops_app, op_0, op_1]
    rw [a5, a4, e4, a3, e3, a2, e2, a1, e1, e0]
  have d1 : D_X10_init [.ref 12] (nw S0 10 0 5) = some (none, S1) := by rw [e1]; exact d_i10 n0
  have d2 : D_X3_init [.ref 15] (nw A1 3 0 15) = some (none, S2) := by rw [e2]; exact d_i3 o1
  have d3 : D_X7_init [.ref 27] (nw A2 7 0 4) = some (none, S3) := by rw [e3]; exact d_i7 o2
  have d4 : D_X8_init [.ref 29] (nw A3 8 0 3) = some (none, S4) := by rw [e4]; exact d_i8 o3
  rw [hE, ← e0]
  refine rD_un.trans ?_
  have run : ∀ {α : Type} (kn : List Value → pm_H → Option α) (kr : Option Value → pm_H → Option α), rS B_X11_init [.ref 11] S0 kn kr = kr none (ops (l_s 11 9 34) A5) := by
    intro α kn kr
    rw [eB]
    have g1 := fldN (o := 11) (c := 11) (k := 0) (kn := kn) (kr := kr) (b := sSeq (sP (is 11) 3 2 (eLa 0) (eNew 3 15 D_X3_init (aN))) (sSeq (sP (is 11) 3 3 (eLa 0) (eNew 7 4 D_X7_init (aN))) (sSeq (sP (is 11) 3 4 (eLa 0) (eNew 8 3 D_X8_init (aN))) (bds 11 f_c (sSeq (sP (is 11) 3 9 (eLa 0) (eSI (eSI (eSI (eSI (eNewA 13 (eK (.int 4))) (eK (.int 0)) (eK (.int (-1)))) (eK (.int 1)) (eK (.int (-1)))) (eK (.int 2)) (eK (.int (-1)))) (eK (.int 3)) (eK (.int (-1))))) (sRetV)))))) n0 d1 t1
    have g0 : ∀ b, rS (sSeq (sObj (eLa 0)) b) [.ref 11] S0 kn kr = rS b [.ref 11] S0 kn kr := fun b => by simp only [↓rE_eK, ↓rE_eLi, ↓rE_eLj, ↓rE_eLa, ↓rE_eU, ↓rE_eB, ↓rE_eG, ↓rE_eIF, ↓rE_eAI, ↓rE_eAX, ↓rE_eAJ, ↓rE_eAR, ↓rE_eLen, ↓rE_eSI, ↓rE_eC, ↓rE_eCall, ↓rE_eNew, ↓rE_eNewA, ↓rE_eInst, ↓rC_cI, ↓rC_cZ0, ↓rC_cN, ↓rC_cNot, ↓rC_cAnd, ↓rC_cOr, ↓rA_aN, ↓rA_aC, ↓rS_sP, ↓rS_sUF, ↓rS_sAI, ↓rS_sAJ, ↓rS_sAR, ↓rS_sUA, ↓rS_sCall, ↓rS_sObj, ↓rS_sSi, ↓rS_sSa, ↓rS_sSj, ↓rS_sInc, ↓rS_sSkip, ↓rS_sSeq, ↓rS_sIf, ↓rS_sRetI, ↓rS_sRetJ, ↓rS_sRetA, ↓rS_sRetV, ↓rS_sSw, ↓rD_meth, ↓rD_on, ↓kR_ref, ↓kI_int, ↓kJ_long, ↓kN_null, ↓kN_ref, ↓kN_rf, ↓kQ_ref, ↓kQ_null, ↓kQ_rf, o1_i, o1ij_i, o1ji_i, o2_i, o2d_i, o2j_i, o2ji_i, o2c_i, fv_0, fv_1, fv_2, fv_3, pf_0, pf_2, pf_3, pf_4, rf_s, rf_n, is_self, ge_0, ge_s, ge_n, gd_s, gd_n, se_0, se_s, ag_0, ex_n, ex_i, ex_r, ex_0, ex_j, ex_q, ap_c, ap_n, List.append_nil, ln_c, ln_n, rp_0, rp_s, rt_0, rt_1, rt_20, rt_21, rt_2, rt_3, rt_4, rt_4n, rt_4q, nl_0, nl_1, nl_2, nl_3, nl_4, nl_5, nl_6, nl_7, nl_8, nl_9, nlB_i, nlB_r, nlB_n, nlB_f, nlB_q, ↓reduceIte, reduceCtorEq, Nat.reduceAdd, Nat.reduceSub, Nat.reduceEqDiff, Nat.reduceLeDiff, Nat.reduceBEq, ite_true, ite_false, dt_t, Bool.not_true, Bool.not_false, Bool.false_eq_true, Nat.le_refl, true_and, and_true, true_or, or_true, false_or, or_false, false_and, and_false, qEq, qNe, qLt, qGe, qGt, qLe]
    rw [g0, g1, ← a1, fldN o1 d2 t2, ← a2, fldN o2 d3 t3, ← a3, fldN o3 d4 t4, ← a4, rS_bds f_c 31 A4 u4 o4 (by decide) (by decide), ← a5, fldS o5 u5 (by decide), rS_sRetV]
  simp only [D_X11_init, ↓rE_eK, ↓rE_eLi, ↓rE_eLj, ↓rE_eLa, ↓rE_eU, ↓rE_eB, ↓rE_eG, ↓rE_eIF, ↓rE_eAI, ↓rE_eAX, ↓rE_eAJ, ↓rE_eAR, ↓rE_eLen, ↓rE_eSI, ↓rE_eC, ↓rE_eCall, ↓rE_eNew, ↓rE_eNewA, ↓rE_eInst, ↓rC_cI, ↓rC_cZ0, ↓rC_cN, ↓rC_cNot, ↓rC_cAnd, ↓rC_cOr, ↓rA_aN, ↓rA_aC, ↓rS_sP, ↓rS_sUF, ↓rS_sAI, ↓rS_sAJ, ↓rS_sAR, ↓rS_sUA, ↓rS_sCall, ↓rS_sObj, ↓rS_sSi, ↓rS_sSa, ↓rS_sSj, ↓rS_sInc, ↓rS_sSkip, ↓rS_sSeq, ↓rS_sIf, ↓rS_sRetI, ↓rS_sRetJ, ↓rS_sRetA, ↓rS_sRetV, ↓rS_sSw, ↓rD_meth, ↓rD_on, ↓kR_ref, ↓kI_int, ↓kJ_long, ↓kN_null, ↓kN_ref, ↓kN_rf, ↓kQ_ref, ↓kQ_null, ↓kQ_rf, o1_i, o1ij_i, o1ji_i, o2_i, o2d_i, o2j_i, o2ji_i, o2c_i, fv_0, fv_1, fv_2, fv_3, pf_0, pf_2, pf_3, pf_4, rf_s, rf_n, is_self, ge_0, ge_s, ge_n, gd_s, gd_n, se_0, se_s, ag_0, ex_n, ex_i, ex_r, ex_0, ex_j, ex_q, ap_c, ap_n, List.append_nil, ln_c, ln_n, rp_0, rp_s, rt_0, rt_1, rt_20, rt_21, rt_2, rt_3, rt_4, rt_4n, rt_4q, nl_0, nl_1, nl_2, nl_3, nl_4, nl_5, nl_6, nl_7, nl_8, nl_9, nlB_i, nlB_r, nlB_n, nlB_f, nlB_q, ↓reduceIte, reduceCtorEq, Nat.reduceAdd, Nat.reduceSub, Nat.reduceEqDiff, Nat.reduceLeDiff, Nat.reduceBEq, ite_true, ite_false, dt_t, Bool.not_true, Bool.not_false, Bool.false_eq_true, Nat.le_refl, true_and, and_true, true_or, or_true, false_or, or_false, false_and, and_false, qEq, qNe, qLt, qGe, qGt, qLe, run]
def f_m1 : List (Nat × Nat × Nat) := [(1, 13, 8), (2, 13, 8), (3, 13, 8), (4, 13, 8), (5, 13, 8), (6, 13, 8), (7, 13, 64)]
def f_m2 : List (Nat × Nat × Nat) := [(11, 13, 200), (21, 13, 8), (22, 13, 8), (23, 13, 8), (24, 13, 8), (25, 13, 64), (26, 13, 256), (27, 13, 256), (28, 13, 256), (29, 13, 256), (30, 13, 256), (31, 13, 8), (32, 13, 8), (35, 13, 24)]
def f_m3 : List (Nat × Nat × Nat) := [(38, 13, 4), (39, 14, 160)]
def f_m4 : List (Nat × Nat × Nat) := [(41, 13, 4), (42, 13, 4), (46, 13, 30), (50, 13, 120), (52, 13, 4)]
def lsM : List (Nat × Nat × Nat × Nat) := (0, 12, 0, 53) :: (mkl 35 36 f_m1 ++ ((2, 35, 10, 1) :: (mkl 35 43 f_m2 ++ (l_s 35 37 57 ++ (mkl 35 58 f_m3 ++ (l_s 35 40 60 ++ mkl 35 61 f_m4))))))
theorem lsM_is : lsM = [(0, 12, 0, 53), (0, 13, 8, 8), (1, 35, 1, 36), (0, 13, 8, 8), (1, 35, 2, 37), (0, 13, 8, 8), (1, 35, 3, 38), (0, 13, 8, 8), (1, 35, 4, 39), (0, 13, 8, 8), (1, 35, 5, 40), (0, 13, 8, 8), (1, 35, 6, 41), (0, 13, 64, 64), (1, 35, 7, 42), (2, 35, 10, 1), (0, 13, 200, 200), (1, 35, 11, 43), (0, 13, 8, 8), (1, 35, 21, 44), (0, 13, 8, 8), (1, 35, 22, 45), (0, 13, 8, 8), (1, 35, 23, 46), (0, 13, 8, 8), (1, 35, 24, 47), (0, 13, 64, 64), (1, 35, 25, 48), (0, 13, 256, 256), (1, 35, 26, 49), (0, 13, 256, 256), (1, 35, 27, 50), (0, 13, 256, 256), (1, 35, 28, 51), (0, 13, 256, 256), (1, 35, 29, 52), (0, 13, 256, 256), (1, 35, 30, 53), (0, 13, 8, 8), (1, 35, 31, 54), (0, 13, 8, 8), (1, 35, 32, 55), (0, 13, 24, 24), (1, 35, 35, 56), (0, 13, 4, 4), (2, 57, 0, 0), (2, 57, 1, 0), (2, 57, 2, 0), (2, 57, 3, 0), (1, 35, 37, 57), (0, 13, 4, 4), (1, 35, 38, 58), (0, 14, 160, 160), (1, 35, 39, 59), (0, 13, 4, 4), (2, 60, 0, 0), (2, 60, 1, 0), (2, 60, 2, 0), (2, 60, 3, 0), (1, 35, 40, 60), (0, 13, 4, 4), (1, 35, 41, 61), (0, 13, 4, 4), (1, 35, 42, 62), (0, 13, 30, 30), (1, 35, 46, 63), (0, 13, 120, 120), (1, 35, 50, 64), (0, 13, 4, 4), (1, 35, 52, 65)] := by decide +kernel
def sx4 (k : Nat) (b : pm_S) : pm_S := sSeq (sP (is 12) 3 k (eLa 0) (eSI (eSI (eSI (eSI (eNewA 13 (eK (.int 4))) (eK (.int 0)) (eK (.int (-1)))) (eK (.int 1)) (eK (.int (-1)))) (eK (.int 2)) (eK (.int (-1)))) (eK (.int 3)) (eK (.int (-1))))) b
theorem d_initM {σ : pm_H} (hN : pN σ = 35) : D_X12_init [.ref 35] (nw σ 12 0 53) = some (none, ops lsM σ) := by
  have eB : B_X12_init = sSeq (sObj (eLa 0)) (bds 12 f_m1 (sSeq (sP (is 12) 0 10 (eLa 0) (eK (.int 1))) (bds 12 f_m2 (sx4 37 (bds 12 f_m3 (sx4 40 (bds 12 f_m4 sRetV))))))) := rfl
  obtain ⟨S0, e0⟩ : ∃ S0, S0 = nw σ 12 0 53 := ⟨_, rfl⟩
  have n0 : pN S0 = 36 := by rw [e0, pN_nw, hN]
  have t0 : pT S0 35 = 12 := by rw [e0, pT_nw, if_pos hN.symm]
  obtain ⟨S1, e1⟩ : ∃ S1, S1 = ops (mkl 35 36 f_m1) S0 := ⟨_, rfl⟩
  have n1 : pN S1 = 43 := by rw [e1, ops_N, n0]; decide +kernel
  have t1 : pT S1 35 = 12 := by rw [e1, ops_o (by omega)]; exact t0
  obtain ⟨S2, e2⟩ : ∃ S2, S2 = uI S1 35 10 1 := ⟨_, rfl⟩
  have n2 : pN S2 = 43 := by rw [e2]; exact n1
  have t2 : pT S2 35 = 12 := by rw [e2]; exact t1
  obtain ⟨S3, e3⟩ : ∃ S3, S3 = ops (mkl 35 43 f_m2) S2 := ⟨_, rfl⟩
  have n3 : pN S3 = 57 := by rw [e3, ops_N, n2]; decide +kernel
  have t3 : pT S3 35 = 12 := by rw [e3, ops_o (by omega)]; exact t2
  obtain ⟨S4, e4⟩ : ∃ S4, S4 = ops (l_s 35 37 57) S3 := ⟨_, rfl⟩
  have n4 : pN S4 = 58 := by rw [e4, ops_N, n3]; decide +kernel
  have t4 : pT S4 35 = 12 := by rw [e4, ops_o (by omega)]; exact t3
  obtain ⟨S5, e5⟩ : ∃ S5, S5 = ops (mkl 35 58 f_m3) S4 := ⟨_, rfl⟩
  have n5 : pN S5 = 60 := by rw [e5, ops_N, n4]; decide +kernel
  have t5 : pT S5 35 = 12 := by rw [e5, ops_o (by omega)]; exact t4
  obtain ⟨S6, e6⟩ : ∃ S6, S6 = ops (l_s 35 40 60) S5 := ⟨_, rfl⟩
  have n6 : pN S6 = 61 := by rw [e6, ops_N, n5]; decide +kernel
  have t6 : pT S6 35 = 12 := by rw [e6, ops_o (by omega)]; exact t5
  have hE : ops lsM σ = ops (mkl 35 61 f_m4) S6 := by
    simp only [lsM, ops_c, ops_app, op_0, op_1, op_21]
    rw [e6, e5, e4, e3, e2, e1, e0]
  rw [hE, ← e0]
  refine rD_un.trans ?_
  have run : ∀ {α : Type} (kn : List Value → pm_H → Option α) (kr : Option Value → pm_H → Option α), rS B_X12_init [.ref 35] S0 kn kr = kr none (ops (mkl 35 61 f_m4) S6) := by
    intro α kn kr
    rw [eB]
    have g0 : ∀ b, rS (sSeq (sObj (eLa 0)) b) [.ref 35] S0 kn kr = rS b [.ref 35] S0 kn kr := fun b => by simp only [↓rE_eK, ↓rE_eLi, ↓rE_eLj, ↓rE_eLa, ↓rE_eU, ↓rE_eB, ↓rE_eG, ↓rE_eIF, ↓rE_eAI, ↓rE_eAX, ↓rE_eAJ, ↓rE_eAR, ↓rE_eLen, ↓rE_eSI, ↓rE_eC, ↓rE_eCall, ↓rE_eNew, ↓rE_eNewA, ↓rE_eInst, ↓rC_cI, ↓rC_cZ0, ↓rC_cN, ↓rC_cNot, ↓rC_cAnd, ↓rC_cOr, ↓rA_aN, ↓rA_aC, ↓rS_sP, ↓rS_sUF, ↓rS_sAI, ↓rS_sAJ, ↓rS_sAR, ↓rS_sUA, ↓rS_sCall, ↓rS_sObj, ↓rS_sSi, ↓rS_sSa, ↓rS_sSj, ↓rS_sInc, ↓rS_sSkip, ↓rS_sSeq, ↓rS_sIf, ↓rS_sRetI, ↓rS_sRetJ, ↓rS_sRetA, ↓rS_sRetV, ↓rS_sSw, ↓rD_meth, ↓rD_on, ↓kR_ref, ↓kI_int, ↓kJ_long, ↓kN_null, ↓kN_ref, ↓kN_rf, ↓kQ_ref, ↓kQ_null, ↓kQ_rf, o1_i, o1ij_i, o1ji_i, o2_i, o2d_i, o2j_i, o2ji_i, o2c_i, fv_0, fv_1, fv_2, fv_3, pf_0, pf_2, pf_3, pf_4, rf_s, rf_n, is_self, ge_0, ge_s, ge_n, gd_s, gd_n, se_0, se_s, ag_0, ex_n, ex_i, ex_r, ex_0, ex_j, ex_q, ap_c, ap_n, List.append_nil, ln_c, ln_n, rp_0, rp_s, rt_0, rt_1, rt_20, rt_21, rt_2, rt_3, rt_4, rt_4n, rt_4q, nl_0, nl_1, nl_2, nl_3, nl_4, nl_5, nl_6, nl_7, nl_8, nl_9, nlB_i, nlB_r, nlB_n, nlB_f, nlB_q, ↓reduceIte, reduceCtorEq, Nat.reduceAdd, Nat.reduceSub, Nat.reduceEqDiff, Nat.reduceLeDiff, Nat.reduceBEq, ite_true, ite_false, dt_t, Bool.not_true, Bool.not_false, Bool.false_eq_true, Nat.le_refl, true_and, and_true, true_or, or_true, false_or, or_false, false_and, and_false, qEq, qNe, qLt, qGe, qGt, qLe]
    have g2 : ∀ b, rS (sSeq (sP (is 12) 0 10 (eLa 0) (eK (.int 1))) b) [.ref 35] S1 kn kr = rS b [.ref 35] S2 kn kr := fun b => by rw [e2]; simp only [↓rE_eK, ↓rE_eLi, ↓rE_eLj, ↓rE_eLa, ↓rE_eU, ↓rE_eB, ↓rE_eG, ↓rE_eIF, ↓rE_eAI, ↓rE_eAX, ↓rE_eAJ, ↓rE_eAR, ↓rE_eLen, ↓rE_eSI, ↓rE_eC, ↓rE_eCall, ↓rE_eNew, ↓rE_eNewA, ↓rE_eInst, ↓rC_cI, ↓rC_cZ0, ↓rC_cN, ↓rC_cNot, ↓rC_cAnd, ↓rC_cOr, ↓rA_aN, ↓rA_aC, ↓rS_sP, ↓rS_sUF, ↓rS_sAI, ↓rS_sAJ, ↓rS_sAR, ↓rS_sUA, ↓rS_sCall, ↓rS_sObj, ↓rS_sSi, ↓rS_sSa, ↓rS_sSj, ↓rS_sInc, ↓rS_sSkip, ↓rS_sSeq, ↓rS_sIf, ↓rS_sRetI, ↓rS_sRetJ, ↓rS_sRetA, ↓rS_sRetV, ↓rS_sSw, ↓rD_meth, ↓rD_on, ↓kR_ref, ↓kI_int, ↓kJ_long, ↓kN_null, ↓kN_ref, ↓kN_rf, ↓kQ_ref, ↓kQ_null, ↓kQ_rf, o1_i, o1ij_i, o1ji_i, o2_i, o2d_i, o2j_i, o2ji_i, o2c_i, fv_0, fv_1, fv_2, fv_3, pf_0, pf_2, pf_3, pf_4, rf_s, rf_n, is_self, ge_0, ge_s, ge_n, gd_s, gd_n, se_0, se_s, ag_0, ex_n, ex_i, ex_r, ex_0, ex_j, ex_q, ap_c, ap_n, List.append_nil, ln_c, ln_n, rp_0, rp_s, rt_0, rt_1, rt_20, rt_21, rt_2, rt_3, rt_4, rt_4n, rt_4q, nl_0, nl_1, nl_2, nl_3, nl_4, nl_5, nl_6, nl_7, nl_8, nl_9, nlB_i, nlB_r, nlB_n, nlB_f, nlB_q, ↓reduceIte, reduceCtorEq, Nat.reduceAdd, Nat.reduceSub, Nat.reduceEqDiff, Nat.reduceLeDiff, Nat.reduceBEq, ite_true, ite_false, dt_t, Bool.not_true, Bool.not_false, Bool.false_eq_true, Nat.le_refl, true_and, and_true, true_or, or_true, false_or, or_false, false_and, and_false, qEq, qNe, qLt, qGe, qGt, qLe, t1]
    have g4 : ∀ b, rS (sx4 37 b) [.ref 35] S3 kn kr = rS b [.ref 35] S4 kn kr := fun b => by rw [e4]; exact fldS n3 t3 (by decide)
    have g6 : ∀ b, rS (sx4 40 b) [.ref 35] S5 kn kr = rS b [.ref 35] S6 kn kr := fun b => by rw [e6]; exact fldS n5 t5 (by decide)
    rw [g0, rS_bds f_m1 36 S0 t0 n0 (by decide) (by decide), ← e1, g2, rS_bds f_m2 43 S2 t2 n2 (by decide) (by decide), ← e3, g4, rS_bds f_m3 58 S4 t4 n4 (by decide) (by decide), ← e5, g6, rS_bds f_m4 61 S6 t6 n6 (by decide) (by decide), rS_sRetV]
  simp only [D_X12_init, ↓rE_eK, ↓rE_eLi, ↓rE_eLj, ↓rE_eLa, ↓rE_eU, ↓rE_eB, ↓rE_eG, ↓rE_eIF, ↓rE_eAI, ↓rE_eAX, ↓rE_eAJ, ↓rE_eAR, ↓rE_eLen, ↓rE_eSI, ↓rE_eC, ↓rE_eCall, ↓rE_eNew, ↓rE_eNewA, ↓rE_eInst, ↓rC_cI, ↓rC_cZ0, ↓rC_cN, ↓rC_cNot, ↓rC_cAnd, ↓rC_cOr, ↓rA_aN, ↓rA_aC, ↓rS_sP, ↓rS_sUF, ↓rS_sAI, ↓rS_sAJ, ↓rS_sAR, ↓rS_sUA, ↓rS_sCall, ↓rS_sObj, ↓rS_sSi, ↓rS_sSa, ↓rS_sSj, ↓rS_sInc, ↓rS_sSkip, ↓rS_sSeq, ↓rS_sIf, ↓rS_sRetI, ↓rS_sRetJ, ↓rS_sRetA, ↓rS_sRetV, ↓rS_sSw, ↓rD_meth, ↓rD_on, ↓kR_ref, ↓kI_int, ↓kJ_long, ↓kN_null, ↓kN_ref, ↓kN_rf, ↓kQ_ref, ↓kQ_null, ↓kQ_rf, o1_i, o1ij_i, o1ji_i, o2_i, o2d_i, o2j_i, o2ji_i, o2c_i, fv_0, fv_1, fv_2, fv_3, pf_0, pf_2, pf_3, pf_4, rf_s, rf_n, is_self, ge_0, ge_s, ge_n, gd_s, gd_n, se_0, se_s, ag_0, ex_n, ex_i, ex_r, ex_0, ex_j, ex_q, ap_c, ap_n, List.append_nil, ln_c, ln_n, rp_0, rp_s, rt_0, rt_1, rt_20, rt_21, rt_2, rt_3, rt_4, rt_4n, rt_4q, nl_0, nl_1, nl_2, nl_3, nl_4, nl_5, nl_6, nl_7, nl_8, nl_9, nlB_i, nlB_r, nlB_n, nlB_f, nlB_q, ↓reduceIte, reduceCtorEq, Nat.reduceAdd, Nat.reduceSub, Nat.reduceEqDiff, Nat.reduceLeDiff, Nat.reduceBEq, ite_true, ite_false, dt_t, Bool.not_true, Bool.not_false, Bool.false_eq_true, Nat.le_refl, true_and, and_true, true_or, or_true, false_or, or_false, false_and, and_false, qEq, qNe, qLt, qGe, qGt, qLe, run]
