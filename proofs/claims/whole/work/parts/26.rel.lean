/-! What the class holds beside what the reference holds. -/
def vP (σ : pm_H) (v : Nat) : Nat := (pR σ v 0).getD 0
def vD (σ : pm_H) (v : Nat) : Nat := (pR σ v 1).getD 0
def vQ (σ : pm_H) (v i : Nat) : Nat := (pR σ (vP σ v) i).getD 0
def nOf (σ : pm_H) (v : Nat) : Nat := (pI σ v 2).toNatClampNeg
/-- the tag of a kind of people -/
def kTag (k : Nat) : Nat := if k = 0 then 6 else if k = 1 then 0 else if k = 2 then 2 else if k = 3 then 4 else if k = 4 then 1 else 9
/-- the reference's valley, in the order in which it keeps one: 0 people, 1 awake, 2 minute, 3 z, 4 kinds, 12 ages, 20 voices, 28 purses, 36 lasts, 44 sung, 52 owed -/
def cur (σ : pm_H) (j : Nat) : Int32 := if j = 0 then pI σ 35 0 else if j = 1 then pI σ 35 8 else if j = 2 then pI σ 35 9 else if j = 3 then pI σ 35 10 else if j < 12 then pI σ 36 (j - 4) else if j < 20 then pI σ 37 (j - 12) else if j < 28 then pI σ 38 (j - 20) else if j < 36 then pI σ 39 (j - 28) else if j < 44 then pI σ 40 (j - 36) else if j < 52 then pI σ 41 (j - 44) else pI σ 42 (j - 52)
/-- person i of a valley, as vd tells it, stands at q -/
def pR1 (σ : pm_H) (vd : Nat → Int32) (i q : Nat) : Prop := (∃ k, k < 6 ∧ vd (4 + i) = nI k ∧ pT σ q = kTag k) ∧ pI σ q 0 = nI i ∧ pI σ q 1 = vd (12 + i) ∧ pI σ q 2 = vd (20 + i) ∧ pI σ q 3 = vd (28 + i) ∧ pI σ q 4 = vd (36 + i) ∧ pI σ q 5 = vd (44 + i) ∧ pI σ q 6 = bt (vd 1) (nI i)
/-- what is so of every valley that is told -/
def vOk (vd : Nat → Int32) (n : Nat) : Prop := n ≤ 8 ∧ vd 0 = nI n ∧ (∃ A, A < 2 ^ n ∧ vd 1 = nI A ∧ (0 < n → 0 < A)) ∧ ∀ i, i < n → (∃ g, 1 ≤ g ∧ g ≤ 90 ∧ vd (12 + i) = nI g) ∧ ∃ w, w ≤ 200 ∧ vd (20 + i) = nI w
/-- the valley at v is the one that vd tells, of n people -/
def VR (σ : pm_H) (v : Nat) (vd : Nat → Int32) (n : Nat) : Prop :=
  vOk vd n ∧ (pT σ v = 10 ∧ pR σ v 0 = some (vP σ v) ∧ pR σ v 1 = some (vD σ v) ∧ pT σ (vP σ v) = 15 ∧ pL σ (vP σ v) = 8 ∧ pT σ (vD σ v) = 13 ∧ pL σ (vD σ v) = 64) ∧
  (pI σ v 2 = nI n ∧ pI σ v 3 = vd 2 ∧ pI σ v 4 = vd 3) ∧
  (∀ i, i < n → pR σ (vP σ v) i = some (vQ σ v i) ∧ pR1 σ vd i (vQ σ v i)) ∧
  (∀ a b, a < 8 → b < 8 → pI σ (vD σ v) (8 * a + b) = if a < n ∧ b < n ∧ a ≠ b then vd (52 + (8 * a + b)) else 0) ∧
  ((v = 12 ∨ 66 ≤ v) ∧ (vP σ v = 13 ∨ 66 ≤ vP σ v) ∧ (vD σ v = 14 ∨ 66 ≤ vD σ v) ∧ (∀ i, i < n → 66 ≤ vQ σ v i) ∧ v < pN σ ∧ vP σ v < pN σ ∧ vD σ v < pN σ ∧ ∀ i, i < n → vQ σ v i < pN σ)
/-- the cells of a valley -/
def fp (σ : pm_H) (v n a : Nat) : Prop := a = v ∨ a = vP σ v ∨ a = vD σ v ∨ ∃ i, i < n ∧ a = vQ σ v i
theorem VR_fr {σ σ' : pm_H} {v n : Nat} {vd : Nat → Int32} (h : VR σ v vd n) (hN : pN σ ≤ pN σ') (hT : ∀ a, a < pN σ → pT σ' a = pT σ a) (hL : ∀ a, a < pN σ → pL σ' a = pL σ a) (hf : ∀ a, fp σ v n a → pI σ' a = pI σ a ∧ pR σ' a = pR σ a) : VR σ' v vd n ∧ vP σ' v = vP σ v ∧ vD σ' v = vD σ v ∧ (∀ i, i < n → vQ σ' v i = vQ σ v i) ∧ nOf σ' v = nOf σ v := by
  obtain ⟨h0, ⟨t1, r1, r2, t2, l2, t3, l3⟩, ⟨s1, s2, s3⟩, hp, hd, a1, a2, a3, a4, b1, b2, b3, b4⟩ := h
  have e0 := hf v (Or.inl rfl)
  have e1 := hf (vP σ v) (Or.inr (Or.inl rfl))
  have e2 := hf (vD σ v) (Or.inr (Or.inr (Or.inl rfl)))
  have eP : vP σ' v = vP σ v := by unfold vP; rw [e0.2]
  have eD : vD σ' v = vD σ v := by unfold vD; rw [e0.2]
  have eQ : ∀ i, vQ σ' v i = vQ σ v i := fun i => by unfold vQ; rw [eP, e1.2]
  refine ⟨⟨h0, ⟨by rw [hT _ b1]; exact t1, by rw [eP, e0.2]; exact r1, by rw [eD, e0.2]; exact r2, by rw [eP, hT _ b2]; exact t2, by rw [eP, hL _ b2]; exact l2, by rw [eD, hT _ b3]; exact t3, by rw [eD, hL _ b3]; exact l3⟩, ⟨by rw [e0.1]; exact s1, by rw [e0.1]; exact s2, by rw [e0.1]; exact s3⟩, fun i hi => ?_, fun a b ha hb => by rw [eD, e2.1]; exact hd a b ha hb, a1, by rw [eP]; exact a2, by rw [eD]; exact a3, fun i hi => by rw [eQ]; exact a4 i hi, by omega, by rw [eP]; omega, by rw [eD]; omega, fun i hi => by rw [eQ]; have := b4 i hi; omega⟩, eP, eD, fun i _ => eQ i, by unfold nOf; rw [e0.1]⟩
  obtain ⟨p1, ⟨k, k1, k2, k3⟩, p2, p3, p4, p5, p6, p7, p8⟩ := hp i hi
  have e3 := hf (vQ σ v i) (Or.inr (Or.inr (Or.inr ⟨i, hi, rfl⟩)))
  rw [eP, eQ, e1.2]
  refine ⟨p1, ⟨k, k1, k2, by rw [hT _ (b4 i hi)]; exact k3⟩, ?_⟩
  rw [e3.1]
  exact ⟨p2, p3, p4, p5, p6, p7, p8⟩
theorem kTag_slp (k : Nat) : pm_slp (kTag k) = true := by
  unfold kTag
  split
  · rfl
  split
  · rfl
  split
  · rfl
  split
  · rfl
  split <;> rfl
theorem VR_slp {σ : pm_H} {v n : Nat} {vd : Nat → Int32} (h : VR σ v vd n) {i : Nat} (hi : i < n) : pm_slp (pT σ (vQ σ v i)) = true := by
  obtain ⟨-, ⟨k, -, -, hk⟩, -⟩ := (h.2.2.2.1 i hi)
  rw [hk]; exact kTag_slp k
/-- people stand at places of their own -/
theorem VR_inj {σ : pm_H} {v n : Nat} {vd : Nat → Int32} (h : VR σ v vd n) {i j : Nat} (hi : i < n) (hj : j < n) (e : vQ σ v i = vQ σ v j) : i = j := by
  have h8 := h.1.1
  obtain ⟨-, -, p, -⟩ := h.2.2.2.1 i hi
  obtain ⟨-, -, q, -⟩ := h.2.2.2.1 j hj
  rw [e, q] at p
  rw [nI_inj (by omega) (by omega)] at p
  exact p.symm
/-- the tags keep a valley's cells apart -/
theorem VR_apart {σ : pm_H} {v n : Nat} {vd : Nat → Int32} (h : VR σ v vd n) : v ≠ vP σ v ∧ v ≠ vD σ v ∧ vP σ v ≠ vD σ v ∧ ∀ i, i < n → vQ σ v i ≠ v ∧ vQ σ v i ≠ vP σ v ∧ vQ σ v i ≠ vD σ v := by
  have hs : ∀ i, i < n → pm_slp (pT σ (vQ σ v i)) = true := fun i hi => VR_slp h hi
  obtain ⟨h0, ⟨t1, r1, r2, t2, l2, t3, l3⟩, -⟩ := h
  refine ⟨fun e => ?_, fun e => ?_, fun e => ?_, fun i hi => ⟨fun e => ?_, fun e => ?_, fun e => ?_⟩⟩
  · rw [← e, t1] at t2; cases t2
  · rw [← e, t1] at t3; cases t3
  · rw [← e, t2] at t3; cases t3
  · have := hs i hi; rw [e, t1] at this; cases this
  · have := hs i hi; rw [e, t2] at this; cases this
  · have := hs i hi; rw [e, t3] at this; cases this
