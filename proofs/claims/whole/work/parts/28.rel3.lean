/-! The whole relation, and what leaves its parts as they were. -/
def rkF (σ : pm_H) : Nat → Nat → Int32 := fun a => if a < 12 then pI σ (15 + a) else if a < 23 then pI σ (a - 12) else fun _ => nI (pL σ 10)
theorem rkF_of {σ σ' : pm_H} (h1 : ∀ a, a ≤ 10 ∨ (15 ≤ a ∧ a ≤ 26) → pI σ' a = pI σ a) (h2 : pL σ' 10 = pL σ 10) : rkF σ' = rkF σ := by
  funext a
  unfold rkF
  by_cases ha : a < 12
  · rw [if_pos ha, if_pos ha]; exact h1 _ (by omega)
  · rw [if_neg ha, if_neg ha]
    by_cases hb : a < 23
    · rw [if_pos hb, if_pos hb]; exact h1 _ (by omega)
    · rw [if_neg hb, if_neg hb, h2]
def Rel (Rk : (Nat → Nat → Int32) → Prop) (σ : pm_H) (n : Nat) : Prop := Sh σ ∧ TapeR σ ∧ RowR σ ∧ TrR σ ∧ SheetR σ ∧ ShelfR σ ∧ NowR σ n ∧ KeptR σ ∧ Rk (rkF σ)
/-- both answer alike, and all stays related; cells and slots made are few -/
def Step (Rk : (Nat → Nat → Int32) → Prop) (Dx Dm : pm_D) (as : List Value) (σ : pm_H) : Prop := ∃ r σ1 σ2 n, Dx (.ref 11 :: as) σ = some (some (.int r), σ1) ∧ Dm (.ref 35 :: as) σ1 = some (some (.int r), σ2) ∧ Rel Rk σ2 n ∧ pN σ2 ≤ pN σ + 40 ∧ pS σ2 ≤ pS σ + 400
theorem TapeR_fr {σ σ' : pm_H} (h : TapeR σ) (e1 : pI σ' 27 1 = pI σ 27 1) (e2 : pI σ' 35 12 = pI σ 35 12) (e3 : pI σ' 28 = pI σ 28) (e4 : pI σ' 43 = pI σ 43) : TapeR σ' := by
  obtain ⟨t, h1, h2, h3, h4⟩ := h
  exact ⟨t, h1, e1.trans h2, e2.trans h3, fun j hj => by rw [e3, e4]; exact h4 j hj⟩
theorem RowR_fr {σ σ' : pm_H} (h : RowR σ) (e1 : pI σ' 11 6 = pI σ 11 6) (e2 : pI σ' 35 36 = pI σ 35 36) (e3 : pI σ' 31 = pI σ 31) (e4 : pI σ' 56 = pI σ 56) : RowR σ' := by
  obtain ⟨t, h1, h2, h3, h4⟩ := h
  exact ⟨t, h1, e1.trans h2, e2.trans h3, fun j hj => by rw [e3, e4]; exact h4 j hj⟩
theorem TrR_fr {σ σ' : pm_H} (h : TrR σ) (e1 : pI σ' 29 1 = pI σ 29 1) (e2 : pI σ' 35 47 = pI σ 35 47) (e3 : pI σ' 30 = pI σ 30) (e4 : pI σ' 63 = pI σ 63) : TrR σ' := by
  obtain ⟨t, h1, h2, h3, h4⟩ := h
  exact ⟨t, h1, e1.trans h2, e2.trans h3, fun j hj => by rw [e3, e4]; exact h4 j hj⟩
/-- new cells, and writes elsewhere, leave a row -/
theorem rowAt_fr {σ σ' : pm_H} {ra so len : Nat} (h : rowAt σ ra so len) (hN : pN σ ≤ pN σ') (hT : ∀ a, a < pN σ → pT σ' a = pT σ a) (hL : ∀ a, a < pN σ → pL σ' a = pL σ a) (e1 : pI σ' ra 0 = pI σ ra 0) (e2 : pR σ' ra = pR σ ra) : rowAt σ' ra so len := by
  obtain ⟨h1, h2, h3, h4, h5, h6, ia, h7, h8, h9, h10, h11⟩ := h
  exact ⟨h1, h2, h3, by omega, by rw [hT _ h4]; exact h5, e1.trans h6, ia, by rw [e2]; exact h7, h8, by omega, by rw [hT _ h9]; exact h10, by rw [hL _ h9]; exact h11⟩
/-- objects of class Row: nothing of them changes -/
def rowsKept (σ σ' : pm_H) : Prop := ∀ ra, 66 ≤ ra → ra < pN σ → pT σ ra = 5 → pI σ' ra 0 = pI σ ra 0 ∧ pR σ' ra = pR σ ra
theorem SheetR_fr {σ σ' : pm_H} (h : SheetR σ) (hN : pN σ ≤ pN σ') (hT : ∀ a, a < pN σ → pT σ' a = pT σ a) (hL : ∀ a, a < pN σ → pL σ' a = pL σ a) (hr : rowsKept σ σ') (hJ : ∀ a, a = 59 ∨ (66 ≤ a ∧ a < pN σ) → pJ σ' a = pJ σ a) (e1 : pI σ' 57 = pI σ 57) (e2 : pI σ' 58 = pI σ 58) (e3 : pR σ' 32 = pR σ 32) : SheetR σ' := by
  obtain ⟨h1, h2⟩ := h
  have hri : ∀ s ra, s < 4 → pR σ 32 s = some ra → rI σ' ra = rI σ ra := by
    intro s ra hs e
    rcases h1 s hs with ⟨-, q⟩ | ⟨so, len, rb, q1, q2, q3, q4, q5⟩
    · rw [e] at q; cases q
    · cases e.symm.trans q3
      unfold rI
      rw [(hr ra q4.2.2.1 q4.2.2.2.1 q4.2.2.2.2.1).2]
  refine ⟨fun s hs => ?_, fun s t ra rb hs ht ea eb hst => ?_⟩
  · rcases h1 s hs with ⟨q1, q2⟩ | ⟨so, len, ra, q1, q2, q3, q4, q5⟩
    · exact Or.inl ⟨by rw [e1]; exact q1, by rw [e3]; exact q2⟩
    · have hk := hr ra q4.2.2.1 q4.2.2.2.1 q4.2.2.2.2.1
      refine Or.inr ⟨so, len, ra, by rw [e1]; exact q1, by rw [e2]; exact q2, by rw [e3]; exact q3, rowAt_fr q4 hN hT hL hk.1 hk.2, fun j hj => ?_⟩
      obtain ⟨-, -, -, -, -, -, ia, h7, h8, h9, -⟩ := q4
      have e : rI σ ra = ia := by unfold rI; rw [h7]; rfl
      rw [hri s ra hs q3, hJ _ (Or.inr (by rw [e]; exact ⟨h8, h9⟩)), hJ 59 (Or.inl rfl)]
      exact q5 j hj
  · rw [e3] at ea eb
    rw [hri s ra hs ea, hri t rb ht eb]
    exact h2 s t ra rb hs ht ea eb hst
theorem ShelfR_fr {σ σ' : pm_H} (h : ShelfR σ) (hN : pN σ ≤ pN σ') (hT : ∀ a, a < pN σ → pT σ' a = pT σ a) (hL : ∀ a, a < pN σ → pL σ' a = pL σ a) (hr : rowsKept σ σ') (e1 : pI σ' 60 = pI σ 60) (e2 : pI σ' 61 = pI σ 61) (e3 : pI σ' 62 = pI σ 62) (e4 : pI σ' 34 = pI σ 34) (e5 : pR σ' 33 = pR σ 33) : ShelfR σ' := by
  intro s hs
  rw [e1, e2, e3, e4, e5]
  rcases h s hs with q | q | ⟨so, len, ra, q1, q2, q3, q4, q5, q6⟩
  · exact Or.inl q
  · exact Or.inr (Or.inl q)
  · have hk := hr ra q4.2.2.1 q4.2.2.2.1 q4.2.2.2.2.1
    exact Or.inr (Or.inr ⟨so, len, ra, q1, q2, q3, rowAt_fr q4 hN hT hL hk.1 hk.2, q5, q6⟩)
theorem cur_fr {σ σ' : pm_H} (e0 : pI σ' 35 0 = pI σ 35 0) (e1 : pI σ' 35 8 = pI σ 35 8) (e2 : pI σ' 35 9 = pI σ 35 9) (e3 : pI σ' 35 10 = pI σ 35 10) (ea : ∀ a, 36 ≤ a → a ≤ 42 → pI σ' a = pI σ a) : cur σ' = cur σ := by
  funext j
  unfold cur
  rw [e0, e1, e2, e3, ea 36 (by decide) (by decide), ea 37 (by decide) (by decide), ea 38 (by decide) (by decide), ea 39 (by decide) (by decide), ea 40 (by decide) (by decide), ea 41 (by decide) (by decide), ea 42 (by decide) (by decide)]
/-- a valley's cells lie off the fixed ones -/
theorem fp_off {σ : pm_H} {v n : Nat} {vd : Nat → Int32} (h : VR σ v vd n) {a : Nat} (ha : fp σ v n a) : a = 12 ∨ a = 13 ∨ a = 14 ∨ 66 ≤ a := by
  obtain ⟨-, -, -, -, -, a1, a2, a3, a4, -⟩ := h
  rcases ha with rfl | rfl | rfl | ⟨i, hi, rfl⟩
  · omega
  · omega
  · omega
  · have := a4 i hi; omega
theorem NowR_fr {σ σ' : pm_H} {n : Nat} (h : NowR σ n) (hN : pN σ ≤ pN σ') (hT : ∀ a, a < pN σ → pT σ' a = pT σ a) (hL : ∀ a, a < pN σ → pL σ' a = pL σ a) (e0 : pR σ' 11 0 = pR σ 11 0) (hc : cur σ' = cur σ) (hf : ∀ a, fp σ (nowA σ) n a → pI σ' a = pI σ a ∧ pR σ' a = pR σ a) : NowR σ' n := by
  have en : nowA σ' = nowA σ := by unfold nowA; rw [e0]
  refine ⟨by rw [en, e0]; exact h.1, ?_⟩
  rw [en, hc]
  exact (VR_fr h.2 hN hT hL hf).1
/-- what was kept stays, if its cells do, and now's stand where they stood -/
theorem KeptR_fr {σ σ' : pm_H} {n : Nat} (hn : NowR σ n) (h : KeptR σ) (hN : pN σ ≤ pN σ') (hT : ∀ a, a < pN σ → pT σ' a = pT σ a) (hL : ∀ a, a < pN σ → pL σ' a = pL σ a) (e0 : pI σ' 35 49 = pI σ 35 49) (e1 : pR σ' 11 1 = pR σ 11 1) (e2 : pI σ' 64 = pI σ 64) (e3 : nowA σ' = nowA σ ∧ vP σ' (nowA σ) = vP σ (nowA σ) ∧ vD σ' (nowA σ) = vD σ (nowA σ) ∧ (∀ i, i < n → vQ σ' (nowA σ) i = vQ σ (nowA σ) i) ∧ nOf σ' (nowA σ) = nOf σ (nowA σ))
    (hf : ∀ kv m a, pR σ 11 1 = some kv → VR σ kv (pI σ 64) m → Sep σ (nowA σ) kv → fp σ kv m a → pI σ' a = pI σ a ∧ pR σ' a = pR σ a) : KeptR σ' := by
  rcases h with ⟨h1, h2⟩ | ⟨h1, kv, m, h2, h3, h4⟩
  · exact Or.inl ⟨e0.trans h1, e1.trans h2⟩
  · obtain ⟨k1, k2, k3, k4, k5⟩ := VR_fr h3 hN hT hL (fun a ha => hf kv m a h2 h3 h4 ha)
    refine Or.inr ⟨e0.trans h1, kv, m, e1.trans h2, by rw [e2]; exact k1, ?_⟩
    obtain ⟨q1, q2, q3, q4⟩ := h4
    obtain ⟨f1, f2, f3, f4, f5⟩ := e3
    rw [f1]
    refine ⟨q1, by rw [f2, k2]; exact q2, by rw [f3, k3]; exact q3, fun i j hi hj => ?_⟩
    rw [f5, VR_nOf hn.2] at hi
    rw [k5, VR_nOf h3] at hj
    rw [f4 i hi, k4 j hj]
    exact q4 i j (by rw [VR_nOf hn.2]; exact hi) (by rw [VR_nOf h3]; exact hj)
theorem Sep_fp {σ : pm_H} {v w n m a : Nat} {vd wd : Nat → Int32} (h : Sep σ v w) (hv : VR σ v vd n) (hw : VR σ w wd m) (ha : fp σ v n a) (hb : fp σ w m a) : False := by
  obtain ⟨h1, h2, h3, h4⟩ := h
  have hn := VR_nOf hv
  have hm := VR_nOf hw
  have sv : ∀ i, i < n → pm_slp (pT σ (vQ σ v i)) = true := fun i hi => VR_slp hv hi
  have sw : ∀ i, i < m → pm_slp (pT σ (vQ σ w i)) = true := fun i hi => VR_slp hw hi
  obtain ⟨-, ⟨t1, -, -, t2, -, t3, -⟩, -⟩ := hv
  obtain ⟨-, ⟨u1, -, -, u2, -, u3, -⟩, -⟩ := hw
  rcases ha with e | e | e | ⟨i, hi, e⟩ <;> rcases hb with f | f | f | ⟨j, hj, f⟩
  · exact h1 (e.symm.trans f)
  · rw [← e, f, u2] at t1; cases t1
  · rw [← e, f, u3] at t1; cases t1
  · have := sw j hj; rw [← f, e, t1] at this; cases this
  · rw [← e, f, u1] at t2; cases t2
  · exact h2 (e.symm.trans f)
  · rw [← e, f, u3] at t2; cases t2
  · have := sw j hj; rw [← f, e, t2] at this; cases this
  · rw [← e, f, u1] at t3; cases t3
  · rw [← e, f, u2] at t3; cases t3
  · exact h3 (e.symm.trans f)
  · have := sw j hj; rw [← f, e, t3] at this; cases this
  · have := sv i hi; rw [← e, f, u1] at this; cases this
  · have := sv i hi; rw [← e, f, u2] at this; cases this
  · have := sv i hi; rw [← e, f, u3] at this; cases this
  · exact h4 i j (by rw [hn]; exact hi) (by rw [hm]; exact hj) (e.symm.trans f)
