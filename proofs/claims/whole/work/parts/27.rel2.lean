/-! Changes of a valley; the other parts; the whole relation. -/
theorem upd_at (f : Nat → Int32) (k : Nat) (x : Int32) : upd f k x k = x := by simp [upd]
theorem upd_ne (f : Nat → Int32) {k j : Nat} (x : Int32) (h : j ≠ k) : upd f k x j = f j := by simp [upd, h]
theorem pI_uI_ne (σ : pm_H) {a b : Nat} (k : Nat) (x : Int32) (h : b ≠ a) : pI (uI σ a k x) b = pI σ b := by
  funext j; rw [pI_uI, if_neg (fun q => h q.1)]
theorem pI_uI_nek (σ : pm_H) (a b : Nat) {k j : Nat} (x : Int32) (h : j ≠ k) : pI (uI σ a k x) b j = pI σ b j := by
  rw [pI_uI, if_neg (fun q => h q.2)]
theorem pI_uI_at (σ : pm_H) (a k : Nat) (x : Int32) : pI (uI σ a k x) a k = x := by simp [pI_uI]
theorem vP_uI (σ : pm_H) (a k : Nat) (x : Int32) : vP (uI σ a k x) = vP σ := rfl
theorem vD_uI (σ : pm_H) (a k : Nat) (x : Int32) : vD (uI σ a k x) = vD σ := rfl
theorem vQ_uI (σ : pm_H) (a k : Nat) (x : Int32) : vQ (uI σ a k x) = vQ σ := rfl
/-- a number of person i changes -/
theorem VR_set {σ : pm_H} {v n : Nat} {vd : Nat → Int32} (h : VR σ v vd n) {i : Nat} (hi : i < n) {f : Nat} (hf : 1 ≤ f) (hf5 : f ≤ 5) {x : Int32} (hok : vOk (upd vd (4 + 8 * f + i) x) n) : VR (uI σ (vQ σ v i) f x) v (upd vd (4 + 8 * f + i) x) n := by
  have hap := VR_apart h
  have hinj : ∀ j, j < n → vQ σ v j = vQ σ v i → j = i := fun j hj e => VR_inj h hj hi e
  obtain ⟨h0, ht, ⟨s1, s2, s3⟩, hp, hd, ha⟩ := h
  have h8 : n ≤ 8 := h0.1
  refine ⟨hok, ht, ⟨?_, ?_, ?_⟩, fun j hj => ⟨(hp j hj).1, ?_⟩, fun a b ha hb => ?_, ha⟩
  · rw [pI_uI_ne _ _ _ (hap.2.2.2 i hi).1.symm]; exact s1
  · rw [pI_uI_ne _ _ _ (hap.2.2.2 i hi).1.symm, upd_ne _ _ (by omega)]; exact s2
  · rw [pI_uI_ne _ _ _ (hap.2.2.2 i hi).1.symm, upd_ne _ _ (by omega)]; exact s3
  · obtain ⟨p1, ⟨k, k1, k2, k3⟩, p2, p3, p4, p5, p6, p7, p8⟩ := hp j hj
    rw [vQ_uI]
    refine ⟨⟨k, k1, by rw [upd_ne _ _ (by omega)]; exact k2, k3⟩, ?_⟩
    rw [show upd vd (4 + 8 * f + i) x 1 = vd 1 from upd_ne _ _ (by omega)]
    by_cases e : j = i
    · subst e
      refine ⟨by rw [pI_uI_nek _ _ _ _ (by omega)]; exact p2, ?_, ?_, ?_, ?_, ?_, by rw [pI_uI_nek _ _ _ _ (by omega)]; exact p8⟩
      · by_cases e1 : f = 1
        · subst e1; rw [pI_uI_at, show 12 + j = 4 + 8 * 1 + j by omega, upd_at]
        · rw [pI_uI_nek _ _ _ _ (by omega), upd_ne _ _ (by omega)]; exact p3
      · by_cases e1 : f = 2
        · subst e1; rw [pI_uI_at, show 20 + j = 4 + 8 * 2 + j by omega, upd_at]
        · rw [pI_uI_nek _ _ _ _ (by omega), upd_ne _ _ (by omega)]; exact p4
      · by_cases e1 : f = 3
        · subst e1; rw [pI_uI_at, show 28 + j = 4 + 8 * 3 + j by omega, upd_at]
        · rw [pI_uI_nek _ _ _ _ (by omega), upd_ne _ _ (by omega)]; exact p5
      · by_cases e1 : f = 4
        · subst e1; rw [pI_uI_at, show 36 + j = 4 + 8 * 4 + j by omega, upd_at]
        · rw [pI_uI_nek _ _ _ _ (by omega), upd_ne _ _ (by omega)]; exact p6
      · by_cases e1 : f = 5
        · subst e1; rw [pI_uI_at, show 44 + j = 4 + 8 * 5 + j by omega, upd_at]
        · rw [pI_uI_nek _ _ _ _ (by omega), upd_ne _ _ (by omega)]; exact p7
    · have hne : vQ σ v j ≠ vQ σ v i := fun q => e (hinj j hj q)
      rw [pI_uI_ne _ _ _ hne, upd_ne _ _ (by omega), upd_ne _ _ (by omega), upd_ne _ _ (by omega), upd_ne _ _ (by omega), upd_ne _ _ (by omega)]
      exact ⟨p2, p3, p4, p5, p6, p7, p8⟩
  · rw [vD_uI, pI_uI_ne _ _ _ (hap.2.2.2 i hi).2.2.symm, upd_ne _ _ (by omega)]
    exact hd a b ha hb
/-- who is awake changes -/
theorem VR_awake {σ : pm_H} {v n : Nat} {vd : Nat → Int32} (h : VR σ v vd n) {i : Nat} (hi : i < n) {x A : Int32} (hok : vOk (upd vd 1 A) n) (hx : bt A (nI i) = x) (ho : ∀ j, j < n → j ≠ i → bt A (nI j) = bt (vd 1) (nI j)) : VR (uI σ (vQ σ v i) 6 x) v (upd vd 1 A) n := by
  have hap := VR_apart h
  have hinj : ∀ j, j < n → vQ σ v j = vQ σ v i → j = i := fun j hj e => VR_inj h hj hi e
  obtain ⟨h0, ht, ⟨s1, s2, s3⟩, hp, hd, ha⟩ := h
  have h8 : n ≤ 8 := h0.1
  refine ⟨hok, ht, ⟨?_, ?_, ?_⟩, fun j hj => ⟨(hp j hj).1, ?_⟩, fun a b ha hb => ?_, ha⟩
  · rw [pI_uI_ne _ _ _ (hap.2.2.2 i hi).1.symm]; exact s1
  · rw [pI_uI_ne _ _ _ (hap.2.2.2 i hi).1.symm, upd_ne _ _ (by omega)]; exact s2
  · rw [pI_uI_ne _ _ _ (hap.2.2.2 i hi).1.symm, upd_ne _ _ (by omega)]; exact s3
  · obtain ⟨p1, ⟨k, k1, k2, k3⟩, p2, p3, p4, p5, p6, p7, p8⟩ := hp j hj
    rw [vQ_uI]
    refine ⟨⟨k, k1, by rw [upd_ne _ _ (by omega)]; exact k2, k3⟩, ?_⟩
    rw [upd_at, upd_ne _ _ (by omega), upd_ne _ _ (by omega), upd_ne _ _ (by omega), upd_ne _ _ (by omega), upd_ne _ _ (by omega)]
    by_cases e : j = i
    · subst e
      refine ⟨by rw [pI_uI_nek _ _ _ _ (by omega)]; exact p2, by rw [pI_uI_nek _ _ _ _ (by omega)]; exact p3, by rw [pI_uI_nek _ _ _ _ (by omega)]; exact p4, by rw [pI_uI_nek _ _ _ _ (by omega)]; exact p5, by rw [pI_uI_nek _ _ _ _ (by omega)]; exact p6, by rw [pI_uI_nek _ _ _ _ (by omega)]; exact p7, by rw [pI_uI_at]; exact hx.symm⟩
    · have hne : vQ σ v j ≠ vQ σ v i := fun q => e (hinj j hj q)
      rw [pI_uI_ne _ _ _ hne, ho j hj e]
      exact ⟨p2, p3, p4, p5, p6, p7, p8⟩
  · rw [vD_uI, pI_uI_ne _ _ _ (hap.2.2.2 i hi).2.2.symm, upd_ne _ _ (by omega)]
    exact hd a b ha hb
/-- MINUTE (f 3, place 2) or z (f 4, place 3) changes -/
theorem VR_scal {σ : pm_H} {v n : Nat} {vd : Nat → Int32} (h : VR σ v vd n) {f : Nat} (hf : f = 3 ∨ f = 4) {x : Int32} : VR (uI σ v f x) v (upd vd (f - 1) x) n := by
  have hap := VR_apart h
  obtain ⟨h0, ht, ⟨s1, s2, s3⟩, hp, hd, ha⟩ := h
  have h8 : n ≤ 8 := h0.1
  refine ⟨?_, ht, ⟨?_, ?_, ?_⟩, fun j hj => ⟨(hp j hj).1, ?_⟩, fun a b ha hb => ?_, ha⟩
  · obtain ⟨q1, q2, ⟨A, q3, q4, q5⟩, q6⟩ := h0
    refine ⟨q1, by rw [upd_ne _ _ (by omega)]; exact q2, ⟨A, q3, by rw [upd_ne _ _ (by omega)]; exact q4, q5⟩, fun i hi => ?_⟩
    rw [upd_ne _ _ (by omega), upd_ne _ _ (by omega)]
    exact q6 i hi
  · rw [pI_uI_nek _ _ _ _ (by omega)]; exact s1
  · rcases hf with rfl | rfl
    · rw [pI_uI_at, show 3 - 1 = 2 from rfl, upd_at]
    · rw [pI_uI_nek _ _ _ _ (by omega), upd_ne _ _ (by omega)]; exact s2
  · rcases hf with rfl | rfl
    · rw [pI_uI_nek _ _ _ _ (by omega), upd_ne _ _ (by omega)]; exact s3
    · rw [pI_uI_at, show 4 - 1 = 3 from rfl, upd_at]
  · obtain ⟨p1, ⟨k, k1, k2, k3⟩, p2, p3, p4, p5, p6, p7, p8⟩ := hp j hj
    rw [vQ_uI]
    refine ⟨⟨k, k1, by rw [upd_ne _ _ (by omega)]; exact k2, k3⟩, ?_⟩
    rw [pI_uI_ne _ _ _ (hap.2.2.2 j hj).1, upd_ne _ _ (by omega), upd_ne _ _ (by omega), upd_ne _ _ (by omega), upd_ne _ _ (by omega), upd_ne _ _ (by omega), upd_ne _ _ (by omega)]
    exact ⟨p2, p3, p4, p5, p6, p7, p8⟩
  · rw [vD_uI, pI_uI_ne _ _ _ hap.2.1.symm, upd_ne _ _ (by omega)]
    exact hd a b ha hb
/-- what one owes another changes -/
theorem VR_debt {σ : pm_H} {v n : Nat} {vd : Nat → Int32} (h : VR σ v vd n) {a b : Nat} (ha : a < n) (hb : b < n) (hab : a ≠ b) {x : Int32} : VR (uI σ (vD σ v) (8 * a + b) x) v (upd vd (52 + (8 * a + b)) x) n := by
  have hap := VR_apart h
  obtain ⟨h0, ht, ⟨s1, s2, s3⟩, hp, hd, hz⟩ := h
  have h8 : n ≤ 8 := h0.1
  refine ⟨?_, ht, ⟨?_, ?_, ?_⟩, fun j hj => ⟨(hp j hj).1, ?_⟩, fun c d hc hd2 => ?_, hz⟩
  · obtain ⟨q1, q2, ⟨A, q3, q4, q5⟩, q6⟩ := h0
    refine ⟨q1, by rw [upd_ne _ _ (by omega)]; exact q2, ⟨A, q3, by rw [upd_ne _ _ (by omega)]; exact q4, q5⟩, fun i hi => ?_⟩
    rw [upd_ne _ _ (by omega), upd_ne _ _ (by omega)]
    exact q6 i hi
  · rw [pI_uI_ne _ _ _ hap.2.1]; exact s1
  · rw [pI_uI_ne _ _ _ hap.2.1, upd_ne _ _ (by omega)]; exact s2
  · rw [pI_uI_ne _ _ _ hap.2.1, upd_ne _ _ (by omega)]; exact s3
  · obtain ⟨p1, ⟨k, k1, k2, k3⟩, p2, p3, p4, p5, p6, p7, p8⟩ := hp j hj
    rw [vQ_uI]
    refine ⟨⟨k, k1, by rw [upd_ne _ _ (by omega)]; exact k2, k3⟩, ?_⟩
    rw [pI_uI_ne _ _ _ (hap.2.2.2 j hj).2.2, upd_ne _ _ (by omega), upd_ne _ _ (by omega), upd_ne _ _ (by omega), upd_ne _ _ (by omega), upd_ne _ _ (by omega), upd_ne _ _ (by omega)]
    exact ⟨p2, p3, p4, p5, p6, p7, p8⟩
  · rw [vD_uI]
    by_cases e : c = a ∧ d = b
    · obtain ⟨rfl, rfl⟩ := e
      rw [pI_uI_at, if_pos ⟨ha, hb, hab⟩, upd_at]
    · rw [pI_uI_nek _ _ _ _ (by omega), upd_ne _ _ (by omega)]
      exact hd c d hc hd2
-- the other parts
def TapeR (σ : pm_H) : Prop := ∃ t, t ≤ 200 ∧ pI σ 27 1 = nI t ∧ pI σ 35 12 = nI t ∧ ∀ j, j < t → pI σ 28 j = pI σ 43 j ∧ ∃ b, b < 256 ∧ pI σ 43 j = nI b
def RowR (σ : pm_H) : Prop := ∃ r, r ≤ 8 ∧ pI σ 11 6 = nI r ∧ pI σ 35 36 = nI r ∧ ∀ j, j < 3 * r → pI σ 31 j = pI σ 56 j
def TrR (σ : pm_H) : Prop := ∃ k, k ≤ 30 ∧ pI σ 29 1 = nI k ∧ pI σ 35 47 = nI k ∧ ∀ j, j < k → pI σ 30 j = pI σ 63 j
/-- a row of a sheet: at ra, of that sort, with len items -/
def rowAt (σ : pm_H) (ra so len : Nat) : Prop := so < 4 ∧ len ≤ 40 ∧ 66 ≤ ra ∧ ra < pN σ ∧ pT σ ra = 5 ∧ pI σ ra 0 = nI so ∧ ∃ ia, pR σ ra 1 = some ia ∧ 66 ≤ ia ∧ ia < pN σ ∧ pT σ ia = 14 ∧ pL σ ia = len
def rI (σ : pm_H) (ra : Nat) : Nat := (pR σ ra 1).getD 0
def SheetR (σ : pm_H) : Prop := (∀ s, s < 4 → (pI σ 57 s = -1 ∧ pR σ 32 s = none) ∨ (∃ so len ra, pI σ 57 s = nI so ∧ pI σ 58 s = nI len ∧ pR σ 32 s = some ra ∧ rowAt σ ra so len ∧ ∀ j, j < len → pJ σ (rI σ ra) j = pJ σ 59 (40 * s + j))) ∧ ∀ s t ra rb, s < 4 → t < 4 → pR σ 32 s = some ra → pR σ 32 t = some rb → s ≠ t → rI σ ra ≠ rI σ rb
def ShelfR (σ : pm_H) : Prop := ∀ s, s < 4 → (pI σ 60 s = -1 ∧ pI σ 34 s = -1 ∧ pR σ 33 s = none) ∨ (∃ k, k < 8 ∧ pI σ 60 s = 0 ∧ pI σ 61 s = nI k ∧ pI σ 34 s = nI k ∧ pR σ 33 s = none) ∨ (∃ so len ra, pI σ 60 s = 1 ∧ pI σ 34 s = -1 ∧ pR σ 33 s = some ra ∧ rowAt σ ra so len ∧ pI σ 61 s = nI so ∧ pI σ 62 s = nI len)
def nowA (σ : pm_H) : Nat := (pR σ 11 0).getD 0
def NowR (σ : pm_H) (n : Nat) : Prop := pR σ 11 0 = some (nowA σ) ∧ VR σ (nowA σ) (cur σ) n
def Sep (σ : pm_H) (v w : Nat) : Prop := v ≠ w ∧ vP σ v ≠ vP σ w ∧ vD σ v ≠ vD σ w ∧ ∀ i j, i < nOf σ v → j < nOf σ w → vQ σ v i ≠ vQ σ w j
def KeptR (σ : pm_H) : Prop := (pI σ 35 49 = 0 ∧ pR σ 11 1 = none) ∨ (pI σ 35 49 = 1 ∧ ∃ kv n, pR σ 11 1 = some kv ∧ VR σ kv (pI σ 64) n ∧ Sep σ (nowA σ) kv)
theorem VR_nOf {σ : pm_H} {v n : Nat} {vd : Nat → Int32} (h : VR σ v vd n) : nOf σ v = n := by
  unfold nOf
  rw [h.2.2.1.1]
  have := h.1.1
  exact nI_cl (by omega)
