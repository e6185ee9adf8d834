/-! a valley told in a text: what both readers read. -/
def isB (T : Nat) (c : Nat → Nat) (j : Nat) : Bool := decide (j < T) && decide (c j = 32)
def isL (T : Nat) (c : Nat → Nat) (j : Nat) : Bool := decide (j < T) && (decide (97 ≤ c j) && decide (c j ≤ 122))
def isD (T : Nat) (c : Nat → Nat) (j : Nat) : Bool := decide (j < T) && (decide (48 ≤ c j) && decide (c j ≤ 57))
theorem isB_iff {T : Nat} {c : Nat → Nat} {j : Nat} : isB T c j = true ↔ j < T ∧ c j = 32 := by
  unfold isB; simp only [Bool.and_eq_true, decide_eq_true_eq]
theorem isL_iff {T : Nat} {c : Nat → Nat} {j : Nat} : isL T c j = true ↔ j < T ∧ 97 ≤ c j ∧ c j ≤ 122 := by
  unfold isL; simp only [Bool.and_eq_true, decide_eq_true_eq]
theorem isD_iff {T : Nat} {c : Nat → Nat} {j : Nat} : isD T c j = true ↔ j < T ∧ 48 ≤ c j ∧ c j ≤ 57 := by
  unfold isD; simp only [Bool.and_eq_true, decide_eq_true_eq]
def rnE (P : Nat → Bool) : Nat → Nat → Nat
  | 0, p => p
  | k + 1, p => if P p = true then rnE P k (p + 1) else p
theorem rnE_sp {P : Nat → Bool} {T : Nat} (hP : ∀ j, P j = true → j < T) : ∀ k p, T ≤ p + k → p ≤ rnE P k p ∧ (∀ j, p ≤ j → j < rnE P k p → P j = true) ∧ P (rnE P k p) = false ∧ (p ≤ T → rnE P k p ≤ T) := by
  intro k
  induction k with
  | zero =>
    intro p h
    refine ⟨Nat.le_refl _, fun j q1 q2 => absurd q2 (by show ¬ j < p; omega), ?_, fun q => q⟩
    show P p = false
    cases e : P p with
    | false => rfl
    | true => have := hP p e; omega
  | succ k ih =>
    intro p h
    rw [rnE]
    by_cases c : P p = true
    · rw [if_pos c]
      obtain ⟨a1, a2, a3, a4⟩ := ih (p + 1) (by omega)
      have := hP p c
      refine ⟨by omega, fun j q1 q2 => ?_, a3, fun _ => a4 (by omega)⟩
      by_cases e : j = p
      · rw [e]; exact c
      · exact a2 j (by omega) q2
    · rw [if_neg c]
      refine ⟨Nat.le_refl _, fun j q1 q2 => by omega, ?_, fun q => q⟩
      cases e : P p with
      | false => rfl
      | true => exact absurd e c
def skE (T : Nat) (c : Nat → Nat) (p : Nat) : Nat := rnE (isB T c) 201 p
def leE (T : Nat) (c : Nat → Nat) (p : Nat) : Nat := rnE (isL T c) 201 p
def deE (T : Nat) (c : Nat → Nat) (p : Nat) : Nat := rnE (isD T c) 201 p
theorem sk_sp {T : Nat} {c : Nat → Nat} (hT : T ≤ 200) (p : Nat) : p ≤ skE T c p ∧ (∀ j, p ≤ j → j < skE T c p → isB T c j = true) ∧ isB T c (skE T c p) = false ∧ (p ≤ T → skE T c p ≤ T) := rnE_sp (fun j q => (isB_iff.mp q).1) 201 p (by omega)
theorem le_sp {T : Nat} {c : Nat → Nat} (hT : T ≤ 200) (p : Nat) : p ≤ leE T c p ∧ (∀ j, p ≤ j → j < leE T c p → isL T c j = true) ∧ isL T c (leE T c p) = false ∧ (p ≤ T → leE T c p ≤ T) := rnE_sp (fun j q => (isL_iff.mp q).1) 201 p (by omega)
theorem de_sp {T : Nat} {c : Nat → Nat} (hT : T ≤ 200) (p : Nat) : p ≤ deE T c p ∧ (∀ j, p ≤ j → j < deE T c p → isD T c j = true) ∧ isD T c (deE T c p) = false ∧ (p ≤ T → deE T c p ≤ T) := rnE_sp (fun j q => (isD_iff.mp q).1) 201 p (by omega)
/-- a byte, or -1 -/
def bI (T : Nat) (c : Nat → Nat) (j : Nat) : Int32 := if j < T then nI (c j) else -1
-- names
def nmL (w : Nat) : Nat := pm_len.getD w 0
def nmC (w j : Nat) : Nat := (st_at w j).toInt.toNat
theorem nm_dec : ∀ w, w < 10 → (1 ≤ nmL w ∧ nmL w ≤ 9) ∧ ∀ j, j < nmL w → st_at w j = nI (nmC w j) ∧ 97 ≤ nmC w j ∧ nmC w j ≤ 122 := by decide +kernel
def bv (d : Nat → Nat) : Nat → Nat
  | 0 => 0
  | k + 1 => 27 * bv d k + d k
theorem bv_inj {d e : Nat → Nat} : ∀ k l, (∀ i, i < k → 1 ≤ d i ∧ d i ≤ 26) → (∀ i, i < l → 1 ≤ e i ∧ e i ≤ 26) → bv d k = bv e l → k = l ∧ ∀ i, i < k → d i = e i := by
  intro k
  induction k with
  | zero =>
    intro l _ h2 h
    cases l with
    | zero => exact ⟨rfl, fun i hi => by omega⟩
    | succ l => rw [bv, bv] at h; have := h2 l (by omega); omega
  | succ k ih =>
    intro l h1 h2 h
    cases l with
    | zero => rw [bv, bv] at h; have := h1 k (by omega); omega
    | succ l =>
      rw [bv, bv] at h
      have x := h1 k (by omega)
      have y := h2 l (by omega)
      obtain ⟨a1, a2⟩ := ih l (fun i hi => h1 i (by omega)) (fun i hi => h2 i (by omega)) (by omega)
      subst a1
      refine ⟨rfl, fun i hi => ?_⟩
      by_cases q : i = k
      · subst q; omega
      · exact a2 i (by omega)
theorem bv_congr {d e : Nat → Nat} : ∀ k, (∀ i, i < k → d i = e i) → bv d k = bv e k := by
  intro k
  induction k with
  | zero => intro _; rfl
  | succ k ih => intro h; rw [bv, bv, ih (fun i hi => h i (by omega)), h k (by omega)]
theorem bv_lt {d : Nat → Nat} : ∀ k, (∀ i, i < k → d i ≤ 26) → bv d k < 27 ^ k := by
  intro k
  induction k with
  | zero => intro _; show 0 < 27 ^ 0; decide
  | succ k ih => intro h; have := ih (fun i hi => h i (by omega)); have := h k (by omega); rw [bv, Nat.pow_succ]; omega
def WN (w : Nat) : Nat := [7535943612, 1758676, 11263, 190506958525, 82410, 5837583086019, 11993594, 8930039, 312166, 24686278].getD w 0
theorem WN_dec : ∀ w, w < 10 → bv (fun i => nmC w i - 96) (nmL w) = WN w ∧ WN w < 27 ^ 12 ∧ ∀ v, v < 10 → WN v = WN w → v = w := by decide +kernel
/-- the name w stands here -/
def hereB (T : Nat) (c : Nat → Nat) (p w : Nat) : Bool := decide (nmL w = leE T c p - p) && (List.range (nmL w)).all (fun i => decide (nmC w i = c (p + i)))
theorem here_iff {T : Nat} {c : Nat → Nat} {p w : Nat} : hereB T c p w = true ↔ nmL w = leE T c p - p ∧ ∀ i, i < nmL w → nmC w i = c (p + i) := by
  unfold hereB
  simp only [Bool.and_eq_true, decide_eq_true_eq, List.all_eq_true, List.mem_range]
def dL (c : Nat → Nat) (p i : Nat) : Nat := c (p + i) - 96
theorem here_bv {T : Nat} {c : Nat → Nat} {p w : Nat} (hT : T ≤ 200) (hw : w < 10) (h12 : leE T c p - p ≤ 12) : hereB T c p w = true ↔ bv (dL c p) (leE T c p - p) = WN w := by
  obtain ⟨l1, l2, -, -⟩ := le_sp (c := c) hT p
  obtain ⟨n1, n2⟩ := nm_dec w hw
  have hW := (WN_dec w hw).1
  have hd : ∀ i, i < leE T c p - p → 97 ≤ c (p + i) ∧ c (p + i) ≤ 122 := fun i hi => (isL_iff.mp (l2 (p + i) (by omega) (by omega))).2
  rw [here_iff, ← hW]
  constructor
  · rintro ⟨q1, q2⟩
    rw [← q1]
    exact bv_congr _ (fun i hi => by unfold dL; rw [q2 i hi])
  · intro q
    obtain ⟨k1, k2⟩ := bv_inj _ _ (fun i hi => by have := hd i hi; unfold dL; omega) (fun i hi => by have := (n2 i hi).2; omega) q
    refine ⟨k1.symm, fun i hi => ?_⟩
    have := k2 i (by omega)
    have := (n2 i hi).2
    have := hd i (by omega)
    unfold dL at *
    omega
theorem here_12 {T : Nat} {c : Nat → Nat} {p w : Nat} (hw : w < 10) (h : hereB T c p w = true) : 1 ≤ leE T c p - p ∧ leE T c p - p ≤ 9 := by
  have := (here_iff.mp h).1
  have := (nm_dec w hw).1
  omega
theorem here_uniq {T : Nat} {c : Nat → Nat} {p w v : Nat} (hT : T ≤ 200) (hw : w < 10) (hv : v < 10) (h : hereB T c p w = true) (h' : hereB T c p v = true) : v = w := by
  have h12 := (here_12 hw h).2
  have a := (here_bv hT hw (by omega)).mp h
  have b := (here_bv hT hv (by omega)).mp h'
  exact (WN_dec w hw).2.2 v hv (by omega)
/-- which word begins here; 10: none -/
def wId (T : Nat) (c : Nat → Nat) (p : Nat) : Nat := ((List.range 10).find? (hereB T c p)).getD 10
theorem wId_sp {T : Nat} {c : Nat → Nat} (hT : T ≤ 200) (p : Nat) : wId T c p ≤ 10 ∧ ∀ w, w < 10 → (hereB T c p w = true ↔ wId T c p = w) := by
  unfold wId
  cases e : (List.range 10).find? (hereB T c p) with
  | none =>
    refine ⟨Nat.le_refl _, fun w hw => ?_⟩
    have := List.find?_eq_none.mp e w (List.mem_range.mpr hw)
    show _ ↔ 10 = w
    exact ⟨fun q => absurd q this, fun q => by omega⟩
  | some v =>
    have h1 := List.find?_some e
    have h2 : v < 10 := List.mem_range.mp (List.mem_of_find?_eq_some e)
    show v ≤ 10 ∧ _
    refine ⟨by omega, fun w hw => ?_⟩
    show _ ↔ v = w
    exact ⟨fun q => (here_uniq hT h2 hw h1 q).symm, fun q => by rw [← q]; exact h1⟩
-- numbers
def dnV (c : Nat → Nat) (p : Nat) : Nat → Nat
  | 0 => 0
  | k + 1 => 10 * dnV c p k + (c (p + k) - 48)
theorem dn_lt {c : Nat → Nat} {p : Nat} : ∀ k, (∀ i, i < k → c (p + i) ≤ 57) → dnV c p k < 10 ^ k := by
  intro k
  induction k with
  | zero => intro _; exact (by decide : 0 < 10 ^ 0)
  | succ k ih => intro h; have := ih (fun i hi => h i (by omega)); have := h k (by omega); rw [dnV, Nat.pow_succ]; omega
def numR (T : Nat) (c : Nat → Nat) (p lo hi : Nat) : Option Nat := if 1 ≤ deE T c p - p ∧ deE T c p - p ≤ 3 ∧ lo ≤ dnV c p (deE T c p - p) ∧ dnV c p (deE T c p - p) < hi then some (dnV c p (deE T c p - p)) else none
def oQ (x : Option Nat) : Int32 := match x with
  | none => -1
  | some v => nI v
theorem dn_1000 {T : Nat} {c : Nat → Nat} (hT : T ≤ 200) {p k : Nat} (hk : k ≤ 3) (hd : k ≤ deE T c p - p) : dnV c p k < 1000 := by
  obtain ⟨l1, l2, -, -⟩ := de_sp (c := c) hT p
  have := dn_lt (c := c) (p := p) k (fun i hi => (isD_iff.mp (l2 (p + i) (by omega) (by omega))).2.2)
  have : 10 ^ k ≤ 10 ^ 3 := Nat.pow_le_pow_right (by decide) hk
  omega
theorem num_some {T : Nat} {c : Nat → Nat} {p lo hi v : Nat} (h : numR T c p lo hi = some v) : (1 ≤ deE T c p - p ∧ deE T c p - p ≤ 3) ∧ v = dnV c p (deE T c p - p) ∧ lo ≤ v ∧ v < hi := by
  unfold numR at h
  by_cases q : 1 ≤ deE T c p - p ∧ deE T c p - p ≤ 3 ∧ lo ≤ dnV c p (deE T c p - p) ∧ dnV c p (deE T c p - p) < hi
  · rw [if_pos q] at h
    injection h with h
    exact ⟨⟨q.1, q.2.1⟩, h.symm, by rw [← h]; exact q.2.2.1, by rw [← h]; exact q.2.2.2⟩
  · rw [if_neg q] at h; cases h
theorem num_none {T : Nat} {c : Nat → Nat} {p lo hi : Nat} (h : numR T c p lo hi = none) : ¬ (1 ≤ deE T c p - p ∧ deE T c p - p ≤ 3 ∧ lo ≤ dnV c p (deE T c p - p) ∧ dnV c p (deE T c p - p) < hi) := by
  unfold numR at h
  intro q
  rw [if_pos q] at h; cases h
-- clauses
def cSemi (T : Nat) (c : Nat → Nat) (p n : Nat) (wd : Nat → Int32) : Nat ⊕ (Nat × Nat × (Nat → Int32)) := if p < T ∧ c p = 59 then .inr (skE T c (p + 1), n, wd) else .inl p
def clOw3 (T : Nat) (c : Nat → Nat) (p n : Nat) (wd : Nat → Int32) (a b : Nat) : Nat ⊕ (Nat × Nat × (Nat → Int32)) := match numR T c p 0 1000 with
  | none => .inl p
  | some m => cSemi T c (skE T c (deE T c p)) n (upd wd (52 + (8 * a + b)) (nI m))
def clOw2 (T : Nat) (c : Nat → Nat) (p n : Nat) (wd : Nat → Int32) (a : Nat) : Nat ⊕ (Nat × Nat × (Nat → Int32)) := match numR T c p 0 n with
  | none => .inl p
  | some b => if b = a then .inl p else clOw3 T c (skE T c (deE T c p)) n wd a b
def clOw1 (T : Nat) (c : Nat → Nat) (p n : Nat) (wd : Nat → Int32) : Nat ⊕ (Nat × Nat × (Nat → Int32)) := match numR T c p 0 n with
  | none => .inl p
  | some a => clOw2 T c (skE T c (deE T c p)) n wd a
def wA (wd : Nat → Int32) : Nat := (wd 1).toInt.toNat
def clAs1 (T : Nat) (c : Nat → Nat) (p n : Nat) (wd : Nat → Int32) : Nat ⊕ (Nat × Nat × (Nat → Int32)) := match numR T c p 0 n with
  | none => .inl p
  | some i => if (wA wd).testBit i = true ∧ 1 < pc (wA wd) then cSemi T c (skE T c (deE T c p)) n (upd wd 1 (nI (sd (wA wd) (2 ^ i)))) else .inl p
def optW (T : Nat) (c : Nat → Nat) (p w hi df : Nat) : Nat ⊕ (Nat × Nat) := if wId T c p = w then (match numR T c (skE T c (leE T c p)) 0 hi with
  | none => .inl (skE T c (leE T c p))
  | some v => .inr (skE T c (deE T c (skE T c (leE T c p))), v)) else .inr (p, df)
def newP (wd : Nat → Int32) (n kd g : Nat) : Nat → Int32 := upd (upd (upd (upd (upd (upd wd (4 + n) (nI kd)) (12 + n) (nI g)) (20 + n) 100) (28 + n) 0) 1 (nI (wA wd ||| 2 ^ n))) 0 (nI (n + 1))
def clPe3 (T : Nat) (c : Nat → Nat) (p n : Nat) (wd : Nat → Int32) : Nat ⊕ (Nat × Nat × (Nat → Int32)) := match optW T c p 7 1000 0 with
  | .inl q => .inl q
  | .inr (q, v) => cSemi T c q (n + 1) (upd wd (28 + n) (nI v))
def clPe2 (T : Nat) (c : Nat → Nat) (p n : Nat) (wd : Nat → Int32) : Nat ⊕ (Nat × Nat × (Nat → Int32)) := match optW T c p 6 201 100 with
  | .inl q => .inl q
  | .inr (q, v) => clPe3 T c q n (upd wd (20 + n) (nI v))
def clPe1 (T : Nat) (c : Nat → Nat) (p n kd : Nat) (wd : Nat → Int32) : Nat ⊕ (Nat × Nat × (Nat → Int32)) := match numR T c p 1 91 with
  | none => .inl p
  | some g => clPe2 T c (skE T c (deE T c p)) n (newP wd n kd g)
def clause (T : Nat) (c : Nat → Nat) (p n : Nat) (wd : Nat → Int32) : Nat ⊕ (Nat × Nat × (Nat → Int32)) :=
  if wId T c p = 8 then clOw1 T c (skE T c (leE T c p)) n wd
  else if wId T c p = 9 then clAs1 T c (skE T c (leE T c p)) n wd
  else if wId T c p < 6 then (if n < 8 then clPe1 T c (skE T c (leE T c p)) n (wId T c p) wd else .inl p)
  else .inl p
def prs (T : Nat) (c : Nat → Nat) : Nat → Nat → Nat → (Nat → Int32) → Nat ⊕ (Nat × (Nat → Int32))
  | 0, _, n, wd => .inr (n, wd)
  | k + 1, p, n, wd => if p < T then (match clause T c p n wd with
    | .inl q => .inl q
    | .inr (p', n', wd') => prs T c k p' n' wd') else .inr (n, wd)
