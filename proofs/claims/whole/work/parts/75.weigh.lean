/-! The class's reckoner: songs are weighed. -/
def beB (ln : Nat → Nat) (sg : Nat → Nat → Bool) (M : Nat → Nat) (A x s W : Nat) : Bool := cdB ln sg A s W && decide (x = ln W + M (sd A W))
theorem be_iff {ln : Nat → Nat} {sg : Nat → Nat → Bool} {M : Nat → Nat} {A x s W : Nat} : beB ln sg M A x s W = true ↔ cdB ln sg A s W = true ∧ x = ln W + M (sd A W) := by
  unfold beB
  rw [Bool.and_eq_true, decide_eq_true_eq]
def hW (ln : Nat → Nat) (sg : Nat → Nat → Bool) (M R : Nat → Nat) (A x W : Nat) : Nat := sumN (fun s => if beB ln sg M A x s W = true then R (sd A W) else 0) 8
/-- how far a set is, when all songs to sets below w are weighed -/
def CWa (ln : Nat → Nat) (sg : Nat → Nat → Bool) (M : Nat → Nat) (A w x : Nat) : Prop := x ≤ 1000000 ∧ (∀ s W, W < w → cdB ln sg A s W = true → x ≤ ln W + M (sd A W)) ∧ (x = 1000000 ∨ ∃ s W, W < w ∧ cdB ln sg A s W = true ∧ x = ln W + M (sd A W))
def CWy (ln : Nat → Nat) (sg : Nat → Nat → Bool) (M Y : Nat → Nat) (A w y : Nat) : Prop := y < 256 ∧ ∀ p, y.testBit p = true ↔ ∃ s W, W < w ∧ cdB ln sg A s W = true ∧ M (sd A W) < 1000000 ∧ (Y (sd A W)).testBit p = true
def CWc (ln : Nat → Nat) (sg : Nat → Nat → Bool) (M S R B : Nat → Nat) (A w x s' r b : Nat) : Prop := (s' ≤ 8 ∧ b < 256 ∧ r ≤ 1000000) ∧ (x < 1000000 → (∀ s W, W < w → beB ln sg M A x s W = true → s' ≤ S (sd A W) + 1) ∧ (s' = 8 ∨ ∃ s W, W < w ∧ beB ln sg M A x s W = true ∧ s' = S (sd A W) + 1) ∧ (∀ p, b.testBit p = true ↔ ∃ s W, W < w ∧ beB ln sg M A x s W = true ∧ (B (sd A W)).testBit p = true) ∧ r = min 1000000 (sumN (hW ln sg M R A x) w))
def CWi (ln : Nat → Nat) (sg : Nat → Nat → Bool) (M S R B Y : Nat → Nat) (A w x s' r b y : Nat) : Prop := CWa ln sg M A w x ∧ CWy ln sg M Y A w y ∧ CWc ln sg M S R B A w x s' r b
theorem hW_0 {ln : Nat → Nat} {sg : Nat → Nat → Bool} {M R : Nat → Nat} {A x W : Nat} (h : ∀ s, beB ln sg M A x s W = false) : hW ln sg M R A x W = 0 := sumN_0 8 (fun s _ => by rw [h s]; rfl)
/-- nothing at w counts -/
theorem CW_skip {ln : Nat → Nat} {sg : Nat → Nat → Bool} {M S R B Y : Nat → Nat} {A w x s' r b y : Nat} (h : CWi ln sg M S R B Y A w x s' r b y) (hw : ∀ s, cdB ln sg A s w = true → 1000000 ≤ M (sd A w) ∧ 0 < ln w) : CWi ln sg M S R B Y A (w + 1) x s' r b y := by
  obtain ⟨⟨a1, a2, a3⟩, ⟨y1, y2⟩, c1, c2⟩ := h
  have hbe : ∀ s, beB ln sg M A x s w = false := fun s => by
    cases q : beB ln sg M A x s w with
    | false => rfl
    | true =>
      obtain ⟨q1, q2⟩ := be_iff.mp q
      have := hw s q1
      omega
  have lt1 : ∀ W, W < w + 1 → W ≠ w → W < w := fun W h1 h2 => by omega
  refine ⟨⟨a1, fun s W q1 q2 => ?_, ?_⟩, ⟨y1, fun p => ?_⟩, c1, fun hx => ?_⟩
  · by_cases e : W = w
    · subst e; have := hw s q2; omega
    · exact a2 s W (lt1 W q1 e) q2
  · rcases a3 with c | ⟨s, W, q1, q2, q3⟩
    · exact Or.inl c
    · exact Or.inr ⟨s, W, by omega, q2, q3⟩
  · rw [y2 p]
    constructor
    · rintro ⟨s, W, q1, q2, q3, q4⟩; exact ⟨s, W, by omega, q2, q3, q4⟩
    · rintro ⟨s, W, q1, q2, q3, q4⟩
      refine ⟨s, W, lt1 W q1 (fun e => ?_), q2, q3, q4⟩
      subst e; have := hw s q2; omega
  · obtain ⟨d1, d2, d3, d4⟩ := c2 hx
    refine ⟨fun s W q1 q2 => ?_, ?_, fun p => ?_, by rw [sumN, hW_0 hbe, Nat.add_zero]; exact d4⟩
    · refine d1 s W (lt1 W q1 (fun e => ?_)) q2
      subst e; rw [hbe s] at q2; cases q2
    · rcases d2 with c | ⟨s, W, q1, q2, q3⟩
      · exact Or.inl c
      · exact Or.inr ⟨s, W, by omega, q2, q3⟩
    · rw [d3 p]
      constructor
      · rintro ⟨s, W, q1, q2, q3⟩; exact ⟨s, W, by omega, q2, q3⟩
      · rintro ⟨s, W, q1, q2, q3⟩
        refine ⟨s, W, lt1 W q1 (fun e => ?_), q2, q3⟩
        subst e; rw [hbe s] at q2; cases q2
theorem CW_gap {ln : Nat → Nat} {sg : Nat → Nat → Bool} {M S R B Y : Nat → Nat} {A w x s' r b y : Nat} (h : CWi ln sg M S R B Y A w x s' r b y) : ∀ w', w ≤ w' → (∀ W, w ≤ W → W < w' → ∀ s, cdB ln sg A s W = false) → CWi ln sg M S R B Y A w' x s' r b y := by
  intro w'
  induction w' with
  | zero => intro h1 _; have : w = 0 := by omega
            rw [← this]; exact h
  | succ w' ih =>
    intro h1 h2
    by_cases e : w = w' + 1
    · rw [← e]; exact h
    · refine CW_skip (ih (by omega) (fun W q1 q2 => h2 W q1 (by omega))) (fun s q => ?_)
      rw [h2 w' (by omega) (by omega) s] at q; cases q
/-- a song to w counts: X can sing it -/
theorem hW_X {ln : Nat → Nat} {sg : Nat → Nat → Bool} {M R : Nat → Nat} {A x w X : Nat} (hX8 : X < 256) (hX : ∀ s, cdB ln sg A s w = true ↔ X.testBit s = true) (e : x = ln w + M (sd A w)) : hW ln sg M R A x w = pc X * R (sd A w) := by
  have h1 : ∀ X : Fin 256, sumN (fun s => if X.val.testBit s then 1 else 0) 8 = pc X.val := by decide +kernel
  rw [← h1 ⟨X, hX8⟩, ← sumN_mul]
  unfold hW
  refine sumN_congr 8 (fun s _ => ?_)
  by_cases c : X.testBit s = true
  · rw [if_pos (be_iff.mpr ⟨(hX s).mpr c, e⟩), if_pos c, Nat.one_mul]
  · rw [if_neg (fun q => c ((hX s).mp (be_iff.mp q).1)), if_neg c, Nat.zero_mul]
theorem CW_y {ln : Nat → Nat} {sg : Nat → Nat → Bool} {M Y : Nat → Nat} {A w y s0 : Nat} (h : CWy ln sg M Y A w y) (hs : cdB ln sg A s0 w = true) (hM : M (sd A w) < 1000000) (hY : Y (sd A w) < 256) : CWy ln sg M Y A (w + 1) (y ||| Y (sd A w)) := by
  obtain ⟨y1, y2⟩ := h
  refine ⟨Nat.or_lt_two_pow (n := 8) y1 hY, fun p => ?_⟩
  rw [Nat.testBit_or, Bool.or_eq_true, y2 p]
  constructor
  · rintro (⟨s, W, q1, q2, q3, q4⟩ | q)
    · exact ⟨s, W, by omega, q2, q3, q4⟩
    · exact ⟨s0, w, by omega, hs, hM, q⟩
  · rintro ⟨s, W, q1, q2, q3, q4⟩
    by_cases e : W = w
    · subst e; exact Or.inr q4
    · exact Or.inl ⟨s, W, by omega, q2, q3, q4⟩
/-- more minutes than the least so far -/
theorem CW_gt {ln : Nat → Nat} {sg : Nat → Nat → Bool} {M S R B Y : Nat → Nat} {A w x s' r b y s0 : Nat} (h : CWi ln sg M S R B Y A w x s' r b y) (hs : cdB ln sg A s0 w = true) (hM : M (sd A w) < 1000000) (hY : Y (sd A w) < 256) (hg : x < ln w + M (sd A w)) : CWi ln sg M S R B Y A (w + 1) x s' r b (y ||| Y (sd A w)) := by
  obtain ⟨⟨a1, a2, a3⟩, hy, c1, c2⟩ := h
  have hbe : ∀ s, beB ln sg M A x s w = false := fun s => by
    cases q : beB ln sg M A x s w with
    | false => rfl
    | true => have := (be_iff.mp q).2; omega
  refine ⟨⟨a1, fun s W q1 q2 => ?_, ?_⟩, CW_y hy hs hM hY, c1, fun hx => ?_⟩
  · by_cases e : W = w
    · subst e; omega
    · exact a2 s W (by omega) q2
  · rcases a3 with c | ⟨s, W, q1, q2, q3⟩
    · exact Or.inl c
    · exact Or.inr ⟨s, W, by omega, q2, q3⟩
  · obtain ⟨d1, d2, d3, d4⟩ := c2 hx
    refine ⟨fun s W q1 q2 => ?_, ?_, fun p => ?_, by rw [sumN, hW_0 hbe, Nat.add_zero]; exact d4⟩
    · by_cases e : W = w
      · subst e; rw [hbe s] at q2; cases q2
      · exact d1 s W (by omega) q2
    · rcases d2 with c | ⟨s, W, q1, q2, q3⟩
      · exact Or.inl c
      · exact Or.inr ⟨s, W, by omega, q2, q3⟩
    · rw [d3 p]
      constructor
      · rintro ⟨s, W, q1, q2, q3⟩; exact ⟨s, W, by omega, q2, q3⟩
      · rintro ⟨s, W, q1, q2, q3⟩
        by_cases e : W = w
        · subst e; rw [hbe s] at q2; cases q2
        · exact ⟨s, W, by omega, q2, q3⟩
/-- fewer minutes: all begins anew -/
theorem CW_lt {ln : Nat → Nat} {sg : Nat → Nat → Bool} {M S R B Y : Nat → Nat} {A w x s' r b y s0 X : Nat} (hX8 : X < 256) (hX : ∀ s, cdB ln sg A s w = true ↔ X.testBit s = true) (h : CWi ln sg M S R B Y A w x s' r b y) (hs : cdB ln sg A s0 w = true) (hM : M (sd A w) < 1000000) (hY : Y (sd A w) < 256) (hB : B (sd A w) < 256) (hl : ln w + M (sd A w) < x) : CWi ln sg M S R B Y A (w + 1) (ln w + M (sd A w)) (min 8 (S (sd A w) + 1)) (min 1000000 (0 + pc X * R (sd A w))) (0 ||| B (sd A w)) (y ||| Y (sd A w)) := by
  obtain ⟨⟨a1, a2, a3⟩, hy, c1, c2⟩ := h
  obtain ⟨t, et⟩ : ∃ t, ln w + M (sd A w) = t := ⟨_, rfl⟩
  rw [et] at hl ⊢
  have hbe : ∀ s W, W < w → beB ln sg M A t s W = false := fun s W hW => by
    cases q : beB ln sg M A t s W with
    | false => rfl
    | true =>
      obtain ⟨q1, q2⟩ := be_iff.mp q
      have := a2 s W hW q1
      omega
  refine ⟨⟨by omega, fun s W q1 q2 => ?_, Or.inr ⟨s0, w, by omega, hs, et.symm⟩⟩, CW_y hy hs hM hY, ⟨by omega, by rw [Nat.zero_or]; exact hB, by omega⟩, fun hx => ⟨fun s W q1 q2 => ?_, ?_, fun p => ?_, ?_⟩⟩
  · by_cases e : W = w
    · subst e; omega
    · have := a2 s W (by omega) q2; omega
  · by_cases e : W = w
    · subst e; omega
    · rw [hbe s W (by omega)] at q2; cases q2
  · by_cases c : S (sd A w) + 1 < 8
    · exact Or.inr ⟨s0, w, by omega, be_iff.mpr ⟨hs, et.symm⟩, by omega⟩
    · exact Or.inl (by omega)
  · rw [Nat.zero_or]
    constructor
    · intro q; exact ⟨s0, w, by omega, be_iff.mpr ⟨hs, et.symm⟩, q⟩
    · rintro ⟨s, W, q1, q2, q3⟩
      by_cases e : W = w
      · subst e; exact q3
      · rw [hbe s W (by omega)] at q2; cases q2
  · rw [sumN, hW_X hX8 hX et.symm, sumN_0 w (fun W hW => hW_0 (fun s => hbe s W hW))]
/-- as many minutes -/
theorem CW_eq {ln : Nat → Nat} {sg : Nat → Nat → Bool} {M S R B Y : Nat → Nat} {A w x s' r b y s0 X : Nat} (hX8 : X < 256) (hX : ∀ s, cdB ln sg A s w = true ↔ X.testBit s = true) (h : CWi ln sg M S R B Y A w x s' r b y) (hs : cdB ln sg A s0 w = true) (hM : M (sd A w) < 1000000) (hY : Y (sd A w) < 256) (hB : B (sd A w) < 256) (he : ln w + M (sd A w) = x) (hx6 : x < 1000000) : CWi ln sg M S R B Y A (w + 1) x (min s' (S (sd A w) + 1)) (min 1000000 (r + pc X * R (sd A w))) (b ||| B (sd A w)) (y ||| Y (sd A w)) := by
  obtain ⟨⟨a1, a2, a3⟩, hy, ⟨c1, c2, c3⟩, c4⟩ := h
  obtain ⟨d1, d2, d3, d4⟩ := c4 hx6
  refine ⟨⟨a1, fun s W q1 q2 => ?_, ?_⟩, CW_y hy hs hM hY, ⟨by omega, Nat.or_lt_two_pow (n := 8) c2 hB, by omega⟩, fun hx => ⟨fun s W q1 q2 => ?_, ?_, fun p => ?_, ?_⟩⟩
  · by_cases e : W = w
    · subst e; omega
    · exact a2 s W (by omega) q2
  · rcases a3 with c | ⟨s, W, q1, q2, q3⟩
    · exact Or.inl c
    · exact Or.inr ⟨s, W, by omega, q2, q3⟩
  · by_cases e : W = w
    · subst e; omega
    · have := d1 s W (by omega) q2; omega
  · by_cases c : S (sd A w) + 1 < s'
    · exact Or.inr ⟨s0, w, by omega, be_iff.mpr ⟨hs, he.symm⟩, by omega⟩
    · rcases d2 with e | ⟨s, W, q1, q2, q3⟩
      · exact Or.inl (by omega)
      · exact Or.inr ⟨s, W, by omega, q2, by omega⟩
  · rw [Nat.testBit_or, Bool.or_eq_true, d3 p]
    constructor
    · rintro (⟨s, W, q1, q2, q3⟩ | q)
      · exact ⟨s, W, by omega, q2, q3⟩
      · exact ⟨s0, w, by omega, be_iff.mpr ⟨hs, he.symm⟩, q⟩
    · rintro ⟨s, W, q1, q2, q3⟩
      by_cases e : W = w
      · subst e; exact Or.inr q3
      · exact Or.inl ⟨s, W, by omega, q2, q3⟩
  · rw [sumN, hW_X hX8 hX he.symm, d4]; omega
/-- what is written of a set -/
def st5 (σ : pm_H) (A : Nat) (x s r b y : Int32) : pm_H := uI (uI (uI (uI (uI σ 20 A x) 21 A s) 22 A r) 23 A b) 24 A y
theorem st5_20 (σ : pm_H) (A : Nat) (x s r b y z : Int32) : uI (st5 σ A x s r b y) 20 A z = st5 σ A z s r b y := by
  unfold st5
  rw [uI_comm _ y z (fun q => absurd q.1 (by decide)), uI_comm _ b z (fun q => absurd q.1 (by decide)), uI_comm _ r z (fun q => absurd q.1 (by decide)), uI_comm _ s z (fun q => absurd q.1 (by decide)), uI_uI]
theorem st5_21 (σ : pm_H) (A : Nat) (x s r b y z : Int32) : uI (st5 σ A x s r b y) 21 A z = st5 σ A x z r b y := by
  unfold st5
  rw [uI_comm _ y z (fun q => absurd q.1 (by decide)), uI_comm _ b z (fun q => absurd q.1 (by decide)), uI_comm _ r z (fun q => absurd q.1 (by decide)), uI_uI]
theorem st5_22 (σ : pm_H) (A : Nat) (x s r b y z : Int32) : uI (st5 σ A x s r b y) 22 A z = st5 σ A x s z b y := by
  unfold st5
  rw [uI_comm _ y z (fun q => absurd q.1 (by decide)), uI_comm _ b z (fun q => absurd q.1 (by decide)), uI_uI]
theorem st5_23 (σ : pm_H) (A : Nat) (x s r b y z : Int32) : uI (st5 σ A x s r b y) 23 A z = st5 σ A x s r z y := by
  unfold st5
  rw [uI_comm _ y z (fun q => absurd q.1 (by decide)), uI_uI]
theorem st5_24 (σ : pm_H) (A : Nat) (x s r b y z : Int32) : uI (st5 σ A x s r b y) 24 A z = st5 σ A x s r b z := by
  unfold st5
  rw [uI_uI]
theorem st5_I (σ : pm_H) (A : Nat) (x s r b y : Int32) {a k : Nat} (h : ¬ (20 ≤ a ∧ a ≤ 24 ∧ k = A)) : pI (st5 σ A x s r b y) a k = pI σ a k := by
  unfold st5
  rw [pI_uI, if_neg (by omega), pI_uI, if_neg (by omega), pI_uI, if_neg (by omega), pI_uI, if_neg (by omega), pI_uI, if_neg (by omega)]
theorem st5_a (σ : pm_H) (A : Nat) (x s r b y : Int32) : pI (st5 σ A x s r b y) 20 A = x ∧ pI (st5 σ A x s r b y) 21 A = s ∧ pI (st5 σ A x s r b y) 22 A = r ∧ pI (st5 σ A x s r b y) 23 A = b ∧ pI (st5 σ A x s r b y) 24 A = y := by
  unfold st5
  refine ⟨?_, ?_, ?_, ?_, ?_⟩
  · rw [pI_uI_ne _ _ _ (by decide), pI_uI_ne _ _ _ (by decide), pI_uI_ne _ _ _ (by decide), pI_uI_ne _ _ _ (by decide), pI_uI_at]
  · rw [pI_uI_ne _ _ _ (by decide), pI_uI_ne _ _ _ (by decide), pI_uI_ne _ _ _ (by decide), pI_uI_at]
  · rw [pI_uI_ne _ _ _ (by decide), pI_uI_ne _ _ _ (by decide), pI_uI_at]
  · rw [pI_uI_ne _ _ _ (by decide), pI_uI_at]
  · rw [pI_uI_at]
theorem st5_OC {σ τ : pm_H} (h : OC σ τ) (A : Nat) (x s r b y : Int32) : OC σ (st5 τ A x s r b y) := OC_uI (OC_uI (OC_uI (OC_uI (OC_uI h (by omega)) (by omega)) (by omega)) (by omega)) (by omega)
