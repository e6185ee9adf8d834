/-! The reckoning, as numbers only. -/
def sub (W A : Nat) : Prop := ∀ i, W.testBit i = true → A.testBit i = true
theorem sub_sd {W A : Nat} : sd W A = 0 ↔ sub W A := by
  constructor
  · intro h i hi
    have := sd_bit W A i
    rw [h, Nat.zero_testBit, hi] at this
    simpa using this.symm
  · intro h
    apply Nat.eq_of_testBit_eq
    intro i
    rw [sd_bit, Nat.zero_testBit]
    cases e : W.testBit i with
    | false => rfl
    | true => rw [h i e]; rfl
theorem sub_rfl (A : Nat) : sub A A := fun _ h => h
theorem sub_tr {A B C : Nat} (h : sub A B) (h' : sub B C) : sub A C := fun i q => h' i (h i q)
theorem sd_sub (A W : Nat) : sub (sd A W) A := fun i h => (sd_bit_t.mp h).1
theorem sub_le {X A : Nat} (h : sub X A) : X ≤ A := by
  have e : X &&& A = X := by
    apply Nat.eq_of_testBit_eq
    intro i
    rw [Nat.testBit_and]
    cases q : X.testBit i with
    | false => rfl
    | true => rw [h i q]; rfl
  rw [← e]; exact Nat.and_le_right
theorem sd_lt' {A W : Nat} (h0 : 0 < W) (h : sub W A) : sd A W < A := by
  have h1 := sub_le (sd_sub A W)
  have h2 : sd A W ≠ A := fun e => by
    obtain ⟨i, hi⟩ := ne0_bit h0
    have : (sd A W).testBit i = true := by rw [e]; exact h i hi
    exact (sd_bit_t.mp this).2 hi
  omega
theorem pc_list {A W : Nat} (h : sub W A) : ∀ l : List Nat, (l.filter (fun i => (sd A W).testBit i)).length + (l.filter (fun i => W.testBit i)).length = (l.filter (fun i => A.testBit i)).length := by
  intro l
  induction l with
  | nil => rfl
  | cons a l ih =>
    rw [List.filter_cons, List.filter_cons, List.filter_cons]
    have hb := sd_bit A W a
    cases hA : A.testBit a with
    | false =>
      have hW : W.testBit a = false := by
        cases q : W.testBit a with
        | false => rfl
        | true => rw [h a q] at hA; cases hA
      rw [hA, hW] at hb
      simp only [hb, hW, Bool.false_and, Bool.false_eq_true, if_false]
      exact ih
    | true =>
      cases hW : W.testBit a with
      | false =>
        rw [hA, hW] at hb
        simp only [hb, Bool.not_false, Bool.and_true, if_true, Bool.false_eq_true, if_false, List.length_cons]
        omega
      | true =>
        rw [hA, hW] at hb
        simp only [hb, Bool.not_true, Bool.and_false, Bool.false_eq_true, if_false, if_true, List.length_cons]
        omega
theorem pc_sd {A W : Nat} (h : sub W A) : pc (sd A W) + pc W = pc A := pc_list h _
theorem pc_pos {A : Nat} (hA : A < 256) (h : 0 < A) : 0 < pc A := by
  rcases Nat.eq_zero_or_pos (pc A) with e | e
  · rw [pc0 hA] at e; omega
  · exact e
/-- what can be: s of A sings to W -/
def cdB (ln : Nat → Nat) (sg : Nat → Nat → Bool) (A s W : Nat) : Bool := A.testBit s && (!W.testBit s && (decide (0 < W) && (decide (sd W A = 0) && (decide (0 < ln W) && sg s W))))
theorem cd_iff {ln : Nat → Nat} {sg : Nat → Nat → Bool} {A s W : Nat} : cdB ln sg A s W = true ↔ A.testBit s = true ∧ ¬ W.testBit s = true ∧ 0 < W ∧ sub W A ∧ 0 < ln W ∧ sg s W = true := by
  unfold cdB
  rw [← sub_sd]
  simp only [Bool.and_eq_true, decide_eq_true_eq, Bool.not_eq_true', Bool.not_eq_true]
/-- the table of the least: base where the night is over -/
def Ch (ln : Nat → Nat) (sg : Nat → Nat → Bool) (base M : Nat → Nat) (U : Nat) : Prop := ∀ A, sub A U → (pc A < 2 → M A = base A) ∧ (2 ≤ pc A → M A ≤ 1000000 ∧ (∀ s W, cdB ln sg A s W = true → M A ≤ ln W + M (sd A W)) ∧ (M A = 1000000 ∨ ∃ s W, cdB ln sg A s W = true ∧ M A = ln W + M (sd A W)))
theorem Ch_uniq {ln : Nat → Nat} {sg : Nat → Nat → Bool} {base M M' : Nat → Nat} {U : Nat} (h : Ch ln sg base M U) (h' : Ch ln sg base M' U) : ∀ A, sub A U → M A = M' A := by
  intro A
  induction A using Nat.strongRecOn with
  | _ A ih =>
    intro hA
    obtain ⟨a1, a2⟩ := h A hA
    obtain ⟨b1, b2⟩ := h' A hA
    by_cases hp : pc A < 2
    · rw [a1 hp, b1 hp]
    · obtain ⟨c1, c2, c3⟩ := a2 (by omega)
      obtain ⟨d1, d2, d3⟩ := b2 (by omega)
      have key : ∀ s W, cdB ln sg A s W = true → M (sd A W) = M' (sd A W) := fun s W q => by
        obtain ⟨-, -, q3, q4, -⟩ := cd_iff.mp q
        exact ih _ (sd_lt' q3 q4) (sub_tr (sd_sub A W) hA)
      have le1 : M A ≤ M' A := by
        rcases d3 with e | ⟨s, W, q, e⟩
        · omega
        · have := c2 s W q
          rw [key s W q] at this; omega
      have le2 : M' A ≤ M A := by
        rcases c3 with e | ⟨s, W, q, e⟩
        · omega
        · have := d2 s W q
          rw [← key s W q] at this; omega
      omega
theorem Ch_far {ln : Nat → Nat} {sg : Nat → Nat → Bool} {base M : Nat → Nat} {U : Nat} (h : Ch ln sg base M U) (hb : ∀ A, base A ≤ 1000000) {A : Nat} (hA : sub A U) : M A ≤ 1000000 := by
  obtain ⟨a1, a2⟩ := h A hA
  by_cases hp : pc A < 2
  · rw [a1 hp]; exact hb A
  · exact (a2 (by omega)).1
/-- a best song -/
def bsB (ln : Nat → Nat) (sg : Nat → Nat → Bool) (M : Nat → Nat) (A s W : Nat) : Bool := cdB ln sg A s W && (decide (M A = ln W + M (sd A W)) && decide (M A < 1000000))
theorem bs_iff {ln : Nat → Nat} {sg : Nat → Nat → Bool} {M : Nat → Nat} {A s W : Nat} : bsB ln sg M A s W = true ↔ cdB ln sg A s W = true ∧ M A = ln W + M (sd A W) ∧ M A < 1000000 := by
  unfold bsB
  simp only [Bool.and_eq_true, decide_eq_true_eq]
def ChS (ln : Nat → Nat) (sg : Nat → Nat → Bool) (M S : Nat → Nat) (U : Nat) : Prop := ∀ A, sub A U → M A < 1000000 → (pc A < 2 → S A = 0) ∧ (2 ≤ pc A → (∀ s W, bsB ln sg M A s W = true → S A ≤ S (sd A W) + 1) ∧ ∃ s W, bsB ln sg M A s W = true ∧ S A = S (sd A W) + 1)
theorem bs_sub {ln : Nat → Nat} {sg : Nat → Nat → Bool} {M : Nat → Nat} {A s W : Nat} (h : bsB ln sg M A s W = true) : sd A W < A ∧ M (sd A W) < 1000000 := by
  obtain ⟨h1, h2, h3⟩ := bs_iff.mp h
  obtain ⟨-, -, q3, q4, -⟩ := cd_iff.mp h1
  exact ⟨sd_lt' q3 q4, by omega⟩
theorem ChS_uniq {ln : Nat → Nat} {sg : Nat → Nat → Bool} {M S S' : Nat → Nat} {U : Nat} (h : ChS ln sg M S U) (h' : ChS ln sg M S' U) : ∀ A, sub A U → M A < 1000000 → S A = S' A := by
  intro A
  induction A using Nat.strongRecOn with
  | _ A ih =>
    intro hA hM
    obtain ⟨a1, a2⟩ := h A hA hM
    obtain ⟨b1, b2⟩ := h' A hA hM
    by_cases hp : pc A < 2
    · rw [a1 hp, b1 hp]
    · obtain ⟨c2, s, W, q, e⟩ := a2 (by omega)
      obtain ⟨d2, s', W', q', e'⟩ := b2 (by omega)
      have key : ∀ s W, bsB ln sg M A s W = true → S (sd A W) = S' (sd A W) := fun s W q => ih _ (bs_sub q).1 (sub_tr (sd_sub A W) hA) (bs_sub q).2
      have le1 := c2 s' W' q'
      have le2 := d2 s W q
      rw [key s' W' q'] at le1
      rw [← key s W q] at le2
      omega
theorem ChS_le {ln : Nat → Nat} {sg : Nat → Nat → Bool} {M S : Nat → Nat} {U : Nat} (hU : U < 256) (h : ChS ln sg M S U) : ∀ A, sub A U → M A < 1000000 → 0 < A → S A + 1 ≤ pc A := by
  intro A
  induction A using Nat.strongRecOn with
  | _ A ih =>
    intro hA hM h0
    have hA8 : A < 256 := by have := sub_le hA; omega
    have hp0 := pc_pos hA8 h0
    obtain ⟨a1, a2⟩ := h A hA hM
    by_cases hp : pc A < 2
    · rw [a1 hp]; omega
    · obtain ⟨-, s, W, q, e⟩ := a2 (by omega)
      obtain ⟨q1, -⟩ := bs_iff.mp q
      obtain ⟨r1, r2, r3, r4, -⟩ := cd_iff.mp q1
      have hpos : 0 < sd A W := by
        rcases Nat.eq_zero_or_pos (sd A W) with z | z
        · have : (sd A W).testBit s = true := sd_bit_t.mpr ⟨r1, r2⟩
          rw [z, Nat.zero_testBit] at this; cases this
        · exact z
      have := ih _ (bs_sub q).1 (sub_tr (sd_sub A W) hA) (bs_sub q).2 hpos
      have hpw := pc_sd r4
      have := pc_pos (show W < 256 by have := sub_le r4; omega) r3
      omega
def ChB (ln : Nat → Nat) (sg : Nat → Nat → Bool) (M B : Nat → Nat) (U : Nat) : Prop := ∀ A, sub A U → M A < 1000000 → (pc A < 2 → B A = A) ∧ (2 ≤ pc A → ∀ p, (B A).testBit p = true ↔ ∃ s W, bsB ln sg M A s W = true ∧ (B (sd A W)).testBit p = true)
theorem ChB_uniq {ln : Nat → Nat} {sg : Nat → Nat → Bool} {M B B' : Nat → Nat} {U : Nat} (h : ChB ln sg M B U) (h' : ChB ln sg M B' U) : ∀ A, sub A U → M A < 1000000 → B A = B' A := by
  intro A
  induction A using Nat.strongRecOn with
  | _ A ih =>
    intro hA hM
    obtain ⟨a1, a2⟩ := h A hA hM
    obtain ⟨b1, b2⟩ := h' A hA hM
    by_cases hp : pc A < 2
    · rw [a1 hp, b1 hp]
    · have key : ∀ s W, bsB ln sg M A s W = true → B (sd A W) = B' (sd A W) := fun s W q => ih _ (bs_sub q).1 (sub_tr (sd_sub A W) hA) (bs_sub q).2
      apply Nat.eq_of_testBit_eq
      intro p
      have e : (B A).testBit p = true ↔ (B' A).testBit p = true := by
        rw [a2 (by omega) p, b2 (by omega) p]
        constructor
        · rintro ⟨s, W, q1, q2⟩; exact ⟨s, W, q1, by rw [← key s W q1]; exact q2⟩
        · rintro ⟨s, W, q1, q2⟩; exact ⟨s, W, q1, by rw [key s W q1]; exact q2⟩
      cases c1 : (B A).testBit p <;> cases c2 : (B' A).testBit p
      · rfl
      · exact absurd (e.mpr c2) (by rw [c1]; decide)
      · exact absurd (e.mp c1) (by rw [c2]; decide)
      · rfl
def sumN (f : Nat → Nat) : Nat → Nat
  | 0 => 0
  | k + 1 => sumN f k + f k
theorem sumN_congr {f g : Nat → Nat} : ∀ k, (∀ i, i < k → f i = g i) → sumN f k = sumN g k := by
  intro k h
  induction k with
  | zero => rfl
  | succ k ih => rw [sumN, sumN, ih (fun i hi => h i (by omega)), h k (by omega)]
theorem sumN_0 {f : Nat → Nat} : ∀ k, (∀ i, i < k → f i = 0) → sumN f k = 0 := by
  intro k h
  induction k with
  | zero => rfl
  | succ k ih => rw [sumN, ih (fun i hi => h i (by omega)), h k (by omega)]
theorem sumN_add {f g : Nat → Nat} (k : Nat) : sumN (fun i => f i + g i) k = sumN f k + sumN g k := by
  induction k with
  | zero => rfl
  | succ k ih => rw [sumN, sumN, sumN, ih]; omega
theorem sumN_swap {f : Nat → Nat → Nat} (n m : Nat) : sumN (fun i => sumN (fun j => f i j) m) n = sumN (fun j => sumN (fun i => f i j) n) m := by
  induction n with
  | zero => exact (sumN_0 m (fun _ _ => rfl)).symm
  | succ n ih =>
    rw [sumN, ih, ← sumN_add]
    exact sumN_congr m (fun j _ => rfl)
theorem sumN_mul {f : Nat → Nat} {c : Nat} (k : Nat) : sumN (fun i => f i * c) k = sumN f k * c := by
  induction k with
  | zero => rw [sumN, sumN, Nat.zero_mul]
  | succ k ih => rw [sumN, sumN, ih, Nat.add_mul]
def wsum (ln : Nat → Nat) (sg : Nat → Nat → Bool) (M R : Nat → Nat) (A : Nat) : Nat := sumN (fun W => sumN (fun s => if bsB ln sg M A s W = true then R (sd A W) else 0) 8) 256
def ChR (ln : Nat → Nat) (sg : Nat → Nat → Bool) (M R : Nat → Nat) (U : Nat) : Prop := ∀ A, sub A U → M A < 1000000 → (pc A < 2 → R A = 1) ∧ (2 ≤ pc A → R A = min 1000000 (wsum ln sg M R A))
theorem ChR_uniq {ln : Nat → Nat} {sg : Nat → Nat → Bool} {M R R' : Nat → Nat} {U : Nat} (h : ChR ln sg M R U) (h' : ChR ln sg M R' U) : ∀ A, sub A U → M A < 1000000 → R A = R' A := by
  intro A
  induction A using Nat.strongRecOn with
  | _ A ih =>
    intro hA hM
    obtain ⟨a1, a2⟩ := h A hA hM
    obtain ⟨b1, b2⟩ := h' A hA hM
    by_cases hp : pc A < 2
    · rw [a1 hp, b1 hp]
    · have e : wsum ln sg M R A = wsum ln sg M R' A := by
        unfold wsum
        refine sumN_congr 256 (fun W _ => sumN_congr 8 (fun s _ => ?_))
        by_cases q : bsB ln sg M A s W = true
        · rw [if_pos q, if_pos q]; exact ih _ (bs_sub q).1 (sub_tr (sd_sub A W) hA) (bs_sub q).2
        · rw [if_neg q, if_neg q]
      rw [a2 (by omega), b2 (by omega), e]
/-- all who can be last, over any minutes -/
def ChY (ln : Nat → Nat) (sg : Nat → Nat → Bool) (M Y : Nat → Nat) (U : Nat) : Prop := ∀ A, sub A U → (pc A < 2 → Y A = A) ∧ (2 ≤ pc A → ∀ p, (Y A).testBit p = true ↔ ∃ s W, cdB ln sg A s W = true ∧ M (sd A W) < 1000000 ∧ (Y (sd A W)).testBit p = true)
def bs0 (_ : Nat) : Nat := 0
/-- only p may be last -/
def bsP (p A : Nat) : Nat := if A = 2 ^ p then 0 else 1000000
theorem bsP_le (p A : Nat) : bsP p A ≤ 1000000 := by unfold bsP; split <;> omega
theorem Ch_mono {ln : Nat → Nat} {sg : Nat → Nat → Bool} {base M base' M' : Nat → Nat} {U : Nat} (h : Ch ln sg base M U) (h' : Ch ln sg base' M' U) (hb : ∀ A, base A ≤ base' A) : ∀ A, sub A U → M A ≤ M' A := by
  intro A
  induction A using Nat.strongRecOn with
  | _ A ih =>
    intro hA
    obtain ⟨a1, a2⟩ := h A hA
    obtain ⟨b1, b2⟩ := h' A hA
    by_cases hp : pc A < 2
    · rw [a1 hp, b1 hp]; exact hb A
    · obtain ⟨c1, c2, c3⟩ := a2 (by omega)
      obtain ⟨d1, d2, d3⟩ := b2 (by omega)
      rcases d3 with e | ⟨s, W, q, e⟩
      · omega
      · obtain ⟨-, -, q3, q4, -⟩ := cd_iff.mp q
        have := c2 s W q
        have := ih _ (sd_lt' q3 q4) (sub_tr (sd_sub A W) hA)
        omega
theorem pc_two_ne : ∀ A : Fin 256, pc A.val < 2 → ∀ p : Fin 8, (A.val.testBit p.val = true ↔ A.val = 2 ^ p.val) := by decide +kernel
theorem Ch_small {ln : Nat → Nat} {sg : Nat → Nat → Bool} {base M : Nat → Nat} {U : Nat} (hU : U < 256) (hl : ∀ W, ln W ≤ 200) (hb : ∀ A, base A = 0 ∨ base A = 1000000) (h : Ch ln sg base M U) : ∀ A, sub A U → M A < 1000000 → M A ≤ 200 * pc A := by
  intro A
  induction A using Nat.strongRecOn with
  | _ A ih =>
    intro hA hM
    have hA8 : A < 256 := by have := sub_le hA; omega
    obtain ⟨a1, a2⟩ := h A hA
    by_cases hp : pc A < 2
    · have := a1 hp
      have := hb A
      omega
    · obtain ⟨-, -, c3⟩ := a2 (by omega)
      rcases c3 with e | ⟨s, W, q, e⟩
      · omega
      · obtain ⟨-, -, q3, q4, -⟩ := cd_iff.mp q
        have h1 := ih _ (sd_lt' q3 q4) (sub_tr (sd_sub A W) hA) (by omega)
        have h2 := pc_sd q4
        have h3 := pc_pos (show W < 256 by have := sub_le q4; omega) q3
        have h4 := hl W
        omega
/-- one song more stays small -/
theorem Ch_step {ln : Nat → Nat} {sg : Nat → Nat → Bool} {base M : Nat → Nat} {U : Nat} (hU : U < 256) (hl : ∀ W, ln W ≤ 200) (hb : ∀ A, base A = 0 ∨ base A = 1000000) (h : Ch ln sg base M U) {A s W : Nat} (hA : sub A U) (hp : 2 ≤ pc A) (q : cdB ln sg A s W = true) (hM : M (sd A W) < 1000000) : M A < 1000000 := by
  have h1 := Ch_small hU hl hb h _ (sub_tr (sd_sub A W) hA) hM
  have h2 := ((h A hA).2 hp).2.1 s W q
  have h3 := pc_le (A := sd A W)
  have h4 := hl W
  omega
theorem bs0_b (A : Nat) : bs0 A = 0 ∨ bs0 A = 1000000 := Or.inl rfl
theorem bsP_b (p A : Nat) : bsP p A = 0 ∨ bsP p A = 1000000 := by unfold bsP; split <;> omega
/-- p can be last just when the least with p last is no NEVER -/
theorem Y_last {ln : Nat → Nat} {sg : Nat → Nat → Bool} {M Y Mp : Nat → Nat} {U p : Nat} (hU : U < 256) (hl : ∀ W, ln W ≤ 200) (hp8 : p < 8) (h : Ch ln sg bs0 M U) (hY : ChY ln sg M Y U) (hp : Ch ln sg (bsP p) Mp U) : ∀ A, sub A U → ((Y A).testBit p = true ↔ Mp A < 1000000) := by
  intro A
  induction A using Nat.strongRecOn with
  | _ A ih =>
    intro hA
    have hA8 : A < 256 := by have := sub_le hA; omega
    obtain ⟨y1, y2⟩ := hY A hA
    obtain ⟨b1, b2⟩ := hp A hA
    by_cases hc : pc A < 2
    · rw [y1 hc, b1 hc, pc_two_ne ⟨A, hA8⟩ hc ⟨p, hp8⟩]
      unfold bsP
      by_cases e : A = 2 ^ p
      · rw [if_pos e]; exact ⟨fun _ => by omega, fun _ => e⟩
      · rw [if_neg e]; exact ⟨fun q => absurd q e, fun q => absurd q (by omega)⟩
    · rw [y2 (by omega) p]
      obtain ⟨d1, d2, d3⟩ := b2 (by omega)
      have key : ∀ s W, cdB ln sg A s W = true → ((Y (sd A W)).testBit p = true ↔ Mp (sd A W) < 1000000) := fun s W q => by
        obtain ⟨-, -, q3, q4, -⟩ := cd_iff.mp q
        exact ih _ (sd_lt' q3 q4) (sub_tr (sd_sub A W) hA)
      constructor
      · rintro ⟨s, W, q1, q2, q3⟩
        have h1 := (key s W q1).mp q3
        exact Ch_step hU hl (bsP_b p) hp hA (by omega) q1 h1
      · intro hlt
        rcases d3 with e | ⟨s, W, q, e⟩
        · omega
        · have h2 : Mp (sd A W) < 1000000 := by omega
          have h3 := Ch_mono h hp (fun A => by unfold bs0; omega) _ (sub_tr (sd_sub A W) hA)
          exact ⟨s, W, q, by omega, (key s W q).mpr h2⟩
/-- with a stranger -/
def ChT (ln T : Nat → Nat) (U : Nat) : Prop := ∀ A, sub A U → (pc A < 2 → T A = 0) ∧ (2 ≤ pc A → T A ≤ 1000000 ∧ (∀ W, 0 < W → sub W A → 0 < ln W → T A ≤ ln W + T (sd A W)) ∧ (T A = 1000000 ∨ ∃ W, 0 < W ∧ sub W A ∧ 0 < ln W ∧ T A = ln W + T (sd A W)))
theorem ChT_uniq {ln T T' : Nat → Nat} {U : Nat} (h : ChT ln T U) (h' : ChT ln T' U) : ∀ A, sub A U → T A = T' A := by
  intro A
  induction A using Nat.strongRecOn with
  | _ A ih =>
    intro hA
    obtain ⟨a1, a2⟩ := h A hA
    obtain ⟨b1, b2⟩ := h' A hA
    by_cases hp : pc A < 2
    · rw [a1 hp, b1 hp]
    · obtain ⟨c1, c2, c3⟩ := a2 (by omega)
      obtain ⟨d1, d2, d3⟩ := b2 (by omega)
      have key : ∀ W, 0 < W → sub W A → T (sd A W) = T' (sd A W) := fun W q3 q4 => ih _ (sd_lt' q3 q4) (sub_tr (sd_sub A W) hA)
      have le1 : T A ≤ T' A := by
        rcases d3 with e | ⟨W, q1, q2, q3, e⟩
        · omega
        · have := c2 W q1 q2 q3
          rw [key W q1 q2] at this; omega
      have le2 : T' A ≤ T A := by
        rcases c3 with e | ⟨W, q1, q2, q3, e⟩
        · omega
        · have := d2 W q1 q2 q3
          rw [← key W q1 q2] at this; omega
      omega
theorem sd_self (A : Nat) : sd A A = 0 := sub_sd.mpr (sub_rfl A)
/-- a voice without end is worth a tent -/
theorem Ch_tent {ln M : Nat → Nat} {sg : Nat → Nat → Bool} {U : Nat} (hU : U < 256) (h : Ch ln sg bs0 M U) (hs : ∀ s W, U.testBit s = true → 0 < ln W → sg s W = true) (hm : ∀ W, sub W U → 2 ≤ pc W → 0 < ln W → ∃ i, W.testBit i = true ∧ 0 < ln (sd W (2 ^ i)) ∧ ln (sd W (2 ^ i)) ≤ ln W) : ChT ln M U := by
  intro A hA
  have hA8 : A < 256 := by have := sub_le hA; omega
  obtain ⟨a1, a2⟩ := h A hA
  refine ⟨fun hp => a1 hp, fun hp => ?_⟩
  obtain ⟨c1, c2, c3⟩ := a2 hp
  refine ⟨c1, fun W q1 q2 q3 => ?_, ?_⟩
  · rcases Nat.eq_zero_or_pos (sd A W) with z | z
    · -- all of A are sung to: leave one awake
      have hWA : W = A := by
        have h1 := sub_le q2
        have h2 := sub_le (sub_sd.mp z)
        omega
      subst hWA
      obtain ⟨i, i1, i2, i3⟩ := hm W hA hp q3
      have hne : 0 < sd W (2 ^ i) := by
        have e := pc_sd (A := W) (W := 2 ^ i) (fun j hj => by rw [pw_bit] at hj; simp at hj; rw [← hj]; exact i1)
        have : pc (2 ^ i) = 1 := by
          have : ∀ i : Fin 8, pc (2 ^ i.val) = 1 := by decide +kernel
          exact this ⟨i, bitlt (n := 8) (by omega) i1⟩
        rcases Nat.eq_zero_or_pos (sd W (2 ^ i)) with z | z
        · rw [z] at e; have : pc 0 = 0 := by decide +kernel
          omega
        · exact z
      have hcd : cdB ln sg W i (sd W (2 ^ i)) = true := cd_iff.mpr ⟨i1, fun q => (sd_bit_t.mp q).2 (by rw [pw_bit]; simp), hne, sd_sub _ _, i2, hs i _ (hA i i1) i2⟩
      have h1 := c2 _ _ hcd
      have hr : pc (sd W (sd W (2 ^ i))) < 2 := by
        have e : sd W (sd W (2 ^ i)) = 2 ^ i := by
          apply Nat.eq_of_testBit_eq
          intro j
          rw [sd_bit, sd_bit, pw_bit]
          by_cases c : i = j
          · subst c; rw [i1]; simp
          · cases W.testBit j <;> simp [c]
        rw [e]
        have : ∀ i : Fin 8, pc (2 ^ i.val) < 2 := by decide +kernel
        exact this ⟨i, bitlt (n := 8) (by omega) i1⟩
      have h2 := (h _ (sub_tr (sd_sub W _) hA)).1 hr
      rw [h2] at h1
      unfold bs0 at h1
      omega
    · obtain ⟨s, hs1⟩ := ne0_bit z
      obtain ⟨s1, s2⟩ := sd_bit_t.mp hs1
      exact c2 s W (cd_iff.mpr ⟨s1, s2, q1, q2, q3, hs s W (hA s s1) q3⟩)
  · rcases c3 with e | ⟨s, W, q, e⟩
    · exact Or.inl e
    · obtain ⟨-, -, q3, q4, q5, -⟩ := cd_iff.mp q
      exact Or.inr ⟨W, q3, q4, q5, e⟩
/-- with a tent everybody can be asleep -/
theorem ChT_fin {ln T : Nat → Nat} {U : Nat} (hU : U < 256) (hl : ∀ W, ln W ≤ 200) (h1 : ∀ i, U.testBit i = true → 0 < ln (2 ^ i)) (h : ChT ln T U) : ∀ A, sub A U → T A ≤ 200 * pc A := by
  intro A
  induction A using Nat.strongRecOn with
  | _ A ih =>
    intro hA
    have hA8 : A < 256 := by have := sub_le hA; omega
    obtain ⟨a1, a2⟩ := h A hA
    by_cases hp : pc A < 2
    · rw [a1 hp]; omega
    · obtain ⟨-, c2, -⟩ := a2 (by omega)
      have hpos : 0 < A := by
        rcases Nat.eq_zero_or_pos A with z | z
        · rw [z] at hp; have : pc 0 = 0 := by decide +kernel
          omega
        · exact z
      obtain ⟨i, hi⟩ := ne0_bit hpos
      have hsub : sub (2 ^ i) A := fun j hj => by rw [pw_bit] at hj; simp at hj; rw [← hj]; exact hi
      have h2 := c2 (2 ^ i) (Nat.pow_pos (by decide)) hsub (h1 i (hA i hi))
      have h3 := ih _ (sd_lt' (Nat.pow_pos (by decide)) hsub) (sub_tr (sd_sub A _) hA)
      have h4 := pc_sd hsub
      have h5 := pc_pos (show 2 ^ i < 256 by have := sub_le hsub; omega) (Nat.pow_pos (by decide))
      have h6 := hl (2 ^ i)
      omega
theorem cd_congr {ln ln' : Nat → Nat} {sg sg' : Nat → Nat → Bool} {U : Nat} (hl : ∀ W, 0 < W → sub W U → ln W = ln' W) (hs : ∀ s W, U.testBit s = true → 0 < W → sub W U → 0 < ln W → sg s W = sg' s W) {A s W : Nat} (hA : sub A U) : cdB ln sg A s W = cdB ln' sg' A s W := by
  have e : cdB ln sg A s W = true ↔ cdB ln' sg' A s W = true := by
    rw [cd_iff, cd_iff]
    constructor
    · rintro ⟨h1, h2, h3, h4, h5, h6⟩
      have hW := sub_tr h4 hA
      exact ⟨h1, h2, h3, h4, by rw [← hl W h3 hW]; exact h5, by rw [← hs s W (hA s h1) h3 hW h5]; exact h6⟩
    · rintro ⟨h1, h2, h3, h4, h5, h6⟩
      have hW := sub_tr h4 hA
      have h5' : 0 < ln W := by rw [hl W h3 hW]; exact h5
      exact ⟨h1, h2, h3, h4, h5', by rw [hs s W (hA s h1) h3 hW h5']; exact h6⟩
  cases c1 : cdB ln sg A s W <;> cases c2 : cdB ln' sg' A s W
  · rfl
  · exact absurd (e.mpr c2) (by rw [c1]; decide)
  · exact absurd (e.mp c1) (by rw [c2]; decide)
  · rfl
theorem Ch_congr {ln ln' : Nat → Nat} {sg sg' : Nat → Nat → Bool} {base M : Nat → Nat} {U : Nat} (hl : ∀ W, 0 < W → sub W U → ln W = ln' W) (hs : ∀ s W, U.testBit s = true → 0 < W → sub W U → 0 < ln W → sg s W = sg' s W) (h : Ch ln sg base M U) : Ch ln' sg' base M U := by
  intro A hA
  obtain ⟨a1, a2⟩ := h A hA
  refine ⟨a1, fun hp => ?_⟩
  obtain ⟨c1, c2, c3⟩ := a2 hp
  have hw : ∀ s W, cdB ln sg A s W = true → ln W = ln' W := fun s W q => by
    obtain ⟨-, -, q3, q4, -⟩ := cd_iff.mp q
    exact hl W q3 (sub_tr q4 hA)
  refine ⟨c1, fun s W q => ?_, ?_⟩
  · rw [← cd_congr hl hs hA] at q
    rw [← hw s W q]; exact c2 s W q
  · rcases c3 with e | ⟨s, W, q, e⟩
    · exact Or.inl e
    · exact Or.inr ⟨s, W, by rw [← cd_congr hl hs hA]; exact q, by rw [← hw s W q]; exact e⟩
theorem bs_congr {ln ln' : Nat → Nat} {sg sg' : Nat → Nat → Bool} {M M' : Nat → Nat} {U : Nat} (hl : ∀ W, 0 < W → sub W U → ln W = ln' W) (hs : ∀ s W, U.testBit s = true → 0 < W → sub W U → 0 < ln W → sg s W = sg' s W) (hM : ∀ A, sub A U → M A = M' A) {A s W : Nat} (hA : sub A U) : bsB ln sg M A s W = bsB ln' sg' M' A s W := by
  unfold bsB
  rw [← cd_congr hl hs hA, ← hM A hA, ← hM _ (sub_tr (sd_sub A W) hA)]
  cases q : cdB ln sg A s W with
  | false => rfl
  | true =>
    obtain ⟨-, -, q3, q4, -⟩ := cd_iff.mp q
    rw [hl W q3 (sub_tr q4 hA)]
