/-! The relation over a change of the valley now, and over one of what it doesn't speak of. -/
theorem fp_tag {σ : pm_H} {v n : Nat} {vd : Nat → Int32} (h : VR σ v vd n) {a : Nat} (ha : fp σ v n a) : pT σ a ≠ 5 ∧ pT σ a ≠ 14 := by
  have sv : ∀ i, i < n → pm_slp (pT σ (vQ σ v i)) = true := fun i hi => VR_slp h hi
  obtain ⟨-, ⟨t1, -, -, t2, -, t3, -⟩, -⟩ := h
  rcases ha with rfl | rfl | rfl | ⟨i, hi, rfl⟩
  · rw [t1]; decide
  · rw [t2]; decide
  · rw [t3]; decide
  · have := sv i hi
    refine ⟨fun e => ?_, fun e => ?_⟩ <;> (rw [e] at this; cases this)
theorem nfp {σ : pm_H} {v n : Nat} {vd : Nat → Int32} (h : VR σ v vd n) {a : Nat} (h1 : a < 66) (h2 : a ≠ 12) (h3 : a ≠ 13) (h4 : a ≠ 14) : ¬ fp σ v n a := fun q => by have := fp_off h q; omega
theorem Rel_now {Rk : (Nat → Nat → Int32) → Prop} {σ σ' : pm_H} {n : Nat} (h : Rel Rk σ n) (hT : pT σ' = pT σ) (hL : pL σ' = pL σ) (hJ : pJ σ' = pJ σ) (hR : pR σ' = pR σ) (hN : pN σ' = pN σ) (hI : ∀ a, a ≠ 35 → ¬ (36 ≤ a ∧ a ≤ 42) → ¬ fp σ (nowA σ) n a → pI σ' a = pI σ a) (h35 : ∀ k, k ≠ 0 → k ≠ 8 → k ≠ 9 → k ≠ 10 → pI σ' 35 k = pI σ 35 k) (hV : VR σ' (nowA σ) (cur σ') n) : Rel Rk σ' n := by
  obtain ⟨r1, r2, r3, r4, r5, r6, r7, r8, r9⟩ := h
  have hv := r7.2
  have hF : ∀ a, a < 66 → a ≠ 12 → a ≠ 13 → a ≠ 14 → a ≠ 35 → ¬ (36 ≤ a ∧ a ≤ 42) → pI σ' a = pI σ a := fun a q1 q2 q3 q4 q5 q6 => hI a q5 q6 (nfp hv q1 q2 q3 q4)
  have hrk : rowsKept σ σ' := fun ra q1 q2 q3 => ⟨by rw [hI ra (by omega) (by omega) (fun q => (fp_tag hv q).1 q3)], by rw [hR]⟩
  have en : nowA σ' = nowA σ := by unfold nowA; rw [hR]
  refine ⟨⟨by rw [hT]; exact r1.1, by rw [hL]; exact r1.2.1, by rw [hR]; exact r1.2.2.1, by rw [hN]; exact r1.2.2.2⟩, TapeR_fr r2 ?_ (h35 12 (by decide) (by decide) (by decide) (by decide)) ?_ ?_, RowR_fr r3 ?_ (h35 36 (by decide) (by decide) (by decide) (by decide)) ?_ ?_, TrR_fr r4 ?_ (h35 47 (by decide) (by decide) (by decide) (by decide)) ?_ ?_, SheetR_fr r5 (by omega) (fun a _ => by rw [hT]) (fun a _ => by rw [hL]) hrk (fun a _ => by rw [hJ]) ?_ ?_ (by rw [hR]), ShelfR_fr r6 (by omega) (fun a _ => by rw [hT]) (fun a _ => by rw [hL]) hrk ?_ ?_ ?_ ?_ (by rw [hR]), ⟨by rw [en, hR]; exact r7.1, by rw [en]; exact hV⟩, KeptR_fr r7 r8 (by omega) (fun a _ => by rw [hT]) (fun a _ => by rw [hL]) (h35 49 (by decide) (by decide) (by decide) (by decide)) (by rw [hR]) ?_ ⟨en, by unfold vP; rw [hR], by unfold vD; rw [hR], fun i _ => by unfold vQ vP; rw [hR], ?_⟩ ?_, ?_⟩
  · rw [hF 27 (by decide) (by decide) (by decide) (by decide) (by decide) (by decide)]
  · exact hF 28 (by decide) (by decide) (by decide) (by decide) (by decide) (by decide)
  · exact hF 43 (by decide) (by decide) (by decide) (by decide) (by decide) (by decide)
  · rw [hF 11 (by decide) (by decide) (by decide) (by decide) (by decide) (by decide)]
  · exact hF 31 (by decide) (by decide) (by decide) (by decide) (by decide) (by decide)
  · exact hF 56 (by decide) (by decide) (by decide) (by decide) (by decide) (by decide)
  · rw [hF 29 (by decide) (by decide) (by decide) (by decide) (by decide) (by decide)]
  · exact hF 30 (by decide) (by decide) (by decide) (by decide) (by decide) (by decide)
  · exact hF 63 (by decide) (by decide) (by decide) (by decide) (by decide) (by decide)
  · exact hF 57 (by decide) (by decide) (by decide) (by decide) (by decide) (by decide)
  · exact hF 58 (by decide) (by decide) (by decide) (by decide) (by decide) (by decide)
  · exact hF 60 (by decide) (by decide) (by decide) (by decide) (by decide) (by decide)
  · exact hF 61 (by decide) (by decide) (by decide) (by decide) (by decide) (by decide)
  · exact hF 62 (by decide) (by decide) (by decide) (by decide) (by decide) (by decide)
  · exact hF 34 (by decide) (by decide) (by decide) (by decide) (by decide) (by decide)
  · exact hF 64 (by decide) (by decide) (by decide) (by decide) (by decide) (by decide)
  · rw [VR_nOf hV, VR_nOf hv]
  · intro kv m a q1 q2 q3 q4
    have ho := fp_off q2 q4
    exact ⟨hI a (by omega) (by omega) (fun q => Sep_fp q3 hv q2 q q4), by rw [hR]⟩
  · have e : rkF σ' = rkF σ := rkF_of (fun a ha => hF a (by omega) (by omega) (by omega) (by omega) (by omega) (by omega)) (by rw [hL])
    rw [e]; exact r9
/-- the reference's arrays of people, as cur tells them -/
theorem cur_set {σ : pm_H} {f i : Nat} (hf : f ≤ 5) (hi : i < 8) {x : Int32} : cur (uI σ (36 + f) i x) = upd (cur σ) (4 + 8 * f + i) x := by
  funext j
  by_cases e : j = 4 + 8 * f + i
  · subst e
    rw [upd_at]
    unfold cur
    rw [if_neg (by omega), if_neg (by omega), if_neg (by omega), if_neg (by omega)]
    have h6 : f = 0 ∨ f = 1 ∨ f = 2 ∨ f = 3 ∨ f = 4 ∨ f = 5 := by omega
    rcases h6 with rfl | rfl | rfl | rfl | rfl | rfl
    · rw [if_pos (by omega), pI_uI, if_pos ⟨rfl, by omega⟩]
    · rw [if_neg (by omega), if_pos (by omega), pI_uI, if_pos ⟨rfl, by omega⟩]
    · rw [if_neg (by omega), if_neg (by omega), if_pos (by omega), pI_uI, if_pos ⟨rfl, by omega⟩]
    · rw [if_neg (by omega), if_neg (by omega), if_neg (by omega), if_pos (by omega), pI_uI, if_pos ⟨rfl, by omega⟩]
    · rw [if_neg (by omega), if_neg (by omega), if_neg (by omega), if_neg (by omega), if_pos (by omega), pI_uI, if_pos ⟨rfl, by omega⟩]
    · rw [if_neg (by omega), if_neg (by omega), if_neg (by omega), if_neg (by omega), if_neg (by omega), if_pos (by omega), pI_uI, if_pos ⟨rfl, by omega⟩]
  · rw [upd_ne _ _ e]
    unfold cur
    rw [pI_uI_ne σ _ x (show (35 : Nat) ≠ 36 + f by omega), pI_uI_ne σ _ x (show (42 : Nat) ≠ 36 + f by omega)]
    have hk : ∀ a k, 36 ≤ a → a ≤ 41 → j = 4 + 8 * (a - 36) + k → pI (uI σ (36 + f) i x) a k = pI σ a k := by
      intro a k h1 h2 h3
      rw [pI_uI, if_neg]
      rintro ⟨rfl, rfl⟩
      omega
    by_cases c0 : j = 0
    · rw [if_pos c0, if_pos c0]
    rw [if_neg c0, if_neg c0]
    by_cases c1 : j = 1
    · rw [if_pos c1, if_pos c1]
    rw [if_neg c1, if_neg c1]
    by_cases c2 : j = 2
    · rw [if_pos c2, if_pos c2]
    rw [if_neg c2, if_neg c2]
    by_cases c3 : j = 3
    · rw [if_pos c3, if_pos c3]
    rw [if_neg c3, if_neg c3]
    by_cases d1 : j < 12
    · rw [if_pos d1, if_pos d1]; exact hk 36 _ (by decide) (by decide) (by omega)
    rw [if_neg d1, if_neg d1]
    by_cases d2 : j < 20
    · rw [if_pos d2, if_pos d2]; exact hk 37 _ (by decide) (by decide) (by omega)
    rw [if_neg d2, if_neg d2]
    by_cases d3 : j < 28
    · rw [if_pos d3, if_pos d3]; exact hk 38 _ (by decide) (by decide) (by omega)
    rw [if_neg d3, if_neg d3]
    by_cases d4 : j < 36
    · rw [if_pos d4, if_pos d4]; exact hk 39 _ (by decide) (by decide) (by omega)
    rw [if_neg d4, if_neg d4]
    by_cases d5 : j < 44
    · rw [if_pos d5, if_pos d5]; exact hk 40 _ (by decide) (by decide) (by omega)
    rw [if_neg d5, if_neg d5]
    by_cases d6 : j < 52
    · rw [if_pos d6, if_pos d6]; exact hk 41 _ (by decide) (by decide) (by omega)
    rw [if_neg d6, if_neg d6]
theorem cur_owed {σ : pm_H} {k : Nat} {x : Int32} : cur (uI σ 42 k x) = upd (cur σ) (52 + k) x := by
  funext j
  by_cases e : j = 52 + k
  · subst e
    rw [upd_at]
    unfold cur
    rw [if_neg (by omega), if_neg (by omega), if_neg (by omega), if_neg (by omega), if_neg (by omega), if_neg (by omega), if_neg (by omega), if_neg (by omega), if_neg (by omega), if_neg (by omega), pI_uI, if_pos ⟨rfl, by omega⟩]
  · rw [upd_ne _ _ e]
    unfold cur
    rw [pI_uI_ne σ _ x (show (35 : Nat) ≠ 42 by decide), pI_uI_ne σ _ x (show (36 : Nat) ≠ 42 by decide), pI_uI_ne σ _ x (show (37 : Nat) ≠ 42 by decide), pI_uI_ne σ _ x (show (38 : Nat) ≠ 42 by decide), pI_uI_ne σ _ x (show (39 : Nat) ≠ 42 by decide), pI_uI_ne σ _ x (show (40 : Nat) ≠ 42 by decide), pI_uI_ne σ _ x (show (41 : Nat) ≠ 42 by decide)]
    by_cases d6 : j < 52
    · simp only [d6, if_true]
    · rw [pI_uI_nek _ _ _ _ (by omega)]
/-- awake (8, place 1), MINUTE (9, place 2), z (10, place 3) -/
theorem cur_scal {σ : pm_H} {k : Nat} (hk : k = 8 ∨ k = 9 ∨ k = 10) {x : Int32} : cur (uI σ 35 k x) = upd (cur σ) (k - 7) x := by
  funext j
  unfold cur upd
  rw [pI_uI_ne σ _ x (show (36 : Nat) ≠ 35 by decide), pI_uI_ne σ _ x (show (37 : Nat) ≠ 35 by decide), pI_uI_ne σ _ x (show (38 : Nat) ≠ 35 by decide), pI_uI_ne σ _ x (show (39 : Nat) ≠ 35 by decide), pI_uI_ne σ _ x (show (40 : Nat) ≠ 35 by decide), pI_uI_ne σ _ x (show (41 : Nat) ≠ 35 by decide), pI_uI_ne σ _ x (show (42 : Nat) ≠ 35 by decide), pI_uI, pI_uI, pI_uI, pI_uI]
  rcases hk with rfl | rfl | rfl
  · by_cases c1 : j = 1
    · subst c1; simp
    · simp [c1]
  · by_cases c1 : j = 2
    · subst c1; simp
    · simp [c1]
  · by_cases c1 : j = 3
    · subst c1; simp
    · simp [c1]
theorem cur_uI {σ : pm_H} {a k : Nat} {x : Int32} (h : a < 35 ∨ 42 < a) : cur (uI σ a k x) = cur σ := by
  refine cur_fr ?_ ?_ ?_ ?_ (fun b h1 h2 => pI_uI_ne _ _ _ (by omega)) <;> rw [pI_uI_ne _ _ _ (by omega)]
