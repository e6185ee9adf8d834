/-! a valley told in a text: the clauses as the class reads them. -/
variable {T : Nat} {c : Nat → Nat}
def Zw (z : Int32) (wd : Nat → Int32) (n : Nat) : Prop := (∀ i, i < 8 → wd (36 + i) = 0 ∧ wd (44 + i) = 0) ∧ (∀ a b, a < 8 → b < 8 → ¬ (a < n ∧ b < n) → wd (52 + (8 * a + b)) = 0) ∧ wd 2 = 0 ∧ wd 3 = z
/-- old cells are as they were, but for the place of the tape -/
def Cg (σ s : pm_H) : Prop := pN σ ≤ pN s ∧ ∀ a, a < pN σ → pT s a = pT σ a ∧ pL s a = pL σ a ∧ pR s a = pR σ a ∧ pJ s a = pJ σ a ∧ ∀ k, ¬ (a = 27 ∧ (k = 2 ∨ k = 3)) → pI s a k = pI σ a k
def Cr (σ0 : pm_H) (T : Nat) (c : Nat → Nat) (p b n : Nat) (wd : Nat → Int32) (s : pm_H) : Prop := TS s T c p b ∧ VR s (pN σ0) wd n ∧ Zw (cur σ0 3) wd n ∧ Cg σ0 s ∧ (66 ≤ pN σ0 ∧ vP s (pN σ0) = pN σ0 + 1 ∧ vD s (pN σ0) = pN σ0 + 2 ∧ ∀ i, i < n → pN σ0 + 3 ≤ vQ s (pN σ0) i) ∧ pN s = pN σ0 + 3 + n ∧ pS s = pS σ0 + 77 + 7 * n
theorem TS_fr {s s' : pm_H} {p b : Nat} (h : TS s T c p b) (hS : Sh s') (hI : ∀ a, a < 29 → pI s' a = pI s a) : TS s' T c p b := by
  obtain ⟨h1, h2, h3, h4, h5, h6, h7⟩ := h
  exact ⟨hS, h2, by rw [hI 27 (by decide)]; exact h3, fun j hj => by rw [hI 28 (by decide)]; exact h4 j hj, fun i hi => by rw [hI i (by omega)]; exact h5 i hi, ⟨by rw [hI 27 (by decide)]; exact h6.1, h6.2⟩, fun q => by rw [hI 27 (by decide)]; exact h7 q⟩
theorem Cg_u {σ s : pm_H} (h : Cg σ s) {a k : Nat} {x : Int32} (ha : pN σ ≤ a) : Cg σ (uI s a k x) := ⟨h.1, fun b hb => by
  obtain ⟨h1, h2, h3, h4, h5⟩ := h.2 b hb
  exact ⟨h1, h2, h3, h4, fun j q => by rw [pI_uI_ne _ _ _ (by omega)]; exact h5 j q⟩⟩
theorem vQ_Tf {s s' : pm_H} (hf : Tf s s') (v i : Nat) : vQ s' v i = vQ s v i := by unfold vQ vP; rw [hf.1.2.2.1]
theorem Cr_Tf {σ0 s s' : pm_H} {p b n p' b' : Nat} {wd : Nat → Int32} (h : Cr σ0 T c p b n wd s) (ht : TS s' T c p' b') (hf : Tf s s') : Cr σ0 T c p' b' n wd s' := by
  obtain ⟨h1, h2, h3, h4, ⟨h5, h6, h7, h8⟩, h9, h10⟩ := h
  have hq := vQ_Tf hf (pN σ0)
  obtain ⟨⟨f1, f2, f3, f4, f5, f6⟩, f7⟩ := hf
  obtain ⟨v1, v2, v3, -, -⟩ := VR_fr (σ' := s') h2 (by rw [f4]; exact Nat.le_refl _) (fun a _ => by rw [f1]) (fun a _ => by rw [f2]) (fun a ha => ⟨funext fun k => f7 a k (by have := fp_off h2 ha; omega), by rw [f3]⟩)
  refine ⟨ht, v1, h3, ⟨by rw [f4]; exact h4.1, fun a ha => ?_⟩, ⟨h5, by rw [v2]; exact h6, by rw [v3]; exact h7, fun i hi => by rw [hq]; exact h8 i hi⟩, by rw [f4]; exact h9, by rw [f5]; exact h10⟩
  obtain ⟨g1, g2, g3, g4, g5⟩ := h4.2 a ha
  exact ⟨by rw [f1]; exact g1, by rw [f2]; exact g2, by rw [f3]; exact g3, by rw [f6]; exact g4, fun k q => (f7 a k q).trans (g5 k q)⟩
theorem Cr_v {σ0 s : pm_H} {p b n : Nat} {wd wd' : Nat → Int32} (h : Cr σ0 T c p b n wd s) {a k : Nat} {x : Int32} (ha : pN σ0 ≤ a) (hv : VR (uI s a k x) (pN σ0) wd' n) (hz : Zw (cur σ0 3) wd' n) : Cr σ0 T c p b n wd' (uI s a k x) := by
  obtain ⟨h1, h2, h3, h4, ⟨h5, h6, h7, h8⟩, h9, h10⟩ := h
  exact ⟨TS_fr h1 h1.1 (fun a' ha' => pI_uI_ne _ _ _ (by omega)), hv, hz, Cg_u h4 ha, ⟨h5, h6, h7, h8⟩, h9, h10⟩
theorem Cr_set {σ0 s : pm_H} {p b n : Nat} {wd : Nat → Int32} (h : Cr σ0 T c p b n wd s) {i f : Nat} (hi : i < n) (hf : f = 2 ∨ f = 3) {x : Int32} (hok : vOk (upd wd (4 + 8 * f + i) x) n) : Cr σ0 T c p b n (upd wd (4 + 8 * f + i) x) (uI s (vQ s (pN σ0) i) f x) := by
  have h8 := h.2.1.1.1
  refine Cr_v h (by have := h.2.2.2.2.1.2.2.2 i hi; omega) (VR_set h.2.1 hi (by omega) (by omega) hok) ⟨fun j hj => ?_, fun a b ha hb hab => ?_, by rw [upd_ne _ _ (by omega)]; exact h.2.2.1.2.2.1, by rw [upd_ne _ _ (by omega)]; exact h.2.2.1.2.2.2⟩
  · rw [upd_ne _ _ (by omega), upd_ne _ _ (by omega)]; exact h.2.2.1.1 j hj
  · rw [upd_ne _ _ (by omega)]; exact h.2.2.1.2.1 a b ha hb hab
theorem Cr_debt {σ0 s : pm_H} {p b n : Nat} {wd : Nat → Int32} (h : Cr σ0 T c p b n wd s) {x y : Nat} (hx : x < n) (hy : y < n) (hxy : x ≠ y) {z : Int32} : Cr σ0 T c p b n (upd wd (52 + (8 * x + y)) z) (uI s (vD s (pN σ0)) (8 * x + y) z) := by
  have h8 := h.2.1.1.1
  refine Cr_v h (by have := h.2.2.2.2.1.2.2.1; omega) (VR_debt h.2.1 hx hy hxy) ⟨fun j hj => ?_, fun a b ha hb hab => ?_, by rw [upd_ne _ _ (by omega)]; exact h.2.2.1.2.2.1, by rw [upd_ne _ _ (by omega)]; exact h.2.2.1.2.2.2⟩
  · rw [upd_ne _ _ (by omega), upd_ne _ _ (by omega)]; exact h.2.2.1.1 j hj
  · rw [upd_ne _ _ (by omega)]; exact h.2.2.1.2.1 a b ha hb hab
theorem wA_of {wd : Nat → Int32} {A : Nat} (h : wd 1 = nI A) (hA : A < 2147483648) : wA wd = A := by
  unfold wA; rw [h, nI_toInt hA]; rfl
theorem vOk_A {wd : Nat → Int32} {n : Nat} (h : vOk wd n) : wA wd < 2 ^ n ∧ wd 1 = nI (wA wd) ∧ (0 < n → 0 < wA wd) := by
  obtain ⟨A, h1, h2, h3⟩ := h.2.2.1
  have : A < 256 := Nat.lt_of_lt_of_le h1 (p2n h.1)
  rw [wA_of h2 (by omega)]
  exact ⟨h1, h2, h3⟩
-- one asleep
theorem sd_pos {A i : Nat} (h : A.testBit i = true) (h1 : 1 < pc A) (hA : A < 256) (hi : i < 8) : 0 < sd A (2 ^ i) ∧ sd A (2 ^ i) ≤ A := by
  have : ∀ A, A < 256 → ∀ i, i < 8 → A.testBit i = true → 1 < pc A → 0 < sd A (2 ^ i) ∧ sd A (2 ^ i) ≤ A := by decide +kernel
  exact this A hA i hi h h1
theorem Cr_sleep {σ0 s : pm_H} {p b n : Nat} {wd : Nat → Int32} (h : Cr σ0 T c p b n wd s) {i : Nat} (hi : i < n) (hb : (wA wd).testBit i = true) (h1 : 1 < pc (wA wd)) : Cr σ0 T c p b n (upd wd 1 (nI (sd (wA wd) (2 ^ i)))) (uI s (vQ s (pN σ0) i) 6 0) := by
  have hv := h.2.1
  have h8 := hv.1.1
  obtain ⟨a1, a2, a3⟩ := vOk_A hv.1
  have a4 := Nat.lt_of_lt_of_le a1 (p2n h8)
  obtain ⟨s1, s2⟩ := sd_pos hb h1 a4 (by omega)
  refine Cr_v h (by have := h.2.2.2.2.1.2.2.2 i hi; omega) (VR_awake hv hi ⟨h8, by rw [upd_ne _ _ (by decide)]; exact hv.1.2.1, ⟨sd (wA wd) (2 ^ i), by omega, upd_at _ _ _, fun _ => s1⟩, fun j hj => by rw [upd_ne _ _ (by omega), upd_ne _ _ (by omega)]; exact hv.1.2.2.2 j hj⟩ ?_ (fun j hj hji => ?_)) ⟨fun j hj => ?_, fun a b ha hb hab => ?_, by rw [upd_ne _ _ (by omega)]; exact h.2.2.1.2.2.1, by rw [upd_ne _ _ (by omega)]; exact h.2.2.1.2.2.2⟩
  · rw [bt_nI (by omega) (by omega), sd_bit, pw_bit]; simp
  · rw [bt_nI (by omega) (by omega), a2, bt_nI a4 (by omega), sd_bit, pw_bit]; simp [show ¬ i = j by omega]
  · rw [upd_ne _ _ (by omega), upd_ne _ _ (by omega)]; exact h.2.2.1.1 j hj
  · rw [upd_ne _ _ (by omega)]; exact h.2.2.1.2.1 a b ha hb hab
-- one joins
theorem np_o {wd : Nat → Int32} {n kd g j : Nat} (h : j ≠ 0 ∧ j ≠ 1 ∧ j ≠ 4 + n ∧ j ≠ 12 + n ∧ j ≠ 20 + n ∧ j ≠ 28 + n) : newP wd n kd g j = wd j := by
  unfold newP
  rw [upd_ne _ _ (by omega), upd_ne _ _ (by omega), upd_ne _ _ (by omega), upd_ne _ _ (by omega), upd_ne _ _ (by omega), upd_ne _ _ (by omega)]
theorem np_0 {wd : Nat → Int32} {n kd g : Nat} : newP wd n kd g 0 = nI (n + 1) := by unfold newP; rw [upd_at]
theorem np_1 {wd : Nat → Int32} {n kd g : Nat} : newP wd n kd g 1 = nI (wA wd ||| 2 ^ n) := by unfold newP; rw [upd_ne _ _ (by omega), upd_at]
theorem np_p {wd : Nat → Int32} {n kd g : Nat} : newP wd n kd g (28 + n) = 0 := by unfold newP; rw [upd_ne _ _ (by omega), upd_ne _ _ (by omega), upd_at]
theorem np_v {wd : Nat → Int32} {n kd g : Nat} : newP wd n kd g (20 + n) = 100 := by unfold newP; rw [upd_ne _ _ (by omega), upd_ne _ _ (by omega), upd_ne _ _ (by omega), upd_at]
theorem np_g {wd : Nat → Int32} {n kd g : Nat} : newP wd n kd g (12 + n) = nI g := by unfold newP; rw [upd_ne _ _ (by omega), upd_ne _ _ (by omega), upd_ne _ _ (by omega), upd_ne _ _ (by omega), upd_at]
theorem np_k {wd : Nat → Int32} {n kd g : Nat} : newP wd n kd g (4 + n) = nI kd := by unfold newP; rw [upd_ne _ _ (by omega), upd_ne _ _ (by omega), upd_ne _ _ (by omega), upd_ne _ _ (by omega), upd_ne _ _ (by omega), upd_at]
theorem np_ok {wd : Nat → Int32} {n kd g : Nat} (h : vOk wd n) (n8 : n < 8) (hg : 1 ≤ g ∧ g ≤ 90) : vOk (newP wd n kd g) (n + 1) := by
  obtain ⟨a1, a2, a3⟩ := vOk_A h
  refine ⟨by omega, np_0, ⟨wA wd ||| 2 ^ n, or_pow_lt a1, np_1, fun _ => Nat.lt_of_lt_of_le (Nat.pow_pos (by decide)) Nat.right_le_or⟩, fun i hi => ?_⟩
  by_cases e : i = n
  · subst e
    rw [np_g, np_v]
    exact ⟨⟨g, hg.1, hg.2, rfl⟩, 100, by decide, rfl⟩
  · rw [np_o (by omega), np_o (by omega)]
    exact h.2.2.2 i (by omega)
theorem Cr_join {σ0 s : pm_H} {p b n kd g : Nat} {wd : Nat → Int32} (h : Cr σ0 T c p b n wd s) (n8 : n < 8) (hkd : kd < 6) (hg : 1 ≤ g ∧ g ≤ 90) : Cr σ0 T c p b (n + 1) (newP wd n kd g) (jn s (pN σ0) n kd (nI g)) ∧ vQ (jn s (pN σ0) n kd (nI g)) (pN σ0) n = pN s := by
  obtain ⟨h1, hv, h3, h4, ⟨h5, h6, h7, h8⟩, h9, h10⟩ := h
  have h66 := h1.1.2.2.2
  obtain ⟨a1, a2, a3⟩ := vOk_A hv.1
  have hA8 := Nat.lt_of_lt_of_le a1 (p2n hv.1.1)
  have hor8 := Nat.lt_of_lt_of_le (or_pow_lt a1) (p2n (show n + 1 ≤ 8 by omega))
  have hgr := jn_Gr (kd := kd) (G := nI g) h66 hv
  obtain ⟨j1, j2, j3, j4, j5⟩ := VR_join (wd := newP wd n kd g) (kd := kd) (G := nI g) hv h66 n8 hkd (np_ok hv.1 n8 hg) (np_o (by omega)) (np_o (by omega)) (fun f i hf hi => np_o (by omega)) (fun i hi => by rw [np_1, a2, bt_nI hor8 (by omega), bt_nI hA8 (by omega), Nat.testBit_or, pw_bit]; simp [show ¬ n = i by omega]) np_k np_g np_v np_p (by rw [np_o (by omega)]; exact (h3.1 n n8).1) (by rw [np_o (by omega)]; exact (h3.1 n n8).2) (by rw [np_1, bt_nI hor8 n8, Nat.testBit_or, pw_bit]; simp) (fun a b ha hb hab => by
    rw [np_o (by omega)]
    by_cases e : a < n ∧ b < n
    · rw [if_pos e]
    · rw [if_neg e]; exact h3.2.1 a b (by omega) (by omega) e)
  have hI1 : ∀ a, a ≠ pN σ0 → a ≠ pN s → pI (jn s (pN σ0) n kd (nI g)) a = pI s a := fun a q1 q2 => by
    show pI (uI (uR (mkp s kd (nI n) (nI g)) (vP s (pN σ0)) n (some (pN s))) (pN σ0) 2 (nI (n + 1))) a = _
    rw [pI_uI_ne _ _ _ q1]
    exact mk_I _ _ _ _ q2
  have hR1 : ∀ a, a ≠ vP s (pN σ0) → a ≠ pN s → pR (jn s (pN σ0) n kd (nI g)) a = pR s a := fun a q1 q2 => by
    show pR (uR (mkp s kd (nI n) (nI g)) (vP s (pN σ0)) n (some (pN s))) a = _
    rw [pR_uR_ne _ _ _ q1, mk_R _ _ _ _ q2]
  have hN : pN (jn s (pN σ0) n kd (nI g)) = pN s + 1 := rfl
  refine ⟨⟨TS_fr h1 (Gr_Sh hgr h1.1) (fun a ha => hI1 a (by omega) (by omega)), j1, ⟨fun i hi => ?_, fun a b ha hb hab => ?_, by rw [np_o (by omega)]; exact h3.2.2.1, by rw [np_o (by omega)]; exact h3.2.2.2⟩, ⟨by omega, fun a ha => ?_⟩, ⟨h5, by rw [j2]; exact h6, by rw [j3]; exact h7, fun i hi => ?_⟩, by omega, ?_⟩, j5⟩
  · rw [np_o (by omega), np_o (by omega)]; exact h3.1 i hi
  · rw [np_o (by omega)]; exact h3.2.1 a b ha hb (by omega)
  · obtain ⟨g1, g2, g3, g4, g5⟩ := h4.2 a ha
    refine ⟨by rw [hgr.1.2.1 a (by omega)]; exact g1, by rw [hgr.1.2.2 a (by omega)]; exact g2, by rw [hR1 a (by omega) (by omega)]; exact g3, ?_, fun k q => by rw [hI1 a (by omega) (by omega)]; exact g5 k q⟩
    rw [← g4]
    funext k
    show pJ (nw s (kTag kd) 0 7) a k = _
    rw [pJ_nw, if_neg (by omega)]
  · by_cases e : i = n
    · subst e; rw [j5]; omega
    · rw [j4 i (by omega)]; exact h8 i (by omega)
  · show pS s + 7 = _
    omega
-- what is read, from the valley's side
theorem Cr_de {σ0 s : pm_H} {p n : Nat} {wd : Nat → Int32} (h : Cr σ0 T c p (deE T c p) n wd s) : deE T c p ≤ T := (de_sp (c := c) h.1.2.1 p).2.2.2 h.1.2.2.2.2.2.1.2
theorem Cr_le {σ0 s : pm_H} {p n : Nat} {wd : Nat → Int32} (h : Cr σ0 T c p (leE T c p) n wd s) : leE T c p ≤ T := (le_sp (c := c) h.1.2.1 p).2.2.2 h.1.2.2.2.2.2.1.2
theorem Cr_pass {σ0 s : pm_H} {p b n : Nat} {wd : Nat → Int32} (h : Cr σ0 T c p b n wd s) (hb : b ≤ T) : ∃ s', D_X7_pass [.ref 27] s = some (none, s') ∧ Cr σ0 T c (skE T c b) b n wd s' ∧ ∀ i, vQ s' (pN σ0) i = vQ s (pN σ0) i := by
  obtain ⟨s', q1, q2, q3⟩ := d_pass h.1 hb
  exact ⟨s', q1, Cr_Tf h q2 q3, vQ_Tf q3 _⟩
theorem Cr_num {σ0 s : pm_H} {p b n : Nat} {wd : Nat → Int32} (h : Cr σ0 T c p b n wd s) (lo hi : Nat) (H : Int32) (hlo : lo ≤ 1000) (hH : ∀ v, v < 1000 → (H < nI v) = (hi ≤ v)) : ∃ s', D_X7_numberHere [.ref 27, .int (nI lo), .int H] s = some (some (.int (oQ (numR T c p lo hi))), s') ∧ Cr σ0 T c p (deE T c p) n wd s' ∧ ∀ i, vQ s' (pN σ0) i = vQ s (pN σ0) i := by
  obtain ⟨s', q1, q2, q3⟩ := d_number h.1 hlo hH
  exact ⟨s', q1, Cr_Tf h q2 q3, vQ_Tf q3 _⟩
theorem Cr_word {σ0 s : pm_H} {p b n : Nat} {wd : Nat → Int32} (h : Cr σ0 T c p b n wd s) : ∃ s', D_X7_wordHere [.ref 27] s = some (some (.int (oW T c p)), s') ∧ Cr σ0 T c p (leE T c p) n wd s' ∧ ∀ i, vQ s' (pN σ0) i = vQ s (pN σ0) i := by
  obtain ⟨s', q1, q2, q3⟩ := d_wordHere h.1
  exact ⟨s', q1, Cr_Tf h q2 q3, vQ_Tf q3 _⟩
theorem Cr_semi {σ0 s : pm_H} {p b n : Nat} {wd : Nat → Int32} (h : Cr σ0 T c p b n wd s) (e : p < T ∧ c p = 59) : ∃ s', D_X7_readsSemicolon [.ref 27] s = some (some (.int 1), s') ∧ Cr σ0 T c (skE T c (p + 1)) b n wd s' := by
  obtain ⟨s', q1, q2, q3⟩ := d_semi_t h.1 e
  exact ⟨s', q1, Cr_Tf h q2 q3⟩
theorem Cr_S {σ0 s : pm_H} {p b n : Nat} {wd : Nat → Int32} (h : Cr σ0 T c p b n wd s) : pT s 27 = 7 := sT_27 h.1.1
theorem H_n {n : Nat} (h : n ≤ 8) : ∀ v, v < 1000 → (nI n - 1 < nI v) = (n ≤ v) := fun v hv => by
  rw [i_lt, nI_sub1 (by omega), nI_toInt (by omega)]; apply propext; omega
theorem H_90 : ∀ v, v < 1000 → ((90 : Int32) < nI v) = (91 ≤ v) := fun v hv => nI_lt' (a := 90) (by decide) (by omega)
theorem H_200 : ∀ v, v < 1000 → ((200 : Int32) < nI v) = (201 ≤ v) := fun v hv => nI_lt' (a := 200) (by decide) (by omega)
theorem H_999 : ∀ v, v < 1000 → ((999 : Int32) < nI v) = (1000 ≤ v) := fun v hv => nI_lt' (a := 999) (by decide) (by omega)
theorem oQ_s {x : Nat} : oQ (some x) = nI x := rfl
theorem oQ_n : oQ none = -1 := rfl
theorem m1lt : ((-1 : Int32) < 0) = True := eq_true (by decide)
theorem nI_lt0 {k : Nat} (h : k < 2147483648) : (nI k < 0) = False := eq_false (nI_nn h)
theorem oW_eq (hT : T ≤ 200) (p : Nat) {w : Nat} (hw : w < 10) : (oW T c p = nI w) = (wId T c p = w) := by
  obtain ⟨w1, w2⟩ := wId_sp (c := c) hT p
  unfold oW
  by_cases e : wId T c p < 10
  · rw [if_pos e, nI_inj (by omega) (by omega)]
  · rw [if_neg e]
    apply propext
    exact ⟨fun q => absurd q.symm (nI_m1 (by omega)).1, fun q => by omega⟩
def Co (σ0 : pm_H) (T : Nat) (c : Nat → Nat) (D : pm_D) (vs : List Value) (s : pm_H) (o : Nat ⊕ (Nat × Nat × (Nat → Int32))) : Prop := (∀ q, o = .inl q → ∃ s' b n wd, D vs s = some (some (.int 0), s') ∧ Cr σ0 T c q b n wd s') ∧ ∀ p' n' wd', o = .inr (p', n', wd') → ∃ s' b, D vs s = some (some (.int 1), s') ∧ Cr σ0 T c p' b n' wd' s'
theorem Co_l {σ0 s s' : pm_H} {D : pm_D} {vs : List Value} {q b n : Nat} {wd : Nat → Int32} (h : D vs s = some (some (.int 0), s')) (hc : Cr σ0 T c q b n wd s') : Co σ0 T c D vs s (.inl q) := ⟨fun q' e => by cases e; exact ⟨s', b, n, wd, h, hc⟩, fun _ _ _ e => by cases e⟩
theorem Co_r {σ0 s s' : pm_H} {D : pm_D} {vs : List Value} {q b n : Nat} {wd : Nat → Int32} (h : D vs s = some (some (.int 1), s')) (hc : Cr σ0 T c q b n wd s') : Co σ0 T c D vs s (.inr (q, n, wd)) := ⟨fun q' e => (by cases e), fun _ _ _ e => (by cases e; exact ⟨s', b, h, hc⟩)⟩
theorem c_owes {σ0 s : pm_H} {p b n : Nat} {wd : Nat → Int32} (h : Cr σ0 T c p b n wd s) (hb : b ≤ T) : Co σ0 T c D_X7_readsOwes [.ref 27, .ref (pN σ0)] s (clOw1 T c (skE T c b) n wd) := by
  have n8 := h.2.1.1.1
  obtain ⟨s1, a1, h1, -⟩ := Cr_pass h hb
  obtain ⟨s2, a2, h2, -⟩ := Cr_num h1 0 n (nI n - 1) (by decide) (H_n n8)
  have t0 := Cr_S h
  have t1 := Cr_S h1
  have t2 := Cr_S h2
  have v1 := VR_T h1.2.1
  have u1 := VR_s h1.2.1
  rw [nI_0] at a2
  unfold clOw1
  cases e1 : numR T c (skE T c b) 0 n with
  | none =>
    rw [e1] at a2
    refine Co_l (s' := s2) ?_ h2
    refine rD_un.trans ?_
    simp only [D_X7_readsOwes, B_X7_readsOwes, ↓rE_eK, ↓rE_eLi, ↓rE_eLj, ↓rE_eLa, ↓rE_eU, ↓rE_eB, ↓rE_eG, ↓rE_eIF, ↓rE_eAI, ↓rE_eAX, ↓rE_eAJ, ↓rE_eAR, ↓rE_eLen, ↓rE_eSI, ↓rE_eC, ↓rE_eCall, ↓rE_eNew, ↓rE_eNewA, ↓rE_eInst, ↓rC_cI, ↓rC_cZ0, ↓rC_cN, ↓rC_cNot, ↓rC_cAnd, ↓rC_cOr, ↓rA_aN, ↓rA_aC, ↓rS_sP, ↓rS_sUF, ↓rS_sAI, ↓rS_sAJ, ↓rS_sAR, ↓rS_sUA, ↓rS_sCall, ↓rS_sObj, ↓rS_sSi, ↓rS_sSa, ↓rS_sSj, ↓rS_sInc, ↓rS_sSkip, ↓rS_sSeq, ↓rS_sIf, ↓rS_sRetI, ↓rS_sRetJ, ↓rS_sRetA, ↓rS_sRetV, ↓rS_sSw, ↓rD_meth, ↓rD_on, ↓kR_ref, ↓kI_int, ↓kJ_long, ↓kN_null, ↓kN_ref, ↓kN_rf, ↓kQ_ref, ↓kQ_null, ↓kQ_rf, o1_i, o1ij_i, o1ji_i, o2_i, o2d_i, o2j_i, o2ji_i, o2c_i, fv_0, fv_1, fv_2, fv_3, pf_0, pf_2, pf_3, pf_4, rf_s, rf_n, is_self, ge_0, ge_s, ge_n, gd_s, gd_n, se_0, se_s, ag_0, ex_n, ex_i, ex_r, ex_0, ex_j, ex_q, ap_c, ap_n, List.append_nil, ln_c, ln_n, rp_0, rp_s, rt_0, rt_1, rt_20, rt_21, rt_2, rt_3, rt_4, rt_4n, rt_4q, nl_0, nl_1, nl_2, nl_3, nl_4, nl_5, nl_6, nl_7, nl_8, nl_9, nlB_i, nlB_r, nlB_n, nlB_f, nlB_q, ↓reduceIte, reduceCtorEq, Nat.reduceAdd, Nat.reduceSub, Nat.reduceEqDiff, Nat.reduceLeDiff, Nat.reduceBEq, ite_true, ite_false, dt_t, Bool.not_true, Bool.not_false, Bool.false_eq_true, Nat.le_refl, true_and, and_true, true_or, or_true, false_or, or_false, false_and, and_false, qEq, qNe, qLt, qGe, qGt, qLe, rD_tb1 t0, rD_of a1, rD_tb1 t1, v1, u1, rD_of a2, oQ_n, m1lt]
  | some a =>
    rw [e1] at a2
    have ha := (num_some e1).2.2.2
    obtain ⟨s3, a3, h3, -⟩ := Cr_pass h2 (Cr_de h2)
    obtain ⟨s4, a4, h4, -⟩ := Cr_num h3 0 n (nI n - 1) (by decide) (H_n n8)
    have t3 := Cr_S h3
    have t4 := Cr_S h4
    have v3 := VR_T h3.2.1
    have u3 := VR_s h3.2.1
    rw [nI_0] at a4
    have l1 := nI_lt0 (show a < 2147483648 by omega)
    unfold clOw2
    show Co _ _ _ _ _ _ (match numR T c (skE T c (deE T c (skE T c b))) 0 n with | none => _ | some b => _)
    cases e2 : numR T c (skE T c (deE T c (skE T c b))) 0 n with
    | none =>
      rw [e2] at a4
      refine Co_l (s' := s4) ?_ h4
      refine rD_un.trans ?_
      simp only [D_X7_readsOwes, B_X7_readsOwes, ↓rE_eK, ↓rE_eLi, ↓rE_eLj, ↓rE_eLa, ↓rE_eU, ↓rE_eB, ↓rE_eG, ↓rE_eIF, ↓rE_eAI, ↓rE_eAX, ↓rE_eAJ, ↓rE_eAR, ↓rE_eLen, ↓rE_eSI, ↓rE_eC, ↓rE_eCall, ↓rE_eNew, ↓rE_eNewA, ↓rE_eInst, ↓rC_cI, ↓rC_cZ0, ↓rC_cN, ↓rC_cNot, ↓rC_cAnd, ↓rC_cOr, ↓rA_aN, ↓rA_aC, ↓rS_sP, ↓rS_sUF, ↓rS_sAI, ↓rS_sAJ, ↓rS_sAR, ↓rS_sUA, ↓rS_sCall, ↓rS_sObj, ↓rS_sSi, ↓rS_sSa, ↓rS_sSj, ↓rS_sInc, ↓rS_sSkip, ↓rS_sSeq, ↓rS_sIf, ↓rS_sRetI, ↓rS_sRetJ, ↓rS_sRetA, ↓rS_sRetV, ↓rS_sSw, ↓rD_meth, ↓rD_on, ↓kR_ref, ↓kI_int, ↓kJ_long, ↓kN_null, ↓kN_ref, ↓kN_rf, ↓kQ_ref, ↓kQ_null, ↓kQ_rf, o1_i, o1ij_i, o1ji_i, o2_i, o2d_i, o2j_i, o2ji_i, o2c_i, fv_0, fv_1, fv_2, fv_3, pf_0, pf_2, pf_3, pf_4, rf_s, rf_n, is_self, ge_0, ge_s, ge_n, gd_s, gd_n, se_0, se_s, ag_0, ex_n, ex_i, ex_r, ex_0, ex_j, ex_q, ap_c, ap_n, List.append_nil, ln_c, ln_n, rp_0, rp_s, rt_0, rt_1, rt_20, rt_21, rt_2, rt_3, rt_4, rt_4n, rt_4q, nl_0, nl_1, nl_2, nl_3, nl_4, nl_5, nl_6, nl_7, nl_8, nl_9, nlB_i, nlB_r, nlB_n, nlB_f, nlB_q, ↓reduceIte, reduceCtorEq, Nat.reduceAdd, Nat.reduceSub, Nat.reduceEqDiff, Nat.reduceLeDiff, Nat.reduceBEq, ite_true, ite_false, dt_t, Bool.not_true, Bool.not_false, Bool.false_eq_true, Nat.le_refl, true_and, and_true, true_or, or_true, false_or, or_false, false_and, and_false, qEq, qNe, qLt, qGe, qGt, qLe, rD_tb1 t0, rD_of a1, rD_tb1 t1, v1, u1, rD_of a2, oQ_s, l1, rD_tb1 t2, rD_of a3, rD_tb1 t3, v3, u3, rD_of a4, oQ_n, m1lt]
    | some y =>
      rw [e2] at a4
      have hy := (num_some e2).2.2.2
      have l2 := nI_lt0 (show y < 2147483648 by omega)
      have l3 : (nI y = nI a) = (y = a) := nI_inj (by omega) (by omega)
      show Co _ _ _ _ _ _ (if y = a then _ else _)
      by_cases e3 : y = a
      · rw [if_pos e3]
        refine Co_l (s' := s4) ?_ h4
        refine rD_un.trans ?_
        have l4 : (nI y = nI a) = True := by rw [l3]; exact eq_true e3
        simp only [D_X7_readsOwes, B_X7_readsOwes, ↓rE_eK, ↓rE_eLi, ↓rE_eLj, ↓rE_eLa, ↓rE_eU, ↓rE_eB, ↓rE_eG, ↓rE_eIF, ↓rE_eAI, ↓rE_eAX, ↓rE_eAJ, ↓rE_eAR, ↓rE_eLen, ↓rE_eSI, ↓rE_eC, ↓rE_eCall, ↓rE_eNew, ↓rE_eNewA, ↓rE_eInst, ↓rC_cI, ↓rC_cZ0, ↓rC_cN, ↓rC_cNot, ↓rC_cAnd, ↓rC_cOr, ↓rA_aN, ↓rA_aC, ↓rS_sP, ↓rS_sUF, ↓rS_sAI, ↓rS_sAJ, ↓rS_sAR, ↓rS_sUA, ↓rS_sCall, ↓rS_sObj, ↓rS_sSi, ↓rS_sSa, ↓rS_sSj, ↓rS_sInc, ↓rS_sSkip, ↓rS_sSeq, ↓rS_sIf, ↓rS_sRetI, ↓rS_sRetJ, ↓rS_sRetA, ↓rS_sRetV, ↓rS_sSw, ↓rD_meth, ↓rD_on, ↓kR_ref, ↓kI_int, ↓kJ_long, ↓kN_null, ↓kN_ref, ↓kN_rf, ↓kQ_ref, ↓kQ_null, ↓kQ_rf, o1_i, o1ij_i, o1ji_i, o2_i, o2d_i, o2j_i, o2ji_i, o2c_i, fv_0, fv_1, fv_2, fv_3, pf_0, pf_2, pf_3, pf_4, rf_s, rf_n, is_self, ge_0, ge_s, ge_n, gd_s, gd_n, se_0, se_s, ag_0, ex_n, ex_i, ex_r, ex_0, ex_j, ex_q, ap_c, ap_n, List.append_nil, ln_c, ln_n, rp_0, rp_s, rt_0, rt_1, rt_20, rt_21, rt_2, rt_3, rt_4, rt_4n, rt_4q, nl_0, nl_1, nl_2, nl_3, nl_4, nl_5, nl_6, nl_7, nl_8, nl_9, nlB_i, nlB_r, nlB_n, nlB_f, nlB_q, ↓reduceIte, reduceCtorEq, Nat.reduceAdd, Nat.reduceSub, Nat.reduceEqDiff, Nat.reduceLeDiff, Nat.reduceBEq, ite_true, ite_false, dt_t, Bool.not_true, Bool.not_false, Bool.false_eq_true, Nat.le_refl, true_and, and_true, true_or, or_true, false_or, or_false, false_and, and_false, qEq, qNe, qLt, qGe, qGt, qLe, rD_tb1 t0, rD_of a1, rD_tb1 t1, v1, u1, rD_of a2, oQ_s, l1, rD_tb1 t2, rD_of a3, rD_tb1 t3, v3, u3, rD_of a4, l2, l4]
      · rw [if_neg e3]
        have l4 : (nI y = nI a) = False := by rw [l3]; exact eq_false e3
        obtain ⟨s5, a5, h5, -⟩ := Cr_pass h4 (Cr_de h4)
        obtain ⟨s6, a6, h6, -⟩ := Cr_num h5 0 1000 999 (by decide) H_999
        have t5 := Cr_S h5
        have t6 := Cr_S h6
        rw [nI_0] at a6
        unfold clOw3
        cases e4 : numR T c (skE T c (deE T c (skE T c (deE T c (skE T c b))))) 0 1000 with
        | none =>
          rw [e4] at a6
          refine Co_l (s' := s6) ?_ h6
          refine rD_un.trans ?_
          simp only [D_X7_readsOwes, B_X7_readsOwes, ↓rE_eK, ↓rE_eLi, ↓rE_eLj, ↓rE_eLa, ↓rE_eU, ↓rE_eB, ↓rE_eG, ↓rE_eIF, ↓rE_eAI, ↓rE_eAX, ↓rE_eAJ, ↓rE_eAR, ↓rE_eLen, ↓rE_eSI, ↓rE_eC, ↓rE_eCall, ↓rE_eNew, ↓rE_eNewA, ↓rE_eInst, ↓rC_cI, ↓rC_cZ0, ↓rC_cN, ↓rC_cNot, ↓rC_cAnd, ↓rC_cOr, ↓rA_aN, ↓rA_aC, ↓rS_sP, ↓rS_sUF, ↓rS_sAI, ↓rS_sAJ, ↓rS_sAR, ↓rS_sUA, ↓rS_sCall, ↓rS_sObj, ↓rS_sSi, ↓rS_sSa, ↓rS_sSj, ↓rS_sInc, ↓rS_sSkip, ↓rS_sSeq, ↓rS_sIf, ↓rS_sRetI, ↓rS_sRetJ, ↓rS_sRetA, ↓rS_sRetV, ↓rS_sSw, ↓rD_meth, ↓rD_on, ↓kR_ref, ↓kI_int, ↓kJ_long, ↓kN_null, ↓kN_ref, ↓kN_rf, ↓kQ_ref, ↓kQ_null, ↓kQ_rf, o1_i, o1ij_i, o1ji_i, o2_i, o2d_i, o2j_i, o2ji_i, o2c_i, fv_0, fv_1, fv_2, fv_3, pf_0, pf_2, pf_3, pf_4, rf_s, rf_n, is_self, ge_0, ge_s, ge_n, gd_s, gd_n, se_0, se_s, ag_0, ex_n, ex_i, ex_r, ex_0, ex_j, ex_q, ap_c, ap_n, List.append_nil, ln_c, ln_n, rp_0, rp_s, rt_0, rt_1, rt_20, rt_21, rt_2, rt_3, rt_4, rt_4n, rt_4q, nl_0, nl_1, nl_2, nl_3, nl_4, nl_5, nl_6, nl_7, nl_8, nl_9, nlB_i, nlB_r, nlB_n, nlB_f, nlB_q, ↓reduceIte, reduceCtorEq, Nat.reduceAdd, Nat.reduceSub, Nat.reduceEqDiff, Nat.reduceLeDiff, Nat.reduceBEq, ite_true, ite_false, dt_t, Bool.not_true, Bool.not_false, Bool.false_eq_true, Nat.le_refl, true_and, and_true, true_or, or_true, false_or, or_false, false_and, and_false, qEq, qNe, qLt, qGe, qGt, qLe, rD_tb1 t0, rD_of a1, rD_tb1 t1, v1, u1, rD_of a2, oQ_s, l1, rD_tb1 t2, rD_of a3, rD_tb1 t3, v3, u3, rD_of a4, l2, l4, rD_tb1 t4, rD_of a5, rD_tb1 t5, rD_of a6, oQ_n, m1lt]
        | some z =>
          rw [e4] at a6
          have hz := (num_some e4).2.2.2
          have l5 := nI_lt0 (show z < 2147483648 by omega)
          obtain ⟨s7, a7, h7, -⟩ := Cr_pass h6 (Cr_de h6)
          have v7 := VR_T h7.2.1
          have a8 := d_setDebt h7.2.1 ha hy (nI z)
          have h8 := Cr_debt h7 ha hy (Ne.symm e3) (z := nI z)
          have t8 := Cr_S h8
          show Co _ _ _ _ _ _ (cSemi T c _ n _)
          unfold cSemi
          by_cases e5 : skE T c (deE T c (skE T c (deE T c (skE T c (deE T c (skE T c b)))))) < T ∧ c (skE T c (deE T c (skE T c (deE T c (skE T c (deE T c (skE T c b))))))) = 59
          · rw [if_pos e5]
            obtain ⟨s9, a9, h9⟩ := Cr_semi h8 e5
            refine Co_r (s' := s9) ?_ h9
            refine rD_un.trans ?_
            simp only [D_X7_readsOwes, B_X7_readsOwes, ↓rE_eK, ↓rE_eLi, ↓rE_eLj, ↓rE_eLa, ↓rE_eU, ↓rE_eB, ↓rE_eG, ↓rE_eIF, ↓rE_eAI, ↓rE_eAX, ↓rE_eAJ, ↓rE_eAR, ↓rE_eLen, ↓rE_eSI, ↓rE_eC, ↓rE_eCall, ↓rE_eNew, ↓rE_eNewA, ↓rE_eInst, ↓rC_cI, ↓rC_cZ0, ↓rC_cN, ↓rC_cNot, ↓rC_cAnd, ↓rC_cOr, ↓rA_aN, ↓rA_aC, ↓rS_sP, ↓rS_sUF, ↓rS_sAI, ↓rS_sAJ, ↓rS_sAR, ↓rS_sUA, ↓rS_sCall, ↓rS_sObj, ↓rS_sSi, ↓rS_sSa, ↓rS_sSj, ↓rS_sInc, ↓rS_sSkip, ↓rS_sSeq, ↓rS_sIf, ↓rS_sRetI, ↓rS_sRetJ, ↓rS_sRetA, ↓rS_sRetV, ↓rS_sSw, ↓rD_meth, ↓rD_on, ↓kR_ref, ↓kI_int, ↓kJ_long, ↓kN_null, ↓kN_ref, ↓kN_rf, ↓kQ_ref, ↓kQ_null, ↓kQ_rf, o1_i, o1ij_i, o1ji_i, o2_i, o2d_i, o2j_i, o2ji_i, o2c_i, fv_0, fv_1, fv_2, fv_3, pf_0, pf_2, pf_3, pf_4, rf_s, rf_n, is_self, ge_0, ge_s, ge_n, gd_s, gd_n, se_0, se_s, ag_0, ex_n, ex_i, ex_r, ex_0, ex_j, ex_q, ap_c, ap_n, List.append_nil, ln_c, ln_n, rp_0, rp_s, rt_0, rt_1, rt_20, rt_21, rt_2, rt_3, rt_4, rt_4n, rt_4q, nl_0, nl_1, nl_2, nl_3, nl_4, nl_5, nl_6, nl_7, nl_8, nl_9, nlB_i, nlB_r, nlB_n, nlB_f, nlB_q, ↓reduceIte, reduceCtorEq, Nat.reduceAdd, Nat.reduceSub, Nat.reduceEqDiff, Nat.reduceLeDiff, Nat.reduceBEq, ite_true, ite_false, dt_t, Bool.not_true, Bool.not_false, Bool.false_eq_true, Nat.le_refl, true_and, and_true, true_or, or_true, false_or, or_false, false_and, and_false, qEq, qNe, qLt, qGe, qGt, qLe, rD_tb1 t0, rD_of a1, rD_tb1 t1, v1, u1, rD_of a2, oQ_s, l1, rD_tb1 t2, rD_of a3, rD_tb1 t3, v3, u3, rD_of a4, l2, l4, rD_tb1 t4, rD_of a5, rD_tb1 t5, rD_of a6, l5, rD_tb1 t6, rD_of a7, rD_tb1 v7, rD_of a8, rD_tb1 t8, rD_of a9]
          · rw [if_neg e5]
            have a9 := d_semi_f h8.1 e5
            refine Co_l (s' := _) ?_ h8
            refine rD_un.trans ?_
            simp only [D_X7_readsOwes, B_X7_readsOwes, ↓rE_eK, ↓rE_eLi, ↓rE_eLj, ↓rE_eLa, ↓rE_eU, ↓rE_eB, ↓rE_eG, ↓rE_eIF, ↓rE_eAI, ↓rE_eAX, ↓rE_eAJ, ↓rE_eAR, ↓rE_eLen, ↓rE_eSI, ↓rE_eC, ↓rE_eCall, ↓rE_eNew, ↓rE_eNewA, ↓rE_eInst, ↓rC_cI, ↓rC_cZ0, ↓rC_cN, ↓rC_cNot, ↓rC_cAnd, ↓rC_cOr, ↓rA_aN, ↓rA_aC, ↓rS_sP, ↓rS_sUF, ↓rS_sAI, ↓rS_sAJ, ↓rS_sAR, ↓rS_sUA, ↓rS_sCall, ↓rS_sObj, ↓rS_sSi, ↓rS_sSa, ↓rS_sSj, ↓rS_sInc, ↓rS_sSkip, ↓rS_sSeq, ↓rS_sIf, ↓rS_sRetI, ↓rS_sRetJ, ↓rS_sRetA, ↓rS_sRetV, ↓rS_sSw, ↓rD_meth, ↓rD_on, ↓kR_ref, ↓kI_int, ↓kJ_long, ↓kN_null, ↓kN_ref, ↓kN_rf, ↓kQ_ref, ↓kQ_null, ↓kQ_rf, o1_i, o1ij_i, o1ji_i, o2_i, o2d_i, o2j_i, o2ji_i, o2c_i, fv_0, fv_1, fv_2, fv_3, pf_0, pf_2, pf_3, pf_4, rf_s, rf_n, is_self, ge_0, ge_s, ge_n, gd_s, gd_n, se_0, se_s, ag_0, ex_n, ex_i, ex_r, ex_0, ex_j, ex_q, ap_c, ap_n, List.append_nil, ln_c, ln_n, rp_0, rp_s, rt_0, rt_1, rt_20, rt_21, rt_2, rt_3, rt_4, rt_4n, rt_4q, nl_0, nl_1, nl_2, nl_3, nl_4, nl_5, nl_6, nl_7, nl_8, nl_9, nlB_i, nlB_r, nlB_n, nlB_f, nlB_q, ↓reduceIte, reduceCtorEq, Nat.reduceAdd, Nat.reduceSub, Nat.reduceEqDiff, Nat.reduceLeDiff, Nat.reduceBEq, ite_true, ite_false, dt_t, Bool.not_true, Bool.not_false, Bool.false_eq_true, Nat.le_refl, true_and, and_true, true_or, or_true, false_or, or_false, false_and, and_false, qEq, qNe, qLt, qGe, qGt, qLe, rD_tb1 t0, rD_of a1, rD_tb1 t1, v1, u1, rD_of a2, oQ_s, l1, rD_tb1 t2, rD_of a3, rD_tb1 t3, v3, u3, rD_of a4, l2, l4, rD_tb1 t4, rD_of a5, rD_tb1 t5, rD_of a6, l5, rD_tb1 t6, rD_of a7, rD_tb1 v7, rD_of a8, rD_tb1 t8, rD_of a9]
theorem c_asleep {σ0 s : pm_H} {p b n : Nat} {wd : Nat → Int32} (h : Cr σ0 T c p b n wd s) (hb : b ≤ T) : Co σ0 T c D_X7_readsAsleep [.ref 27, .ref (pN σ0)] s (clAs1 T c (skE T c b) n wd) := by
  have n8 := h.2.1.1.1
  obtain ⟨s1, a1, h1, -⟩ := Cr_pass h hb
  obtain ⟨s2, a2, h2, -⟩ := Cr_num h1 0 n (nI n - 1) (by decide) (H_n n8)
  have t0 := Cr_S h
  have t1 := Cr_S h1
  have t2 := Cr_S h2
  have v1 := VR_T h1.2.1
  have u1 := VR_s h1.2.1
  have v2 := VR_T h2.2.1
  rw [nI_0] at a2
  unfold clAs1
  cases e1 : numR T c (skE T c b) 0 n with
  | none =>
    rw [e1] at a2
    have hib : ¬ ib (oQ none) n = true := by rw [oQ_n]; exact (by intro q; obtain ⟨k, k1, k2, -⟩ := ib_ex q; exact (nI_m1 (k := k) (by omega)).1 k2.symm)
    have a3 := d_at_f h2.2.1 hib
    refine Co_l (s' := s2) ?_ h2
    refine rD_un.trans ?_
    simp only [D_X7_readsAsleep, B_X7_readsAsleep, ↓rE_eK, ↓rE_eLi, ↓rE_eLj, ↓rE_eLa, ↓rE_eU, ↓rE_eB, ↓rE_eG, ↓rE_eIF, ↓rE_eAI, ↓rE_eAX, ↓rE_eAJ, ↓rE_eAR, ↓rE_eLen, ↓rE_eSI, ↓rE_eC, ↓rE_eCall, ↓rE_eNew, ↓rE_eNewA, ↓rE_eInst, ↓rC_cI, ↓rC_cZ0, ↓rC_cN, ↓rC_cNot, ↓rC_cAnd, ↓rC_cOr, ↓rA_aN, ↓rA_aC, ↓rS_sP, ↓rS_sUF, ↓rS_sAI, ↓rS_sAJ, ↓rS_sAR, ↓rS_sUA, ↓rS_sCall, ↓rS_sObj, ↓rS_sSi, ↓rS_sSa, ↓rS_sSj, ↓rS_sInc, ↓rS_sSkip, ↓rS_sSeq, ↓rS_sIf, ↓rS_sRetI, ↓rS_sRetJ, ↓rS_sRetA, ↓rS_sRetV, ↓rS_sSw, ↓rD_meth, ↓rD_on, ↓kR_ref, ↓kI_int, ↓kJ_long, ↓kN_null, ↓kN_ref, ↓kN_rf, ↓kQ_ref, ↓kQ_null, ↓kQ_rf, o1_i, o1ij_i, o1ji_i, o2_i, o2d_i, o2j_i, o2ji_i, o2c_i, fv_0, fv_1, fv_2, fv_3, pf_0, pf_2, pf_3, pf_4, rf_s, rf_n, is_self, ge_0, ge_s, ge_n, gd_s, gd_n, se_0, se_s, ag_0, ex_n, ex_i, ex_r, ex_0, ex_j, ex_q, ap_c, ap_n, List.append_nil, ln_c, ln_n, rp_0, rp_s, rt_0, rt_1, rt_20, rt_21, rt_2, rt_3, rt_4, rt_4n, rt_4q, nl_0, nl_1, nl_2, nl_3, nl_4, nl_5, nl_6, nl_7, nl_8, nl_9, nlB_i, nlB_r, nlB_n, nlB_f, nlB_q, ↓reduceIte, reduceCtorEq, Nat.reduceAdd, Nat.reduceSub, Nat.reduceEqDiff, Nat.reduceLeDiff, Nat.reduceBEq, ite_true, ite_false, dt_t, Bool.not_true, Bool.not_false, Bool.false_eq_true, Nat.le_refl, true_and, and_true, true_or, or_true, false_or, or_false, false_and, and_false, qEq, qNe, qLt, qGe, qGt, qLe, rD_tb1 t0, rD_of a1, rD_tb1 t1, v1, u1, rD_of a2, rD_tb1 v2, rD_of a3]
  | some i =>
    rw [e1, oQ_s] at a2
    have hi := (num_some e1).2.2.2
    have a3 := d_at_t h2.2.1 (ib_nI hi (by omega))
    rw [nI_cl (by omega)] at a3
    have p1 := VR_slp h2.2.1 hi
    have p2 := VR_f6 h2.2.1 hi
    obtain ⟨A1, A2, A3⟩ := vOk_A h2.2.1.1
    have A4 := Nat.lt_of_lt_of_le A1 (p2n n8)
    rw [A2, bt_nI A4 (by omega)] at p2
    have a4 := d_awakeSet h2.2.1
    rw [A2] at a4
    have a5 := d_isOver A4 s2
    show Co _ _ _ _ _ _ (if (wA wd).testBit i = true ∧ 1 < pc (wA wd) then _ else _)
    by_cases e2 : (wA wd).testBit i = true
    · rw [if_pos e2] at p2
      by_cases e3 : 1 < pc (wA wd)
      · rw [if_pos ⟨e2, e3⟩]
        have e4 : ¬ pc (wA wd) ≤ 1 := by omega
        have h3 := Cr_sleep h2 hi e2 e3
        have t3 := Cr_S h3
        obtain ⟨s4, a6, h4, -⟩ := Cr_pass h3 (Cr_de h3)
        have t4 := Cr_S h4
        unfold cSemi
        by_cases e5 : skE T c (deE T c (skE T c b)) < T ∧ c (skE T c (deE T c (skE T c b))) = 59
        · rw [if_pos e5]
          obtain ⟨s9, a9, h9⟩ := Cr_semi h4 e5
          refine Co_r (s' := s9) ?_ h9
          refine rD_un.trans ?_
          simp only [D_X7_readsAsleep, B_X7_readsAsleep, ↓rE_eK, ↓rE_eLi, ↓rE_eLj, ↓rE_eLa, ↓rE_eU, ↓rE_eB, ↓rE_eG, ↓rE_eIF, ↓rE_eAI, ↓rE_eAX, ↓rE_eAJ, ↓rE_eAR, ↓rE_eLen, ↓rE_eSI, ↓rE_eC, ↓rE_eCall, ↓rE_eNew, ↓rE_eNewA, ↓rE_eInst, ↓rC_cI, ↓rC_cZ0, ↓rC_cN, ↓rC_cNot, ↓rC_cAnd, ↓rC_cOr, ↓rA_aN, ↓rA_aC, ↓rS_sP, ↓rS_sUF, ↓rS_sAI, ↓rS_sAJ, ↓rS_sAR, ↓rS_sUA, ↓rS_sCall, ↓rS_sObj, ↓rS_sSi, ↓rS_sSa, ↓rS_sSj, ↓rS_sInc, ↓rS_sSkip, ↓rS_sSeq, ↓rS_sIf, ↓rS_sRetI, ↓rS_sRetJ, ↓rS_sRetA, ↓rS_sRetV, ↓rS_sSw, ↓rD_meth, ↓rD_on, ↓kR_ref, ↓kI_int, ↓kJ_long, ↓kN_null, ↓kN_ref, ↓kN_rf, ↓kQ_ref, ↓kQ_null, ↓kQ_rf, o1_i, o1ij_i, o1ji_i, o2_i, o2d_i, o2j_i, o2ji_i, o2c_i, fv_0, fv_1, fv_2, fv_3, pf_0, pf_2, pf_3, pf_4, rf_s, rf_n, is_self, ge_0, ge_s, ge_n, gd_s, gd_n, se_0, se_s, ag_0, ex_n, ex_i, ex_r, ex_0, ex_j, ex_q, ap_c, ap_n, List.append_nil, ln_c, ln_n, rp_0, rp_s, rt_0, rt_1, rt_20, rt_21, rt_2, rt_3, rt_4, rt_4n, rt_4q, nl_0, nl_1, nl_2, nl_3, nl_4, nl_5, nl_6, nl_7, nl_8, nl_9, nlB_i, nlB_r, nlB_n, nlB_f, nlB_q, ↓reduceIte, reduceCtorEq, Nat.reduceAdd, Nat.reduceSub, Nat.reduceEqDiff, Nat.reduceLeDiff, Nat.reduceBEq, ite_true, ite_false, dt_t, Bool.not_true, Bool.not_false, Bool.false_eq_true, Nat.le_refl, true_and, and_true, true_or, or_true, false_or, or_false, false_and, and_false, qEq, qNe, qLt, qGe, qGt, qLe, rD_tb1 t0, rD_of a1, rD_tb1 t1, v1, u1, rD_of a2, rD_tb1 v2, rD_of a3, p1, p2, one_ne0, not_false_eq_true, nt_t, not_true, rD_of a4, rD_of a5, b32_ne, e4, pf_1 (Or.inl rfl), rD_tb1 t3, rD_of a6, rD_tb1 t4, rD_of a9]
        · rw [if_neg e5]
          have a9 := d_semi_f h4.1 e5
          refine Co_l (s' := _) ?_ h4
          refine rD_un.trans ?_
          simp only [D_X7_readsAsleep, B_X7_readsAsleep, ↓rE_eK, ↓rE_eLi, ↓rE_eLj, ↓rE_eLa, ↓rE_eU, ↓rE_eB, ↓rE_eG, ↓rE_eIF, ↓rE_eAI, ↓rE_eAX, ↓rE_eAJ, ↓rE_eAR, ↓rE_eLen, ↓rE_eSI, ↓rE_eC, ↓rE_eCall, ↓rE_eNew, ↓rE_eNewA, ↓rE_eInst, ↓rC_cI, ↓rC_cZ0, ↓rC_cN, ↓rC_cNot, ↓rC_cAnd, ↓rC_cOr, ↓rA_aN, ↓rA_aC, ↓rS_sP, ↓rS_sUF, ↓rS_sAI, ↓rS_sAJ, ↓rS_sAR, ↓rS_sUA, ↓rS_sCall, ↓rS_sObj, ↓rS_sSi, ↓rS_sSa, ↓rS_sSj, ↓rS_sInc, ↓rS_sSkip, ↓rS_sSeq, ↓rS_sIf, ↓rS_sRetI, ↓rS_sRetJ, ↓rS_sRetA, ↓rS_sRetV, ↓rS_sSw, ↓rD_meth, ↓rD_on, ↓kR_ref, ↓kI_int, ↓kJ_long, ↓kN_null, ↓kN_ref, ↓kN_rf, ↓kQ_ref, ↓kQ_null, ↓kQ_rf, o1_i, o1ij_i, o1ji_i, o2_i, o2d_i, o2j_i, o2ji_i, o2c_i, fv_0, fv_1, fv_2, fv_3, pf_0, pf_2, pf_3, pf_4, rf_s, rf_n, is_self, ge_0, ge_s, ge_n, gd_s, gd_n, se_0, se_s, ag_0, ex_n, ex_i, ex_r, ex_0, ex_j, ex_q, ap_c, ap_n, List.append_nil, ln_c, ln_n, rp_0, rp_s, rt_0, rt_1, rt_20, rt_21, rt_2, rt_3, rt_4, rt_4n, rt_4q, nl_0, nl_1, nl_2, nl_3, nl_4, nl_5, nl_6, nl_7, nl_8, nl_9, nlB_i, nlB_r, nlB_n, nlB_f, nlB_q, ↓reduceIte, reduceCtorEq, Nat.reduceAdd, Nat.reduceSub, Nat.reduceEqDiff, Nat.reduceLeDiff, Nat.reduceBEq, ite_true, ite_false, dt_t, Bool.not_true, Bool.not_false, Bool.false_eq_true, Nat.le_refl, true_and, and_true, true_or, or_true, false_or, or_false, false_and, and_false, qEq, qNe, qLt, qGe, qGt, qLe, rD_tb1 t0, rD_of a1, rD_tb1 t1, v1, u1, rD_of a2, rD_tb1 v2, rD_of a3, p1, p2, one_ne0, not_false_eq_true, nt_t, not_true, rD_of a4, rD_of a5, b32_ne, e4, pf_1 (Or.inl rfl), rD_tb1 t3, rD_of a6, rD_tb1 t4, rD_of a9]
      · rw [if_neg (fun q => e3 q.2)]
        have e4 : pc (wA wd) ≤ 1 := by omega
        refine Co_l (s' := s2) ?_ h2
        refine rD_un.trans ?_
        simp only [D_X7_readsAsleep, B_X7_readsAsleep, ↓rE_eK, ↓rE_eLi, ↓rE_eLj, ↓rE_eLa, ↓rE_eU, ↓rE_eB, ↓rE_eG, ↓rE_eIF, ↓rE_eAI, ↓rE_eAX, ↓rE_eAJ, ↓rE_eAR, ↓rE_eLen, ↓rE_eSI, ↓rE_eC, ↓rE_eCall, ↓rE_eNew, ↓rE_eNewA, ↓rE_eInst, ↓rC_cI, ↓rC_cZ0, ↓rC_cN, ↓rC_cNot, ↓rC_cAnd, ↓rC_cOr, ↓rA_aN, ↓rA_aC, ↓rS_sP, ↓rS_sUF, ↓rS_sAI, ↓rS_sAJ, ↓rS_sAR, ↓rS_sUA, ↓rS_sCall, ↓rS_sObj, ↓rS_sSi, ↓rS_sSa, ↓rS_sSj, ↓rS_sInc, ↓rS_sSkip, ↓rS_sSeq, ↓rS_sIf, ↓rS_sRetI, ↓rS_sRetJ, ↓rS_sRetA, ↓rS_sRetV, ↓rS_sSw, ↓rD_meth, ↓rD_on, ↓kR_ref, ↓kI_int, ↓kJ_long, ↓kN_null, ↓kN_ref, ↓kN_rf, ↓kQ_ref, ↓kQ_null, ↓kQ_rf, o1_i, o1ij_i, o1ji_i, o2_i, o2d_i, o2j_i, o2ji_i, o2c_i, fv_0, fv_1, fv_2, fv_3, pf_0, pf_2, pf_3, pf_4, rf_s, rf_n, is_self, ge_0, ge_s, ge_n, gd_s, gd_n, se_0, se_s, ag_0, ex_n, ex_i, ex_r, ex_0, ex_j, ex_q, ap_c, ap_n, List.append_nil, ln_c, ln_n, rp_0, rp_s, rt_0, rt_1, rt_20, rt_21, rt_2, rt_3, rt_4, rt_4n, rt_4q, nl_0, nl_1, nl_2, nl_3, nl_4, nl_5, nl_6, nl_7, nl_8, nl_9, nlB_i, nlB_r, nlB_n, nlB_f, nlB_q, ↓reduceIte, reduceCtorEq, Nat.reduceAdd, Nat.reduceSub, Nat.reduceEqDiff, Nat.reduceLeDiff, Nat.reduceBEq, ite_true, ite_false, dt_t, Bool.not_true, Bool.not_false, Bool.false_eq_true, Nat.le_refl, true_and, and_true, true_or, or_true, false_or, or_false, false_and, and_false, qEq, qNe, qLt, qGe, qGt, qLe, rD_tb1 t0, rD_of a1, rD_tb1 t1, v1, u1, rD_of a2, rD_tb1 v2, rD_of a3, p1, p2, one_ne0, not_false_eq_true, nt_t, not_true, rD_of a4, rD_of a5, b32_ne, e4]
    · rw [if_neg e2] at p2
      rw [if_neg (fun q => e2 q.1)]
      refine Co_l (s' := s2) ?_ h2
      refine rD_un.trans ?_
      simp only [D_X7_readsAsleep, B_X7_readsAsleep, ↓rE_eK, ↓rE_eLi, ↓rE_eLj, ↓rE_eLa, ↓rE_eU, ↓rE_eB, ↓rE_eG, ↓rE_eIF, ↓rE_eAI, ↓rE_eAX, ↓rE_eAJ, ↓rE_eAR, ↓rE_eLen, ↓rE_eSI, ↓rE_eC, ↓rE_eCall, ↓rE_eNew, ↓rE_eNewA, ↓rE_eInst, ↓rC_cI, ↓rC_cZ0, ↓rC_cN, ↓rC_cNot, ↓rC_cAnd, ↓rC_cOr, ↓rA_aN, ↓rA_aC, ↓rS_sP, ↓rS_sUF, ↓rS_sAI, ↓rS_sAJ, ↓rS_sAR, ↓rS_sUA, ↓rS_sCall, ↓rS_sObj, ↓rS_sSi, ↓rS_sSa, ↓rS_sSj, ↓rS_sInc, ↓rS_sSkip, ↓rS_sSeq, ↓rS_sIf, ↓rS_sRetI, ↓rS_sRetJ, ↓rS_sRetA, ↓rS_sRetV, ↓rS_sSw, ↓rD_meth, ↓rD_on, ↓kR_ref, ↓kI_int, ↓kJ_long, ↓kN_null, ↓kN_ref, ↓kN_rf, ↓kQ_ref, ↓kQ_null, ↓kQ_rf, o1_i, o1ij_i, o1ji_i, o2_i, o2d_i, o2j_i, o2ji_i, o2c_i, fv_0, fv_1, fv_2, fv_3, pf_0, pf_2, pf_3, pf_4, rf_s, rf_n, is_self, ge_0, ge_s, ge_n, gd_s, gd_n, se_0, se_s, ag_0, ex_n, ex_i, ex_r, ex_0, ex_j, ex_q, ap_c, ap_n, List.append_nil, ln_c, ln_n, rp_0, rp_s, rt_0, rt_1, rt_20, rt_21, rt_2, rt_3, rt_4, rt_4n, rt_4q, nl_0, nl_1, nl_2, nl_3, nl_4, nl_5, nl_6, nl_7, nl_8, nl_9, nlB_i, nlB_r, nlB_n, nlB_f, nlB_q, ↓reduceIte, reduceCtorEq, Nat.reduceAdd, Nat.reduceSub, Nat.reduceEqDiff, Nat.reduceLeDiff, Nat.reduceBEq, ite_true, ite_false, dt_t, Bool.not_true, Bool.not_false, Bool.false_eq_true, Nat.le_refl, true_and, and_true, true_or, or_true, false_or, or_false, false_and, and_false, qEq, qNe, qLt, qGe, qGt, qLe, rD_tb1 t0, rD_of a1, rD_tb1 t1, v1, u1, rD_of a2, rD_tb1 v2, rD_of a3, p1, p2, not_true, nt_t, not_false_eq_true]
