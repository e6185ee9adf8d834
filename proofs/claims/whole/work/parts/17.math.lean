/-! Math.max, min over the machine's own rows. -/
def D_max : pm_D := fun vs σ => match vs with
  | [.int x, .int z] => some (some (.int (if x < z then z else x)), σ)
  | _ => none
def D_min : pm_D := fun vs σ => match vs with
  | [.int x, .int z] => some (some (.int (if z < x then z else x)), σ)
  | _ => none
def D_maxJ : pm_D := fun vs σ => match vs with
  | [.long x, .long z] => some (some (.long (if z < x then x else z)), σ)
  | _ => none
def D_minJ : pm_D := fun vs σ => match vs with
  | [.long x, .long z] => some (some (.long (if z < x then z else x)), σ)
  | _ => none
theorem wm_max : Cond.code Lib.Math.max.name Lib.Math.max.code 2 (some .int) ∈ gws := gws_tab 572 (by decide +kernel) rfl
theorem wm_min : Cond.code Lib.Math.min.name Lib.Math.min.code 2 (some .int) ∈ gws := gws_tab 538 (by decide +kernel) rfl
theorem wm_maxJ : Cond.code Lib.MathLoose.max_long.x Lib.MathLoose.max_long.code 4 (some .long) ∈ gws := gws_tab 824 (by decide +kernel) rfl
theorem wm_minJ : Cond.code Lib.MathLoose.min_long.x Lib.MathLoose.min_long.code 4 (some .long) ∈ gws := gws_tab 821 (by decide +kernel) rfl
section MATHS
variable {cc : ByteArray} {y : MethodName} {nL rk : Nat} {p1 : Nat}
theorem xMax_sp {vs : List Value} {σ σ' : pm_H} {r : Option Value} (h : D_max vs σ = some (r, σ')) : ∃ x z, vs = [.int x, .int z] ∧ σ' = σ ∧ D_max [.int x, .int z] σ = some (r, σ) := by
  unfold D_max at h
  split at h
  · cases h; exact ⟨_, _, rfl, rfl, rfl⟩
  · cases h
theorem xMax {idx : Nat} (d : decode cc p1 = .ok (.invokestatic idx, 3)) (hl : Cond.methodLink y.cls idx Lib.Math.max.name ∈ gws) (hrk : 1 ≤ rk) : kOK cc y nL rk p1 2 D_max := by
  refine ⟨fun vs σ r σ' h => ?_, fun hG env σ vs r σ' st hm hst hD l1 l2 k => ?_⟩
  · obtain ⟨x, z, -, rfl, -⟩ := xMax_sp h
    exact ⟨Nat.le_refl _, Nat.le_refl _⟩
  · obtain ⟨x, z, rfl, rfl, h⟩ := xMax_sp hD
    cases h
    obtain ⟨⟨K, p, l, e, R, s, m, args, below, meth, c, Q, n0, s0, ⟨hx, hb, hml, hown, hts, hkx, hin⟩, hfr, hlo, hlim, hlims, rfl⟩, -⟩ := hG
    intro H locs ls h1 h2 h3 h4 h5 h6
    exact va_mmax hx hb (hml.trans h6.1.symm) hown (hts _ hl) (hts (.static Lib.Math.max.name) (show Cond.static Lib.Math.max.name ∈ gws from wt_571)) (hts _ wt_18) (hts _ wm_max) (by omega) (Nat.le_trans (Nat.add_le_add_right (show ((st.map (em K)).map fun v => v.category).sum ≤ 8 by rw [pm_cat]; exact hst) 13) (by omega)) (by omega) (by omega) d (k H locs ls h1 h2 h3 h4 h5 h6)
theorem xMin_sp {vs : List Value} {σ σ' : pm_H} {r : Option Value} (h : D_min vs σ = some (r, σ')) : ∃ x z, vs = [.int x, .int z] ∧ σ' = σ ∧ D_min [.int x, .int z] σ = some (r, σ) := by
  unfold D_min at h
  split at h
  · cases h; exact ⟨_, _, rfl, rfl, rfl⟩
  · cases h
theorem xMin {idx : Nat} (d : decode cc p1 = .ok (.invokestatic idx, 3)) (hl : Cond.methodLink y.cls idx Lib.Math.min.name ∈ gws) (hrk : 1 ≤ rk) : kOK cc y nL rk p1 2 D_min := by
  refine ⟨fun vs σ r σ' h => ?_, fun hG env σ vs r σ' st hm hst hD l1 l2 k => ?_⟩
  · obtain ⟨x, z, -, rfl, -⟩ := xMin_sp h
    exact ⟨Nat.le_refl _, Nat.le_refl _⟩
  · obtain ⟨x, z, rfl, rfl, h⟩ := xMin_sp hD
    cases h
    obtain ⟨⟨K, p, l, e, R, s, m, args, below, meth, c, Q, n0, s0, ⟨hx, hb, hml, hown, hts, hkx, hin⟩, hfr, hlo, hlim, hlims, rfl⟩, -⟩ := hG
    intro H locs ls h1 h2 h3 h4 h5 h6
    exact va_mmin hx hb (hml.trans h6.1.symm) hown (hts _ hl) (hts (.static Lib.Math.min.name) (show Cond.static Lib.Math.min.name ∈ gws from wt_537)) (hts _ wt_18) (hts _ wm_min) (by omega) (Nat.le_trans (Nat.add_le_add_right (show ((st.map (em K)).map fun v => v.category).sum ≤ 8 by rw [pm_cat]; exact hst) 13) (by omega)) (by omega) (by omega) d (k H locs ls h1 h2 h3 h4 h5 h6)
theorem xMaxJ_sp {vs : List Value} {σ σ' : pm_H} {r : Option Value} (h : D_maxJ vs σ = some (r, σ')) : ∃ x z, vs = [.long x, .long z] ∧ σ' = σ ∧ D_maxJ [.long x, .long z] σ = some (r, σ) := by
  unfold D_maxJ at h
  split at h
  · cases h; exact ⟨_, _, rfl, rfl, rfl⟩
  · cases h
theorem xMaxJ {idx : Nat} (d : decode cc p1 = .ok (.invokestatic idx, 3)) (hl : Cond.methodLink y.cls idx Lib.MathLoose.max_long.x ∈ gws) (hrk : 1 ≤ rk) : kOK cc y nL rk p1 2 D_maxJ := by
  refine ⟨fun vs σ r σ' h => ?_, fun hG env σ vs r σ' st hm hst hD l1 l2 k => ?_⟩
  · obtain ⟨x, z, -, rfl, -⟩ := xMaxJ_sp h
    exact ⟨Nat.le_refl _, Nat.le_refl _⟩
  · obtain ⟨x, z, rfl, rfl, h⟩ := xMaxJ_sp hD
    cases h
    obtain ⟨⟨K, p, l, e, R, s, m, args, below, meth, c, Q, n0, s0, ⟨hx, hb, hml, hown, hts, hkx, hin⟩, hfr, hlo, hlim, hlims, rfl⟩, -⟩ := hG
    intro H locs ls h1 h2 h3 h4 h5 h6
    exact va_mmax_long hx hb (hml.trans h6.1.symm) hown (hts _ hl) (hts (.static Lib.MathLoose.max_long.x) (show Cond.static Lib.MathLoose.max_long.x ∈ gws from wt_823)) (hts _ wt_18) (hts _ wm_maxJ) (by omega) (Nat.le_trans (Nat.add_le_add_right (show ((st.map (em K)).map fun v => v.category).sum ≤ 8 by rw [pm_cat]; exact hst) 15) (by omega)) (by omega) (by omega) d (k H locs ls h1 h2 h3 h4 h5 h6)
theorem xMinJ_sp {vs : List Value} {σ σ' : pm_H} {r : Option Value} (h : D_minJ vs σ = some (r, σ')) : ∃ x z, vs = [.long x, .long z] ∧ σ' = σ ∧ D_minJ [.long x, .long z] σ = some (r, σ) := by
  unfold D_minJ at h
  split at h
  · cases h; exact ⟨_, _, rfl, rfl, rfl⟩
  · cases h
theorem xMinJ {idx : Nat} (d : decode cc p1 = .ok (.invokestatic idx, 3)) (hl : Cond.methodLink y.cls idx Lib.MathLoose.min_long.x ∈ gws) (hrk : 1 ≤ rk) : kOK cc y nL rk p1 2 D_minJ := by
  refine ⟨fun vs σ r σ' h => ?_, fun hG env σ vs r σ' st hm hst hD l1 l2 k => ?_⟩
  · obtain ⟨x, z, -, rfl, -⟩ := xMinJ_sp h
    exact ⟨Nat.le_refl _, Nat.le_refl _⟩
  · obtain ⟨x, z, rfl, rfl, h⟩ := xMinJ_sp hD
    cases h
    obtain ⟨⟨K, p, l, e, R, s, m, args, below, meth, c, Q, n0, s0, ⟨hx, hb, hml, hown, hts, hkx, hin⟩, hfr, hlo, hlim, hlims, rfl⟩, -⟩ := hG
    intro H locs ls h1 h2 h3 h4 h5 h6
    exact va_mmin_long hx hb (hml.trans h6.1.symm) hown (hts _ hl) (hts (.static Lib.MathLoose.min_long.x) (show Cond.static Lib.MathLoose.min_long.x ∈ gws from wt_820)) (hts _ wt_18) (hts _ wm_minJ) (by omega) (Nat.le_trans (Nat.add_le_add_right (show ((st.map (em K)).map fun v => v.category).sum ≤ 8 by rw [pm_cat]; exact hst) 15) (by omega)) (by omega) (by omega) d (k H locs ls h1 h2 h3 h4 h5 h6)
end MATHS
