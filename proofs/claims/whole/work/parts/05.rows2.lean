/-! Rows of locals, fields, arrays, new cells. -/
def pm_held (v : Value) : Bool := match v with
  | .float _ => false
  | _ => true
def pm_asc (K : pm_K) (env : List Value) : List (Nat × Value) := (List.range env.length).filterMap fun j => match env[j]? with
  | some v => if pm_held v then some (j, em K v) else none
  | none => none
theorem pm_held_of {v : Value} (h : ∀ w, v ≠ .float w) : pm_held v = true := by
  cases v with
  | float b => exact absurd rfl (h b)
  | _ => rfl
theorem pm_held_to {v : Value} (h : pm_held v = true) : ∀ w, v ≠ .float w := by
  intro w e
  subst e
  cases h
theorem pm_asc_mem {K : pm_K} {env : List Value} {k : Nat} {v : Value} (h : env[k]? = some v) (hv : ∀ w, v ≠ .float w) : (k, em K v) ∈ pm_asc K env := by
  refine List.mem_filterMap.mpr ⟨k, List.mem_range.mpr (List.getElem?_eq_some_iff.mp h).1, ?_⟩
  rw [h]
  simp [pm_held_of hv]
theorem pm_asc_of {K : pm_K} {env : List Value} {q : Nat × Value} (h : q ∈ pm_asc K env) : ∃ v, env[q.1]? = some v ∧ q.2 = em K v ∧ ∀ w, v ≠ .float w := by
  obtain ⟨j, -, hj⟩ := List.mem_filterMap.mp h
  cases hv : env[j]? with
  | none => rw [hv] at hj; cases hj
  | some v =>
    rw [hv] at hj
    by_cases hh : pm_held v = true
    · simp [hh] at hj
      subst hj
      exact ⟨v, hv, rfl, pm_held_to hh⟩
    · simp [hh] at hj
theorem pm_env.has {K : pm_K} {env : List Value} {ls : Array Slot} {nL : Nat} (h : pm_env K env ls nL) : lv_has ls nL (pm_asc K env) := by
  refine ⟨h.1, h.2.1, fun q hq => ?_⟩
  obtain ⟨v, h1, h2, h3⟩ := pm_asc_of hq
  rw [h2]
  exact h.2.2.2 _ _ h1 h3
/-- no long stands just ahead of this place -/
def pm_nl (env : List Value) (k : Nat) : Bool := match k with
  | 0 => true
  | j + 1 => match env[j]? with
    | some (.long _) => false
    | some (.double _) => false
    | _ => true
theorem pm_nl_of {env : List Value} {k j : Nat} (h : pm_nl env k = true) (hj : j + 1 = k) {v : Value} (hv : env[j]? = some v) : v.category = 1 := by
  subst hj
  have h' : (match env[j]? with
    | some (.long _) => false
    | some (.double _) => false
    | _ => true) = true := h
  rw [hv] at h'
  cases v <;> first | rfl | cases h'
theorem pm_env.set1 {K : pm_K} {env : List Value} {ls ls' : Array Slot} {nL i : Nat} {v : Value} (h : pm_env K env ls nL) (hi : i < nL) (hn : pm_nl env i = true) (hl : lv_has ls' nL ((i, em K v) :: (pm_asc K env).filter (fun q => !(q.1 == i) && !(q.1 + 1 == i && q.2.category == 2)))) : pm_env K (env.set i v) ls' nL := by
  refine ⟨hl.1, hl.2.1, by rw [List.length_set]; exact h.2.2.1, fun k w hk hw => ?_⟩
  by_cases hki : k = i
  · subst hki
    rw [List.getElem?_set_self (by rw [h.2.2.1]; exact hi)] at hk
    cases hk
    exact hl.2.2 _ List.mem_cons_self
  · rw [List.getElem?_set_ne (fun q => hki q.symm)] at hk
    refine hl.2.2 (k, em K w) (List.mem_cons_of_mem _ (List.mem_filter.mpr ⟨pm_asc_mem hk hw, ?_⟩))
    by_cases hj : k + 1 = i
    · have hc := pm_nl_of hn hj hk
      simp [hki, em_cat, hc]
    · simp [hki, hj]
section PMROWS2
variable {cc : ByteArray} {y : MethodName} {nL rk lim lims : Nat} {G : pm_J} {Ret : Option Value → pm_H → Prop} {pc : Nat} {env st : List Value} {σ : pm_H}
theorem rw_istore_n (hG : pm_G cc y nL rk lim lims G Ret) {k : Fin 4} {x : Int32} (d : decode cc pc = .ok (.istore_n k, 1)) (hk : (k : Nat) < nL) (hn : pm_nl env (k : Nat) = true) (kk : G (pc + 1) (env.set (k : Nat) (.int x)) st σ) : G pc env (.int x :: st) σ := by
  obtain ⟨⟨K, p, l, e, R, s, m, args, below, meth, c, Q, n0, s0, ⟨hx, hb, hml, hown, hts, hkx, hin⟩, hfr, hlo, hlim, hlims, rfl⟩, -⟩ := hG
  intro H locs ls h1 h2 h3 h4 h5 h6
  exact lv_istore_n hx hb d rfl h6.has hk rfl fun ls' hl => kk H locs ls' h1 h2 h3 h4 h5 (h6.set1 hk hn hl)
theorem rw_istore (hG : pm_G cc y nL rk lim lims G Ret) {i : Nat} {x : Int32} (d : decode cc pc = .ok (.istore i, 2)) (hk : i < nL) (hn : pm_nl env i = true) (kk : G (pc + 2) (env.set i (.int x)) st σ) : G pc env (.int x :: st) σ := by
  obtain ⟨⟨K, p, l, e, R, s, m, args, below, meth, c, Q, n0, s0, ⟨hx, hb, hml, hown, hts, hkx, hin⟩, hfr, hlo, hlim, hlims, rfl⟩, -⟩ := hG
  intro H locs ls h1 h2 h3 h4 h5 h6
  exact lv_istore hx hb d h6.has hk rfl fun ls' hl => kk H locs ls' h1 h2 h3 h4 h5 (h6.set1 hk hn hl)
theorem rw_astore_n (hG : pm_G cc y nL rk lim lims G Ret) {k : Fin 4} {r : Option Nat} (d : decode cc pc = .ok (.astore_n k, 1)) (hk : (k : Nat) < nL) (hn : pm_nl env (k : Nat) = true) (kk : G (pc + 1) (env.set (k : Nat) (va_rf r)) st σ) : G pc env (va_rf r :: st) σ := by
  obtain ⟨⟨K, p, l, e, R, s, m, args, below, meth, c, Q, n0, s0, ⟨hx, hb, hml, hown, hts, hkx, hin⟩, hfr, hlo, hlim, hlims, rfl⟩, -⟩ := hG
  intro H locs ls h1 h2 h3 h4 h5 h6
  cases r with
  | none => exact lv_astore_nN hx hb d rfl h6.has hk rfl fun ls' hl => kk H locs ls' h1 h2 h3 h4 h5 (h6.set1 hk hn hl)
  | some a => exact lv_astore_n hx hb d rfl h6.has hk rfl fun ls' hl => kk H locs ls' h1 h2 h3 h4 h5 (h6.set1 hk hn hl)
theorem rw_astore (hG : pm_G cc y nL rk lim lims G Ret) {i : Nat} {r : Option Nat} (d : decode cc pc = .ok (.astore i, 2)) (hk : i < nL) (hn : pm_nl env i = true) (kk : G (pc + 2) (env.set i (va_rf r)) st σ) : G pc env (va_rf r :: st) σ := by
  obtain ⟨⟨K, p, l, e, R, s, m, args, below, meth, c, Q, n0, s0, ⟨hx, hb, hml, hown, hts, hkx, hin⟩, hfr, hlo, hlim, hlims, rfl⟩, -⟩ := hG
  intro H locs ls h1 h2 h3 h4 h5 h6
  cases r with
  | none => exact lv_astoreN hx hb d h6.has hk rfl fun ls' hl => kk H locs ls' h1 h2 h3 h4 h5 (h6.set1 hk hn hl)
  | some a => exact lv_astore hx hb d h6.has hk rfl fun ls' hl => kk H locs ls' h1 h2 h3 h4 h5 (h6.set1 hk hn hl)
theorem rw_iinc (hG : pm_G cc y nL rk lim lims G Ret) {i : Nat} {n : Int} {x : Int32} (d : decode cc pc = .ok (.iinc i n, 3)) (hv : env[i]? = some (.int x)) (hk : i < nL) (hn : pm_nl env i = true) (kk : G (pc + 3) (env.set i (.int (x + Int32.ofInt n))) st σ) : G pc env st σ := by
  obtain ⟨⟨K, p, l, e, R, s, m, args, below, meth, c, Q, n0, s0, ⟨hx, hb, hml, hown, hts, hkx, hin⟩, hfr, hlo, hlim, hlims, rfl⟩, -⟩ := hG
  intro H locs ls h1 h2 h3 h4 h5 h6
  obtain ⟨k, hk2⟩ := List.getElem?_of_mem (pm_asc_mem (K := K) hv (fun w h => by cases h))
  exact lv_iinc hx hb d h6.has hk2 rfl hk rfl fun ls' hl => kk H locs ls' h1 h2 h3 h4 h5 (h6.set1 (v := .int (x + Int32.ofInt n)) hk hn hl)
theorem pm_env.set2 {K : pm_K} {env : List Value} {ls ls' : Array Slot} {nL i : Nat} {v : Value} (h : pm_env K env ls nL) (hi : i + 1 < nL) (hn : pm_nl env i = true) (hl : lv_has ls' nL ((i, em K v) :: (pm_asc K env).filter (fun q => !(q.1 == i) && (!(q.1 == i + 1) && !(q.1 + 1 == i && q.2.category == 2))))) : pm_env K ((env.set i v).set (i + 1) (.float 0)) ls' nL := by
  refine ⟨hl.1, hl.2.1, by rw [List.length_set, List.length_set]; exact h.2.2.1, fun k w hk hw => ?_⟩
  by_cases hk1 : k = i + 1
  · subst hk1
    rw [List.getElem?_set_self (by rw [List.length_set, h.2.2.1]; exact hi)] at hk
    cases hk
    exact absurd rfl (hw 0)
  rw [List.getElem?_set_ne (fun q => hk1 q.symm)] at hk
  by_cases hki : k = i
  · subst hki
    rw [List.getElem?_set_self (by rw [h.2.2.1]; omega)] at hk
    cases hk
    exact hl.2.2 _ List.mem_cons_self
  · rw [List.getElem?_set_ne (fun q => hki q.symm)] at hk
    refine hl.2.2 (k, em K w) (List.mem_cons_of_mem _ (List.mem_filter.mpr ⟨pm_asc_mem hk hw, ?_⟩))
    by_cases hj : k + 1 = i
    · have hc := pm_nl_of hn hj hk
      simp [hki, hk1, em_cat, hc]
    · simp [hki, hj, hk1]
theorem rw_lstore (hG : pm_G cc y nL rk lim lims G Ret) {i : Nat} {x : Int64} (d : decode cc pc = .ok (.lstore i, 2)) (hk : i + 1 < nL) (hn : pm_nl env i = true) (kk : G (pc + 2) ((env.set i (.long x)).set (i + 1) (.float 0)) st σ) : G pc env (.long x :: st) σ := by
  obtain ⟨⟨K, p, l, e, R, s, m, args, below, meth, c, Q, n0, s0, ⟨hx, hb, hml, hown, hts, hkx, hin⟩, hfr, hlo, hlim, hlims, rfl⟩, -⟩ := hG
  intro H locs ls h1 h2 h3 h4 h5 h6
  exact lv_lstore hx hb d h6.has hk rfl fun ls' hl => kk H locs ls' h1 h2 h3 h4 h5 (h6.set2 hk hn hl)
end PMROWS2
