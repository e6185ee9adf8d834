/-! Rows of fields, arrays, new cells. -/
theorem pm_ok.lt {K : pm_K} {σ : pm_H} {H : Heap} (h : pm_ok K σ H) {a t : Nat} (ht : pT σ a = t) (hn : t ≠ 99) : a < pN σ := by
  rcases Nat.lt_or_ge a (pN σ) with q | q
  · exact q
  · exact absurd ((ht.symm.trans (h.2.2.1 a q))) hn
theorem vwCl_lt {c : Nat} {r : vw_C} (h : vwCl[c]? = some r) : c < 13 := (List.getElem?_eq_some_iff.mp h).1
theorem pm_ok.obj {K : pm_K} {σ : pm_H} {H : Heap} (h : pm_ok K σ H) {a c : Nat} {r : vw_C} (ht : pT σ a = c) (hr : vwCl[c]? = some r) : 11 ≤ a ∧ t_OB (kd K a) (kC K c) r.2.2 (kI K c) H (fun k => em K (pm_fv (pI σ a) (pJ σ a) (pR σ a) (pm_ft (r.2.1 k).2.2.1) k)) := by
  have hc := vwCl_lt hr
  have h1 := h.2.2.2 a (h.lt ht (by omega))
  unfold pm_cell pm_cc at h1
  rw [ht, if_neg (by omega), if_neg (by omega), if_neg (by omega), if_neg (by omega), if_neg (by omega), if_neg (by omega)] at h1
  obtain ⟨h0, r', h2, h3⟩ := h1
  cases hr.symm.trans h2
  exact ⟨h0, h3⟩
theorem pm_kd_inj {K : pm_K} {U : State} {H : Heap} (h : pm_kx K U H) {a b : Nat} (ha : 11 ≤ a) (e : kd K b = kd K a) : b = a := by
  obtain ⟨-, -, -, -, -, -, -, -, -, h10, h11, -⟩ := h
  rw [h11 a ha] at e
  rcases Nat.lt_or_ge b 11 with q | q
  · have := h10 b q; omega
  · rw [h11 b q] at e; omega
theorem pm_kd_ge {K : pm_K} {U : State} {H : Heap} (h : pm_kx K U H) {a : Nat} (ha : 11 ≤ a) : kB K ≤ kd K a := by
  obtain ⟨-, -, -, -, -, -, -, -, -, h10, h11, -⟩ := h
  rw [h11 a ha]; omega
/-- one cell has changed -/
theorem pm_ok.put {K : pm_K} {U : State} {H0 : Heap} (hk : pm_kx K U H0) {σ σ' : pm_H} {H H' : Heap} (h : pm_ok K σ H) {a : Nat} (ha : 11 ≤ a) (eN : pN σ' = pN σ) (eT : pT σ' = pT σ) (eo : ∀ b, b ≠ a → pL σ' b = pL σ b ∧ pI σ' b = pI σ b ∧ pJ σ' b = pJ σ b ∧ pR σ' b = pR σ b) (hz : H'.size = H.size) (ho : ∀ q, q ≠ kd K a → H'[q]? = H[q]?) (hc : pm_cell K σ' a H') : pm_ok K σ' H' := by
  refine ⟨by rw [hz, eN]; exact h.1, by rw [eN]; exact h.2.1, fun b hb => by rw [eT]; exact h.2.2.1 b (by rw [← eN]; exact hb), fun b hb => ?_⟩
  by_cases e : b = a
  · rw [e]; exact hc
  · have h1 := h.2.2.2 b (by rw [← eN]; exact hb)
    obtain ⟨e1, e2, e3, e4⟩ := eo b e
    unfold pm_cell at h1 ⊢
    rw [eT, e1, e2, e3, e4]
    exact h1.kept (ho _ (fun q => e (pm_kd_inj hk ha q)))
/-- a field by its place in the constant pool -/
def pm_fl (own : String) (idx : Nat) (r : vw_C) (k : Nat) : Prop := k < r.2.2 ∧ ∃ ref, Cond.fieldLink own idx ref (r.2.1 k).2.1 (r.2.1 k).2.2.1 ∈ gws ∧ (ref = (r.2.1 k).1 ∨ Cond.sameField ref (r.2.1 k).1 (r.2.1 k).2.1 (r.2.1 k).2.2.1 ∈ gws)
theorem pm_same {args : Array Value} {s : State} (hts : ∀ w ∈ gws, w.before args s = true) {ref own nm d : String} (h : ref = own ∨ Cond.sameField ref own nm d ∈ gws) : ∀ x, s.fieldFound? own nm d = some x → s.fieldFound? ref nm d = some x := by
  rcases h with rfl | h
  · exact fun _ h => h
  · exact fun x hx => u_same (hts _ h) x hx
section PMROWS3
variable {cc : ByteArray} {y : MethodName} {nL rk lim lims : Nat} {G : pm_J} {Ret : Option Value → pm_H → Prop} {pc : Nat} {env st : List Value} {σ : pm_H}
theorem rw_get (hG : pm_G cc y nL rk lim lims G Ret) {a c k idx : Nat} {r : vw_C} (d : decode cc pc = .ok (.getfield idx, 3)) (ht : pT σ a = c) (hr : vwCl[c]? = some r) (hf : pm_fl y.cls idx r k) (kk : G (pc + 3) env (pm_fv (pI σ a) (pJ σ a) (pR σ a) (pm_ft (r.2.1 k).2.2.1) k :: st) σ) : G pc env (.ref a :: st) σ := by
  obtain ⟨⟨K, p, l, e, R, s, m, args, below, meth, co, Q, n0, s0, ⟨hx, hb, hml, hown, hts, hkx, hin⟩, hfr, hlo, hlim, hlims, rfl⟩, -⟩ := hG
  intro H locs ls h1 h2 h3 h4 h5 h6
  obtain ⟨hk, ref, hl, hs⟩ := hf
  obtain ⟨ty, c1, c2, c3⟩ := pm_cls_all c r hr
  obtain ⟨h0, cell, q1, q2, q3, q4⟩ := h3.obj ht hr
  obtain ⟨hS, hfc, kC, hkC, hkind⟩ := hkx.1.1 c _ hr
  obtain ⟨cf, kf, fi, f, hi, hsl⟩ := hS k hk
  exact W.getf hx hb hown (hts _ hl) (pm_same hts hs _ hi) (u_facts hfc hkC (u_lays hts c1 hk) hi).1 q1 (by rw [q3]; exact fun h => by cases h) (by rw [hsl]; exact q4 k hk) rfl rfl d (kk H locs ls h1 h2 h3 h4 h5 h6)
/-- what a field's store leaves in the planes -/
def pm_pf (σ : pm_H) (a ty k : Nat) (v : Value) : Option pm_H := match v with
  | .int x => if ty = 0 then some (uI σ a k x) else if ty = 1 ∧ (x = 0 ∨ x = 1) then some (uI σ a k x) else none
  | .long x => if ty = 2 then some (uJ σ a k x) else none
  | .ref b => if ty = 3 then some (uR σ a k (some b)) else none
  | .null => if ty = 3 then some (uR σ a k none) else none
  | _ => none
theorem pm_pf_spec {σ σ' : pm_H} {a ty k : Nat} {v : Value} (h : pm_pf σ a ty k v = some σ') : (pT σ' = pT σ ∧ pL σ' = pL σ ∧ pN σ' = pN σ ∧ pS σ' = pS σ ∧ ∀ b, b ≠ a → pI σ' b = pI σ b ∧ pJ σ' b = pJ σ b ∧ pR σ' b = pR σ b) ∧ pm_fv (pI σ' a) (pJ σ' a) (pR σ' a) ty k = v ∧ (∀ j ty', j ≠ k → pm_fv (pI σ' a) (pJ σ' a) (pR σ' a) ty' j = pm_fv (pI σ a) (pJ σ a) (pR σ a) ty' j) ∧ ty < 4 ∧ (ty = 0 ∧ (∃ x, v = .int x) ∨ ty = 1 ∧ (v = .int 0 ∨ v = .int 1) ∨ ty = 2 ∧ (∃ x, v = .long x) ∨ ty = 3 ∧ (v = .null ∨ ∃ b, v = .ref b)) := by
  have kI : ∀ (x : Int32), (pT (uI σ a k x) = pT σ ∧ pL (uI σ a k x) = pL σ ∧ pN (uI σ a k x) = pN σ ∧ pS (uI σ a k x) = pS σ ∧ ∀ b, b ≠ a → pI (uI σ a k x) b = pI σ b ∧ pJ (uI σ a k x) b = pJ σ b ∧ pR (uI σ a k x) b = pR σ b) := fun x => ⟨rfl, rfl, rfl, rfl, fun b hb => ⟨by funext j; rw [pI_uI, if_neg (fun q => hb q.1)], rfl, rfl⟩⟩
  have kJ : ∀ (x : Int64), (pT (uJ σ a k x) = pT σ ∧ pL (uJ σ a k x) = pL σ ∧ pN (uJ σ a k x) = pN σ ∧ pS (uJ σ a k x) = pS σ ∧ ∀ b, b ≠ a → pI (uJ σ a k x) b = pI σ b ∧ pJ (uJ σ a k x) b = pJ σ b ∧ pR (uJ σ a k x) b = pR σ b) := fun x => ⟨rfl, rfl, rfl, rfl, fun b hb => ⟨rfl, by funext j; rw [pJ_uJ, if_neg (fun q => hb q.1)], rfl⟩⟩
  have kR : ∀ (x : Option Nat), (pT (uR σ a k x) = pT σ ∧ pL (uR σ a k x) = pL σ ∧ pN (uR σ a k x) = pN σ ∧ pS (uR σ a k x) = pS σ ∧ ∀ b, b ≠ a → pI (uR σ a k x) b = pI σ b ∧ pJ (uR σ a k x) b = pJ σ b ∧ pR (uR σ a k x) b = pR σ b) := fun x => ⟨rfl, rfl, rfl, rfl, fun b hb => ⟨rfl, rfl, by funext j; rw [pR_uR, if_neg (fun q => hb q.1)]⟩⟩
  cases v with
  | int x =>
    simp only [pm_pf] at h
    by_cases e0 : ty = 0
    · rw [if_pos e0] at h
      cases h
      refine ⟨kI x, by simp [pm_fv, e0, pI_uI], fun j ty' hj => ?_, by omega, Or.inl ⟨e0, x, rfl⟩⟩
      simp only [pm_fv, pI_uI, pJ_uI, pR_uI]
      simp [hj]
    · rw [if_neg e0] at h
      by_cases e1 : ty = 1 ∧ (x = 0 ∨ x = 1)
      · rw [if_pos e1] at h
        cases h
        refine ⟨kI x, by simp [pm_fv, e1.1, pI_uI], fun j ty' hj => ?_, by omega, Or.inr (Or.inl ⟨e1.1, ?_⟩)⟩
        · simp only [pm_fv, pI_uI, pJ_uI, pR_uI]
          simp [hj]
        · rcases e1.2 with q | q <;> rw [q] <;> simp
      · rw [if_neg e1] at h; cases h
  | long x =>
    simp only [pm_pf] at h
    by_cases e0 : ty = 2
    · rw [if_pos e0] at h
      cases h
      refine ⟨kJ x, by simp [pm_fv, e0, pJ_uJ], fun j ty' hj => ?_, by omega, Or.inr (Or.inr (Or.inl ⟨e0, x, rfl⟩))⟩
      simp only [pm_fv, pI_uJ, pJ_uJ, pR_uJ]
      simp [hj]
    · rw [if_neg e0] at h; cases h
  | ref b =>
    simp only [pm_pf] at h
    by_cases e0 : ty = 3
    · rw [if_pos e0] at h
      cases h
      refine ⟨kR (some b), by simp [pm_fv, e0, pR_uR, va_rf], fun j ty' hj => ?_, by omega, Or.inr (Or.inr (Or.inr ⟨e0, Or.inr ⟨b, rfl⟩⟩))⟩
      simp only [pm_fv, pI_uR, pJ_uR, pR_uR]
      simp [hj]
    · rw [if_neg e0] at h; cases h
  | null =>
    simp only [pm_pf] at h
    by_cases e0 : ty = 3
    · rw [if_pos e0] at h
      cases h
      refine ⟨kR none, by simp [pm_fv, e0, pR_uR, va_rf], fun j ty' hj => ?_, by omega, Or.inr (Or.inr (Or.inr ⟨e0, Or.inl rfl⟩))⟩
      simp only [pm_fv, pI_uR, pJ_uR, pR_uR]
      simp [hj]
    · rw [if_neg e0] at h; cases h
  | float b => cases h
  | double b => cases h
  | retAddr b => cases h
/-- a field's type, once more, as the machine has it -/
theorem pm_ft_ty {d : String} {ty : FieldType} (h : parseFieldDescriptor d = some ty) (hd : d = "I" ∨ d = "Z" ∨ d = "J" ∨ (pm_ft d = 3 ∧ ((∃ n, ty = .object n) ∨ ∃ t, ty = .array t))) {K : pm_K} {v : Value} (hv : pm_ft d = 0 ∧ (∃ x, v = .int x) ∨ pm_ft d = 1 ∧ (v = .int 0 ∨ v = .int 1) ∨ pm_ft d = 2 ∧ (∃ x, v = .long x) ∨ pm_ft d = 3 ∧ (v = .null ∨ ∃ b, v = .ref b)) : narrow ty (em K v) = em K v ∧ fits ty (em K v) = true := by
  rcases hd with rfl | rfl | rfl | ⟨h3, hd⟩
  · have e : ty = .int := Option.some.inj (h.symm.trans (by decide +kernel))
    subst e
    rcases hv with ⟨-, x, rfl⟩ | ⟨q, -⟩ | ⟨q, -⟩ | ⟨q, -⟩
    · exact ⟨rfl, rfl⟩
    all_goals exact absurd q (by decide +kernel)
  · have e : ty = .boolean := Option.some.inj (h.symm.trans (by decide +kernel))
    subst e
    rcases hv with ⟨q, -⟩ | ⟨-, rfl | rfl⟩ | ⟨q, -⟩ | ⟨q, -⟩
    · exact absurd q (by decide +kernel)
    · exact ⟨by rfl, by rfl⟩
    · exact ⟨by rfl, by rfl⟩
    all_goals exact absurd q (by decide +kernel)
  · have e : ty = .long := Option.some.inj (h.symm.trans (by decide +kernel))
    subst e
    rcases hv with ⟨q, -⟩ | ⟨q, -⟩ | ⟨-, x, rfl⟩ | ⟨q, -⟩
    · exact absurd q (by decide +kernel)
    · exact absurd q (by decide +kernel)
    · exact ⟨rfl, rfl⟩
    · exact absurd q (by decide +kernel)
  · rw [h3] at hv
    rcases hv with ⟨q, -⟩ | ⟨q, -⟩ | ⟨q, -⟩ | ⟨-, rfl | ⟨b, rfl⟩⟩
    · cases q
    · cases q
    · cases q
    · rcases hd with ⟨n, rfl⟩ | ⟨t, rfl⟩ <;> exact ⟨rfl, rfl⟩
    · rcases hd with ⟨n, rfl⟩ | ⟨t, rfl⟩ <;> exact ⟨rfl, rfl⟩
end PMROWS3
