/-! A method's contract out of a derivation of its body. -/
def pm_ex (vs : List Value) : List Value := vs.flatMap fun v => if v.category = 2 then [v, .float 0] else [v]
def pm_args (vs : List Value) (n : Nat) : List Value := pm_ex vs ++ List.replicate (n - (pm_ex vs).length) (.float 0)
theorem pm_ex_len (K : pm_K) (vs : List Value) : (lg_sl (vs.map (em K))).length = (pm_ex vs).length := by
  induction vs with
  | nil => rfl
  | cons v t ih =>
    show ((if (em K v).category = 2 then [Slot.val (em K v), .second] else [Slot.val (em K v)]) ++ lg_sl (t.map (em K))).length = ((if v.category = 2 then [v, .float 0] else [v]) ++ pm_ex t).length
    rw [List.length_append, List.length_append, ih, em_cat]
    by_cases h : v.category = 2
    · rw [if_pos h, if_pos h]; rfl
    · rw [if_neg h, if_neg h]; rfl
theorem pm_ex_at (K : pm_K) (vs : List Value) : ∀ (k : Nat) (v : Value), (pm_ex vs)[k]? = some v → (∀ w, v ≠ .float w) → (lg_sl (vs.map (em K)))[k]? = some (.val (em K v)) := by
  induction vs with
  | nil => intro k v h; simp [pm_ex] at h
  | cons v0 t ih =>
    intro k v h hv
    have e1 : pm_ex (v0 :: t) = (if v0.category = 2 then [v0, .float 0] else [v0]) ++ pm_ex t := rfl
    have e2 : lg_sl ((v0 :: t).map (em K)) = (if (em K v0).category = 2 then [Slot.val (em K v0), .second] else [Slot.val (em K v0)]) ++ lg_sl (t.map (em K)) := rfl
    rw [e1] at h
    rw [e2, em_cat]
    by_cases hc : v0.category = 2
    · rw [if_pos hc] at h ⊢
      match k, h with
      | 0, h => simp at h; subst h; rfl
      | 1, h => simp at h; exact absurd h.symm (hv 0)
      | k + 2, h => exact ih k v (by simpa using h) hv
    · rw [if_neg hc] at h ⊢
      match k, h with
      | 0, h => simp at h; subst h; rfl
      | k + 1, h => exact ih k v (by simpa using h) hv
theorem pm_env_entry (K : pm_K) (vs : List Value) {n : Nat} (h : (pm_ex vs).length ≤ n) : pm_env K (pm_args vs n) ((lg_sl (vs.map (em K)) ++ List.replicate (n - (lg_sl (vs.map (em K))).length) Slot.unset).toArray) n := by
  have hl := lv_entry (vs.map (em K)) (n := n) (by rw [pm_ex_len]; exact h)
  refine ⟨hl.1, hl.2.1, by unfold pm_args; rw [List.length_append, List.length_replicate]; omega, fun k v hk hv => ?_⟩
  unfold pm_args at hk
  rw [List.getElem?_toArray]
  rcases Nat.lt_or_ge k (pm_ex vs).length with q | q
  · rw [List.getElem?_append_left q] at hk
    rw [List.getElem?_append_left (by rw [pm_ex_len]; exact q)]
    exact pm_ex_at K vs k v hk hv
  · rw [List.getElem?_append_right q, List.getElem?_replicate] at hk
    split at hk
    · cases hk; exact absurd rfl (hv 0)
    · cases hk
/-- what may be returned -/
def pm_retok (ret : Option FieldType) (r : Option Value) : Prop :=
  (ret = none ∧ r = none) ∨ (ret = some .int ∧ ∃ v, r = some (.int v)) ∨ (ret = some .boolean ∧ (r = some (.int 0) ∨ r = some (.int 1))) ∨ (ret = some .long ∧ ∃ v, r = some (.long v)) ∨ ((∃ C, ret = some (.object C)) ∧ ∃ o, r = some (va_rf o))
theorem pm_M.mk {y : MethodName} {cc : ByteArray} {nL rk : Nat} {ret : Option FieldType} {D : pm_D} (hcode : Cond.code y cc nL ret ∈ gws) (hnL : nL ≤ 10) (hpl : plainName y.cls = true) (hmono : pm_mono D)
    (hbody : ∀ vs σ r σ', D vs σ = some (r, σ') → (pm_ex vs).length ≤ nL ∧ pm_retok ret r ∧ ∀ G Ret, pm_G cc y nL rk (pN σ') (pS σ') G Ret → Ret r σ' → G 0 (pm_args vs nL) [] σ) : pm_M y rk ret D := by
  refine ⟨hmono, cc, nL, hcode, hnL, fun l K vs σ r σ' hD => ?_⟩
  obtain ⟨hlen, hret, hG⟩ := hbody vs σ r σ' hD
  obtain ⟨m1, m2⟩ := hmono _ _ _ _ hD
  refine Met.ofW (cc := cc) (maxL := nL) (ret := ret) hpl rfl ?_
  intro p e s m args below meth c s₁ B hml hv
  obtain ⟨rfl, hkx, hok⟩ := hv
  have hlocks := B.notSynchronized
  have hr := B.returns
  have hts : ∀ w ∈ gws, w.before ((vs.map (em K)).toArray) s = true := fun w hw => atoms_spec (ws := Cond.code y cc nL ret :: gws) B.pre w (List.mem_cons_of_mem _ hw)
  have hown : s.vm.findClass y.cls = some m.cls := findClass_of_methodNamed B.named
  have hnm : meth.name = y.name := (name_of_methodNamed B.named B.method).1
  rw [lg_entry_eq]
  have he := pm_env_entry K vs hlen
  have key := hG (pm_gd K p l e (headSpec (Cond.code y cc nL ret :: gws) { frames := rk, cells := pN σ' - pN σ, slots := pS σ' - pS σ, locals := 29 * rk }).room s m ((vs.map (em K)).toArray) below meth c (MQ below (pm_Q K r σ') ((vs.map (em K)).toArray) s (pN σ' - pN σ) (pS σ' - pS σ) (fun q => kB K ≤ q)) nL (pN σ) (pS σ)) (fun r1 σ1 => r1 = r ∧ σ1 = σ') ⟨⟨K, p, l, e, _, s, m, _, below, meth, c, _, pN σ, pS σ, ⟨B.exec, B.bytes, hml, hown, hts, hkx, fun h => hnm.trans h⟩, Nat.le_refl _, Nat.le_refl _, by show pN σ' = pN σ + (pN σ' - pN σ); omega, by show pS σ' = pS σ + (pS σ' - pS σ); omega, rfl⟩, ?_, ?_, ?_, ?_⟩ ⟨rfl, rfl⟩
  · have := key s.heap [] _ (Nat.le_refl _) (Nat.le_refl _) hok (fun q _ => rfl) (fun q h => by simp at h) he
    rw [Nat.sub_self, Nat.sub_self] at this
    exact this
  · intro pc env v σ1 d hR
    obtain ⟨e1, rfl⟩ := hR
    intro H locs ls h1 h2 h3 h4 h5 h6
    have hq : ∀ t : State, t.heap = H → s.WarmedH t.vm → pm_Q K r σ1 ((vs.map (em K)).toArray) s (.returned (some (.int v))) t := fun t ht _ => ⟨by rw [← e1]; rfl, by rw [ht]; exact h3, fun q hq => by rw [ht]; exact h4 q hq⟩
    rcases hret with ⟨-, rfl⟩ | ⟨rfl, -⟩ | ⟨rfl, hz⟩ | ⟨-, w, rfl⟩ | ⟨-, o, rfl⟩
    · cases e1
    · exact W.iret B.exec B.bytes hr hq h5 d (hlocks := hlocks)
    · refine W.zret B.exec B.bytes hr ?_ hq h5 d (hlocks := hlocks)
      rw [← e1] at hz
      rcases hz with hz | hz <;> (cases hz; rfl)
    · cases e1
    · cases o <;> cases e1
  · intro pc env v σ1 d hR
    obtain ⟨e1, rfl⟩ := hR
    intro H locs ls h1 h2 h3 h4 h5 h6
    have hq : ∀ t : State, t.heap = H → s.WarmedH t.vm → pm_Q K r σ1 ((vs.map (em K)).toArray) s (.returned (some (.long v))) t := fun t ht _ => ⟨by rw [← e1]; rfl, by rw [ht]; exact h3, fun q hq => by rw [ht]; exact h4 q hq⟩
    rcases hret with ⟨-, rfl⟩ | ⟨-, w, rfl⟩ | ⟨rfl, hz⟩ | ⟨rfl, -⟩ | ⟨-, o, rfl⟩
    · cases e1
    · cases e1
    · rw [← e1] at hz
      rcases hz with hz | hz <;> cases hz
    · exact W.lret B.exec B.bytes hr hq h5 d (hlocks := hlocks)
    · cases o <;> cases e1
  · intro pc env v σ1 d hR
    obtain ⟨e1, rfl⟩ := hR
    intro H locs ls h1 h2 h3 h4 h5 h6
    have hq : ∀ t : State, t.heap = H → s.WarmedH t.vm → pm_Q K r σ1 ((vs.map (em K)).toArray) s (.returned (some (em K (va_rf v)))) t := fun t ht _ => ⟨by rw [← e1]; rfl, by rw [ht]; exact h3, fun q hq => by rw [ht]; exact h4 q hq⟩
    rcases hret with ⟨-, rfl⟩ | ⟨-, w, rfl⟩ | ⟨rfl, hz⟩ | ⟨-, w, rfl⟩ | ⟨⟨C, rfl⟩, -⟩
    · cases v <;> cases e1
    · cases v <;> cases e1
    · rw [← e1] at hz
      rcases hz with hz | hz <;> cases v <;> cases hz
    · cases v <;> cases e1
    · refine W.aret B.exec B.bytes hr (Or.inl ⟨C, rfl⟩) ?_ hq h5 d (hlocks := hlocks)
      cases v with
      | none => exact Or.inl rfl
      | some a => exact Or.inr ⟨_, rfl⟩
  · intro pc env σ1 d hR
    obtain ⟨e1, rfl⟩ := hR
    intro H locs ls h1 h2 h3 h4 h5 h6
    have hq : ∀ t : State, t.heap = H → s.WarmedH t.vm → pm_Q K r σ1 ((vs.map (em K)).toArray) s (.returned none) t := fun t ht _ => ⟨by rw [← e1]; rfl, by rw [ht]; exact h3, fun q hq => by rw [ht]; exact h4 q hq⟩
    rcases hret with ⟨rfl, -⟩ | ⟨-, w, rfl⟩ | ⟨rfl, hz⟩ | ⟨-, w, rfl⟩ | ⟨-, o, rfl⟩
    · exact W.vret B.exec B.bytes hr hq h5 d (hlocks := hlocks)
    · cases e1
    · rw [← e1] at hz
      rcases hz with hz | hz <;> cases hz
    · cases e1
    · cases o <;> cases e1
