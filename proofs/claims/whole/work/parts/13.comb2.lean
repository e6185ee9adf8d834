/-! Fields, arrays, conditions. -/
def is (c : Nat) : Nat → Bool := fun d => d == c
def ib (i : Int32) (n : Nat) : Bool := !(decide (i < 0)) && decide (i.toNatClampNeg < n)
theorem ib_in {i : Int32} {n : Nat} (h : ib i n = true) : vp_in i n := by
  simp only [ib, Bool.and_eq_true, Bool.not_eq_true', decide_eq_false_iff_not, decide_eq_true_eq] at h
  intro q
  rcases q with q | q
  · exact h.1 q
  · omega
def eG (cs : Nat → Bool) (ty k : Nat) (a : pm_E) : pm_E := fun env σ => match a env σ with
  | some (.ref b, σ1) => if cs (pT σ1 b) = true then some (pm_fv (pI σ1 b) (pJ σ1 b) (pR σ1 b) ty k, σ1) else none
  | _ => none
def sP (cs : Nat → Bool) (ty k : Nat) (a e : pm_E) : pm_S := fun env σ => match a env σ with
  | some (.ref b, σ1) => match e env σ1 with
    | some (v, σ2) => if cs (pT σ2 b) = true then match pm_pf σ2 b ty k v with
        | some σ3 => some (.inl env, σ3)
        | none => none
      else none
    | none => none
  | _ => none
def sUF (cs : Nat → Bool) (ty k : Nat) (g : Value → Value → Option Value) (a e : pm_E) : pm_S := fun env σ => match a env σ with
  | some (.ref b, σ1) => if cs (pT σ1 b) = true then match e env σ1 with
      | some (z, σ2) => match g (pm_fv (pI σ1 b) (pJ σ1 b) (pR σ1 b) ty k) z with
        | some v => if cs (pT σ2 b) = true then match pm_pf σ2 b ty k v with
            | some σ3 => some (.inl env, σ3)
            | none => none
          else none
        | none => none
      | none => none
    else none
  | _ => none
/-- x.f++ as a value -/
def eIF (cs : Nat → Bool) (k : Nat) (a : pm_E) : pm_E := fun env σ => match a env σ with
  | some (.ref b, σ1) => if cs (pT σ1 b) = true then some (.int (pI σ1 b k), uI σ1 b k (pI σ1 b k + 1)) else none
  | _ => none
def eAI (a i : pm_E) : pm_E := fun env σ => match a env σ with
  | some (.ref b, σ1) => match i env σ1 with
    | some (.int j, σ2) => if pT σ2 b = 13 ∧ ib j (pL σ2 b) = true then some (.int (pI σ2 b j.toNatClampNeg), σ2) else none
    | _ => none
  | _ => none
def eAX (a i : pm_E) : pm_E := fun env σ => match a env σ with
  | some (.ref b, σ1) => match i env σ1 with
    | some (.int j, σ2) => if pT σ2 b = 18 ∧ ib j (pL σ2 b) = true then some (.int (pI σ2 b j.toNatClampNeg), σ2) else none
    | _ => none
  | _ => none
def eAJ (a i : pm_E) : pm_E := fun env σ => match a env σ with
  | some (.ref b, σ1) => match i env σ1 with
    | some (.int j, σ2) => if pT σ2 b = 14 ∧ ib j (pL σ2 b) = true then some (.long (pJ σ2 b j.toNatClampNeg), σ2) else none
    | _ => none
  | _ => none
def eAR (a i : pm_E) : pm_E := fun env σ => match a env σ with
  | some (.ref b, σ1) => match i env σ1 with
    | some (.int j, σ2) => if (pT σ2 b = 15 ∨ pT σ2 b = 16) ∧ ib j (pL σ2 b) = true then some (va_rf (pR σ2 b j.toNatClampNeg), σ2) else none
    | _ => none
  | _ => none
def eLen (a : pm_E) : pm_E := fun env σ => match a env σ with
  | some (.ref b, σ1) => if pT σ1 b = 13 ∨ pT σ1 b = 14 ∨ pT σ1 b = 15 ∨ pT σ1 b = 16 ∨ pT σ1 b = 18 then some (.int (Int32.ofNat (pL σ1 b)), σ1) else none
  | _ => none
def sAI (a i e : pm_E) : pm_S := fun env σ => match a env σ with
  | some (.ref b, σ1) => match i env σ1 with
    | some (.int j, σ2) => match e env σ2 with
      | some (.int x, σ3) => if pT σ3 b = 13 ∧ ib j (pL σ3 b) = true then some (.inl env, uI σ3 b j.toNatClampNeg x) else none
      | _ => none
    | _ => none
  | _ => none
def sAJ (a i e : pm_E) : pm_S := fun env σ => match a env σ with
  | some (.ref b, σ1) => match i env σ1 with
    | some (.int j, σ2) => match e env σ2 with
      | some (.long x, σ3) => if pT σ3 b = 14 ∧ ib j (pL σ3 b) = true then some (.inl env, uJ σ3 b j.toNatClampNeg x) else none
      | _ => none
    | _ => none
  | _ => none
def sAR (a i e : pm_E) : pm_S := fun env σ => match a env σ with
  | some (.ref b, σ1) => match i env σ1 with
    | some (.int j, σ2) => match e env σ2 with
      | some (.ref x, σ3) => if pm_takes (pT σ3 b) (pT σ3 x) = true ∧ ib j (pL σ3 b) = true then some (.inl env, uR σ3 b j.toNatClampNeg (some x)) else none
      | some (.null, σ3) => if pT σ3 b = 16 ∧ ib j (pL σ3 b) = true then some (.inl env, uR σ3 b j.toNatClampNeg none) else none
      | _ => none
    | _ => none
  | _ => none
def sUA (g : Value → Value → Option Value) (a i e : pm_E) : pm_S := fun env σ => match a env σ with
  | some (.ref b, σ1) => match i env σ1 with
    | some (.int j, σ2) => if pT σ2 b = 13 ∧ ib j (pL σ2 b) = true then match e env σ2 with
        | some (z, σ3) => match g (.int (pI σ2 b j.toNatClampNeg)) z with
          | some (.int x) => if pT σ3 b = 13 ∧ ib j (pL σ3 b) = true then some (.inl env, uI σ3 b j.toNatClampNeg x) else none
          | _ => none
        | none => none
      else none
    | _ => none
  | _ => none
/-- an array with one of its first items -/
def eSI (a i e : pm_E) : pm_E := fun env σ => match a env σ with
  | some (.ref b, σ1) => match i env σ1 with
    | some (.int j, σ2) => match e env σ2 with
      | some (.int x, σ3) => if pT σ3 b = 13 ∧ ib j (pL σ3 b) = true then some (.ref b, uI σ3 b j.toNatClampNeg x) else none
      | _ => none
    | _ => none
  | _ => none
def cI (g : Int32 → Int32 → Bool) (a b : pm_E) : pm_C := fun env σ => match a env σ with
  | some (.int x, σ1) => match b env σ1 with
    | some (.int z, σ2) => some (g x z, σ2)
    | _ => none
  | _ => none
def cZ (g : Int32 → Bool) (a : pm_E) : pm_C := fun env σ => match a env σ with
  | some (.int x, σ1) => some (g x, σ1)
  | _ => none
/-- is it null -/
def cN (a : pm_E) : pm_C := fun env σ => match a env σ with
  | some (.null, σ1) => some (true, σ1)
  | some (.ref _, σ1) => some (false, σ1)
  | _ => none
def cNot (a : pm_C) : pm_C := fun env σ => match a env σ with
  | some (b, σ1) => some (!b, σ1)
  | none => none
def cAnd (a b : pm_C) : pm_C := fun env σ => match a env σ with
  | some (true, σ1) => b env σ1
  | some (false, σ1) => some (false, σ1)
  | none => none
def cOr (a b : pm_C) : pm_C := fun env σ => match a env σ with
  | some (true, σ1) => some (true, σ1)
  | some (false, σ1) => b env σ1
  | none => none
def eC (c : pm_C) (a b : pm_E) : pm_E := fun env σ => match c env σ with
  | some (true, σ1) => a env σ1
  | some (false, σ1) => b env σ1
  | none => none
-- what they say when they say something
theorem pm_opt {β : Type} {o : Option (Value × pm_H)} {F : Value → pm_H → Option β} {w : β} (h : (match o with
  | some (x, σ1) => F x σ1
  | none => none) = some w) : ∃ x σ1, o = some (x, σ1) ∧ F x σ1 = some w := by
  cases o with
  | none => cases h
  | some q => exact ⟨q.1, q.2, rfl, h⟩
theorem pm_ref {β : Type} {o : Option (Value × pm_H)} {F : Nat → pm_H → Option β} {w : β} (h : (match o with
  | some (.ref b, σ1) => F b σ1
  | _ => none) = some w) : ∃ b σ1, o = some (.ref b, σ1) ∧ F b σ1 = some w := by
  split at h
  · exact ⟨_, _, rfl, h⟩
  · cases h
theorem pm_int {β : Type} {o : Option (Value × pm_H)} {F : Int32 → pm_H → Option β} {w : β} (h : (match o with
  | some (.int b, σ1) => F b σ1
  | _ => none) = some w) : ∃ b σ1, o = some (.int b, σ1) ∧ F b σ1 = some w := by
  split at h
  · exact ⟨_, _, rfl, h⟩
  · cases h
theorem pm_lng {β : Type} {o : Option (Value × pm_H)} {F : Int64 → pm_H → Option β} {w : β} (h : (match o with
  | some (.long b, σ1) => F b σ1
  | _ => none) = some w) : ∃ b σ1, o = some (.long b, σ1) ∧ F b σ1 = some w := by
  split at h
  · exact ⟨_, _, rfl, h⟩
  · cases h
theorem pm_if {β : Type} {P : Prop} [inst : Decidable P] {a : Option β} {w : β} (h : (if P then a else none) = some w) : P ∧ a = some w := by
  by_cases hp : P
  · rw [if_pos hp] at h; exact ⟨hp, h⟩
  · rw [if_neg hp] at h; cases h
section COMB3
variable {cc : ByteArray} {y : MethodName} {nL rk : Nat} {n pc p1 p2 p3 p4 t f nx : Nat}
theorem eG_ok {cs : Nat → Bool} {ty k idx : Nat} {a : pm_E} (hF : ∀ c, cs c = true → ∃ r, vwCl[c]? = some r ∧ pm_fl y.cls idx r k ∧ pm_ft (r.2.1 k).2.2.1 = ty) (ha : eOK cc y nL rk n pc p1 a) (d : decode cc p1 = .ok (.getfield idx, 3)) : eOK cc y nL rk n pc (p1 + 3) (eG cs ty k a) := by
  refine ⟨fun env σ v σ' h => ?_, fun hG env σ v σ' st hs h l1 l2 k => ?_⟩
  · obtain ⟨b, σ1, h1, h2⟩ := pm_ref h
    obtain ⟨h3, h4⟩ := pm_if h2
    cases h4
    exact ha.1 _ _ _ _ h1
  · obtain ⟨b, σ1, h1, h2⟩ := pm_ref h
    obtain ⟨h3, h4⟩ := pm_if h2
    cases h4
    obtain ⟨r, r1, r2, r3⟩ := hF _ h3
    subst r3
    exact ha.2 hG env σ _ _ st hs h1 l1 l2 (rw_get hG d rfl r1 r2 k)
theorem pm_pf_mo {σ σ' : pm_H} {a ty k : Nat} {v : Value} (h : pm_pf σ a ty k v = some σ') : pN σ' = pN σ ∧ pS σ' = pS σ := by
  obtain ⟨⟨-, -, e3, e4, -⟩, -⟩ := pm_pf_spec h
  exact ⟨e3, e4⟩
theorem sP_sp {cs : Nat → Bool} {ty k : Nat} {a e : pm_E} {env : List Value} {σ σ' : pm_H} {r : List Value ⊕ Option Value} (h : sP cs ty k a e env σ = some (r, σ')) : ∃ b σ1 v σ2, a env σ = some (.ref b, σ1) ∧ e env σ1 = some (v, σ2) ∧ cs (pT σ2 b) = true ∧ pm_pf σ2 b ty k v = some σ' ∧ r = .inl env := by
  obtain ⟨b, σ1, h1, h2⟩ := pm_ref h
  obtain ⟨v, σ2, h3, h4⟩ := pm_opt h2
  obtain ⟨h5, h6⟩ := pm_if h4
  cases hp : pm_pf σ2 b ty k v with
  | none => rw [hp] at h6; cases h6
  | some σ3 => rw [hp] at h6; cases h6; exact ⟨b, σ1, v, σ2, h1, h3, h5, hp, rfl⟩
theorem sP_ok {cs : Nat → Bool} {ty k idx : Nat} {a e : pm_E} (hF : ∀ c, cs c = true → ∃ r, vwCl[c]? = some r ∧ pm_fl y.cls idx r k ∧ pm_ft (r.2.1 k).2.2.1 = ty ∧ ((r.2.1 k).2.2.2 = false ∨ ((r.2.1 k).2.2.2 = true ∧ y.name = "<init>" ∧ (r.2.1 k).1 = y.cls))) (ha : eOK cc y nL rk 0 pc p1 a) (he : eOK cc y nL rk 1 p1 p2 e) (d : decode cc p2 = .ok (.putfield idx, 3)) (hj : jOK cc y nL rk (p2 + 3) nx) : sOK cc y nL rk pc nx (sP cs ty k a e) := by
  refine ⟨fun env σ v σ' h => ?_, fun hG env σ r σ' h l1 l2 k1 k2 => ?_⟩
  · obtain ⟨b, σ1, v1, σ2, h1, h2, h3, h4, h5⟩ := sP_sp h
    obtain ⟨q1, q2⟩ := ha.1 _ _ _ _ h1
    obtain ⟨q3, q4⟩ := he.1 _ _ _ _ h2
    obtain ⟨q5, q6⟩ := pm_pf_mo h4
    exact ⟨by omega, by omega⟩
  · obtain ⟨b, σ1, v1, σ2, h1, h2, h3, h4, h5⟩ := sP_sp h
    obtain ⟨q3, q4⟩ := he.1 _ _ _ _ h2
    obtain ⟨q5, q6⟩ := pm_pf_mo h4
    obtain ⟨r', r1, r2, r3, r4⟩ := hF _ h3
    subst r3
    exact ha.2 hG env σ _ _ [] (Nat.le_refl _) h1 (by omega) (by omega) (he.2 hG env σ1 _ _ [.ref b] (Nat.le_refl _) h2 (by omega) (by omega) (rw_put hG d rfl r1 r2 r4 h4 (hj hG _ _ _ (k1 env h5))))
theorem sUF_sp {cs : Nat → Bool} {ty k : Nat} {g : Value → Value → Option Value} {a e : pm_E} {env : List Value} {σ σ' : pm_H} {r : List Value ⊕ Option Value} (h : sUF cs ty k g a e env σ = some (r, σ')) : ∃ b σ1 z σ2 v, a env σ = some (.ref b, σ1) ∧ cs (pT σ1 b) = true ∧ e env σ1 = some (z, σ2) ∧ g (pm_fv (pI σ1 b) (pJ σ1 b) (pR σ1 b) ty k) z = some v ∧ cs (pT σ2 b) = true ∧ pm_pf σ2 b ty k v = some σ' ∧ r = .inl env := by
  obtain ⟨b, σ1, h1, h2⟩ := pm_ref h
  obtain ⟨h3, h4⟩ := pm_if h2
  obtain ⟨z, σ2, h5, h6⟩ := pm_opt h4
  cases hg : g (pm_fv (pI σ1 b) (pJ σ1 b) (pR σ1 b) ty k) z with
  | none => rw [hg] at h6; cases h6
  | some v =>
    rw [hg] at h6
    obtain ⟨h7, h8⟩ := pm_if h6
    cases hp : pm_pf σ2 b ty k v with
    | none => rw [hp] at h8; cases h8
    | some σ3 => rw [hp] at h8; cases h8; exact ⟨b, σ1, z, σ2, v, h1, h3, h5, hg, h7, hp, rfl⟩
theorem sUF_ok {cs : Nat → Bool} {ty k idx w : Nat} {i : Instr} {g : Value → Value → Option Value} {a e : pm_E} (hr : rB cc y nL rk w i g) (hF : ∀ c, cs c = true → ∃ r, vwCl[c]? = some r ∧ pm_fl y.cls idx r k ∧ pm_ft (r.2.1 k).2.2.1 = ty ∧ ((r.2.1 k).2.2.2 = false ∨ ((r.2.1 k).2.2.2 = true ∧ y.name = "<init>" ∧ (r.2.1 k).1 = y.cls))) (ha : eOK cc y nL rk 0 pc p1 a) (d1 : decode cc p1 = .ok (.dup, 1)) (d2 : decode cc (p1 + 1) = .ok (.getfield idx, 3)) (he : eOK cc y nL rk (1 + w) (p1 + 1 + 3) p2 e) (d3 : decode cc p2 = .ok (i, 1)) (d4 : decode cc (p2 + 1) = .ok (.putfield idx, 3)) (hj : jOK cc y nL rk (p2 + 1 + 3) nx) : sOK cc y nL rk pc nx (sUF cs ty k g a e) := by
  refine ⟨fun env σ v σ' h => ?_, fun hG env σ r σ' h l1 l2 k1 k2 => ?_⟩
  · obtain ⟨b, σ1, z, σ2, v1, h1, h3, h5, hg, h7, hp, h8⟩ := sUF_sp h
    obtain ⟨q1, q2⟩ := ha.1 _ _ _ _ h1
    obtain ⟨q3, q4⟩ := he.1 _ _ _ _ h5
    obtain ⟨q5, q6⟩ := pm_pf_mo hp
    exact ⟨by omega, by omega⟩
  · obtain ⟨b, σ1, z, σ2, v1, h1, h3, h5, hg, h7, hp, h8⟩ := sUF_sp h
    obtain ⟨q3, q4⟩ := he.1 _ _ _ _ h5
    obtain ⟨q5, q6⟩ := pm_pf_mo hp
    obtain ⟨r', r1, r2, r3, r4⟩ := hF _ h3
    obtain ⟨r'', s1, s2, s3, s4⟩ := hF _ h7
    refine ha.2 hG env σ _ _ [] (Nat.le_refl _) h1 (by omega) (by omega) (rw_dup hG d1 rfl (rw_get hG d2 rfl r1 r2 ?_))
    rw [r3]
    have hw := hr.1 _ _ _ hg
    subst s3
    exact he.2 hG env σ1 _ _ _ (by rw [pm_sum_cons, pm_sum_cons]; show _ + (1 + 0) ≤ _; omega) h5 (by omega) (by omega) (hr.2 hG _ _ _ _ _ _ _ d3 hg (rw_put hG d4 rfl s1 s2 s4 hp (hj hG _ _ _ (k1 env h8))))
theorem eIF_ok {cs : Nat → Bool} {k idx : Nat} {a : pm_E} (hF : ∀ c, cs c = true → ∃ r, vwCl[c]? = some r ∧ pm_fl y.cls idx r k ∧ pm_ft (r.2.1 k).2.2.1 = 0 ∧ (r.2.1 k).2.2.2 = false) (ha : eOK cc y nL rk n pc p1 a) (d1 : decode cc p1 = .ok (.dup, 1)) (d2 : decode cc (p1 + 1) = .ok (.getfield idx, 3)) (d3 : decode cc (p1 + 4) = .ok (.dup_x1, 1)) (d4 : decode cc (p1 + 5) = .ok (.iconst 1, 1)) (d5 : decode cc (p1 + 6) = .ok (.iadd, 1)) (d6 : decode cc (p1 + 7) = .ok (.putfield idx, 3)) : eOK cc y nL rk n pc (p1 + 10) (eIF cs k a) := by
  refine ⟨fun env σ v σ' h => ?_, fun hG env σ v σ' st hs h l1 l2 kk => ?_⟩
  · obtain ⟨b, σ1, h1, h2⟩ := pm_ref h
    obtain ⟨h3, h4⟩ := pm_if h2
    cases h4
    rw [pN_uI, pS_uI]; exact ha.1 _ _ _ _ h1
  · obtain ⟨b, σ1, h1, h2⟩ := pm_ref h
    obtain ⟨h3, h4⟩ := pm_if h2
    cases h4
    obtain ⟨r, r1, r2, r3, r4⟩ := hF _ h3
    refine ha.2 hG env σ _ _ st hs h1 l1 l2 (rw_dup hG d1 rfl (rw_get hG d2 rfl r1 r2 ?_))
    rw [r3]
    refine rw_dup_x1 hG d3 rfl rfl (rw_iconst hG d4 (rw_iadd hG d5 (rw_put hG d6 rfl r1 r2 (Or.inl r4) (σ' := uI σ1 b k (pI σ1 b k + 1)) ?_ kk)))
    rw [r3]
    rfl
theorem eAI_sp {a i : pm_E} {env : List Value} {σ σ' : pm_H} {v : Value} (h : eAI a i env σ = some (v, σ')) : ∃ b σ1 j, a env σ = some (.ref b, σ1) ∧ i env σ1 = some (.int j, σ') ∧ pT σ' b = 13 ∧ ib j (pL σ' b) = true ∧ v = .int (pI σ' b j.toNatClampNeg) := by
  obtain ⟨b, σ1, h1, h2⟩ := pm_ref h
  obtain ⟨j, σ2, h3, h4⟩ := pm_int h2
  obtain ⟨⟨h5, h6⟩, h7⟩ := pm_if h4
  cases h7
  exact ⟨b, σ1, j, h1, h3, h5, h6, rfl⟩
theorem eAX_sp {a i : pm_E} {env : List Value} {σ σ' : pm_H} {v : Value} (h : eAX a i env σ = some (v, σ')) : ∃ b σ1 j, a env σ = some (.ref b, σ1) ∧ i env σ1 = some (.int j, σ') ∧ pT σ' b = 18 ∧ ib j (pL σ' b) = true ∧ v = .int (pI σ' b j.toNatClampNeg) := by
  obtain ⟨b, σ1, h1, h2⟩ := pm_ref h
  obtain ⟨j, σ2, h3, h4⟩ := pm_int h2
  obtain ⟨⟨h5, h6⟩, h7⟩ := pm_if h4
  cases h7
  exact ⟨b, σ1, j, h1, h3, h5, h6, rfl⟩
theorem eAJ_sp {a i : pm_E} {env : List Value} {σ σ' : pm_H} {v : Value} (h : eAJ a i env σ = some (v, σ')) : ∃ b σ1 j, a env σ = some (.ref b, σ1) ∧ i env σ1 = some (.int j, σ') ∧ pT σ' b = 14 ∧ ib j (pL σ' b) = true ∧ v = .long (pJ σ' b j.toNatClampNeg) := by
  obtain ⟨b, σ1, h1, h2⟩ := pm_ref h
  obtain ⟨j, σ2, h3, h4⟩ := pm_int h2
  obtain ⟨⟨h5, h6⟩, h7⟩ := pm_if h4
  cases h7
  exact ⟨b, σ1, j, h1, h3, h5, h6, rfl⟩
theorem eAR_sp {a i : pm_E} {env : List Value} {σ σ' : pm_H} {v : Value} (h : eAR a i env σ = some (v, σ')) : ∃ b σ1 j, a env σ = some (.ref b, σ1) ∧ i env σ1 = some (.int j, σ') ∧ (pT σ' b = 15 ∨ pT σ' b = 16) ∧ ib j (pL σ' b) = true ∧ v = va_rf (pR σ' b j.toNatClampNeg) := by
  obtain ⟨b, σ1, h1, h2⟩ := pm_ref h
  obtain ⟨j, σ2, h3, h4⟩ := pm_int h2
  obtain ⟨⟨h5, h6⟩, h7⟩ := pm_if h4
  cases h7
  exact ⟨b, σ1, j, h1, h3, h5, h6, rfl⟩
theorem eAI_ok {a i : pm_E} (ha : eOK cc y nL rk n pc p1 a) (hi : eOK cc y nL rk (n + 1) p1 p2 i) (d : decode cc p2 = .ok (.iaload, 1)) : eOK cc y nL rk n pc (p2 + 1) (eAI a i) := by
  refine ⟨fun env σ v σ' h => ?_, fun hG env σ v σ' st hs h l1 l2 k => ?_⟩
  · obtain ⟨b, σ1, j, h1, h2, -⟩ := eAI_sp h
    obtain ⟨q1, q2⟩ := ha.1 _ _ _ _ h1
    obtain ⟨q3, q4⟩ := hi.1 _ _ _ _ h2
    exact ⟨by omega, by omega⟩
  · obtain ⟨b, σ1, j, h1, h2, h3, h4, rfl⟩ := eAI_sp h
    obtain ⟨q3, q4⟩ := hi.1 _ _ _ _ h2
    exact ha.2 hG env σ _ _ st hs h1 (by omega) (by omega) (hi.2 hG env σ1 _ _ (.ref b :: st) (by rw [pm_sum_cons]; show 1 + _ ≤ _; omega) h2 l1 l2 (rw_iaload hG d h3 (ib_in h4) k))
theorem eAX_ok {a i : pm_E} (ha : eOK cc y nL rk n pc p1 a) (hi : eOK cc y nL rk (n + 1) p1 p2 i) (d : decode cc p2 = .ok (.iaload, 1)) : eOK cc y nL rk n pc (p2 + 1) (eAX a i) := by
  refine ⟨fun env σ v σ' h => ?_, fun hG env σ v σ' st hs h l1 l2 k => ?_⟩
  · obtain ⟨b, σ1, j, h1, h2, -⟩ := eAX_sp h
    obtain ⟨q1, q2⟩ := ha.1 _ _ _ _ h1
    obtain ⟨q3, q4⟩ := hi.1 _ _ _ _ h2
    exact ⟨by omega, by omega⟩
  · obtain ⟨b, σ1, j, h1, h2, h3, h4, rfl⟩ := eAX_sp h
    obtain ⟨q3, q4⟩ := hi.1 _ _ _ _ h2
    exact ha.2 hG env σ _ _ st hs h1 (by omega) (by omega) (hi.2 hG env σ1 _ _ (.ref b :: st) (by rw [pm_sum_cons]; show 1 + _ ≤ _; omega) h2 l1 l2 (rw_sload hG d h3 (ib_in h4) k))
theorem eAJ_ok {a i : pm_E} (ha : eOK cc y nL rk n pc p1 a) (hi : eOK cc y nL rk (n + 1) p1 p2 i) (d : decode cc p2 = .ok (.laload, 1)) : eOK cc y nL rk n pc (p2 + 1) (eAJ a i) := by
  refine ⟨fun env σ v σ' h => ?_, fun hG env σ v σ' st hs h l1 l2 k => ?_⟩
  · obtain ⟨b, σ1, j, h1, h2, -⟩ := eAJ_sp h
    obtain ⟨q1, q2⟩ := ha.1 _ _ _ _ h1
    obtain ⟨q3, q4⟩ := hi.1 _ _ _ _ h2
    exact ⟨by omega, by omega⟩
  · obtain ⟨b, σ1, j, h1, h2, h3, h4, rfl⟩ := eAJ_sp h
    obtain ⟨q3, q4⟩ := hi.1 _ _ _ _ h2
    exact ha.2 hG env σ _ _ st hs h1 (by omega) (by omega) (hi.2 hG env σ1 _ _ (.ref b :: st) (by rw [pm_sum_cons]; show 1 + _ ≤ _; omega) h2 l1 l2 (rw_laload hG d h3 (ib_in h4) k))
theorem eAR_ok {a i : pm_E} (ha : eOK cc y nL rk n pc p1 a) (hi : eOK cc y nL rk (n + 1) p1 p2 i) (d : decode cc p2 = .ok (.aaload, 1)) : eOK cc y nL rk n pc (p2 + 1) (eAR a i) := by
  refine ⟨fun env σ v σ' h => ?_, fun hG env σ v σ' st hs h l1 l2 k => ?_⟩
  · obtain ⟨b, σ1, j, h1, h2, -⟩ := eAR_sp h
    obtain ⟨q1, q2⟩ := ha.1 _ _ _ _ h1
    obtain ⟨q3, q4⟩ := hi.1 _ _ _ _ h2
    exact ⟨by omega, by omega⟩
  · obtain ⟨b, σ1, j, h1, h2, h3, h4, rfl⟩ := eAR_sp h
    obtain ⟨q3, q4⟩ := hi.1 _ _ _ _ h2
    exact ha.2 hG env σ _ _ st hs h1 (by omega) (by omega) (hi.2 hG env σ1 _ _ (.ref b :: st) (by rw [pm_sum_cons]; show 1 + _ ≤ _; omega) h2 l1 l2 (rw_aaload hG d h3 (ib_in h4) k))
theorem eLen_ok {a : pm_E} (ha : eOK cc y nL rk n pc p1 a) (d : decode cc p1 = .ok (.arraylength, 1)) : eOK cc y nL rk n pc (p1 + 1) (eLen a) := by
  refine ⟨fun env σ v σ' h => ?_, fun hG env σ v σ' st hs h l1 l2 k => ?_⟩
  · obtain ⟨b, σ1, h1, h2⟩ := pm_ref h
    obtain ⟨h3, h4⟩ := pm_if h2
    cases h4
    exact ha.1 _ _ _ _ h1
  · obtain ⟨b, σ1, h1, h2⟩ := pm_ref h
    obtain ⟨h3, h4⟩ := pm_if h2
    cases h4
    exact ha.2 hG env σ _ _ st hs h1 l1 l2 (rw_alen hG d h3 k)
theorem eSI_sp {a i e : pm_E} {env : List Value} {σ σ' : pm_H} {v : Value} (h : eSI a i e env σ = some (v, σ')) : ∃ b σ1 j σ2 x σ3, a env σ = some (.ref b, σ1) ∧ i env σ1 = some (.int j, σ2) ∧ e env σ2 = some (.int x, σ3) ∧ pT σ3 b = 13 ∧ ib j (pL σ3 b) = true ∧ σ' = uI σ3 b j.toNatClampNeg x ∧ v = .ref b := by
  obtain ⟨b, σ1, h1, h2⟩ := pm_ref h
  obtain ⟨j, σ2, h3, h4⟩ := pm_int h2
  obtain ⟨x, σ3, h5, h6⟩ := pm_int h4
  obtain ⟨⟨h7, h8⟩, h9⟩ := pm_if h6
  cases h9
  exact ⟨b, σ1, j, σ2, x, σ3, h1, h3, h5, h7, h8, rfl, rfl⟩
theorem eSI_ok {a i e : pm_E} (ha : eOK cc y nL rk n pc p1 a) (d1 : decode cc p1 = .ok (.dup, 1)) (hi : eOK cc y nL rk (n + 2) (p1 + 1) p2 i) (he : eOK cc y nL rk (n + 3) p2 p3 e) (d : decode cc p3 = .ok (.iastore, 1)) : eOK cc y nL rk n pc (p3 + 1) (eSI a i e) := by
  refine ⟨fun env σ v σ' h => ?_, fun hG env σ v σ' st hs h l1 l2 k => ?_⟩
  · obtain ⟨b, σ1, j, σ2, x, σ3, h1, h2, h3, -, -, rfl, -⟩ := eSI_sp h
    obtain ⟨q1, q2⟩ := ha.1 _ _ _ _ h1
    obtain ⟨q3, q4⟩ := hi.1 _ _ _ _ h2
    obtain ⟨q5, q6⟩ := he.1 _ _ _ _ h3
    rw [pN_uI, pS_uI]
    exact ⟨by omega, by omega⟩
  · obtain ⟨b, σ1, j, σ2, x, σ3, h1, h2, h3, h4, h5, rfl, rfl⟩ := eSI_sp h
    obtain ⟨q3, q4⟩ := hi.1 _ _ _ _ h2
    obtain ⟨q5, q6⟩ := he.1 _ _ _ _ h3
    rw [pN_uI] at l1
    rw [pS_uI] at l2
    exact ha.2 hG env σ _ _ st hs h1 (by omega) (by omega) (rw_dup hG d1 rfl (hi.2 hG env σ1 _ _ (.ref b :: .ref b :: st) (by rw [pm_sum_cons, pm_sum_cons]; show 1 + (1 + _) ≤ _; omega) h2 (by omega) (by omega) (he.2 hG env σ2 _ _ (.int j :: .ref b :: .ref b :: st) (by rw [pm_sum_cons, pm_sum_cons, pm_sum_cons]; show 1 + (1 + (1 + _)) ≤ _; omega) h3 l1 l2 (rw_iastore hG d h4 (ib_in h5) k))))
theorem sAI_ok {a i e : pm_E} (ha : eOK cc y nL rk 0 pc p1 a) (hi : eOK cc y nL rk 1 p1 p2 i) (he : eOK cc y nL rk 2 p2 p3 e) (d : decode cc p3 = .ok (.iastore, 1)) (hj : jOK cc y nL rk (p3 + 1) nx) : sOK cc y nL rk pc nx (sAI a i e) := by
  have sp : ∀ {env : List Value} {σ σ' : pm_H} {r : List Value ⊕ Option Value}, sAI a i e env σ = some (r, σ') → ∃ b σ1 j σ2 x σ3, a env σ = some (.ref b, σ1) ∧ i env σ1 = some (.int j, σ2) ∧ e env σ2 = some (.int x, σ3) ∧ pT σ3 b = 13 ∧ ib j (pL σ3 b) = true ∧ σ' = uI σ3 b j.toNatClampNeg x ∧ r = .inl env := by
    intro env σ σ' r h
    obtain ⟨b, σ1, h1, h2⟩ := pm_ref h
    obtain ⟨j, σ2, h3, h4⟩ := pm_int h2
    obtain ⟨x, σ3, h5, h6⟩ := pm_int h4
    obtain ⟨⟨h7, h8⟩, h9⟩ := pm_if h6
    cases h9
    exact ⟨b, σ1, j, σ2, x, σ3, h1, h3, h5, h7, h8, rfl, rfl⟩
  refine ⟨fun env σ v σ' h => ?_, fun hG env σ r σ' h l1 l2 k1 k2 => ?_⟩
  · obtain ⟨b, σ1, j, σ2, x, σ3, h1, h2, h3, -, -, rfl, -⟩ := sp h
    obtain ⟨q1, q2⟩ := ha.1 _ _ _ _ h1
    obtain ⟨q3, q4⟩ := hi.1 _ _ _ _ h2
    obtain ⟨q5, q6⟩ := he.1 _ _ _ _ h3
    rw [pN_uI, pS_uI]
    exact ⟨by omega, by omega⟩
  · obtain ⟨b, σ1, j, σ2, x, σ3, h1, h2, h3, h4, h5, rfl, h6⟩ := sp h
    obtain ⟨q3, q4⟩ := hi.1 _ _ _ _ h2
    obtain ⟨q5, q6⟩ := he.1 _ _ _ _ h3
    rw [pN_uI] at l1
    rw [pS_uI] at l2
    exact ha.2 hG env σ _ _ [] (Nat.le_refl _) h1 (by omega) (by omega) (hi.2 hG env σ1 _ _ [.ref b] (Nat.le_refl _) h2 (by omega) (by omega) (he.2 hG env σ2 _ _ [.int j, .ref b] (Nat.le_refl _) h3 l1 l2 (rw_iastore hG d h4 (ib_in h5) (hj hG _ _ _ (k1 env h6)))))
theorem sAJ_ok {a i e : pm_E} (ha : eOK cc y nL rk 0 pc p1 a) (hi : eOK cc y nL rk 1 p1 p2 i) (he : eOK cc y nL rk 2 p2 p3 e) (d : decode cc p3 = .ok (.lastore, 1)) (hj : jOK cc y nL rk (p3 + 1) nx) : sOK cc y nL rk pc nx (sAJ a i e) := by
  have sp : ∀ {env : List Value} {σ σ' : pm_H} {r : List Value ⊕ Option Value}, sAJ a i e env σ = some (r, σ') → ∃ b σ1 j σ2 x σ3, a env σ = some (.ref b, σ1) ∧ i env σ1 = some (.int j, σ2) ∧ e env σ2 = some (.long x, σ3) ∧ pT σ3 b = 14 ∧ ib j (pL σ3 b) = true ∧ σ' = uJ σ3 b j.toNatClampNeg x ∧ r = .inl env := by
    intro env σ σ' r h
    obtain ⟨b, σ1, h1, h2⟩ := pm_ref h
    obtain ⟨j, σ2, h3, h4⟩ := pm_int h2
    obtain ⟨x, σ3, h5, h6⟩ := pm_lng h4
    obtain ⟨⟨h7, h8⟩, h9⟩ := pm_if h6
    cases h9
    exact ⟨b, σ1, j, σ2, x, σ3, h1, h3, h5, h7, h8, rfl, rfl⟩
  refine ⟨fun env σ v σ' h => ?_, fun hG env σ r σ' h l1 l2 k1 k2 => ?_⟩
  · obtain ⟨b, σ1, j, σ2, x, σ3, h1, h2, h3, -, -, rfl, -⟩ := sp h
    obtain ⟨q1, q2⟩ := ha.1 _ _ _ _ h1
    obtain ⟨q3, q4⟩ := hi.1 _ _ _ _ h2
    obtain ⟨q5, q6⟩ := he.1 _ _ _ _ h3
    rw [pN_uJ, pS_uJ]
    exact ⟨by omega, by omega⟩
  · obtain ⟨b, σ1, j, σ2, x, σ3, h1, h2, h3, h4, h5, rfl, h6⟩ := sp h
    obtain ⟨q3, q4⟩ := hi.1 _ _ _ _ h2
    obtain ⟨q5, q6⟩ := he.1 _ _ _ _ h3
    rw [pN_uJ] at l1
    rw [pS_uJ] at l2
    exact ha.2 hG env σ _ _ [] (Nat.le_refl _) h1 (by omega) (by omega) (hi.2 hG env σ1 _ _ [.ref b] (Nat.le_refl _) h2 (by omega) (by omega) (he.2 hG env σ2 _ _ [.int j, .ref b] (Nat.le_refl _) h3 l1 l2 (rw_lastore hG d h4 (ib_in h5) (hj hG _ _ _ (k1 env h6)))))
theorem sAR_ok {a i e : pm_E} (ha : eOK cc y nL rk 0 pc p1 a) (hi : eOK cc y nL rk 1 p1 p2 i) (he : eOK cc y nL rk 2 p2 p3 e) (d : decode cc p3 = .ok (.aastore, 1)) (hj : jOK cc y nL rk (p3 + 1) nx) : sOK cc y nL rk pc nx (sAR a i e) := by
  have sp : ∀ {env : List Value} {σ σ' : pm_H} {r : List Value ⊕ Option Value}, sAR a i e env σ = some (r, σ') → ∃ b σ1 j σ2 σ3, a env σ = some (.ref b, σ1) ∧ i env σ1 = some (.int j, σ2) ∧ ib j (pL σ3 b) = true ∧ r = .inl env ∧ ((∃ x, e env σ2 = some (.ref x, σ3) ∧ pm_takes (pT σ3 b) (pT σ3 x) = true ∧ σ' = uR σ3 b j.toNatClampNeg (some x)) ∨ (e env σ2 = some (.null, σ3) ∧ pT σ3 b = 16 ∧ σ' = uR σ3 b j.toNatClampNeg none)) := by
    intro env σ σ' r h
    obtain ⟨b, σ1, h1, h2⟩ := pm_ref h
    obtain ⟨j, σ2, h3, h4⟩ := pm_int h2
    split at h4
    · obtain ⟨⟨h7, h8⟩, h9⟩ := pm_if h4
      cases h9
      exact ⟨b, σ1, j, σ2, _, h1, h3, h8, rfl, Or.inl ⟨_, by assumption, h7, rfl⟩⟩
    · obtain ⟨⟨h7, h8⟩, h9⟩ := pm_if h4
      cases h9
      exact ⟨b, σ1, j, σ2, _, h1, h3, h8, rfl, Or.inr ⟨by assumption, h7, rfl⟩⟩
    · cases h4
  refine ⟨fun env σ v σ' h => ?_, fun hG env σ r σ' h l1 l2 k1 k2 => ?_⟩
  · obtain ⟨b, σ1, j, σ2, σ3, h1, h2, -, -, h3⟩ := sp h
    obtain ⟨q1, q2⟩ := ha.1 _ _ _ _ h1
    obtain ⟨q3, q4⟩ := hi.1 _ _ _ _ h2
    rcases h3 with ⟨x, h3, -, rfl⟩ | ⟨h3, -, rfl⟩
    · obtain ⟨q5, q6⟩ := he.1 _ _ _ _ h3
      rw [pN_uR, pS_uR]
      exact ⟨by omega, by omega⟩
    · obtain ⟨q5, q6⟩ := he.1 _ _ _ _ h3
      rw [pN_uR, pS_uR]
      exact ⟨by omega, by omega⟩
  · obtain ⟨b, σ1, j, σ2, σ3, h1, h2, h5, h6, h3⟩ := sp h
    obtain ⟨q3, q4⟩ := hi.1 _ _ _ _ h2
    rcases h3 with ⟨x, h3, h4, rfl⟩ | ⟨h3, h4, rfl⟩
    · obtain ⟨q5, q6⟩ := he.1 _ _ _ _ h3
      rw [pN_uR] at l1
      rw [pS_uR] at l2
      exact ha.2 hG env σ _ _ [] (Nat.le_refl _) h1 (by omega) (by omega) (hi.2 hG env σ1 _ _ [.ref b] (Nat.le_refl _) h2 (by omega) (by omega) (he.2 hG env σ2 _ _ [.int j, .ref b] (Nat.le_refl _) h3 l1 l2 (rw_aastore hG d h4 (ib_in h5) (hj hG _ _ _ (k1 env h6)))))
    · obtain ⟨q5, q6⟩ := he.1 _ _ _ _ h3
      rw [pN_uR] at l1
      rw [pS_uR] at l2
      exact ha.2 hG env σ _ _ [] (Nat.le_refl _) h1 (by omega) (by omega) (hi.2 hG env σ1 _ _ [.ref b] (Nat.le_refl _) h2 (by omega) (by omega) (he.2 hG env σ2 _ _ [.int j, .ref b] (Nat.le_refl _) h3 l1 l2 (rw_aastoreN hG d h4 (ib_in h5) (hj hG _ _ _ (k1 env h6)))))
theorem sUA_ok {w : Nat} {ins : Instr} {g : Value → Value → Option Value} {a i e : pm_E} (hr : rB cc y nL rk w ins g) (ha : eOK cc y nL rk 0 pc p1 a) (hi : eOK cc y nL rk 1 p1 p2 i) (d1 : decode cc p2 = .ok (.dup2, 1)) (d2 : decode cc (p2 + 1) = .ok (.iaload, 1)) (he : eOK cc y nL rk 3 (p2 + 2) p3 e) (d3 : decode cc p3 = .ok (ins, 1)) (d4 : decode cc (p3 + 1) = .ok (.iastore, 1)) (hj : jOK cc y nL rk (p3 + 2) nx) : sOK cc y nL rk pc nx (sUA g a i e) := by
  have sp : ∀ {env : List Value} {σ σ' : pm_H} {r : List Value ⊕ Option Value}, sUA g a i e env σ = some (r, σ') → ∃ b σ1 j σ2 z σ3 x, a env σ = some (.ref b, σ1) ∧ i env σ1 = some (.int j, σ2) ∧ pT σ2 b = 13 ∧ ib j (pL σ2 b) = true ∧ e env σ2 = some (z, σ3) ∧ g (.int (pI σ2 b j.toNatClampNeg)) z = some (.int x) ∧ pT σ3 b = 13 ∧ ib j (pL σ3 b) = true ∧ σ' = uI σ3 b j.toNatClampNeg x ∧ r = .inl env := by
    intro env σ σ' r h
    obtain ⟨b, σ1, h1, h2⟩ := pm_ref h
    obtain ⟨j, σ2, h3, h4⟩ := pm_int h2
    obtain ⟨⟨h7, h8⟩, h9⟩ := pm_if h4
    obtain ⟨z, σ3, h10, h11⟩ := pm_opt h9
    split at h11
    · obtain ⟨⟨g1, g2⟩, g3⟩ := pm_if h11
      cases g3
      exact ⟨b, σ1, j, σ2, z, σ3, _, h1, h3, h7, h8, h10, by assumption, g1, g2, rfl, rfl⟩
    · cases h11
  refine ⟨fun env σ v σ' h => ?_, fun hG env σ r σ' h l1 l2 k1 k2 => ?_⟩
  · obtain ⟨b, σ1, j, σ2, z, σ3, x, h1, h2, -, -, h3, -, -, -, rfl, -⟩ := sp h
    obtain ⟨q1, q2⟩ := ha.1 _ _ _ _ h1
    obtain ⟨q3, q4⟩ := hi.1 _ _ _ _ h2
    obtain ⟨q5, q6⟩ := he.1 _ _ _ _ h3
    rw [pN_uI, pS_uI]
    exact ⟨by omega, by omega⟩
  · obtain ⟨b, σ1, j, σ2, z, σ3, x, h1, h2, h4, h5, h3, h6, h7, h8, rfl, h9⟩ := sp h
    obtain ⟨q3, q4⟩ := hi.1 _ _ _ _ h2
    obtain ⟨q5, q6⟩ := he.1 _ _ _ _ h3
    rw [pN_uI] at l1
    rw [pS_uI] at l2
    exact ha.2 hG env σ _ _ [] (Nat.le_refl _) h1 (by omega) (by omega) (hi.2 hG env σ1 _ _ [.ref b] (Nat.le_refl _) h2 (by omega) (by omega) (rw_dup2 hG d1 rfl rfl (rw_iaload hG d2 h4 (ib_in h5) (he.2 hG env σ2 _ _ [.int (pI σ2 b j.toNatClampNeg), .int j, .ref b] (Nat.le_refl _) h3 l1 l2 (hr.2 hG _ _ _ _ _ _ _ d3 h6 (rw_iastore hG d4 h7 (ib_in h8) (hj hG _ _ _ (k1 env h9))))))))
end COMB3
