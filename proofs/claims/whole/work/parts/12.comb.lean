/-! The words in which methods are told: expressions, conditions, statements over environments and abstract heaps; each with its row. -/
abbrev pm_E : Type := List Value → pm_H → Option (Value × pm_H)
abbrev pm_C : Type := List Value → pm_H → Option (Bool × pm_H)
abbrev pm_A : Type := List Value → pm_H → Option (List Value × pm_H)
abbrev pm_S : Type := List Value → pm_H → Option ((List Value ⊕ Option Value) × pm_H)
def pm_mo {α : Type} (f : List Value → pm_H → Option (α × pm_H)) : Prop := ∀ env σ v σ', f env σ = some (v, σ') → pN σ ≤ pN σ' ∧ pS σ ≤ pS σ'
def pm_sum (st : List Value) : Nat := (st.map fun v => v.category).sum
theorem pm_sum_cons (v : Value) (st : List Value) : pm_sum (v :: st) = v.category + pm_sum st := rfl
theorem pm_sum_app (a b : List Value) : pm_sum (a ++ b) = pm_sum a + pm_sum b := by simp [pm_sum]
theorem pm_sum_rev (a : List Value) : pm_sum a.reverse = pm_sum a := by simp [pm_sum]
section COMB
variable (cc : ByteArray) (y : MethodName) (nL rk : Nat)
/-- from pc on, with at most n words on the stack, the expression is reckoned, then pc' -/
def eOK (n pc pc' : Nat) (ev : pm_E) : Prop := pm_mo ev ∧ ∀ {lim lims : Nat} {G : pm_J} {Ret : Option Value → pm_H → Prop}, pm_G cc y nL rk lim lims G Ret → ∀ (env : List Value) (σ : pm_H) (v : Value) (σ' : pm_H) (st : List Value), pm_sum st ≤ n → ev env σ = some (v, σ') → pN σ' ≤ lim → pS σ' ≤ lims → G pc' env (v :: st) σ' → G pc env st σ
def aOK (n pc pc' : Nat) (ev : pm_A) : Prop := pm_mo ev ∧ ∀ {lim lims : Nat} {G : pm_J} {Ret : Option Value → pm_H → Prop}, pm_G cc y nL rk lim lims G Ret → ∀ (env : List Value) (σ : pm_H) (vs : List Value) (σ' : pm_H) (st : List Value), pm_sum st ≤ n → ev env σ = some (vs, σ') → pN σ' ≤ lim → pS σ' ≤ lims → G pc' env (vs.reverse ++ st) σ' → G pc env st σ
def cOK (n pc t f : Nat) (ev : pm_C) : Prop := pm_mo ev ∧ ∀ {lim lims : Nat} {G : pm_J} {Ret : Option Value → pm_H → Prop}, pm_G cc y nL rk lim lims G Ret → ∀ (env : List Value) (σ : pm_H) (b : Bool) (σ' : pm_H) (st : List Value), pm_sum st ≤ n → ev env σ = some (b, σ') → pN σ' ≤ lim → pS σ' ≤ lims → (b = true → G t env st σ') → (b = false → G f env st σ') → G pc env st σ
def sOK (pc nx : Nat) (ev : pm_S) : Prop := pm_mo ev ∧ ∀ {lim lims : Nat} {G : pm_J} {Ret : Option Value → pm_H → Prop}, pm_G cc y nL rk lim lims G Ret → ∀ (env : List Value) (σ : pm_H) (r : List Value ⊕ Option Value) (σ' : pm_H), ev env σ = some (r, σ') → pN σ' ≤ lim → pS σ' ≤ lims → (∀ env', r = .inl env' → G nx env' [] σ') → (∀ v, r = .inr v → Ret v σ') → G pc env [] σ
/-- from a the machine comes to b by jumps alone -/
def jOK (a b : Nat) : Prop := ∀ {lim lims : Nat} {G : pm_J} {Ret : Option Value → pm_H → Prop}, pm_G cc y nL rk lim lims G Ret → ∀ (env st : List Value) (σ : pm_H), G b env st σ → G a env st σ
end COMB
section COMB2
variable {cc : ByteArray} {y : MethodName} {nL rk : Nat} {n pc p1 p2 p3 t f nx : Nat}
theorem jO : jOK cc y nL rk pc pc := fun _ _ _ _ h => h
theorem jG {off : Int} {tgt b : Nat} (d : decode cc pc = .ok (.goto off, 3)) (ht : (pc : Int) + off = (tgt : Int)) (h : jOK cc y nL rk tgt b) : jOK cc y nL rk pc b := fun hG env st σ k => rw_goto hG d ht (h hG env st σ k)
-- constants
def eK (v : Value) : pm_E := fun _ σ => some (v, σ)
theorem eK_mo (v : Value) : pm_mo (eK v) := fun _ _ _ _ h => by cases h; exact ⟨Nat.le_refl _, Nat.le_refl _⟩
theorem eK_iconst {i : Int} {v : Int32} (d : decode cc pc = .ok (.iconst i, 1)) (hv : Int32.ofInt i = v) : eOK cc y nL rk n pc (pc + 1) (eK (.int v)) := by
  refine ⟨eK_mo _, fun hG env σ v' σ' st _ h _ _ k => ?_⟩
  cases h
  exact by subst hv; exact rw_iconst hG d k
theorem eK_bipush {i : Int} {v : Int32} (d : decode cc pc = .ok (.bipush i, 2)) (hv : (Int8.ofInt i).toInt32 = v) : eOK cc y nL rk n pc (pc + 2) (eK (.int v)) := by
  refine ⟨eK_mo _, fun hG env σ v' σ' st _ h _ _ k => ?_⟩
  cases h
  exact by subst hv; exact rw_bipush hG d k
theorem eK_sipush {i : Int} {v : Int32} (d : decode cc pc = .ok (.sipush i, 3)) (hv : (Int16.ofInt i).toInt32 = v) : eOK cc y nL rk n pc (pc + 3) (eK (.int v)) := by
  refine ⟨eK_mo _, fun hG env σ v' σ' st _ h _ _ k => ?_⟩
  cases h
  exact by subst hv; exact rw_sipush hG d k
theorem eK_lconst {i : Fin 2} {v : Int64} (d : decode cc pc = .ok (.lconst i, 1)) (hv : Int64.ofNat (i : Nat) = v) : eOK cc y nL rk n pc (pc + 1) (eK (.long v)) := by
  refine ⟨eK_mo _, fun hG env σ v' σ' st _ h _ _ k => ?_⟩
  cases h
  exact by subst hv; exact rw_lconst hG d k
theorem eK_null (d : decode cc pc = .ok (.aconst_null, 1)) : eOK cc y nL rk n pc (pc + 1) (eK (.null)) := by
  refine ⟨eK_mo _, fun hG env σ v' σ' st _ h _ _ k => ?_⟩
  cases h
  exact rw_null hG d k
theorem eK_ldc {i : Nat} {v : Int32} (d : decode cc pc = .ok (.ldc i, 2)) (hc : Cond.constant y.cls i v ∈ gws) : eOK cc y nL rk n pc (pc + 2) (eK (.int v)) := by
  refine ⟨eK_mo _, fun hG env σ v' σ' st _ h _ _ k => ?_⟩
  cases h
  exact rw_ldc hG d hc k
theorem eK_ldcw {i : Nat} {v : Int32} (d : decode cc pc = .ok (.ldc_w i, 3)) (hc : Cond.constant y.cls i v ∈ gws) : eOK cc y nL rk n pc (pc + 3) (eK (.int v)) := by
  refine ⟨eK_mo _, fun hG env σ v' σ' st _ h _ _ k => ?_⟩
  cases h
  exact rw_ldcw hG d hc k
theorem eK_ldc2 {i : Nat} {v : Int64} (d : decode cc pc = .ok (.ldc2_w i, 3)) (hc : Cond.constantLong y.cls i v ∈ gws) : eOK cc y nL rk n pc (pc + 3) (eK (.long v)) := by
  refine ⟨eK_mo _, fun hG env σ v' σ' st _ h _ _ k => ?_⟩
  cases h
  exact rw_ldc2 hG d hc k
theorem eK_ldcs {i j : Nat} {t : String} (d : decode cc pc = .ok (.ldc j, 2)) (hy : y.cls = RX7) (hc : pm_txt[i]? = some (j, t)) : eOK cc y nL rk n pc (pc + 2) (eK (.ref i)) := by
  refine ⟨eK_mo _, fun hG env σ v' σ' st _ h _ _ k => ?_⟩
  cases h
  exact rw_ldcs hG d hy hc k
-- locals
def eLi (k : Nat) : pm_E := fun env σ => match env[k]? with
  | some (.int x) => some (.int x, σ)
  | _ => none
def eLj (k : Nat) : pm_E := fun env σ => match env[k]? with
  | some (.long x) => some (.long x, σ)
  | _ => none
def eLa (k : Nat) : pm_E := fun env σ => match env[k]? with
  | some (.ref x) => some (.ref x, σ)
  | some .null => some (.null, σ)
  | _ => none
theorem eLi_sp {k : Nat} {env : List Value} {σ σ' : pm_H} {v : Value} (h : eLi k env σ = some (v, σ')) : ∃ x, v = .int x ∧ σ' = σ ∧ env[k]? = some (.int x) := by
  unfold eLi at h
  split at h
  · cases h; exact ⟨_, rfl, rfl, by assumption⟩
  · cases h
theorem eLj_sp {k : Nat} {env : List Value} {σ σ' : pm_H} {v : Value} (h : eLj k env σ = some (v, σ')) : ∃ x, v = .long x ∧ σ' = σ ∧ env[k]? = some (.long x) := by
  unfold eLj at h
  split at h
  · cases h; exact ⟨_, rfl, rfl, by assumption⟩
  · cases h
theorem eLa_sp {k : Nat} {env : List Value} {σ σ' : pm_H} {v : Value} (h : eLa k env σ = some (v, σ')) : ∃ r, v = va_rf r ∧ σ' = σ ∧ env[k]? = some (va_rf r) := by
  unfold eLa at h
  split at h
  · cases h; exact ⟨some _, rfl, rfl, by assumption⟩
  · cases h; exact ⟨none, rfl, rfl, by assumption⟩
  · cases h
theorem pm_mo.of {α : Type} {f : List Value → pm_H → Option (α × pm_H)} (h : ∀ env σ v σ', f env σ = some (v, σ') → σ' = σ) : pm_mo f := fun env σ v σ' q => by rw [h env σ v σ' q]; exact ⟨Nat.le_refl _, Nat.le_refl _⟩
theorem eLi_mo (k : Nat) : pm_mo (eLi k) := pm_mo.of fun _ _ _ _ h => by obtain ⟨_, -, h, -⟩ := eLi_sp h; exact h
theorem eLj_mo (k : Nat) : pm_mo (eLj k) := pm_mo.of fun _ _ _ _ h => by obtain ⟨_, -, h, -⟩ := eLj_sp h; exact h
theorem eLa_mo (k : Nat) : pm_mo (eLa k) := pm_mo.of fun _ _ _ _ h => by obtain ⟨_, -, h, -⟩ := eLa_sp h; exact h
theorem eLi_n {k : Fin 4} {i : Nat} (d : decode cc pc = .ok (.iload_n k, 1)) (hi : (k : Nat) = i) : eOK cc y nL rk n pc (pc + 1) (eLi i) := by
  subst hi
  refine ⟨eLi_mo _, fun hG env σ v σ' st _ h _ _ k => ?_⟩
  obtain ⟨x, rfl, rfl, hh⟩ := eLi_sp h
  exact rw_iload_n hG d hh k
theorem eLi_w {i : Nat} (d : decode cc pc = .ok (.iload i, 2)) : eOK cc y nL rk n pc (pc + 2) (eLi i) := by
  refine ⟨eLi_mo _, fun hG env σ v σ' st _ h _ _ k => ?_⟩
  obtain ⟨x, rfl, rfl, hh⟩ := eLi_sp h
  exact rw_iload hG d hh k
theorem eLj_n {k : Fin 4} {i : Nat} (d : decode cc pc = .ok (.lload_n k, 1)) (hi : (k : Nat) = i) : eOK cc y nL rk n pc (pc + 1) (eLj i) := by
  subst hi
  refine ⟨eLj_mo _, fun hG env σ v σ' st _ h _ _ k => ?_⟩
  obtain ⟨x, rfl, rfl, hh⟩ := eLj_sp h
  exact rw_lload_n hG d hh k
theorem eLj_w {i : Nat} (d : decode cc pc = .ok (.lload i, 2)) : eOK cc y nL rk n pc (pc + 2) (eLj i) := by
  refine ⟨eLj_mo _, fun hG env σ v σ' st _ h _ _ k => ?_⟩
  obtain ⟨x, rfl, rfl, hh⟩ := eLj_sp h
  exact rw_lload hG d hh k
theorem eLa_n {k : Fin 4} {i : Nat} (d : decode cc pc = .ok (.aload_n k, 1)) (hi : (k : Nat) = i) : eOK cc y nL rk n pc (pc + 1) (eLa i) := by
  subst hi
  refine ⟨eLa_mo _, fun hG env σ v σ' st _ h _ _ k => ?_⟩
  obtain ⟨x, rfl, rfl, hh⟩ := eLa_sp h
  exact rw_aload_n hG d hh k
theorem eLa_w {i : Nat} (d : decode cc pc = .ok (.aload i, 2)) : eOK cc y nL rk n pc (pc + 2) (eLa i) := by
  refine ⟨eLa_mo _, fun hG env σ v σ' st _ h _ _ k => ?_⟩
  obtain ⟨x, rfl, rfl, hh⟩ := eLa_sp h
  exact rw_aload hG d hh k
-- one and two operands
def eU (g : Value → Option Value) (a : pm_E) : pm_E := fun env σ => match a env σ with
  | some (x, σ1) => match g x with
    | some v => some (v, σ1)
    | none => none
  | none => none
def eB (g : Value → Value → Option Value) (a b : pm_E) : pm_E := fun env σ => match a env σ with
  | some (x, σ1) => match b env σ1 with
    | some (z, σ2) => match g x z with
      | some v => some (v, σ2)
      | none => none
    | none => none
  | none => none
theorem eU_sp {g : Value → Option Value} {a : pm_E} {env : List Value} {σ σ' : pm_H} {v : Value} (h : eU g a env σ = some (v, σ')) : ∃ x, a env σ = some (x, σ') ∧ g x = some v := by
  unfold eU at h
  cases ha : a env σ with
  | none => rw [ha] at h; cases h
  | some q =>
    obtain ⟨x, σ1⟩ := q
    rw [ha] at h
    cases hg : g x with
    | none => simp only [hg] at h; cases h
    | some w => simp only [hg] at h; cases h; exact ⟨x, rfl, hg⟩
theorem eB_sp {g : Value → Value → Option Value} {a b : pm_E} {env : List Value} {σ σ' : pm_H} {v : Value} (h : eB g a b env σ = some (v, σ')) : ∃ x σ1 z, a env σ = some (x, σ1) ∧ b env σ1 = some (z, σ') ∧ g x z = some v := by
  unfold eB at h
  cases ha : a env σ with
  | none => rw [ha] at h; cases h
  | some q =>
    obtain ⟨x, σ1⟩ := q
    simp only [ha] at h
    cases hb : b env σ1 with
    | none => rw [hb] at h; cases h
    | some q2 =>
      obtain ⟨z, σ2⟩ := q2
      simp only [hb] at h
      cases hg : g x z with
      | none => simp only [hg] at h; cases h
      | some w => simp only [hg] at h; cases h; exact ⟨x, σ1, z, rfl, hb, hg⟩
def rU (cc : ByteArray) (y : MethodName) (nL rk : Nat) (i : Instr) (g : Value → Option Value) : Prop := ∀ {lim lims : Nat} {G : pm_J} {Ret : Option Value → pm_H → Prop}, pm_G cc y nL rk lim lims G Ret → ∀ (pc : Nat) (env : List Value) (st : List Value) (σ : pm_H) (x v : Value), decode cc pc = .ok (i, 1) → g x = some v → G (pc + 1) env (v :: st) σ → G pc env (x :: st) σ
def rB (cc : ByteArray) (y : MethodName) (nL rk : Nat) (w : Nat) (i : Instr) (g : Value → Value → Option Value) : Prop := (∀ x z v, g x z = some v → x.category ≤ w) ∧ ∀ {lim lims : Nat} {G : pm_J} {Ret : Option Value → pm_H → Prop}, pm_G cc y nL rk lim lims G Ret → ∀ (pc : Nat) (env : List Value) (st : List Value) (σ : pm_H) (x z v : Value), decode cc pc = .ok (i, 1) → g x z = some v → G (pc + 1) env (v :: st) σ → G pc env (z :: x :: st) σ
theorem eU_mo {g : Value → Option Value} {a : pm_E} (ha : pm_mo a) : pm_mo (eU g a) := fun env σ v σ' h => by
  obtain ⟨x, h1, -⟩ := eU_sp h
  exact ha _ _ _ _ h1
theorem eB_mo {g : Value → Value → Option Value} {a b : pm_E} (ha : pm_mo a) (hb : pm_mo b) : pm_mo (eB g a b) := fun env σ v σ' h => by
  obtain ⟨x, σ1, z, h1, h2, -⟩ := eB_sp h
  obtain ⟨q1, q2⟩ := ha _ _ _ _ h1
  obtain ⟨q3, q4⟩ := hb _ _ _ _ h2
  exact ⟨by omega, by omega⟩
theorem eU_ok {g : Value → Option Value} {a : pm_E} {i : Instr} (hr : rU cc y nL rk i g) (ha : eOK cc y nL rk n pc p1 a) (d : decode cc p1 = .ok (i, 1)) : eOK cc y nL rk n pc (p1 + 1) (eU g a) := by
  refine ⟨eU_mo ha.1, fun hG env σ v σ' st hs h l1 l2 k => ?_⟩
  obtain ⟨x, h1, h2⟩ := eU_sp h
  exact ha.2 hG env σ x σ' st hs h1 l1 l2 (hr hG _ _ _ _ _ _ d h2 k)
theorem eB_ok {g : Value → Value → Option Value} {a b : pm_E} {w : Nat} {i : Instr} (hr : rB cc y nL rk w i g) (ha : eOK cc y nL rk n pc p1 a) (hb : eOK cc y nL rk (n + w) p1 p2 b) (d : decode cc p2 = .ok (i, 1)) : eOK cc y nL rk n pc (p2 + 1) (eB g a b) := by
  refine ⟨eB_mo ha.1 hb.1, fun hG env σ v σ' st hs h l1 l2 k => ?_⟩
  obtain ⟨x, σ1, z, h1, h2, h3⟩ := eB_sp h
  obtain ⟨q1, q2⟩ := hb.1 _ _ _ _ h2
  refine ha.2 hG env σ x σ1 st hs h1 (by omega) (by omega) (hb.2 hG env σ1 z σ' (x :: st) ?_ h2 l1 l2 (hr.2 hG _ _ _ _ _ _ _ d h3 k))
  have := hr.1 _ _ _ h3
  rw [pm_sum_cons]; omega
-- the operations
def o1 (g : Int32 → Int32) : Value → Option Value := fun x => match x with
  | .int a => some (.int (g a))
  | _ => none
def o1ij (g : Int32 → Int64) : Value → Option Value := fun x => match x with
  | .int a => some (.long (g a))
  | _ => none
def o1ji (g : Int64 → Int32) : Value → Option Value := fun x => match x with
  | .long a => some (.int (g a))
  | _ => none
def o2 (g : Int32 → Int32 → Int32) : Value → Value → Option Value := fun x z => match x, z with
  | .int a, .int b => some (.int (g a b))
  | _, _ => none
def o2d (g : Int32 → Int32 → Int32) : Value → Value → Option Value := fun x z => match x, z with
  | .int a, .int b => if b = 0 then none else some (.int (g a b))
  | _, _ => none
def o2j (g : Int64 → Int64 → Int64) : Value → Value → Option Value := fun x z => match x, z with
  | .long a, .long b => some (.long (g a b))
  | _, _ => none
def o2ji (g : Int64 → Int32 → Int64) : Value → Value → Option Value := fun x z => match x, z with
  | .long a, .int b => some (.long (g a b))
  | _, _ => none
def o2c (g : Int64 → Int64 → Int32) : Value → Value → Option Value := fun x z => match x, z with
  | .long a, .long b => some (.int (g a b))
  | _, _ => none
theorem o1_sp {g : Int32 → Int32} {x v : Value} (h : o1 g x = some v) : ∃ a, x = .int a ∧ v = .int (g a) := by
  cases x <;> first | (cases h; exact ⟨_, rfl, rfl⟩) | cases h
theorem o1ij_sp {g : Int32 → Int64} {x v : Value} (h : o1ij g x = some v) : ∃ a, x = .int a ∧ v = .long (g a) := by
  cases x <;> first | (cases h; exact ⟨_, rfl, rfl⟩) | cases h
theorem o1ji_sp {g : Int64 → Int32} {x v : Value} (h : o1ji g x = some v) : ∃ a, x = .long a ∧ v = .int (g a) := by
  cases x <;> first | (cases h; exact ⟨_, rfl, rfl⟩) | cases h
theorem o2_sp {g : Int32 → Int32 → Int32} {x z v : Value} (h : o2 g x z = some v) : ∃ a b, x = .int a ∧ z = .int b ∧ v = .int (g a b) := by
  cases x <;> cases z <;> first | (cases h; exact ⟨_, _, rfl, rfl, rfl⟩) | cases h
theorem o2d_sp {g : Int32 → Int32 → Int32} {x z v : Value} (h : o2d g x z = some v) : ∃ a b, x = .int a ∧ z = .int b ∧ ¬ b = 0 ∧ v = .int (g a b) := by
  cases x with
  | int a =>
    cases z with
    | int b =>
      simp only [o2d] at h
      by_cases hb : b = 0
      · rw [if_pos hb] at h; cases h
      · rw [if_neg hb] at h; cases h; exact ⟨_, _, rfl, rfl, hb, rfl⟩
    | _ => cases h
  | _ => cases h
theorem o2j_sp {g : Int64 → Int64 → Int64} {x z v : Value} (h : o2j g x z = some v) : ∃ a b, x = .long a ∧ z = .long b ∧ v = .long (g a b) := by
  cases x <;> cases z <;> first | (cases h; exact ⟨_, _, rfl, rfl, rfl⟩) | cases h
theorem o2ji_sp {g : Int64 → Int32 → Int64} {x z v : Value} (h : o2ji g x z = some v) : ∃ a b, x = .long a ∧ z = .int b ∧ v = .long (g a b) := by
  cases x <;> cases z <;> first | (cases h; exact ⟨_, _, rfl, rfl, rfl⟩) | cases h
theorem o2c_sp {g : Int64 → Int64 → Int32} {x z v : Value} (h : o2c g x z = some v) : ∃ a b, x = .long a ∧ z = .long b ∧ v = .int (g a b) := by
  cases x <;> cases z <;> first | (cases h; exact ⟨_, _, rfl, rfl, rfl⟩) | cases h
abbrev f_iadd : Value → Value → Option Value := o2 (fun a b => a + b)
theorem b_iadd : rB cc y nL rk 1 .iadd f_iadd := by
  refine ⟨fun x z v h => ?_, fun hG pc env st σ x z v d h k => ?_⟩
  · obtain ⟨a, b, rfl, rfl, rfl⟩ := o2_sp h; exact Nat.le_refl _
  · obtain ⟨a, b, rfl, rfl, rfl⟩ := o2_sp h; exact rw_iadd hG d k
abbrev f_isub : Value → Value → Option Value := o2 (fun a b => a - b)
theorem b_isub : rB cc y nL rk 1 .isub f_isub := by
  refine ⟨fun x z v h => ?_, fun hG pc env st σ x z v d h k => ?_⟩
  · obtain ⟨a, b, rfl, rfl, rfl⟩ := o2_sp h; exact Nat.le_refl _
  · obtain ⟨a, b, rfl, rfl, rfl⟩ := o2_sp h; exact rw_isub hG d k
abbrev f_imul : Value → Value → Option Value := o2 (fun a b => a * b)
theorem b_imul : rB cc y nL rk 1 .imul f_imul := by
  refine ⟨fun x z v h => ?_, fun hG pc env st σ x z v d h k => ?_⟩
  · obtain ⟨a, b, rfl, rfl, rfl⟩ := o2_sp h; exact Nat.le_refl _
  · obtain ⟨a, b, rfl, rfl, rfl⟩ := o2_sp h; exact rw_imul hG d k
abbrev f_iand : Value → Value → Option Value := o2 (fun a b => a &&& b)
theorem b_iand : rB cc y nL rk 1 .iand f_iand := by
  refine ⟨fun x z v h => ?_, fun hG pc env st σ x z v d h k => ?_⟩
  · obtain ⟨a, b, rfl, rfl, rfl⟩ := o2_sp h; exact Nat.le_refl _
  · obtain ⟨a, b, rfl, rfl, rfl⟩ := o2_sp h; exact rw_iand hG d k
abbrev f_ior : Value → Value → Option Value := o2 (fun a b => a ||| b)
theorem b_ior : rB cc y nL rk 1 .ior f_ior := by
  refine ⟨fun x z v h => ?_, fun hG pc env st σ x z v d h k => ?_⟩
  · obtain ⟨a, b, rfl, rfl, rfl⟩ := o2_sp h; exact Nat.le_refl _
  · obtain ⟨a, b, rfl, rfl, rfl⟩ := o2_sp h; exact rw_ior hG d k
abbrev f_ixor : Value → Value → Option Value := o2 (fun a b => a ^^^ b)
theorem b_ixor : rB cc y nL rk 1 .ixor f_ixor := by
  refine ⟨fun x z v h => ?_, fun hG pc env st σ x z v d h k => ?_⟩
  · obtain ⟨a, b, rfl, rfl, rfl⟩ := o2_sp h; exact Nat.le_refl _
  · obtain ⟨a, b, rfl, rfl, rfl⟩ := o2_sp h; exact rw_ixor hG d k
abbrev f_ishl : Value → Value → Option Value := o2 (fun a b => a <<< (b &&& 31))
theorem b_ishl : rB cc y nL rk 1 .ishl f_ishl := by
  refine ⟨fun x z v h => ?_, fun hG pc env st σ x z v d h k => ?_⟩
  · obtain ⟨a, b, rfl, rfl, rfl⟩ := o2_sp h; exact Nat.le_refl _
  · obtain ⟨a, b, rfl, rfl, rfl⟩ := o2_sp h; exact rw_ishl hG d k
abbrev f_ishr : Value → Value → Option Value := o2 (fun a b => a >>> (b &&& 31))
theorem b_ishr : rB cc y nL rk 1 .ishr f_ishr := by
  refine ⟨fun x z v h => ?_, fun hG pc env st σ x z v d h k => ?_⟩
  · obtain ⟨a, b, rfl, rfl, rfl⟩ := o2_sp h; exact Nat.le_refl _
  · obtain ⟨a, b, rfl, rfl, rfl⟩ := o2_sp h; exact rw_ishr hG d k
abbrev f_iushr : Value → Value → Option Value := o2 (fun a b => (a.toUInt32 >>> (b.toUInt32 &&& Int32.toUInt32 31)).toInt32)
theorem b_iushr : rB cc y nL rk 1 .iushr f_iushr := by
  refine ⟨fun x z v h => ?_, fun hG pc env st σ x z v d h k => ?_⟩
  · obtain ⟨a, b, rfl, rfl, rfl⟩ := o2_sp h; exact Nat.le_refl _
  · obtain ⟨a, b, rfl, rfl, rfl⟩ := o2_sp h; exact rw_iushr hG d k
abbrev f_idiv : Value → Value → Option Value := o2d (fun a b => a / b)
theorem b_idiv : rB cc y nL rk 1 .idiv f_idiv := by
  refine ⟨fun x z v h => ?_, fun hG pc env st σ x z v d h k => ?_⟩
  · obtain ⟨a, b, rfl, rfl, hn, rfl⟩ := o2d_sp h; exact Nat.le_refl _
  · obtain ⟨a, b, rfl, rfl, hn, rfl⟩ := o2d_sp h; exact rw_idiv hG d hn k
abbrev f_irem : Value → Value → Option Value := o2d (fun a b => a - a / b * b)
theorem b_irem : rB cc y nL rk 1 .irem f_irem := by
  refine ⟨fun x z v h => ?_, fun hG pc env st σ x z v d h k => ?_⟩
  · obtain ⟨a, b, rfl, rfl, hn, rfl⟩ := o2d_sp h; exact Nat.le_refl _
  · obtain ⟨a, b, rfl, rfl, hn, rfl⟩ := o2d_sp h; exact rw_irem hG d hn k
abbrev f_ladd : Value → Value → Option Value := o2j (fun a b => a + b)
theorem b_ladd : rB cc y nL rk 2 .ladd f_ladd := by
  refine ⟨fun x z v h => ?_, fun hG pc env st σ x z v d h k => ?_⟩
  · obtain ⟨a, b, rfl, rfl, rfl⟩ := o2j_sp h; exact Nat.le_refl _
  · obtain ⟨a, b, rfl, rfl, rfl⟩ := o2j_sp h; exact rw_ladd hG d k
abbrev f_lsub : Value → Value → Option Value := o2j (fun a b => a - b)
theorem b_lsub : rB cc y nL rk 2 .lsub f_lsub := by
  refine ⟨fun x z v h => ?_, fun hG pc env st σ x z v d h k => ?_⟩
  · obtain ⟨a, b, rfl, rfl, rfl⟩ := o2j_sp h; exact Nat.le_refl _
  · obtain ⟨a, b, rfl, rfl, rfl⟩ := o2j_sp h; exact rw_lsub hG d k
abbrev f_lmul : Value → Value → Option Value := o2j (fun a b => a * b)
theorem b_lmul : rB cc y nL rk 2 .lmul f_lmul := by
  refine ⟨fun x z v h => ?_, fun hG pc env st σ x z v d h k => ?_⟩
  · obtain ⟨a, b, rfl, rfl, rfl⟩ := o2j_sp h; exact Nat.le_refl _
  · obtain ⟨a, b, rfl, rfl, rfl⟩ := o2j_sp h; exact rw_lmul hG d k
abbrev f_land : Value → Value → Option Value := o2j (fun a b => a &&& b)
theorem b_land : rB cc y nL rk 2 .land f_land := by
  refine ⟨fun x z v h => ?_, fun hG pc env st σ x z v d h k => ?_⟩
  · obtain ⟨a, b, rfl, rfl, rfl⟩ := o2j_sp h; exact Nat.le_refl _
  · obtain ⟨a, b, rfl, rfl, rfl⟩ := o2j_sp h; exact rw_land hG d k
abbrev f_lor : Value → Value → Option Value := o2j (fun a b => a ||| b)
theorem b_lor : rB cc y nL rk 2 .lor f_lor := by
  refine ⟨fun x z v h => ?_, fun hG pc env st σ x z v d h k => ?_⟩
  · obtain ⟨a, b, rfl, rfl, rfl⟩ := o2j_sp h; exact Nat.le_refl _
  · obtain ⟨a, b, rfl, rfl, rfl⟩ := o2j_sp h; exact rw_lor hG d k
abbrev f_lshl : Value → Value → Option Value := o2ji (fun a b => a <<< (b.toInt64 &&& 63))
theorem b_lshl : rB cc y nL rk 2 .lshl f_lshl := by
  refine ⟨fun x z v h => ?_, fun hG pc env st σ x z v d h k => ?_⟩
  · obtain ⟨a, b, rfl, rfl, rfl⟩ := o2ji_sp h; exact Nat.le_refl _
  · obtain ⟨a, b, rfl, rfl, rfl⟩ := o2ji_sp h; exact rw_lshl hG d k
abbrev f_lshr : Value → Value → Option Value := o2ji (fun a b => a >>> (b.toInt64 &&& 63))
theorem b_lshr : rB cc y nL rk 2 .lshr f_lshr := by
  refine ⟨fun x z v h => ?_, fun hG pc env st σ x z v d h k => ?_⟩
  · obtain ⟨a, b, rfl, rfl, rfl⟩ := o2ji_sp h; exact Nat.le_refl _
  · obtain ⟨a, b, rfl, rfl, rfl⟩ := o2ji_sp h; exact rw_lshr hG d k
abbrev f_lushr : Value → Value → Option Value := o2ji (fun a b => (a.toUInt64 >>> (b.toInt64.toUInt64 &&& Int64.toUInt64 63)).toInt64)
theorem b_lushr : rB cc y nL rk 2 .lushr f_lushr := by
  refine ⟨fun x z v h => ?_, fun hG pc env st σ x z v d h k => ?_⟩
  · obtain ⟨a, b, rfl, rfl, rfl⟩ := o2ji_sp h; exact Nat.le_refl _
  · obtain ⟨a, b, rfl, rfl, rfl⟩ := o2ji_sp h; exact rw_lushr hG d k
abbrev f_lcmp : Value → Value → Option Value := o2c (fun a b => lg_cmp a b)
theorem b_lcmp : rB cc y nL rk 2 .lcmp f_lcmp := by
  refine ⟨fun x z v h => ?_, fun hG pc env st σ x z v d h k => ?_⟩
  · obtain ⟨a, b, rfl, rfl, rfl⟩ := o2c_sp h; exact Nat.le_refl _
  · obtain ⟨a, b, rfl, rfl, rfl⟩ := o2c_sp h; exact rw_lcmp hG d k
abbrev f_i2l : Value → Option Value := o1ij (fun a => a.toInt64)
theorem u_i2l : rU cc y nL rk .i2l f_i2l := by
  intro lim lims G Ret hG pc env st σ x v d h k
  obtain ⟨a, rfl, rfl⟩ := o1ij_sp h
  exact rw_i2l hG d k
abbrev f_l2i : Value → Option Value := o1ji (fun a => a.toInt32)
theorem u_l2i : rU cc y nL rk .l2i f_l2i := by
  intro lim lims G Ret hG pc env st σ x v d h k
  obtain ⟨a, rfl, rfl⟩ := o1ji_sp h
  exact rw_l2i hG d k
abbrev f_i2b : Value → Option Value := o1 (fun a => a.toInt8.toInt32)
theorem u_i2b : rU cc y nL rk .i2b f_i2b := by
  intro lim lims G Ret hG pc env st σ x v d h k
  obtain ⟨a, rfl, rfl⟩ := o1_sp h
  exact rw_i2b hG d k
abbrev f_i2s : Value → Option Value := o1 (fun a => a.toInt16.toInt32)
theorem u_i2s : rU cc y nL rk .i2s f_i2s := by
  intro lim lims G Ret hG pc env st σ x v d h k
  obtain ⟨a, rfl, rfl⟩ := o1_sp h
  exact rw_i2s hG d k
abbrev f_i2c : Value → Option Value := o1 (fun a => (a.toUInt32 % 65536).toInt32)
theorem u_i2c : rU cc y nL rk .i2c f_i2c := by
  intro lim lims G Ret hG pc env st σ x v d h k
  obtain ⟨a, rfl, rfl⟩ := o1_sp h
  exact rw_i2c hG d k
end COMB2
