/-! Reckoning with the words: outermost first, with what comes behind as a function. -/
def rE {α : Type} (e : pm_E) (env : List Value) (σ : pm_H) (k : Value → pm_H → Option α) : Option α := match e env σ with
  | some (v, σ1) => k v σ1
  | none => none
def rC {α : Type} (c : pm_C) (env : List Value) (σ : pm_H) (k : Bool → pm_H → Option α) : Option α := match c env σ with
  | some (v, σ1) => k v σ1
  | none => none
def rA {α : Type} (a : pm_A) (env : List Value) (σ : pm_H) (k : List Value → pm_H → Option α) : Option α := match a env σ with
  | some (v, σ1) => k v σ1
  | none => none
def rD {α : Type} (D : pm_D) (vs : List Value) (σ : pm_H) (k : Option Value → pm_H → Option α) : Option α := match D vs σ with
  | some (v, σ1) => k v σ1
  | none => none
def rS {α : Type} (s : pm_S) (env : List Value) (σ : pm_H) (kn : List Value → pm_H → Option α) (kr : Option Value → pm_H → Option α) : Option α := match s env σ with
  | some (.inl env1, σ1) => kn env1 σ1
  | some (.inr v, σ1) => kr v σ1
  | none => none
section CPS
variable {α : Type} {env : List Value} {σ : pm_H} {K : Value → pm_H → Option α} {KC : Bool → pm_H → Option α} {KA : List Value → pm_H → Option α} {KD : Option Value → pm_H → Option α} {kn : List Value → pm_H → Option α} {kr : Option Value → pm_H → Option α}
theorem rE_of {e : pm_E} {v : Value} {σ1 : pm_H} (h : e env σ = some (v, σ1)) : rE e env σ K = K v σ1 := by simp only [rE, h]
theorem rC_of {e : pm_C} {v : Bool} {σ1 : pm_H} (h : e env σ = some (v, σ1)) : rC e env σ KC = KC v σ1 := by simp only [rC, h]
theorem rD_of {D : pm_D} {vs : List Value} {v : Option Value} {σ1 : pm_H} (h : D vs σ = some (v, σ1)) : rD D vs σ KD = KD v σ1 := by simp only [rD, h]
theorem rS_inl {s : pm_S} {env1 : List Value} {σ1 : pm_H} (h : s env σ = some (.inl env1, σ1)) : rS s env σ kn kr = kn env1 σ1 := by simp only [rS, h]
theorem rS_inr {s : pm_S} {v : Option Value} {σ1 : pm_H} (h : s env σ = some (.inr v, σ1)) : rS s env σ kn kr = kr v σ1 := by simp only [rS, h]
theorem rE_un {e : pm_E} : e env σ = rE e env σ (fun v σ1 => some (v, σ1)) := by
  unfold rE; cases e env σ <;> rfl
theorem rC_un {e : pm_C} : e env σ = rC e env σ (fun v σ1 => some (v, σ1)) := by
  unfold rC; cases e env σ <;> rfl
theorem rD_un {D : pm_D} {vs : List Value} : D vs σ = rD D vs σ (fun v σ1 => some (v, σ1)) := by
  unfold rD; cases D vs σ <;> rfl
theorem rS_un {s : pm_S} : s env σ = rS s env σ (fun e σ1 => some (.inl e, σ1)) (fun v σ1 => some (.inr v, σ1)) := by
  unfold rS
  cases h : s env σ with
  | none => rfl
  | some q => obtain ⟨a | b, c⟩ := q <;> rfl
theorem mt_if {P : Prop} [Decidable P] {X : Value × pm_H} : (match (if P then some X else none) with
  | some (v, σ1) => K v σ1
  | none => none) = if P then K X.1 X.2 else none := by
  by_cases h : P <;> simp [h]
theorem ms_if {P : Prop} [Decidable P] {e1 : List Value} {X : pm_H} : (match (if P then some ((.inl e1 : List Value ⊕ Option Value), X) else none) with
  | some (.inl env1, σ1) => kn env1 σ1
  | some (.inr v, σ1) => kr v σ1
  | none => none) = if P then kn e1 X else none := by
  by_cases h : P <;> simp [h]
-- expressions
theorem rE_eK {v : Value} : rE (eK v) env σ K = K v σ := Eq.trans rfl rfl
theorem rE_eLi {i : Nat} : rE (eLi i) env σ K = match env[i]? with
  | some (.int x) => K (.int x) σ
  | _ => none := by
  cases h : env[i]? with
  | none => simp only [rE, eLi, h]
  | some v => cases v <;> simp only [rE, eLi, h]
theorem rE_eLj {i : Nat} : rE (eLj i) env σ K = match env[i]? with
  | some (.long x) => K (.long x) σ
  | _ => none := by
  cases h : env[i]? with
  | none => simp only [rE, eLj, h]
  | some v => cases v <;> simp only [rE, eLj, h]
theorem rE_eLa {i : Nat} : rE (eLa i) env σ K = match env[i]? with
  | some (.ref x) => K (.ref x) σ
  | some .null => K .null σ
  | _ => none := by
  cases h : env[i]? with
  | none => simp only [rE, eLa, h]
  | some v => cases v <;> simp only [rE, eLa, h]
theorem rE_eU {g : Value → Option Value} {a : pm_E} : rE (eU g a) env σ K = rE a env σ (fun x σ1 => match g x with
  | some v => K v σ1
  | none => none) := by
  unfold rE eU
  cases a env σ with
  | none => rfl
  | some q => obtain ⟨x, σ1⟩ := q; dsimp only; cases g x <;> rfl
theorem rE_eB {g : Value → Value → Option Value} {a b : pm_E} : rE (eB g a b) env σ K = rE a env σ (fun x σ1 => rE b env σ1 (fun z σ2 => match g x z with
  | some v => K v σ2
  | none => none)) := by
  unfold rE eB
  cases a env σ with
  | none => rfl
  | some q =>
    obtain ⟨x, σ1⟩ := q
    dsimp only
    cases b env σ1 with
    | none => rfl
    | some q => obtain ⟨z, σ2⟩ := q; dsimp only; cases g x z <;> rfl
/-- by what stands there: a reference, an int, a long -/
def kR (v : Value) (F : Nat → Option α) : Option α := match v with
  | .ref b => F b
  | _ => none
def kI2 (v : Value) (F : Int32 → Option α) : Option α := match v with
  | .int b => F b
  | _ => none
def kJ2 (v : Value) (F : Int64 → Option α) : Option α := match v with
  | .long b => F b
  | _ => none
theorem kR_ref {b : Nat} {F : Nat → Option α} : kR (.ref b) F = F b := Eq.trans rfl rfl
theorem kI_int {b : Int32} {F : Int32 → Option α} : kI2 (.int b) F = F b := Eq.trans rfl rfl
theorem kJ_long {b : Int64} {F : Int64 → Option α} : kJ2 (.long b) F = F b := Eq.trans rfl rfl
theorem rE_eG {cs : Nat → Bool} {ty k : Nat} {a : pm_E} : rE (eG cs ty k a) env σ K = rE a env σ (fun x σ1 => kR x (fun b => if cs (pT σ1 b) = true then K (pm_fv (pI σ1 b) (pJ σ1 b) (pR σ1 b) ty k) σ1 else none)) := by
  unfold rE eG kR
  cases a env σ with
  | none => rfl
  | some q =>
    obtain ⟨x, σ1⟩ := q
    cases x <;> try rfl
    exact mt_if
theorem rE_eIF {cs : Nat → Bool} {k : Nat} {a : pm_E} : rE (eIF cs k a) env σ K = rE a env σ (fun x σ1 => kR x (fun b => if cs (pT σ1 b) = true then K (.int (pI σ1 b k)) (uI σ1 b k (pI σ1 b k + 1)) else none)) := by
  unfold rE eIF kR
  cases a env σ with
  | none => rfl
  | some q =>
    obtain ⟨x, σ1⟩ := q
    cases x <;> try rfl
    exact mt_if
theorem rE_eAI {a i : pm_E} : rE (eAI a i) env σ K = rE a env σ (fun x σ1 => kR x (fun b => rE i env σ1 (fun z σ2 => kI2 z (fun j => if pT σ2 b = 13 ∧ ib j (pL σ2 b) = true then K (.int (pI σ2 b j.toNatClampNeg)) σ2 else none)))) := by
  unfold rE eAI kR kI2
  cases a env σ with
  | none => rfl
  | some q =>
    obtain ⟨x, σ1⟩ := q
    cases x <;> try rfl
    dsimp only
    cases i env σ1 with
    | none => rfl
    | some q =>
      obtain ⟨z, σ2⟩ := q
      cases z <;> try rfl
      exact mt_if
theorem rE_eAX {a i : pm_E} : rE (eAX a i) env σ K = rE a env σ (fun x σ1 => kR x (fun b => rE i env σ1 (fun z σ2 => kI2 z (fun j => if pT σ2 b = 18 ∧ ib j (pL σ2 b) = true then K (.int (pI σ2 b j.toNatClampNeg)) σ2 else none)))) := by
  unfold rE eAX kR kI2
  cases a env σ with
  | none => rfl
  | some q =>
    obtain ⟨x, σ1⟩ := q
    cases x <;> try rfl
    dsimp only
    cases i env σ1 with
    | none => rfl
    | some q =>
      obtain ⟨z, σ2⟩ := q
      cases z <;> try rfl
      exact mt_if
theorem rE_eAJ {a i : pm_E} : rE (eAJ a i) env σ K = rE a env σ (fun x σ1 => kR x (fun b => rE i env σ1 (fun z σ2 => kI2 z (fun j => if pT σ2 b = 14 ∧ ib j (pL σ2 b) = true then K (.long (pJ σ2 b j.toNatClampNeg)) σ2 else none)))) := by
  unfold rE eAJ kR kI2
  cases a env σ with
  | none => rfl
  | some q =>
    obtain ⟨x, σ1⟩ := q
    cases x <;> try rfl
    dsimp only
    cases i env σ1 with
    | none => rfl
    | some q =>
      obtain ⟨z, σ2⟩ := q
      cases z <;> try rfl
      exact mt_if
theorem rE_eAR {a i : pm_E} : rE (eAR a i) env σ K = rE a env σ (fun x σ1 => kR x (fun b => rE i env σ1 (fun z σ2 => kI2 z (fun j => if (pT σ2 b = 15 ∨ pT σ2 b = 16) ∧ ib j (pL σ2 b) = true then K (va_rf (pR σ2 b j.toNatClampNeg)) σ2 else none)))) := by
  unfold rE eAR kR kI2
  cases a env σ with
  | none => rfl
  | some q =>
    obtain ⟨x, σ1⟩ := q
    cases x <;> try rfl
    dsimp only
    cases i env σ1 with
    | none => rfl
    | some q =>
      obtain ⟨z, σ2⟩ := q
      cases z <;> try rfl
      exact mt_if
theorem rE_eLen {a : pm_E} : rE (eLen a) env σ K = rE a env σ (fun x σ1 => kR x (fun b => if pT σ1 b = 13 ∨ pT σ1 b = 14 ∨ pT σ1 b = 15 ∨ pT σ1 b = 16 ∨ pT σ1 b = 18 then K (.int (Int32.ofNat (pL σ1 b))) σ1 else none)) := by
  unfold rE eLen kR
  cases a env σ with
  | none => rfl
  | some q =>
    obtain ⟨x, σ1⟩ := q
    cases x <;> try rfl
    exact mt_if
theorem rE_eSI {a i e : pm_E} : rE (eSI a i e) env σ K = rE a env σ (fun x σ1 => kR x (fun b => rE i env σ1 (fun z σ2 => kI2 z (fun j => rE e env σ2 (fun w σ3 => kI2 w (fun v => if pT σ3 b = 13 ∧ ib j (pL σ3 b) = true then K (.ref b) (uI σ3 b j.toNatClampNeg v) else none)))))) := by
  unfold rE eSI kR kI2
  cases a env σ with
  | none => rfl
  | some q =>
    obtain ⟨x, σ1⟩ := q
    cases x <;> try rfl
    dsimp only
    cases i env σ1 with
    | none => rfl
    | some q =>
      obtain ⟨z, σ2⟩ := q
      cases z <;> try rfl
      dsimp only
      cases e env σ2 with
      | none => rfl
      | some q =>
        obtain ⟨w, σ3⟩ := q
        cases w <;> try rfl
        exact mt_if
theorem rE_eC {c : pm_C} {a b : pm_E} : rE (eC c a b) env σ K = rC c env σ (fun t σ1 => if t = true then rE a env σ1 K else rE b env σ1 K) := by
  unfold rE rC eC
  cases c env σ with
  | none => rfl
  | some q => obtain ⟨t, σ1⟩ := q; cases t <;> rfl
theorem rE_eCall {D : pm_D} {as : pm_A} : rE (eCall D as) env σ K = rA as env σ (fun vs σ1 => rD D vs σ1 (fun r σ2 => match r with
  | some v => K v σ2
  | none => none)) := by
  unfold rE rA rD eCall
  cases as env σ with
  | none => rfl
  | some q =>
    obtain ⟨vs, σ1⟩ := q
    dsimp only
    cases D vs σ1 with
    | none => rfl
    | some q => obtain ⟨r, σ2⟩ := q; cases r <;> rfl
theorem rE_eNew {c N : Nat} {D : pm_D} {as : pm_A} : rE (eNew c N D as) env σ K = rA as env (nw σ c 0 N) (fun vs σ1 => rD D (.ref (pN σ) :: vs) σ1 (fun r σ2 => match r with
  | none => K (.ref (pN σ)) σ2
  | some _ => none)) := by
  unfold rE rA rD eNew
  cases as env (nw σ c 0 N) with
  | none => rfl
  | some q =>
    obtain ⟨vs, σ1⟩ := q
    dsimp only
    cases D (.ref (pN σ) :: vs) σ1 with
    | none => rfl
    | some q => obtain ⟨r, σ2⟩ := q; cases r <;> rfl
theorem rE_eNewA {t : Nat} {e : pm_E} : rE (eNewA t e) env σ K = rE e env σ (fun x σ1 => kI2 x (fun j => if ¬ j < 0 ∧ j.toNatClampNeg ≤ 1000 then K (.ref (pN σ1)) (nw σ1 t j.toNatClampNeg j.toNatClampNeg) else none)) := by
  unfold rE eNewA kI2
  cases e env σ with
  | none => rfl
  | some q =>
    obtain ⟨x, σ1⟩ := q
    cases x <;> try rfl
    exact mt_if
theorem rE_eInst {g : Nat → Option Int32} {a : pm_E} : rE (eInst g a) env σ K = rE a env σ (fun x σ1 => kR x (fun b => match g (pT σ1 b) with
  | some z => K (.int z) σ1
  | none => none)) := by
  unfold rE eInst kR
  cases a env σ with
  | none => rfl
  | some q =>
    obtain ⟨x, σ1⟩ := q
    cases x <;> try rfl
    dsimp only
    cases g (pT σ1 _) <;> rfl
-- conditions
theorem rC_cI {g : Int32 → Int32 → Bool} {a b : pm_E} : rC (cI g a b) env σ KC = rE a env σ (fun x σ1 => kI2 x (fun x => rE b env σ1 (fun z σ2 => kI2 z (fun z => KC (g x z) σ2)))) := by
  unfold rC rE cI kI2
  cases a env σ with
  | none => rfl
  | some q =>
    obtain ⟨x, σ1⟩ := q
    cases x <;> try rfl
    dsimp only
    cases b env σ1 with
    | none => rfl
    | some q => obtain ⟨z, σ2⟩ := q; cases z <;> rfl
theorem rC_cZ0 {g : Int32 → Int32 → Bool} {a : pm_E} : rC (cZ0 g a) env σ KC = rE a env σ (fun x σ1 => kI2 x (fun x => KC (g x 0) σ1)) := by
  unfold rC rE cZ0 cZ kI2
  cases a env σ with
  | none => rfl
  | some q => obtain ⟨x, σ1⟩ := q; cases x <;> rfl
/-- is it null -/
def kN (v : Value) (F : Bool → Option α) : Option α := match v with
  | .null => F true
  | .ref _ => F false
  | _ => none
theorem kN_null {F : Bool → Option α} : kN .null F = F true := Eq.trans rfl rfl
theorem kN_ref {b : Nat} {F : Bool → Option α} : kN (.ref b) F = F false := Eq.trans rfl rfl
theorem kN_rf {r : Option Nat} {F : Bool → Option α} : kN (va_rf r) F = F r.isNone := by cases r <;> rfl
theorem rC_cN {a : pm_E} : rC (cN a) env σ KC = rE a env σ (fun x σ1 => kN x (fun b => KC b σ1)) := by
  unfold rC rE cN kN
  cases a env σ with
  | none => rfl
  | some q => obtain ⟨x, σ1⟩ := q; cases x <;> rfl
theorem rC_cNot {a : pm_C} : rC (cNot a) env σ KC = rC a env σ (fun b σ1 => KC (!b) σ1) := by
  unfold rC cNot
  cases a env σ <;> rfl
theorem rC_cAnd {a b : pm_C} : rC (cAnd a b) env σ KC = rC a env σ (fun t σ1 => if t = true then rC b env σ1 KC else KC false σ1) := by
  unfold rC cAnd
  cases a env σ with
  | none => rfl
  | some q => obtain ⟨t, σ1⟩ := q; cases t <;> rfl
theorem rC_cOr {a b : pm_C} : rC (cOr a b) env σ KC = rC a env σ (fun t σ1 => if t = true then KC true σ1 else rC b env σ1 KC) := by
  unfold rC cOr
  cases a env σ with
  | none => rfl
  | some q => obtain ⟨t, σ1⟩ := q; cases t <;> rfl
-- arguments
theorem rA_aN : rA aN env σ KA = KA [] σ := Eq.trans rfl rfl
theorem rA_aC {e : pm_E} {as : pm_A} : rA (aC e as) env σ KA = rE e env σ (fun v σ1 => rA as env σ1 (fun vs σ2 => KA (v :: vs) σ2)) := by
  unfold rA rE aC
  cases e env σ with
  | none => rfl
  | some q =>
    obtain ⟨v, σ1⟩ := q
    dsimp only
    cases as env σ1 <;> rfl
-- statements
theorem rS_sP {cs : Nat → Bool} {ty k : Nat} {a e : pm_E} : rS (sP cs ty k a e) env σ kn kr = rE a env σ (fun x σ1 => kR x (fun b => rE e env σ1 (fun v σ2 => if cs (pT σ2 b) = true then match pm_pf σ2 b ty k v with
  | some σ3 => kn env σ3
  | none => none else none))) := by
  unfold rS rE sP kR
  cases a env σ with
  | none => rfl
  | some q =>
    obtain ⟨x, σ1⟩ := q
    cases x <;> try rfl
    dsimp only
    cases e env σ1 with
    | none => rfl
    | some q =>
      obtain ⟨v, σ2⟩ := q
      dsimp only
      rename_i b
      by_cases hP : cs (pT σ2 b) = true
      · rw [if_pos hP, if_pos hP]; cases pm_pf σ2 b ty k v <;> rfl
      · rw [if_neg hP, if_neg hP]
theorem rS_sUF {cs : Nat → Bool} {ty k : Nat} {g : Value → Value → Option Value} {a e : pm_E} : rS (sUF cs ty k g a e) env σ kn kr = rE a env σ (fun x σ1 => kR x (fun b => if cs (pT σ1 b) = true then rE e env σ1 (fun z σ2 => match g (pm_fv (pI σ1 b) (pJ σ1 b) (pR σ1 b) ty k) z with
  | some v => if cs (pT σ2 b) = true then match pm_pf σ2 b ty k v with
    | some σ3 => kn env σ3
    | none => none else none
  | none => none) else none)) := by
  unfold rS rE sUF kR
  cases a env σ with
  | none => rfl
  | some q =>
    obtain ⟨x, σ1⟩ := q
    cases x <;> try rfl
    dsimp only
    rename_i b
    by_cases hQ : cs (pT σ1 b) = true
    · rw [if_pos hQ, if_pos hQ]
      cases e env σ1 with
      | none => rfl
      | some q =>
        obtain ⟨z, σ2⟩ := q
        dsimp only
        cases g (pm_fv (pI σ1 b) (pJ σ1 b) (pR σ1 b) ty k) z with
        | none => rfl
        | some v =>
          dsimp only
          by_cases hP : cs (pT σ2 b) = true
          · rw [if_pos hP, if_pos hP]; cases pm_pf σ2 b ty k v <;> rfl
          · rw [if_neg hP, if_neg hP]
    · rw [if_neg hQ, if_neg hQ]
theorem rS_sAI {a i e : pm_E} : rS (sAI a i e) env σ kn kr = rE a env σ (fun x σ1 => kR x (fun b => rE i env σ1 (fun z σ2 => kI2 z (fun j => rE e env σ2 (fun w σ3 => kI2 w (fun v => if pT σ3 b = 13 ∧ ib j (pL σ3 b) = true then kn env (uI σ3 b j.toNatClampNeg v) else none)))))) := by
  unfold rS rE sAI kR kI2
  cases a env σ with
  | none => rfl
  | some q =>
    obtain ⟨x, σ1⟩ := q
    cases x <;> try rfl
    dsimp only
    cases i env σ1 with
    | none => rfl
    | some q =>
      obtain ⟨z, σ2⟩ := q
      cases z <;> try rfl
      dsimp only
      cases e env σ2 with
      | none => rfl
      | some q =>
        obtain ⟨w, σ3⟩ := q
        cases w <;> try rfl
        exact ms_if
theorem rS_sAJ {a i e : pm_E} : rS (sAJ a i e) env σ kn kr = rE a env σ (fun x σ1 => kR x (fun b => rE i env σ1 (fun z σ2 => kI2 z (fun j => rE e env σ2 (fun w σ3 => kJ2 w (fun v => if pT σ3 b = 14 ∧ ib j (pL σ3 b) = true then kn env (uJ σ3 b j.toNatClampNeg v) else none)))))) := by
  unfold rS rE sAJ kR kI2 kJ2
  cases a env σ with
  | none => rfl
  | some q =>
    obtain ⟨x, σ1⟩ := q
    cases x <;> try rfl
    dsimp only
    cases i env σ1 with
    | none => rfl
    | some q =>
      obtain ⟨z, σ2⟩ := q
      cases z <;> try rfl
      dsimp only
      cases e env σ2 with
      | none => rfl
      | some q =>
        obtain ⟨w, σ3⟩ := q
        cases w <;> try rfl
        exact ms_if
theorem rS_sAR {a i e : pm_E} : rS (sAR a i e) env σ kn kr = rE a env σ (fun x σ1 => kR x (fun b => rE i env σ1 (fun z σ2 => kI2 z (fun j => rE e env σ2 (fun w σ3 => match w with
  | .ref v => if pm_takes (pT σ3 b) (pT σ3 v) = true ∧ ib j (pL σ3 b) = true then kn env (uR σ3 b j.toNatClampNeg (some v)) else none
  | .null => if pT σ3 b = 16 ∧ ib j (pL σ3 b) = true then kn env (uR σ3 b j.toNatClampNeg none) else none
  | _ => none))))) := by
  unfold rS rE sAR kR kI2
  cases a env σ with
  | none => rfl
  | some q =>
    obtain ⟨x, σ1⟩ := q
    cases x <;> try rfl
    dsimp only
    cases i env σ1 with
    | none => rfl
    | some q =>
      obtain ⟨z, σ2⟩ := q
      cases z <;> try rfl
      dsimp only
      cases e env σ2 with
      | none => rfl
      | some q =>
        obtain ⟨w, σ3⟩ := q
        cases w <;> try rfl
        all_goals exact ms_if
theorem rS_sUA {g : Value → Value → Option Value} {a i e : pm_E} : rS (sUA g a i e) env σ kn kr = rE a env σ (fun x σ1 => kR x (fun b => rE i env σ1 (fun z σ2 => kI2 z (fun j => if pT σ2 b = 13 ∧ ib j (pL σ2 b) = true then rE e env σ2 (fun w σ3 => match g (.int (pI σ2 b j.toNatClampNeg)) w with
  | some (.int v) => if pT σ3 b = 13 ∧ ib j (pL σ3 b) = true then kn env (uI σ3 b j.toNatClampNeg v) else none
  | _ => none) else none)))) := by
  unfold rS rE sUA kR kI2
  cases a env σ with
  | none => rfl
  | some q =>
    obtain ⟨x, σ1⟩ := q
    cases x <;> try rfl
    dsimp only
    cases i env σ1 with
    | none => rfl
    | some q =>
      obtain ⟨z, σ2⟩ := q
      cases z <;> try rfl
      dsimp only
      rename_i b j
      by_cases hQ : pT σ2 b = 13 ∧ ib j (pL σ2 b) = true
      · rw [if_pos hQ, if_pos hQ]
        cases e env σ2 with
        | none => rfl
        | some q =>
          obtain ⟨w, σ3⟩ := q
          dsimp only
          cases g (.int (pI σ2 b j.toNatClampNeg)) w with
          | none => rfl
          | some u =>
            cases u <;> try rfl
            exact ms_if
      · rw [if_neg hQ, if_neg hQ]
theorem rS_sCall {D : pm_D} {as : pm_A} : rS (sCall D as) env σ kn kr = rA as env σ (fun vs σ1 => rD D vs σ1 (fun r σ2 => match r with
  | none => kn env σ2
  | some _ => none)) := by
  unfold rS rA rD sCall
  cases as env σ with
  | none => rfl
  | some q =>
    obtain ⟨vs, σ1⟩ := q
    dsimp only
    cases D vs σ1 with
    | none => rfl
    | some q => obtain ⟨r, σ2⟩ := q; cases r <;> rfl
theorem rS_sObj {a : pm_E} : rS (sObj a) env σ kn kr = rE a env σ (fun x σ1 => kR x (fun _ => kn env σ1)) := by
  unfold rS rE sObj kR
  cases a env σ with
  | none => rfl
  | some q => obtain ⟨x, σ1⟩ := q; cases x <;> rfl
theorem rS_sSi {k : Nat} {e : pm_E} : rS (sSi k e) env σ kn kr = rE e env σ (fun x σ1 => kI2 x (fun v => if pm_nl env k = true then kn (env.set k (.int v)) σ1 else none)) := by
  unfold rS rE sSi kI2
  cases e env σ with
  | none => rfl
  | some q =>
    obtain ⟨x, σ1⟩ := q
    cases x <;> try rfl
    exact ms_if
theorem rS_sSa {k : Nat} {e : pm_E} : rS (sSa k e) env σ kn kr = rE e env σ (fun x σ1 => match x with
  | .ref v => if pm_nl env k = true then kn (env.set k (.ref v)) σ1 else none
  | .null => if pm_nl env k = true then kn (env.set k .null) σ1 else none
  | _ => none) := by
  unfold rS rE sSa
  cases e env σ with
  | none => rfl
  | some q =>
    obtain ⟨x, σ1⟩ := q
    cases x <;> try rfl
    all_goals exact ms_if
theorem rS_sSj {k : Nat} {e : pm_E} : rS (sSj k e) env σ kn kr = rE e env σ (fun x σ1 => kJ2 x (fun v => if pm_nl env k = true then kn ((env.set k (.long v)).set (k + 1) (.float 0)) σ1 else none)) := by
  unfold rS rE sSj kJ2
  cases e env σ with
  | none => rfl
  | some q =>
    obtain ⟨x, σ1⟩ := q
    cases x <;> try rfl
    exact ms_if
theorem rS_sInc {k : Nat} {c : Int32} : rS (sInc k c) env σ kn kr = match env[k]? with
  | some (.int x) => if pm_nl env k = true then kn (env.set k (.int (x + c))) σ else none
  | _ => none := by
  unfold rS sInc
  cases env[k]? with
  | none => rfl
  | some v =>
    cases v <;> try rfl
    exact ms_if
theorem rS_sSkip : rS sSkip env σ kn kr = kn env σ := Eq.trans rfl rfl
theorem rS_sSeq {a b : pm_S} : rS (sSeq a b) env σ kn kr = rS a env σ (fun env1 σ1 => rS b env1 σ1 kn kr) kr := by
  unfold rS sSeq
  cases a env σ with
  | none => rfl
  | some q => obtain ⟨x | x, σ1⟩ := q <;> rfl
theorem rS_sIf {c : pm_C} {a b : pm_S} : rS (sIf c a b) env σ kn kr = rC c env σ (fun t σ1 => if t = true then rS a env σ1 kn kr else rS b env σ1 kn kr) := by
  unfold rS rC sIf
  cases c env σ with
  | none => rfl
  | some q => obtain ⟨t, σ1⟩ := q; cases t <;> rfl
theorem rS_sRetI {e : pm_E} : rS (sRetK 1 e) env σ kn kr = rE e env σ (fun x σ1 => kI2 x (fun v => kr (some (.int v)) σ1)) := by
  unfold rS rE sRetK kI2
  cases e env σ with
  | none => rfl
  | some q => obtain ⟨x, σ1⟩ := q; cases x <;> rfl
theorem rS_sRetJ {e : pm_E} : rS (sRetK 3 e) env σ kn kr = rE e env σ (fun x σ1 => kJ2 x (fun v => kr (some (.long v)) σ1)) := by
  unfold rS rE sRetK kJ2
  cases e env σ with
  | none => rfl
  | some q => obtain ⟨x, σ1⟩ := q; cases x <;> rfl
/-- a reference or null, as it is -/
def kQ (v : Value) (F : Value → Option α) : Option α := match v with
  | .ref b => F (.ref b)
  | .null => F .null
  | _ => none
theorem kQ_ref {b : Nat} {F : Value → Option α} : kQ (.ref b) F = F (.ref b) := Eq.trans rfl rfl
theorem kQ_null {F : Value → Option α} : kQ .null F = F .null := Eq.trans rfl rfl
theorem kQ_rf {r : Option Nat} {F : Value → Option α} : kQ (va_rf r) F = F (va_rf r) := by cases r <;> rfl
theorem rS_sRetA {e : pm_E} : rS (sRetK 4 e) env σ kn kr = rE e env σ (fun x σ1 => kQ x (fun v => kr (some v) σ1)) := by
  unfold rS rE sRetK kQ
  cases e env σ with
  | none => rfl
  | some q => obtain ⟨x, σ1⟩ := q; cases x <;> rfl
theorem rS_sRetV : rS sRetV env σ kn kr = kr none σ := Eq.trans rfl rfl
theorem rS_sSw {e : pm_E} {lo : Int} {cs : List pm_S} {sd : pm_S} : rS (sSw e lo cs sd) env σ kn kr = rE e env σ (fun x σ1 => kI2 x (fun v => if v.toInt < lo then rS sd env σ1 kn kr else rS ((cs[(v.toInt - lo).toNat]?).getD sd) env σ1 kn kr)) := by
  unfold rS rE sSw kI2
  cases e env σ with
  | none => rfl
  | some q =>
    obtain ⟨x, σ1⟩ := q
    cases x <;> try rfl
    rename_i v
    dsimp only
    by_cases hP : v.toInt < lo
    · rw [if_pos hP, if_pos hP]
    · rw [if_neg hP, if_neg hP]
-- methods
theorem rD_meth {w n : Nat} {body : pm_S} {vs : List Value} : rD (pm_meth w n body) vs σ KD = if (pm_ex vs).length ≤ n then rS body (pm_args vs n) σ (fun _ _ => none) (fun r σ1 => if pm_rt w r = true then KD r σ1 else none) else none := by
  unfold rD rS pm_meth
  by_cases hP : (pm_ex vs).length ≤ n
  · rw [if_pos hP, if_pos hP]
    cases body (pm_args vs n) σ with
    | none => rfl
    | some q =>
      obtain ⟨x | x, σ1⟩ := q
      · rfl
      · dsimp only
        by_cases hQ : pm_rt w x = true
        · rw [if_pos hQ, if_pos hQ]
        · rw [if_neg hQ, if_neg hQ]
  · rw [if_neg hP, if_neg hP]
theorem rD_on {ok : Nat → Bool} {D : pm_D} {b : Nat} {vs : List Value} : rD (pm_on ok D) (.ref b :: vs) σ KD = if ok (pT σ b) = true then rD D (.ref b :: vs) σ KD else none := by
  unfold rD pm_on
  dsimp only
  by_cases hP : ok (pT σ b) = true
  · rw [if_pos hP, if_pos hP]
  · rw [if_neg hP, if_neg hP]
theorem rD_disp {tab : Nat → Option pm_D} {b : Nat} {vs : List Value} : rD (pm_disp tab) (.ref b :: vs) σ KD = match tab (pT σ b) with
  | some D => rD D (.ref b :: vs) σ KD
  | none => none := by
  unfold rD pm_disp
  dsimp only
  cases tab (pT σ b) <;> rfl
theorem rD_tb1 {c : Nat} {D : pm_D} {b : Nat} {vs : List Value} (h : pT σ b = c) : rD (pm_disp (tb1 c D)) (.ref b :: vs) σ KD = rD D (.ref b :: vs) σ KD := by
  rw [rD_disp, h]; simp [tb1]
end CPS
theorem o1_i {g : Int32 → Int32} {a : Int32} : o1 g (.int a) = some (.int (g a)) := Eq.trans rfl rfl
theorem o1ij_i {g : Int32 → Int64} {a : Int32} : o1ij g (.int a) = some (.long (g a)) := Eq.trans rfl rfl
theorem o1ji_i {g : Int64 → Int32} {a : Int64} : o1ji g (.long a) = some (.int (g a)) := Eq.trans rfl rfl
theorem o2_i {g : Int32 → Int32 → Int32} {a b : Int32} : o2 g (.int a) (.int b) = some (.int (g a b)) := Eq.trans rfl rfl
theorem o2d_i {g : Int32 → Int32 → Int32} {a b : Int32} : o2d g (.int a) (.int b) = if b = 0 then none else some (.int (g a b)) := Eq.trans rfl rfl
theorem o2j_i {g : Int64 → Int64 → Int64} {a b : Int64} : o2j g (.long a) (.long b) = some (.long (g a b)) := Eq.trans rfl rfl
theorem o2ji_i {g : Int64 → Int32 → Int64} {a : Int64} {b : Int32} : o2ji g (.long a) (.int b) = some (.long (g a b)) := Eq.trans rfl rfl
theorem o2c_i {g : Int64 → Int64 → Int32} {a b : Int64} : o2c g (.long a) (.long b) = some (.int (g a b)) := Eq.trans rfl rfl
theorem fv_0 {I : Nat → Int32} {J : Nat → Int64} {R : Nat → Option Nat} {k : Nat} : pm_fv I J R 0 k = .int (I k) := Eq.trans rfl rfl
theorem fv_1 {I : Nat → Int32} {J : Nat → Int64} {R : Nat → Option Nat} {k : Nat} : pm_fv I J R 1 k = .int (I k) := Eq.trans rfl rfl
theorem fv_2 {I : Nat → Int32} {J : Nat → Int64} {R : Nat → Option Nat} {k : Nat} : pm_fv I J R 2 k = .long (J k) := Eq.trans rfl rfl
theorem fv_3 {I : Nat → Int32} {J : Nat → Int64} {R : Nat → Option Nat} {k : Nat} : pm_fv I J R 3 k = va_rf (R k) := Eq.trans rfl rfl
theorem pf_0 {σ : pm_H} {a k : Nat} {x : Int32} : pm_pf σ a 0 k (.int x) = some (uI σ a k x) := Eq.trans rfl rfl
theorem pf_1 {σ : pm_H} {a k : Nat} {x : Int32} (h : x = 0 ∨ x = 1) : pm_pf σ a 1 k (.int x) = some (uI σ a k x) := by simp [pm_pf, h]
theorem pf_2 {σ : pm_H} {a k : Nat} {x : Int64} : pm_pf σ a 2 k (.long x) = some (uJ σ a k x) := Eq.trans rfl rfl
theorem pf_3 {σ : pm_H} {a k b : Nat} : pm_pf σ a 3 k (.ref b) = some (uR σ a k (some b)) := Eq.trans rfl rfl
theorem pf_4 {σ : pm_H} {a k : Nat} : pm_pf σ a 3 k .null = some (uR σ a k none) := Eq.trans rfl rfl
theorem rf_s {a : Nat} : va_rf (some a) = .ref a := Eq.trans rfl rfl
theorem rf_n : va_rf none = .null := Eq.trans rfl rfl
theorem is_self {c : Nat} : is c c = true := by simp [is]
