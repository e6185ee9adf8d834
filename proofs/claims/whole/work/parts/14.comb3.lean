/-! Conditions, calls, statements. -/
section COMB4
variable {cc : ByteArray} {y : MethodName} {nL rk : Nat} {n pc p1 p2 p3 p4 t f nx m : Nat}
def icr (ic : Jvm.ClassFile.Cond) (x z : Int32) : Prop := match ic with
  | .eq => x = z
  | .ne => ¬ x = z
  | .lt => x < z
  | .ge => z ≤ x
  | .gt => z < x
  | .le => x ≤ z
theorem rw_icmp {lim lims : Nat} {G : pm_J} {Ret : Option Value → pm_H → Prop} {env st : List Value} {σ : pm_H} (hG : pm_G cc y nL rk lim lims G Ret) {ic : Jvm.ClassFile.Cond} {x z : Int32} {off : Int} {tgt : Nat} (d : decode cc pc = .ok (.if_icmp ic off, 3)) (ht : (pc : Int) + off = (tgt : Int)) (kt : icr ic x z → G tgt env st σ) (kf : ¬ icr ic x z → G (pc + 3) env st σ) : G pc env (.int z :: .int x :: st) σ := by
  cases ic with
  | eq => exact rw_icmp_eq hG d ht kt kf
  | ne => exact rw_icmp_ne hG d ht kt kf
  | lt => exact rw_icmp_lt hG d ht kt kf
  | ge => exact rw_icmp_ge hG d ht kt kf
  | gt => exact rw_icmp_gt hG d ht kt kf
  | le => exact rw_icmp_le hG d ht kt kf
theorem rw_ifz {lim lims : Nat} {G : pm_J} {Ret : Option Value → pm_H → Prop} {env st : List Value} {σ : pm_H} (hG : pm_G cc y nL rk lim lims G Ret) {ic : Jvm.ClassFile.Cond} {x : Int32} {off : Int} {tgt : Nat} (d : decode cc pc = .ok (.ifCond ic off, 3)) (ht : (pc : Int) + off = (tgt : Int)) (kt : icr ic x 0 → G tgt env st σ) (kf : ¬ icr ic x 0 → G (pc + 3) env st σ) : G pc env (.int x :: st) σ := by
  cases ic with
  | eq => exact rw_if_eq hG d ht kt kf
  | ne => exact rw_if_ne hG d ht kt kf
  | lt => exact rw_if_lt hG d ht kt kf
  | ge => exact rw_if_ge hG d ht kt kf
  | gt => exact rw_if_gt hG d ht kt kf
  | le => exact rw_if_le hG d ht kt kf
def qEq : Int32 → Int32 → Bool := fun x z => decide (x = z)
def qNe : Int32 → Int32 → Bool := fun x z => decide (¬ x = z)
def qLt : Int32 → Int32 → Bool := fun x z => decide (x < z)
def qGe : Int32 → Int32 → Bool := fun x z => decide (z ≤ x)
def qGt : Int32 → Int32 → Bool := fun x z => decide (z < x)
def qLe : Int32 → Int32 → Bool := fun x z => decide (x ≤ z)
/-- the jump is taken just if the condition is as told -/
def qJ (ic : Jvm.ClassFile.Cond) (g : Int32 → Int32 → Bool) (b : Bool) : Prop := ∀ x z, icr ic x z ↔ g x z = b
theorem qEq_t : qJ .eq qEq true := fun x z => by simp [icr, qEq]
theorem qEq_f : qJ .ne qEq false := fun x z => by simp [icr, qEq]
theorem qNe_t : qJ .ne qNe true := fun x z => by simp [icr, qNe]
theorem qNe_f : qJ .eq qNe false := fun x z => by simp [icr, qNe]
theorem qLt_t : qJ .lt qLt true := fun x z => by simp [icr, qLt]
theorem qLt_f : qJ .ge qLt false := fun x z => by simp [icr, qLt]
theorem qGe_t : qJ .ge qGe true := fun x z => by simp [icr, qGe]
theorem qGe_f : qJ .lt qGe false := fun x z => by simp [icr, qGe]
theorem qGt_t : qJ .gt qGt true := fun x z => by simp [icr, qGt]
theorem qGt_f : qJ .le qGt false := fun x z => by simp [icr, qGt]
theorem qLe_t : qJ .le qLe true := fun x z => by simp [icr, qLe]
theorem qLe_f : qJ .gt qLe false := fun x z => by simp [icr, qLe]
theorem nq_t {ic : Jvm.ClassFile.Cond} {g : Int32 → Int32 → Bool} {x z : Int32} (hq : qJ ic g true) (q : ¬ icr ic x z) : g x z = false := by
  cases hg : g x z with
  | false => rfl
  | true => exact absurd ((hq x z).mpr hg) q
theorem nq_f {ic : Jvm.ClassFile.Cond} {g : Int32 → Int32 → Bool} {x z : Int32} (hq : qJ ic g false) (q : ¬ icr ic x z) : g x z = true := by
  cases hg : g x z with
  | true => rfl
  | false => exact absurd ((hq x z).mpr hg) q
theorem cI_sp {g : Int32 → Int32 → Bool} {a b : pm_E} {env : List Value} {σ σ' : pm_H} {v : Bool} (h : cI g a b env σ = some (v, σ')) : ∃ x σ1 z, a env σ = some (.int x, σ1) ∧ b env σ1 = some (.int z, σ') ∧ v = g x z := by
  obtain ⟨x, σ1, h1, h2⟩ := pm_int h
  obtain ⟨z, σ2, h3, h4⟩ := pm_int h2
  cases h4
  exact ⟨x, σ1, z, h1, h3, rfl⟩
theorem cI_mo {g : Int32 → Int32 → Bool} {a b : pm_E} (ha : pm_mo a) (hb : pm_mo b) : pm_mo (cI g a b) := fun env σ v σ' h => by
  obtain ⟨x, σ1, z, h1, h2, -⟩ := cI_sp h
  obtain ⟨q1, q2⟩ := ha _ _ _ _ h1
  obtain ⟨q3, q4⟩ := hb _ _ _ _ h2
  exact ⟨by omega, by omega⟩
theorem cI_t {ic : Jvm.ClassFile.Cond} {g : Int32 → Int32 → Bool} {a b : pm_E} {off : Int} {tgt : Nat} (hq : qJ ic g true) (ha : eOK cc y nL rk n pc p1 a) (hb : eOK cc y nL rk (n + 1) p1 p2 b) (d : decode cc p2 = .ok (.if_icmp ic off, 3)) (ht : (p2 : Int) + off = (tgt : Int)) (jt : jOK cc y nL rk tgt t) (jf : jOK cc y nL rk (p2 + 3) f) : cOK cc y nL rk n pc t f (cI g a b) := by
  refine ⟨cI_mo ha.1 hb.1, fun hG env σ v σ' st hs h l1 l2 kt kf => ?_⟩
  obtain ⟨x, σ1, z, h1, h2, rfl⟩ := cI_sp h
  obtain ⟨q3, q4⟩ := hb.1 _ _ _ _ h2
  exact ha.2 hG env σ _ _ st hs h1 (by omega) (by omega) (hb.2 hG env σ1 _ _ (.int x :: st) (by rw [pm_sum_cons]; show 1 + _ ≤ _; omega) h2 l1 l2 (rw_icmp hG d ht (fun q => jt hG _ _ _ (kt ((hq x z).mp q))) (fun q => jf hG _ _ _ (kf (nq_t hq q)))))
theorem cI_f {ic : Jvm.ClassFile.Cond} {g : Int32 → Int32 → Bool} {a b : pm_E} {off : Int} {tgt : Nat} (hq : qJ ic g false) (ha : eOK cc y nL rk n pc p1 a) (hb : eOK cc y nL rk (n + 1) p1 p2 b) (d : decode cc p2 = .ok (.if_icmp ic off, 3)) (ht : (p2 : Int) + off = (tgt : Int)) (jf : jOK cc y nL rk tgt f) (jt : jOK cc y nL rk (p2 + 3) t) : cOK cc y nL rk n pc t f (cI g a b) := by
  refine ⟨cI_mo ha.1 hb.1, fun hG env σ v σ' st hs h l1 l2 kt kf => ?_⟩
  obtain ⟨x, σ1, z, h1, h2, rfl⟩ := cI_sp h
  obtain ⟨q3, q4⟩ := hb.1 _ _ _ _ h2
  exact ha.2 hG env σ _ _ st hs h1 (by omega) (by omega) (hb.2 hG env σ1 _ _ (.int x :: st) (by rw [pm_sum_cons]; show 1 + _ ≤ _; omega) h2 l1 l2 (rw_icmp hG d ht (fun q => jf hG _ _ _ (kf ((hq x z).mp q))) (fun q => jt hG _ _ _ (kt (nq_f hq q)))))
/-- against 0 -/
def cZ0 (g : Int32 → Int32 → Bool) (a : pm_E) : pm_C := cZ (fun x => g x 0) a
theorem cZ_sp {g : Int32 → Bool} {a : pm_E} {env : List Value} {σ σ' : pm_H} {v : Bool} (h : cZ g a env σ = some (v, σ')) : ∃ x, a env σ = some (.int x, σ') ∧ v = g x := by
  obtain ⟨x, σ1, h1, h2⟩ := pm_int h
  cases h2
  exact ⟨x, h1, rfl⟩
theorem cZ_mo {g : Int32 → Bool} {a : pm_E} (ha : pm_mo a) : pm_mo (cZ g a) := fun env σ v σ' h => by
  obtain ⟨x, h1, -⟩ := cZ_sp h
  exact ha _ _ _ _ h1
theorem cZ_t {ic : Jvm.ClassFile.Cond} {g : Int32 → Int32 → Bool} {a : pm_E} {off : Int} {tgt : Nat} (hq : qJ ic g true) (ha : eOK cc y nL rk n pc p1 a) (d : decode cc p1 = .ok (.ifCond ic off, 3)) (ht : (p1 : Int) + off = (tgt : Int)) (jt : jOK cc y nL rk tgt t) (jf : jOK cc y nL rk (p1 + 3) f) : cOK cc y nL rk n pc t f (cZ0 g a) := by
  refine ⟨cZ_mo ha.1, fun hG env σ v σ' st hs h l1 l2 kt kf => ?_⟩
  obtain ⟨x, h1, rfl⟩ := cZ_sp h
  exact ha.2 hG env σ _ _ st hs h1 l1 l2 (rw_ifz hG d ht (fun q => jt hG _ _ _ (kt ((hq x 0).mp q))) (fun q => jf hG _ _ _ (kf (nq_t hq q))))
theorem cZ_f {ic : Jvm.ClassFile.Cond} {g : Int32 → Int32 → Bool} {a : pm_E} {off : Int} {tgt : Nat} (hq : qJ ic g false) (ha : eOK cc y nL rk n pc p1 a) (d : decode cc p1 = .ok (.ifCond ic off, 3)) (ht : (p1 : Int) + off = (tgt : Int)) (jf : jOK cc y nL rk tgt f) (jt : jOK cc y nL rk (p1 + 3) t) : cOK cc y nL rk n pc t f (cZ0 g a) := by
  refine ⟨cZ_mo ha.1, fun hG env σ v σ' st hs h l1 l2 kt kf => ?_⟩
  obtain ⟨x, h1, rfl⟩ := cZ_sp h
  exact ha.2 hG env σ _ _ st hs h1 l1 l2 (rw_ifz hG d ht (fun q => jf hG _ _ _ (kf ((hq x 0).mp q))) (fun q => jt hG _ _ _ (kt (nq_f hq q))))
theorem cN_sp {a : pm_E} {env : List Value} {σ σ' : pm_H} {v : Bool} (h : cN a env σ = some (v, σ')) : ∃ r, a env σ = some (va_rf r, σ') ∧ v = decide (r = none) := by
  unfold cN at h
  split at h
  · cases h; exact ⟨none, by assumption, rfl⟩
  · cases h; exact ⟨some _, by assumption, rfl⟩
  · cases h
theorem cN_mo {a : pm_E} (ha : pm_mo a) : pm_mo (cN a) := fun env σ v σ' h => by
  obtain ⟨x, h1, -⟩ := cN_sp h
  exact ha _ _ _ _ h1
/-- by ifnull, to where it is null -/
theorem cN_t {a : pm_E} {off : Int} {tgt : Nat} (ha : eOK cc y nL rk n pc p1 a) (d : decode cc p1 = .ok (.ifnull off, 3)) (ht : (p1 : Int) + off = (tgt : Int)) (jt : jOK cc y nL rk tgt t) (jf : jOK cc y nL rk (p1 + 3) f) : cOK cc y nL rk n pc t f (cN a) := by
  refine ⟨cN_mo ha.1, fun hG env σ v σ' st hs h l1 l2 kt kf => ?_⟩
  obtain ⟨r, h1, rfl⟩ := cN_sp h
  exact ha.2 hG env σ _ _ st hs h1 l1 l2 (rw_ifnull hG d ht (fun q => jt hG _ _ _ (kt (decide_eq_true q))) (fun q => jf hG _ _ _ (kf (decide_eq_false q))))
theorem cN_f {a : pm_E} {off : Int} {tgt : Nat} (ha : eOK cc y nL rk n pc p1 a) (d : decode cc p1 = .ok (.ifnonnull off, 3)) (ht : (p1 : Int) + off = (tgt : Int)) (jf : jOK cc y nL rk tgt f) (jt : jOK cc y nL rk (p1 + 3) t) : cOK cc y nL rk n pc t f (cN a) := by
  refine ⟨cN_mo ha.1, fun hG env σ v σ' st hs h l1 l2 kt kf => ?_⟩
  obtain ⟨r, h1, rfl⟩ := cN_sp h
  exact ha.2 hG env σ _ _ st hs h1 l1 l2 (rw_ifnonnull hG d ht (fun q => jf hG _ _ _ (kf (decide_eq_false q))) (fun q => jt hG _ _ _ (kt (decide_eq_true q))))
theorem cNot_ok {a : pm_C} (ha : cOK cc y nL rk n pc f t a) : cOK cc y nL rk n pc t f (cNot a) := by
  have sp : ∀ {env : List Value} {σ σ' : pm_H} {v : Bool}, cNot a env σ = some (v, σ') → a env σ = some (!v, σ') := by
    intro env σ σ' v h
    unfold cNot at h
    split at h
    · cases h; simpa using by assumption
    · cases h
  refine ⟨fun env σ v σ' h => ha.1 _ _ _ _ (sp h), fun hG env σ v σ' st hs h l1 l2 kt kf => ?_⟩
  exact ha.2 hG env σ _ _ st hs (sp h) l1 l2 (fun q => kf (by simpa using q)) (fun q => kt (by simpa using q))
theorem cAnd_sp {a b : pm_C} {env : List Value} {σ σ' : pm_H} {v : Bool} (h : cAnd a b env σ = some (v, σ')) : (∃ σ1, a env σ = some (true, σ1) ∧ b env σ1 = some (v, σ')) ∨ (a env σ = some (false, σ') ∧ v = false) := by
  unfold cAnd at h
  split at h
  · exact Or.inl ⟨_, by assumption, h⟩
  · cases h; exact Or.inr ⟨by assumption, rfl⟩
  · cases h
theorem cOr_sp {a b : pm_C} {env : List Value} {σ σ' : pm_H} {v : Bool} (h : cOr a b env σ = some (v, σ')) : (∃ σ1, a env σ = some (false, σ1) ∧ b env σ1 = some (v, σ')) ∨ (a env σ = some (true, σ') ∧ v = true) := by
  unfold cOr at h
  split at h
  · cases h; exact Or.inr ⟨by assumption, rfl⟩
  · exact Or.inl ⟨_, by assumption, h⟩
  · cases h
theorem cAnd_ok {a b : pm_C} (ha : cOK cc y nL rk n pc p1 f a) (hb : cOK cc y nL rk n p1 t f b) : cOK cc y nL rk n pc t f (cAnd a b) := by
  refine ⟨fun env σ v σ' h => ?_, fun hG env σ v σ' st hs h l1 l2 kt kf => ?_⟩
  · rcases cAnd_sp h with ⟨σ1, h1, h2⟩ | ⟨h1, -⟩
    · obtain ⟨q1, q2⟩ := ha.1 _ _ _ _ h1
      obtain ⟨q3, q4⟩ := hb.1 _ _ _ _ h2
      exact ⟨by omega, by omega⟩
    · exact ha.1 _ _ _ _ h1
  · rcases cAnd_sp h with ⟨σ1, h1, h2⟩ | ⟨h1, rfl⟩
    · obtain ⟨q3, q4⟩ := hb.1 _ _ _ _ h2
      exact ha.2 hG env σ _ _ st hs h1 (by omega) (by omega) (fun _ => hb.2 hG env σ1 _ _ st hs h2 l1 l2 kt kf) (fun q => by cases q)
    · exact ha.2 hG env σ _ _ st hs h1 l1 l2 (fun q => by cases q) (fun _ => kf rfl)
theorem cOr_ok {a b : pm_C} (ha : cOK cc y nL rk n pc t p1 a) (hb : cOK cc y nL rk n p1 t f b) : cOK cc y nL rk n pc t f (cOr a b) := by
  refine ⟨fun env σ v σ' h => ?_, fun hG env σ v σ' st hs h l1 l2 kt kf => ?_⟩
  · rcases cOr_sp h with ⟨σ1, h1, h2⟩ | ⟨h1, -⟩
    · obtain ⟨q1, q2⟩ := ha.1 _ _ _ _ h1
      obtain ⟨q3, q4⟩ := hb.1 _ _ _ _ h2
      exact ⟨by omega, by omega⟩
    · exact ha.1 _ _ _ _ h1
  · rcases cOr_sp h with ⟨σ1, h1, h2⟩ | ⟨h1, rfl⟩
    · obtain ⟨q3, q4⟩ := hb.1 _ _ _ _ h2
      exact ha.2 hG env σ _ _ st hs h1 (by omega) (by omega) (fun q => by cases q) (fun _ => hb.2 hG env σ1 _ _ st hs h2 l1 l2 kt kf)
    · exact ha.2 hG env σ _ _ st hs h1 l1 l2 (fun _ => kt rfl) (fun q => by cases q)
theorem eC_sp {c : pm_C} {a b : pm_E} {env : List Value} {σ σ' : pm_H} {v : Value} (h : eC c a b env σ = some (v, σ')) : (∃ σ1, c env σ = some (true, σ1) ∧ a env σ1 = some (v, σ')) ∨ (∃ σ1, c env σ = some (false, σ1) ∧ b env σ1 = some (v, σ')) := by
  unfold eC at h
  split at h
  · exact Or.inl ⟨_, by assumption, h⟩
  · exact Or.inr ⟨_, by assumption, h⟩
  · cases h
theorem eC_ok {c : pm_C} {a b : pm_E} (hc : cOK cc y nL rk n pc p1 p2 c) (ha : eOK cc y nL rk n p1 p3 a) (ja : jOK cc y nL rk p3 nx) (hb : eOK cc y nL rk n p2 p4 b) (jb : jOK cc y nL rk p4 nx) : eOK cc y nL rk n pc nx (eC c a b) := by
  refine ⟨fun env σ v σ' h => ?_, fun hG env σ v σ' st hs h l1 l2 k => ?_⟩
  · rcases eC_sp h with ⟨σ1, h1, h2⟩ | ⟨σ1, h1, h2⟩
    · obtain ⟨q1, q2⟩ := hc.1 _ _ _ _ h1
      obtain ⟨q3, q4⟩ := ha.1 _ _ _ _ h2
      exact ⟨by omega, by omega⟩
    · obtain ⟨q1, q2⟩ := hc.1 _ _ _ _ h1
      obtain ⟨q3, q4⟩ := hb.1 _ _ _ _ h2
      exact ⟨by omega, by omega⟩
  · rcases eC_sp h with ⟨σ1, h1, h2⟩ | ⟨σ1, h1, h2⟩
    · obtain ⟨q3, q4⟩ := ha.1 _ _ _ _ h2
      exact hc.2 hG env σ _ _ st hs h1 (by omega) (by omega) (fun _ => ha.2 hG env σ1 _ _ st hs h2 l1 l2 (ja hG _ _ _ k)) (fun q => by cases q)
    · obtain ⟨q3, q4⟩ := hb.1 _ _ _ _ h2
      exact hc.2 hG env σ _ _ st hs h1 (by omega) (by omega) (fun q => by cases q) (fun _ => hb.2 hG env σ1 _ _ st hs h2 l1 l2 (jb hG _ _ _ k))
-- arguments
def aN : pm_A := fun _ σ => some ([], σ)
def aC (e : pm_E) (as : pm_A) : pm_A := fun env σ => match e env σ with
  | some (v, σ1) => match as env σ1 with
    | some (vs, σ2) => some (v :: vs, σ2)
    | none => none
  | none => none
/-- m values, each of which w words at most -/
def aLen (m w : Nat) (as : pm_A) : Prop := ∀ env σ vs σ', as env σ = some (vs, σ') → vs.length = m ∧ w = w
theorem aC_sp {e : pm_E} {as : pm_A} {env : List Value} {σ σ' : pm_H} {vs : List Value} (h : aC e as env σ = some (vs, σ')) : ∃ v σ1 vs', e env σ = some (v, σ1) ∧ as env σ1 = some (vs', σ') ∧ vs = v :: vs' := by
  obtain ⟨v, σ1, h1, h2⟩ := pm_opt h
  cases ha : as env σ1 with
  | none => rw [ha] at h2; cases h2
  | some q =>
    obtain ⟨vs', σ2⟩ := q
    rw [ha] at h2
    cases h2
    exact ⟨v, σ1, vs', h1, ha, rfl⟩
theorem aN_ok : aOK cc y nL rk n pc pc aN ∧ aLen 0 0 aN := by
  refine ⟨⟨fun env σ v σ' h => ?_, fun hG env σ v σ' st hs h l1 l2 k => ?_⟩, fun env σ vs σ' h => ?_⟩
  · cases h; exact ⟨Nat.le_refl _, Nat.le_refl _⟩
  · cases h; exact k
  · cases h; exact ⟨rfl, rfl⟩
/-- the value takes w words -/
def eW (w : Nat) (e : pm_E) : Prop := ∀ env σ v σ', e env σ = some (v, σ') → v.category ≤ w
theorem aC_ok {e : pm_E} {as : pm_A} {w : Nat} (hw : eW w e) (he : eOK cc y nL rk n pc p1 e) (ha : aOK cc y nL rk (n + w) p1 p2 as ∧ aLen m 0 as) : aOK cc y nL rk n pc p2 (aC e as) ∧ aLen (m + 1) 0 (aC e as) := by
  obtain ⟨ha, hl⟩ := ha
  refine ⟨⟨fun env σ v σ' h => ?_, fun hG env σ v σ' st hs h l1 l2 k => ?_⟩, fun env σ vs σ' h => ?_⟩
  · obtain ⟨v, σ1, vs', h1, h2, rfl⟩ := aC_sp h
    obtain ⟨q1, q2⟩ := he.1 _ _ _ _ h1
    obtain ⟨q3, q4⟩ := ha.1 _ _ _ _ h2
    exact ⟨by omega, by omega⟩
  · obtain ⟨v, σ1, vs', h1, h2, rfl⟩ := aC_sp h
    obtain ⟨q3, q4⟩ := ha.1 _ _ _ _ h2
    have hcv := hw _ _ _ _ h1
    rw [List.reverse_cons, List.append_assoc] at k
    exact he.2 hG env σ _ _ st hs h1 (by omega) (by omega) (ha.2 hG env σ1 _ _ (v :: st) (by rw [pm_sum_cons]; omega) h2 l1 l2 k)
  · obtain ⟨v, σ1, vs', h1, h2, rfl⟩ := aC_sp h
    exact ⟨by rw [List.length_cons, (hl _ _ _ _ h2).1], rfl⟩
theorem eW_2 {e : pm_E} : eW 2 e := fun _ _ v _ _ => by cases v <;> simp [Value.category]
end COMB4
