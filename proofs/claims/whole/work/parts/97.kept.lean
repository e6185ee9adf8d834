/-! What no method writes: the script, and the tags and lengths of what stands. -/
def Kp (σ σ' : pm_H) : Prop := pN σ ≤ pN σ' ∧ ∀ a, a < pN σ → pT σ' a = pT σ a ∧ pL σ' a = pL σ a ∧ (pT σ a = 18 → pI σ' a = pI σ a)
theorem Kp_rfl {σ : pm_H} : Kp σ σ := ⟨Nat.le_refl _, fun _ _ => ⟨rfl, rfl, fun _ => rfl⟩⟩
theorem Kp_tr {σ τ ρ : pm_H} (h : Kp σ τ) (h' : Kp τ ρ) : Kp σ ρ := ⟨Nat.le_trans h.1 h'.1, fun a ha => by
  obtain ⟨a1, a2, a3⟩ := h.2 a ha
  obtain ⟨b1, b2, b3⟩ := h'.2 a (Nat.lt_of_lt_of_le ha h.1)
  exact ⟨b1.trans a1, b2.trans a2, fun q => (b3 (a1.trans q)).trans (a3 q)⟩⟩
theorem Kp_uI {σ τ : pm_H} (h : Kp σ τ) {a k : Nat} {x : Int32} (ha : pT τ a ≠ 18) : Kp σ (uI τ a k x) :=
  Kp_tr h ⟨Nat.le_refl _, fun b _ => ⟨rfl, rfl, fun q => pI_uI_ne _ _ _ (by rintro rfl; exact ha q)⟩⟩
theorem Kp_uJ {σ τ : pm_H} (h : Kp σ τ) {a k : Nat} {x : Int64} : Kp σ (uJ τ a k x) := Kp_tr h ⟨Nat.le_refl _, fun _ _ => ⟨rfl, rfl, fun _ => rfl⟩⟩
theorem Kp_uR {σ τ : pm_H} (h : Kp σ τ) {a k : Nat} {x : Option Nat} : Kp σ (uR τ a k x) := Kp_tr h ⟨Nat.le_refl _, fun _ _ => ⟨rfl, rfl, fun _ => rfl⟩⟩
theorem Kp_uC {σ τ : pm_H} (h : Kp σ τ) {a b n : Nat} (ha : pT τ b ≠ 18) : Kp σ (uC τ b a n) :=
  Kp_tr h ⟨Nat.le_refl _, fun c _ => ⟨rfl, rfl, fun q => funext fun j => by rw [pI_uC, if_neg]; rintro ⟨rfl, -⟩; exact ha q⟩⟩
theorem Kp_nw {σ τ : pm_H} (h : Kp σ τ) {t n s : Nat} : Kp σ (nw τ t n s) :=
  Kp_tr h ⟨by rw [pN_nw]; omega, fun b hb => ⟨by rw [pT_nw, if_neg (by omega)], by rw [pL_nw, if_neg (by omega)], fun _ => funext fun j => by rw [pI_nw, if_neg (by omega)]⟩⟩
theorem Kp_pf {σ τ ρ : pm_H} (h : Kp σ τ) {a ty k : Nat} {v : Value} (ha : pT τ a ≠ 18) (e : pm_pf τ a ty k v = some ρ) : Kp σ ρ := by
  obtain ⟨⟨e1, e2, e3, e4, e5⟩, -⟩ := pm_pf_spec e
  exact Kp_tr h ⟨by rw [e3]; exact Nat.le_refl _, fun b _ => ⟨by rw [e1], by rw [e2], fun q => (e5 b (by rintro rfl; exact ha q)).1⟩⟩
def kP {α : Type} (f : List Value → pm_H → Option (α × pm_H)) : Prop := ∀ env σ v σ', f env σ = some (v, σ') → Kp σ σ'
theorem cs18 {cs : Nat → Bool} (hc : cs 18 = false) {t : Nat} (h : cs t = true) : t ≠ 18 := by rintro rfl; rw [hc] at h; cases h
theorem kp_eK {v : Value} : kP (eK v) := fun _ _ _ _ h => by cases h; exact Kp_rfl
theorem kp_eLi {k : Nat} : kP (eLi k) := fun _ _ _ _ h => by obtain ⟨_, -, h, -⟩ := eLi_sp h; rw [h]; exact Kp_rfl
theorem kp_eLj {k : Nat} : kP (eLj k) := fun _ _ _ _ h => by obtain ⟨_, -, h, -⟩ := eLj_sp h; rw [h]; exact Kp_rfl
theorem kp_eLa {k : Nat} : kP (eLa k) := fun _ _ _ _ h => by obtain ⟨_, -, h, -⟩ := eLa_sp h; rw [h]; exact Kp_rfl
theorem kp_eU {g : Value → Option Value} {a : pm_E} (ha : kP a) : kP (eU g a) := fun env σ v σ' h => by
  obtain ⟨x, h1, -⟩ := eU_sp h
  exact ha _ _ _ _ h1
theorem kp_eB {g : Value → Value → Option Value} {a b : pm_E} (ha : kP a) (hb : kP b) : kP (eB g a b) := fun env σ v σ' h => by
  obtain ⟨x, σ1, z, h1, h2, -⟩ := eB_sp h
  exact Kp_tr (ha _ _ _ _ h1) (hb _ _ _ _ h2)
theorem kp_eG {cs : Nat → Bool} {ty k : Nat} {a : pm_E} (ha : kP a) : kP (eG cs ty k a) := fun env σ v σ' h => by
  obtain ⟨b, σ1, h1, h2⟩ := pm_ref h
  obtain ⟨h3, h4⟩ := pm_if h2
  cases h4
  exact ha _ _ _ _ h1
theorem kp_eIF {cs : Nat → Bool} {k : Nat} {a : pm_E} (hc : cs 18 = false) (ha : kP a) : kP (eIF cs k a) := fun env σ v σ' h => by
  obtain ⟨b, σ1, h1, h2⟩ := pm_ref h
  obtain ⟨h3, h4⟩ := pm_if h2
  cases h4
  exact Kp_uI (ha _ _ _ _ h1) (cs18 hc h3)
theorem kp_eAI {a i : pm_E} (ha : kP a) (hi : kP i) : kP (eAI a i) := fun env σ v σ' h => by
  obtain ⟨b, σ1, j, h1, h2, -⟩ := eAI_sp h
  exact Kp_tr (ha _ _ _ _ h1) (hi _ _ _ _ h2)
theorem kp_eAX {a i : pm_E} (ha : kP a) (hi : kP i) : kP (eAX a i) := fun env σ v σ' h => by
  obtain ⟨b, σ1, j, h1, h2, -⟩ := eAX_sp h
  exact Kp_tr (ha _ _ _ _ h1) (hi _ _ _ _ h2)
theorem kp_eAJ {a i : pm_E} (ha : kP a) (hi : kP i) : kP (eAJ a i) := fun env σ v σ' h => by
  obtain ⟨b, σ1, j, h1, h2, -⟩ := eAJ_sp h
  exact Kp_tr (ha _ _ _ _ h1) (hi _ _ _ _ h2)
theorem kp_eAR {a i : pm_E} (ha : kP a) (hi : kP i) : kP (eAR a i) := fun env σ v σ' h => by
  obtain ⟨b, σ1, j, h1, h2, -⟩ := eAR_sp h
  exact Kp_tr (ha _ _ _ _ h1) (hi _ _ _ _ h2)
theorem kp_eLen {a : pm_E} (ha : kP a) : kP (eLen a) := fun env σ v σ' h => by
  obtain ⟨b, σ1, h1, h2⟩ := pm_ref h
  obtain ⟨h3, h4⟩ := pm_if h2
  cases h4
  exact ha _ _ _ _ h1
theorem kp_eSI {a i e : pm_E} (ha : kP a) (hi : kP i) (he : kP e) : kP (eSI a i e) := fun env σ v σ' h => by
  obtain ⟨b, σ1, h1, h2⟩ := pm_ref h
  obtain ⟨j, σ2, h3, h4⟩ := pm_int h2
  obtain ⟨x, σ3, h5, h6⟩ := pm_int h4
  obtain ⟨⟨h7, -⟩, h8⟩ := pm_if h6
  cases h8
  exact Kp_uI (Kp_tr (Kp_tr (ha _ _ _ _ h1) (hi _ _ _ _ h3)) (he _ _ _ _ h5)) (by omega)
theorem kp_eC {c : pm_C} {a b : pm_E} (hc : kP c) (ha : kP a) (hb : kP b) : kP (eC c a b) := fun env σ v σ' h => by
  unfold eC at h
  split at h
  · rename_i e; exact Kp_tr (hc _ _ _ _ e) (ha _ _ _ _ h)
  · rename_i e; exact Kp_tr (hc _ _ _ _ e) (hb _ _ _ _ h)
  · cases h
theorem kp_eCall {D : pm_D} {as : pm_A} (hD : kP D) (ha : kP as) : kP (eCall D as) := fun env σ v σ' h => by
  obtain ⟨vs, σ1, h1, h2⟩ := eCall_sp h
  exact Kp_tr (ha _ _ _ _ h1) (hD _ _ _ _ h2)
theorem kp_eNew {c N : Nat} {D : pm_D} {as : pm_A} (hD : kP D) (ha : kP as) : kP (eNew c N D as) := fun env σ v σ' h => by
  obtain ⟨vs, σ1, h1, h2, -⟩ := eNew_sp h
  exact Kp_tr (Kp_tr (Kp_nw Kp_rfl) (ha _ _ _ _ h1)) (hD _ _ _ _ h2)
theorem kp_eNewA {t : Nat} {e : pm_E} (he : kP e) : kP (eNewA t e) := fun env σ v σ' h => by
  obtain ⟨j, σ1, h1, h2⟩ := pm_int h
  obtain ⟨-, h3⟩ := pm_if h2
  cases h3
  exact Kp_nw (he _ _ _ _ h1)
theorem kp_eInst {g : Nat → Option Int32} {a : pm_E} (ha : kP a) : kP (eInst g a) := fun env σ v σ' h => by
  obtain ⟨b, σ1, h1, h2⟩ := pm_ref h
  cases hz : g (pT σ1 b) with
  | none => rw [hz] at h2; cases h2
  | some z => rw [hz] at h2; cases h2; exact ha _ _ _ _ h1
theorem kp_cI {g : Int32 → Int32 → Bool} {a b : pm_E} (ha : kP a) (hb : kP b) : kP (cI g a b) := fun env σ v σ' h => by
  obtain ⟨x, σ1, z, h1, h2, -⟩ := cI_sp h
  exact Kp_tr (ha _ _ _ _ h1) (hb _ _ _ _ h2)
theorem kp_cZ0 {g : Int32 → Int32 → Bool} {a : pm_E} (ha : kP a) : kP (cZ0 g a) := fun env σ v σ' h => by
  obtain ⟨x, h1, -⟩ := cZ_sp h
  exact ha _ _ _ _ h1
theorem kp_cN {a : pm_E} (ha : kP a) : kP (cN a) := fun env σ v σ' h => by
  obtain ⟨x, h1, -⟩ := cN_sp h
  exact ha _ _ _ _ h1
theorem kp_cNot {a : pm_C} (ha : kP a) : kP (cNot a) := fun env σ v σ' h => by
  unfold cNot at h
  split at h
  · cases h; rename_i e; exact ha _ _ _ _ e
  · cases h
theorem kp_cAnd {a b : pm_C} (ha : kP a) (hb : kP b) : kP (cAnd a b) := fun env σ v σ' h => by
  rcases cAnd_sp h with ⟨σ1, h1, h2⟩ | ⟨h1, -⟩
  · exact Kp_tr (ha _ _ _ _ h1) (hb _ _ _ _ h2)
  · exact ha _ _ _ _ h1
theorem kp_cOr {a b : pm_C} (ha : kP a) (hb : kP b) : kP (cOr a b) := fun env σ v σ' h => by
  rcases cOr_sp h with ⟨σ1, h1, h2⟩ | ⟨h1, -⟩
  · exact Kp_tr (ha _ _ _ _ h1) (hb _ _ _ _ h2)
  · exact ha _ _ _ _ h1
theorem kp_aN : kP aN := fun _ _ _ _ h => by cases h; exact Kp_rfl
theorem kp_aC {e : pm_E} {as : pm_A} (he : kP e) (ha : kP as) : kP (aC e as) := fun env σ v σ' h => by
  obtain ⟨x, σ1, vs, h1, h2, -⟩ := aC_sp h
  exact Kp_tr (he _ _ _ _ h1) (ha _ _ _ _ h2)
theorem kp_sP {cs : Nat → Bool} {ty k : Nat} {a e : pm_E} (hc : cs 18 = false) (ha : kP a) (he : kP e) : kP (sP cs ty k a e) := fun env σ v σ' h => by
  obtain ⟨b, σ1, v1, σ2, h1, h2, h3, h4, h5⟩ := sP_sp h
  exact Kp_pf (Kp_tr (ha _ _ _ _ h1) (he _ _ _ _ h2)) (cs18 hc h3) h4
theorem kp_sUF {cs : Nat → Bool} {ty k : Nat} {g : Value → Value → Option Value} {a e : pm_E} (hc : cs 18 = false) (ha : kP a) (he : kP e) : kP (sUF cs ty k g a e) := fun env σ v σ' h => by
  obtain ⟨b, σ1, z, σ2, v1, h1, h3, h5, hg, h7, hp, h8⟩ := sUF_sp h
  exact Kp_pf (Kp_tr (ha _ _ _ _ h1) (he _ _ _ _ h5)) (cs18 hc h7) hp
theorem kp_sAI {a i e : pm_E} (ha : kP a) (hi : kP i) (he : kP e) : kP (sAI a i e) := fun env σ v σ' h => by
  obtain ⟨b, σ1, h1, h2⟩ := pm_ref h
  obtain ⟨j, σ2, h3, h4⟩ := pm_int h2
  obtain ⟨x, σ3, h5, h6⟩ := pm_int h4
  obtain ⟨⟨h7, -⟩, h8⟩ := pm_if h6
  cases h8
  exact Kp_uI (Kp_tr (Kp_tr (ha _ _ _ _ h1) (hi _ _ _ _ h3)) (he _ _ _ _ h5)) (by omega)
theorem kp_sAJ {a i e : pm_E} (ha : kP a) (hi : kP i) (he : kP e) : kP (sAJ a i e) := fun env σ v σ' h => by
  obtain ⟨b, σ1, h1, h2⟩ := pm_ref h
  obtain ⟨j, σ2, h3, h4⟩ := pm_int h2
  obtain ⟨x, σ3, h5, h6⟩ := pm_lng h4
  obtain ⟨⟨h7, -⟩, h8⟩ := pm_if h6
  cases h8
  exact Kp_uJ (Kp_tr (Kp_tr (ha _ _ _ _ h1) (hi _ _ _ _ h3)) (he _ _ _ _ h5))
theorem kp_sAR {a i e : pm_E} (ha : kP a) (hi : kP i) (he : kP e) : kP (sAR a i e) := fun env σ v σ' h => by
  obtain ⟨b, σ1, h1, h2⟩ := pm_ref h
  obtain ⟨j, σ2, h3, h4⟩ := pm_int h2
  split at h4
  · rename_i h5
    obtain ⟨-, h8⟩ := pm_if h4
    cases h8
    exact Kp_uR (Kp_tr (Kp_tr (ha _ _ _ _ h1) (hi _ _ _ _ h3)) (he _ _ _ _ h5))
  · rename_i h5
    obtain ⟨-, h8⟩ := pm_if h4
    cases h8
    exact Kp_uR (Kp_tr (Kp_tr (ha _ _ _ _ h1) (hi _ _ _ _ h3)) (he _ _ _ _ h5))
  · cases h4
theorem kp_sUA {g : Value → Value → Option Value} {a i e : pm_E} (ha : kP a) (hi : kP i) (he : kP e) : kP (sUA g a i e) := fun env σ v σ' h => by
  obtain ⟨b, σ1, h1, h2⟩ := pm_ref h
  obtain ⟨j, σ2, h3, h4⟩ := pm_int h2
  obtain ⟨-, h4⟩ := pm_if h4
  obtain ⟨z, σ3, h5, h6⟩ := pm_opt h4
  split at h6
  · obtain ⟨⟨h7, -⟩, h8⟩ := pm_if h6
    cases h8
    exact Kp_uI (Kp_tr (Kp_tr (ha _ _ _ _ h1) (hi _ _ _ _ h3)) (he _ _ _ _ h5)) (by omega)
  · cases h6
theorem kp_sCall {D : pm_D} {as : pm_A} (hD : kP D) (ha : kP as) : kP (sCall D as) := fun env σ v σ' h => by
  obtain ⟨vs, σ1, h1, h2, -⟩ := sCall_sp h
  exact Kp_tr (ha _ _ _ _ h1) (hD _ _ _ _ h2)
theorem kp_sObj {a : pm_E} (ha : kP a) : kP (sObj a) := fun env σ v σ' h => by
  obtain ⟨b, σ1, h1, h2⟩ := pm_ref h
  cases h2
  exact ha _ _ _ _ h1
theorem kp_sSi {k : Nat} {e : pm_E} (he : kP e) : kP (sSi k e) := fun env σ v σ' h => by
  obtain ⟨x, h1, -⟩ := sSi_sp h
  exact he _ _ _ _ h1
theorem kp_sSa {k : Nat} {e : pm_E} (he : kP e) : kP (sSa k e) := fun env σ v σ' h => by
  obtain ⟨x, h1, -⟩ := sSa_sp h
  exact he _ _ _ _ h1
theorem kp_sSj {k : Nat} {e : pm_E} (he : kP e) : kP (sSj k e) := fun env σ v σ' h => by
  obtain ⟨x, σ1, h1, h2⟩ := pm_lng h
  obtain ⟨h3, h4⟩ := pm_if h2
  cases h4
  exact he _ _ _ _ h1
theorem kp_sInc {k : Nat} {c : Int32} : kP (sInc k c) := fun env σ v σ' h => by
  unfold sInc at h
  split at h
  · obtain ⟨h3, h4⟩ := pm_if h
    cases h4
    exact Kp_rfl
  · cases h
theorem kp_sSkip : kP sSkip := fun _ _ _ _ h => by cases h; exact Kp_rfl
theorem kp_sRetV : kP sRetV := fun _ _ _ _ h => by cases h; exact Kp_rfl
theorem kp_sRetK {w : Nat} {e : pm_E} (he : kP e) : kP (sRetK w e) := fun env σ v σ' h => by
  obtain ⟨w, h1, -⟩ := sRetK_sp h
  exact he _ _ _ _ h1
theorem kp_sSeq {a b : pm_S} (ha : kP a) (hb : kP b) : kP (sSeq a b) := fun env σ v σ' h => by
  unfold sSeq at h
  split at h
  · rename_i e; exact Kp_tr (ha _ _ _ _ e) (hb _ _ _ _ h)
  · cases h; rename_i e; exact ha _ _ _ _ e
  · cases h
theorem kp_sIf {c : pm_C} {a b : pm_S} (hc : kP c) (ha : kP a) (hb : kP b) : kP (sIf c a b) := fun env σ v σ' h => by
  unfold sIf at h
  split at h
  · rename_i e; exact Kp_tr (hc _ _ _ _ e) (ha _ _ _ _ h)
  · rename_i e; exact Kp_tr (hc _ _ _ _ e) (hb _ _ _ _ h)
  · cases h
theorem kp_sLp {c : pm_C} {b : pm_S} (hc : kP c) (hb : kP b) (k : Nat) : kP (sLp c b k) := by
  induction k with
  | zero => intro env σ v σ' h; cases h
  | succ k ih =>
    intro env σ v σ' h
    rcases sLp_sp h with ⟨σ1, env1, σ2, h1, h2, h3⟩ | ⟨σ1, v, h1, h2, -⟩ | ⟨h1, -⟩
    · exact Kp_tr (Kp_tr (hc _ _ _ _ h1) (hb _ _ _ _ h2)) (ih _ _ _ _ h3)
    · exact Kp_tr (hc _ _ _ _ h1) (hb _ _ _ _ h2)
    · exact hc _ _ _ _ h1
theorem kp_sLoop {c : pm_C} {b : pm_S} (hc : kP c) (hb : kP b) : kP (sLoop c b) := kp_sLp hc hb _
def kLs : List pm_S → Prop
  | [] => True
  | s :: l => kP s ∧ kLs l
theorem kLs_at : ∀ (l : List pm_S) (j : Nat) (s : pm_S), kLs l → l[j]? = some s → kP s := by
  intro l
  induction l with
  | nil => intro j s _ h; cases h
  | cons q l ih =>
    intro j s hl h
    cases j with
    | zero => cases h; exact hl.1
    | succ j => exact ih j s hl.2 h
theorem kp_sSw {e : pm_E} {lo : Int} {cs : List pm_S} {sd : pm_S} (he : kP e) (hl : kLs cs) (hd : kP sd) : kP (sSw e lo cs sd) := fun env σ v σ' h => by
  obtain ⟨x, σ1, h1, h2⟩ := pm_int h
  refine Kp_tr (he _ _ _ _ h1) ?_
  by_cases hx : x.toInt < lo
  · rw [if_pos hx] at h2; exact hd _ _ _ _ h2
  · rw [if_neg hx] at h2
    cases hg : cs[(x.toInt - lo).toNat]? with
    | none => rw [hg] at h2; exact hd _ _ _ _ h2
    | some s => rw [hg] at h2; exact kLs_at _ _ _ hl hg _ _ _ _ h2
theorem kp_meth {w n : Nat} {body : pm_S} (hb : kP body) : kP (pm_meth w n body) := fun env σ v σ' h => by
  obtain ⟨-, h1, -⟩ := pm_meth_sp h
  exact hb _ _ _ _ h1
theorem kp_on {ok : Nat → Bool} {D : pm_D} (hD : kP D) : kP (pm_on ok D) := fun env σ v σ' h => by
  obtain ⟨b, ws, -, -, h1⟩ := pm_on_sp h
  exact hD _ _ _ _ h1
theorem kp_disp {tab : Nat → Option pm_D} (ht : ∀ c D, tab c = some D → kP D) : kP (pm_disp tab) := fun env σ v σ' h => by
  obtain ⟨b, ws, D, -, h1, h2⟩ := pm_disp_sp h
  exact ht _ _ h1 _ _ _ _ h2
theorem kp_tb1 {c : Nat} {D : pm_D} (hD : kP D) : kP (pm_disp (tb1 c D)) := kp_disp fun d E h => by
  unfold tb1 at h
  obtain ⟨-, h⟩ := pm_if h
  cases h; exact hD
theorem kp_tb2 {c1 c2 : Nat} {D1 D2 : pm_D} (h1 : kP D1) (h2 : kP D2) : kP (pm_disp (tb2 c1 c2 D1 D2)) := kp_disp fun d E h => by
  unfold tb2 at h
  by_cases q : d = c1
  · rw [if_pos q] at h; cases h; exact h1
  · rw [if_neg q] at h
    obtain ⟨-, h⟩ := pm_if h
    cases h; exact h2
theorem kp_tb6 {D0 D1 D2 D4 D6 D9 : pm_D} (h0 : kP D0) (h1 : kP D1) (h2 : kP D2) (h4 : kP D4) (h6 : kP D6) (h9 : kP D9) : kP (pm_disp (tb6 D0 D1 D2 D4 D6 D9)) := kp_disp fun d E h => by
  unfold tb6 at h
  by_cases q0 : d = 0
  · rw [if_pos q0] at h; cases h; exact h0
  rw [if_neg q0] at h
  by_cases q1 : d = 1
  · rw [if_pos q1] at h; cases h; exact h1
  rw [if_neg q1] at h
  by_cases q2 : d = 2
  · rw [if_pos q2] at h; cases h; exact h2
  rw [if_neg q2] at h
  by_cases q4 : d = 4
  · rw [if_pos q4] at h; cases h; exact h4
  rw [if_neg q4] at h
  by_cases q6 : d = 6
  · rw [if_pos q6] at h; cases h; exact h6
  rw [if_neg q6] at h
  obtain ⟨-, h⟩ := pm_if h
  cases h; exact h9
theorem K_max : kP D_max := fun env σ v σ' h => by
  unfold D_max at h
  split at h <;> cases h
  exact Kp_rfl
theorem K_min : kP D_min := fun env σ v σ' h => by
  unfold D_min at h
  split at h <;> cases h
  exact Kp_rfl
theorem K_maxJ : kP D_maxJ := fun env σ v σ' h => by
  unfold D_maxJ at h
  split at h <;> cases h
  exact Kp_rfl
theorem K_minJ : kP D_minJ := fun env σ v σ' h => by
  unfold D_minJ at h
  split at h <;> cases h
  exact Kp_rfl
theorem K_length : kP D_length := fun env σ v σ' h => by
  unfold D_length at h
  split at h
  · obtain ⟨-, h⟩ := pm_if h
    cases h; exact Kp_rfl
  · cases h
theorem K_charAt : kP D_charAt := fun env σ v σ' h => by
  unfold D_charAt at h
  split at h
  · obtain ⟨-, h⟩ := pm_if h
    cases h; exact Kp_rfl
  · cases h
theorem K_copy : kP D_copy := fun env σ v σ' h => by
  unfold D_copy at h
  split at h
  · obtain ⟨⟨-, h1, -⟩, h⟩ := pm_if h
    cases h; exact Kp_uC Kp_rfl (by omega)
  · cases h
