/-! Calls, new objects, statements, loops, methods. -/
/-- on objects of these classes alone -/
def pm_on (ok : Nat → Bool) (D : pm_D) : pm_D := fun vs σ => match vs with
  | .ref b :: ws => if ok (pT σ b) = true then D (.ref b :: ws) σ else none
  | _ => none
/-- by the class of the receiver -/
def pm_disp (tab : Nat → Option pm_D) : pm_D := fun vs σ => match vs with
  | .ref b :: ws => match tab (pT σ b) with
    | some D => D (.ref b :: ws) σ
    | none => none
  | _ => none
def tb1 (c : Nat) (D : pm_D) : Nat → Option pm_D := fun d => if d = c then some D else none
/-- of the six kinds of people: child, deaf, old, restless, sleeper, traveller -/
def tb6 (D0 D1 D2 D4 D6 D9 : pm_D) : Nat → Option pm_D := fun d => if d = 0 then some D0 else if d = 1 then some D1 else if d = 2 then some D2 else if d = 4 then some D4 else if d = 6 then some D6 else if d = 9 then some D9 else none
def eCall (D : pm_D) (as : pm_A) : pm_E := fun env σ => match as env σ with
  | some (vs, σ1) => match D vs σ1 with
    | some (some v, σ2) => some (v, σ2)
    | _ => none
  | none => none
def sCall (D : pm_D) (as : pm_A) : pm_S := fun env σ => match as env σ with
  | some (vs, σ1) => match D vs σ1 with
    | some (none, σ2) => some (.inl env, σ2)
    | _ => none
  | none => none
def eNew (c N : Nat) (D : pm_D) (as : pm_A) : pm_E := fun env σ => match as env (nw σ c 0 N) with
  | some (vs, σ1) => match D (.ref (pN σ) :: vs) σ1 with
    | some (none, σ2) => some (.ref (pN σ), σ2)
    | _ => none
  | none => none
def eNewA (t : Nat) (e : pm_E) : pm_E := fun env σ => match e env σ with
  | some (.int j, σ1) => if ¬ j < 0 ∧ j.toNatClampNeg ≤ 1000 then some (.ref (pN σ1), nw σ1 t j.toNatClampNeg j.toNatClampNeg) else none
  | _ => none
def sObj (a : pm_E) : pm_S := fun env σ => match a env σ with
  | some (.ref _, σ1) => some (.inl env, σ1)
  | _ => none
theorem eCall_sp {D : pm_D} {as : pm_A} {env : List Value} {σ σ' : pm_H} {v : Value} (h : eCall D as env σ = some (v, σ')) : ∃ vs σ1, as env σ = some (vs, σ1) ∧ D vs σ1 = some (some v, σ') := by
  unfold eCall at h
  cases ha : as env σ with
  | none => rw [ha] at h; cases h
  | some q =>
    obtain ⟨vs, σ1⟩ := q
    simp only [ha] at h
    split at h
    · cases h; exact ⟨vs, σ1, rfl, by assumption⟩
    · cases h
theorem sCall_sp {D : pm_D} {as : pm_A} {env : List Value} {σ σ' : pm_H} {r : List Value ⊕ Option Value} (h : sCall D as env σ = some (r, σ')) : ∃ vs σ1, as env σ = some (vs, σ1) ∧ D vs σ1 = some (none, σ') ∧ r = .inl env := by
  unfold sCall at h
  cases ha : as env σ with
  | none => rw [ha] at h; cases h
  | some q =>
    obtain ⟨vs, σ1⟩ := q
    simp only [ha] at h
    split at h
    · cases h; exact ⟨vs, σ1, rfl, by assumption, rfl⟩
    · cases h
theorem eNew_sp {c N : Nat} {D : pm_D} {as : pm_A} {env : List Value} {σ σ' : pm_H} {v : Value} (h : eNew c N D as env σ = some (v, σ')) : ∃ vs σ1, as env (nw σ c 0 N) = some (vs, σ1) ∧ D (.ref (pN σ) :: vs) σ1 = some (none, σ') ∧ v = .ref (pN σ) := by
  unfold eNew at h
  cases ha : as env (nw σ c 0 N) with
  | none => rw [ha] at h; cases h
  | some q =>
    obtain ⟨vs, σ1⟩ := q
    simp only [ha] at h
    split at h
    · cases h; exact ⟨vs, σ1, rfl, by assumption, rfl⟩
    · cases h
theorem pm_disp_sp {tab : Nat → Option pm_D} {vs : List Value} {σ : pm_H} {w : Option Value × pm_H} (h : pm_disp tab vs σ = some w) : ∃ b ws D, vs = .ref b :: ws ∧ tab (pT σ b) = some D ∧ D (.ref b :: ws) σ = some w := by
  unfold pm_disp at h
  split at h
  · split at h
    · exact ⟨_, _, _, rfl, by assumption, h⟩
    · cases h
  · cases h
theorem pm_on_sp {ok : Nat → Bool} {D : pm_D} {vs : List Value} {σ : pm_H} {w : Option Value × pm_H} (h : pm_on ok D vs σ = some w) : ∃ b ws, vs = .ref b :: ws ∧ ok (pT σ b) = true ∧ D (.ref b :: ws) σ = some w := by
  unfold pm_on at h
  split at h
  · obtain ⟨h1, h2⟩ := pm_if h
    exact ⟨_, _, rfl, h1, h2⟩
  · cases h
section COMB5
variable {cc : ByteArray} {y : MethodName} {nL rk : Nat} {n pc p1 p2 p3 p4 t f nx m : Nat}
/-- a call of any kind, at p1, with m arguments on the stack (the receiver among them) -/
def kOK (cc : ByteArray) (y : MethodName) (nL rk : Nat) (p1 m : Nat) (D : pm_D) : Prop := pm_mono D ∧ ∀ {lim lims : Nat} {G : pm_J} {Ret : Option Value → pm_H → Prop}, pm_G cc y nL rk lim lims G Ret → ∀ (env : List Value) (σ : pm_H) (vs : List Value) (r : Option Value) (σ' : pm_H) (st : List Value), vs.length = m → pm_sum st ≤ 8 → D vs σ = some (r, σ') → pN σ' ≤ lim → pS σ' ≤ lims → G (p1 + 3) env (r.toList ++ st) σ' → G p1 env (vs.reverse ++ st) σ
theorem xS {idx rk2 : Nat} {y2 : MethodName} {ret : Option FieldType} {D : pm_D} (d : decode cc p1 = .ok (.invokestatic idx, 3)) (hM : pm_M y2 rk2 ret D) (hrk : rk2 + 1 ≤ rk) (hs : pm_ss y.cls idx y2 m) : kOK cc y nL rk p1 m D := by
  refine ⟨hM.1, fun hG env σ vs r σ' st hm hst hD l1 l2 k => ?_⟩
  subst hm
  exact rw_callS hG d hM hrk hs hD hst l1 l2 k
theorem xI {idx rk2 : Nat} {y2 : MethodName} {D : pm_D} (d : decode cc p1 = .ok (.invokespecial idx, 3)) (hM : pm_M y2 rk2 none D) (hrk : rk2 + 1 ≤ rk) (hs : pm_si y.cls idx y2 m) : ∀ {lim lims : Nat} {G : pm_J} {Ret : Option Value → pm_H → Prop}, pm_G cc y nL rk lim lims G Ret → ∀ (env : List Value) (σ : pm_H) (b : Nat) (vs : List Value) (r : Option Value) (σ' : pm_H) (st : List Value), vs.length = m → pm_sum st ≤ 8 → D (.ref b :: vs) σ = some (r, σ') → pN σ' ≤ lim → pS σ' ≤ lims → G (p1 + 3) env (r.toList ++ st) σ' → G p1 env (vs.reverse ++ .ref b :: st) σ := by
  intro lim lims G Ret hG env σ b vs r σ' st hm hst hD l1 l2 k
  subst hm
  exact rw_callI hG d hM hrk hs hD hst l1 l2 k
/-- super(..) of a class of ours -/
theorem xIs {idx rk2 : Nat} {y2 : MethodName} {D : pm_D} (d : decode cc p1 = .ok (.invokespecial idx, 3)) (hM : pm_M y2 rk2 none D) (hrk : rk2 + 1 ≤ rk) (hs : pm_si y.cls idx y2 m) : kOK cc y nL rk p1 (m + 1) (pm_on (fun _ => true) D) := by
  refine ⟨fun vs σ r σ' h => ?_, fun hG env σ vs r σ' st hm hst hD l1 l2 k => ?_⟩
  · obtain ⟨b, ws, rfl, h1, h2⟩ := pm_on_sp h
    exact hM.1 _ _ _ _ h2
  · obtain ⟨b, ws, rfl, h1, h2⟩ := pm_on_sp hD
    rw [List.reverse_cons, List.append_assoc]
    exact xI d hM hrk hs hG env σ b ws r σ' st (by simpa using hm) hst h2 l1 l2 k
theorem xV {idx : Nat} {tab : Nat → Option pm_D} (d : decode cc p1 = .ok (.invokevirtual idx, 3)) (hV : ∀ c D, tab c = some D → ∃ rc y2 rk2 ret, vwCl[c]? = some rc ∧ pm_M y2 rk2 ret D ∧ rk2 + 1 ≤ rk ∧ pm_sv y.cls idx rc.1 y2 m) : kOK cc y nL rk p1 (m + 1) (pm_disp tab) := by
  refine ⟨fun vs σ r σ' h => ?_, fun hG env σ vs r σ' st hm hst hD l1 l2 k => ?_⟩
  · obtain ⟨b, ws, D, rfl, h1, h2⟩ := pm_disp_sp h
    obtain ⟨rc, y2, rk2, ret, -, hM, -⟩ := hV _ _ h1
    exact hM.1 _ _ _ _ h2
  · obtain ⟨b, ws, D, rfl, h1, h2⟩ := pm_disp_sp hD
    obtain ⟨rc, y2, rk2, ret, hc, hM, hrk, hs⟩ := hV _ _ h1
    have hm2 : ws.length = m := by simpa using hm
    subst hm2
    rw [List.reverse_cons, List.append_assoc]
    exact rw_callV hG d hM hrk rfl hc hs h2 hst l1 l2 k
theorem xU {ok : Nat → Bool} {idx rk2 : Nat} {y2 : MethodName} {ret : Option FieldType} {D : pm_D} (d : decode cc p1 = .ok (.invokespecial idx, 3)) (hM : pm_M y2 rk2 ret D) (hrk : rk2 + 1 ≤ rk) (hok : ∀ c, ok c = true → ∃ rc, vwCl[c]? = some rc) (hs : pm_su y.cls idx y2 m) : kOK cc y nL rk p1 (m + 1) (pm_on ok D) := by
  refine ⟨fun vs σ r σ' h => ?_, fun hG env σ vs r σ' st hm hst hD l1 l2 k => ?_⟩
  · obtain ⟨b, ws, rfl, h1, h2⟩ := pm_on_sp h
    exact hM.1 _ _ _ _ h2
  · obtain ⟨b, ws, rfl, h1, h2⟩ := pm_on_sp hD
    obtain ⟨rc, hc⟩ := hok _ h1
    have hm2 : ws.length = m := by simpa using hm
    subst hm2
    rw [List.reverse_cons, List.append_assoc]
    exact rw_callSU hG d hM hrk rfl hc hs h2 hst l1 l2 k
theorem eCall_ok {D : pm_D} {as : pm_A} (ha : aOK cc y nL rk n pc p1 as ∧ aLen m 0 as) (hk : kOK cc y nL rk p1 m D) (hn : n ≤ 8) : eOK cc y nL rk n pc (p1 + 3) (eCall D as) := by
  obtain ⟨ha, hl⟩ := ha
  refine ⟨fun env σ v σ' h => ?_, fun hG env σ v σ' st hs h l1 l2 k => ?_⟩
  · obtain ⟨vs, σ1, h1, h2⟩ := eCall_sp h
    obtain ⟨q1, q2⟩ := ha.1 _ _ _ _ h1
    obtain ⟨q3, q4⟩ := hk.1 _ _ _ _ h2
    exact ⟨by omega, by omega⟩
  · obtain ⟨vs, σ1, h1, h2⟩ := eCall_sp h
    obtain ⟨q3, q4⟩ := hk.1 _ _ _ _ h2
    exact ha.2 hG env σ _ _ st hs h1 (by omega) (by omega) (hk.2 hG env σ1 vs (some v) σ' st (hl _ _ _ _ h1).1 (by omega) h2 l1 l2 k)
theorem sCall_ok {D : pm_D} {as : pm_A} (ha : aOK cc y nL rk 0 pc p1 as ∧ aLen m 0 as) (hk : kOK cc y nL rk p1 m D) (hj : jOK cc y nL rk (p1 + 3) nx) : sOK cc y nL rk pc nx (sCall D as) := by
  obtain ⟨ha, hl⟩ := ha
  refine ⟨fun env σ v σ' h => ?_, fun hG env σ r σ' h l1 l2 k1 k2 => ?_⟩
  · obtain ⟨vs, σ1, h1, h2, -⟩ := sCall_sp h
    obtain ⟨q1, q2⟩ := ha.1 _ _ _ _ h1
    obtain ⟨q3, q4⟩ := hk.1 _ _ _ _ h2
    exact ⟨by omega, by omega⟩
  · obtain ⟨vs, σ1, h1, h2, h3⟩ := sCall_sp h
    obtain ⟨q3, q4⟩ := hk.1 _ _ _ _ h2
    exact ha.2 hG env σ _ _ [] (Nat.le_refl _) h1 (by omega) (by omega) (hk.2 hG env σ1 vs none σ' [] (hl _ _ _ _ h1).1 (Nat.zero_le _) h2 l1 l2 (hj hG _ _ _ (k1 env h3)))
theorem eNew_ok {c idx idx2 rk2 : Nat} {r : vw_C} {y2 : MethodName} {D : pm_D} {as : pm_A} (d : decode cc pc = .ok (.new idx, 3)) (hr : vwCl[c]? = some r) (w1 : Cond.classLink y.cls idx r.1 ∈ gws) (w2 : Cond.instantiable r.1 r.2.2 ∈ gws) (w3 : Cond.initialized r.1 ∈ gws) (d2 : decode cc (pc + 3) = .ok (.dup, 1)) (ha : aOK cc y nL rk (n + 2) (pc + 3 + 1) p1 as ∧ aLen m 0 as) (d3 : decode cc p1 = .ok (.invokespecial idx2, 3)) (hM : pm_M y2 rk2 none D) (hrk : rk2 + 1 ≤ rk) (hs : pm_si y.cls idx2 y2 m) (hn : n + 1 ≤ 8) : eOK cc y nL rk n pc (p1 + 3) (eNew c r.2.2 D as) := by
  obtain ⟨ha, hl⟩ := ha
  refine ⟨fun env σ v σ' h => ?_, fun hG env σ v σ' st hst h l1 l2 k => ?_⟩
  · obtain ⟨vs, σ1, h1, h2, -⟩ := eNew_sp h
    obtain ⟨q1, q2⟩ := ha.1 _ _ _ _ h1
    obtain ⟨q3, q4⟩ := hM.1 _ _ _ _ h2
    rw [pN_nw] at q1
    rw [pS_nw] at q2
    exact ⟨by omega, by omega⟩
  · obtain ⟨vs, σ1, h1, h2, rfl⟩ := eNew_sp h
    obtain ⟨q1, q2⟩ := ha.1 _ _ _ _ h1
    obtain ⟨q3, q4⟩ := hM.1 _ _ _ _ h2
    have q1' := q1
    have q2' := q2
    rw [pN_nw] at q1'
    rw [pS_nw] at q2'
    exact rw_new hG d hr w1 w2 w3 (by omega) (by omega) (rw_dup hG d2 rfl (ha.2 hG env _ _ _ (.ref (pN σ) :: .ref (pN σ) :: st) (by rw [pm_sum_cons, pm_sum_cons]; show 1 + (1 + _) ≤ _; omega) h1 (by omega) (by omega) (xI d3 hM hrk hs hG env σ1 (pN σ) vs none σ' (.ref (pN σ) :: st) (hl _ _ _ _ h1).1 (by rw [pm_sum_cons]; show 1 + _ ≤ _; omega) h2 l1 l2 k)))
theorem eNewA_sp {t : Nat} {e : pm_E} {env : List Value} {σ σ' : pm_H} {v : Value} (h : eNewA t e env σ = some (v, σ')) : ∃ j σ1, e env σ = some (.int j, σ1) ∧ ¬ j < 0 ∧ j.toNatClampNeg ≤ 1000 ∧ v = .ref (pN σ1) ∧ σ' = nw σ1 t j.toNatClampNeg j.toNatClampNeg := by
  obtain ⟨j, σ1, h1, h2⟩ := pm_int h
  obtain ⟨⟨h3, h4⟩, h5⟩ := pm_if h2
  cases h5
  exact ⟨j, σ1, h1, h3, h4, rfl, rfl⟩
theorem eNewA_mo {t : Nat} {e : pm_E} (he : pm_mo e) : pm_mo (eNewA t e) := fun env σ v σ' h => by
  obtain ⟨j, σ1, h1, -, -, -, rfl⟩ := eNewA_sp h
  obtain ⟨q1, q2⟩ := he _ _ _ _ h1
  rw [pN_nw, pS_nw]
  exact ⟨by omega, by omega⟩
theorem eNewI_ok {e : pm_E} (he : eOK cc y nL rk n pc p1 e) (d : decode cc p1 = .ok (.newarray .int, 2)) : eOK cc y nL rk n pc (p1 + 2) (eNewA 13 e) := by
  refine ⟨eNewA_mo he.1, fun hG env σ v σ' st hs h l1 l2 k => ?_⟩
  obtain ⟨j, σ1, h1, h2, h3, rfl, rfl⟩ := eNewA_sp h
  rw [pN_nw] at l1
  rw [pS_nw] at l2
  exact he.2 hG env σ _ _ st hs h1 (by omega) (by omega) (rw_newi hG d h2 h3 l1 l2 k)
theorem eNewJ_ok {e : pm_E} (he : eOK cc y nL rk n pc p1 e) (d : decode cc p1 = .ok (.newarray .long, 2)) : eOK cc y nL rk n pc (p1 + 2) (eNewA 14 e) := by
  refine ⟨eNewA_mo he.1, fun hG env σ v σ' st hs h l1 l2 k => ?_⟩
  obtain ⟨j, σ1, h1, h2, h3, rfl, rfl⟩ := eNewA_sp h
  rw [pN_nw] at l1
  rw [pS_nw] at l2
  exact he.2 hG env σ _ _ st hs h1 (by omega) (by omega) (rw_newl hG d h2 h3 l1 l2 k)
theorem eNewR_ok {t idx : Nat} {e : pm_E} (he : eOK cc y nL rk n pc p1 e) (d : decode cc p1 = .ok (.anewarray idx, 3)) (w1 : (t = 15 ∧ Cond.classLink y.cls idx RX6 ∈ gws) ∨ (t = 16 ∧ Cond.classLink y.cls idx RX5 ∈ gws)) : eOK cc y nL rk n pc (p1 + 3) (eNewA t e) := by
  refine ⟨eNewA_mo he.1, fun hG env σ v σ' st hs h l1 l2 k => ?_⟩
  obtain ⟨j, σ1, h1, h2, h3, rfl, rfl⟩ := eNewA_sp h
  rw [pN_nw] at l1
  rw [pS_nw] at l2
  exact he.2 hG env σ _ _ st hs h1 (by omega) (by omega) (rw_newr hG d w1 h2 h3 l1 l2 k)
theorem sObj_ok {a : pm_E} {idx : Nat} (ha : eOK cc y nL rk 0 pc p1 a) (d : decode cc p1 = .ok (.invokespecial idx, 3)) (w1 : Cond.methodLink y.cls idx Lib.objectInit ∈ gws) (w2 : Cond.instanceMethod Lib.objectInit ∈ gws) (w3 : Cond.code Lib.objectInit ⟨#[0xb1]⟩ 1 none ∈ gws) (hrk : 1 ≤ rk) (hj : jOK cc y nL rk (p1 + 3) nx) : sOK cc y nL rk pc nx (sObj a) := by
  refine ⟨fun env σ v σ' h => ?_, fun hG env σ r σ' h l1 l2 k1 k2 => ?_⟩
  · obtain ⟨b, σ1, h1, h2⟩ := pm_ref h
    cases h2
    exact ha.1 _ _ _ _ h1
  · obtain ⟨b, σ1, h1, h2⟩ := pm_ref h
    cases h2
    exact ha.2 hG env σ _ _ [] (Nat.le_refl _) h1 l1 l2 (rw_objInit hG d w1 w2 w3 hrk (Nat.zero_le _) (hj hG _ _ _ (k1 env rfl)))
/-- instanceof, on an object, by its class -/
def eInst (g : Nat → Option Int32) (a : pm_E) : pm_E := fun env σ => match a env σ with
  | some (.ref b, σ1) => match g (pT σ1 b) with
    | some z => some (.int z, σ1)
    | none => none
  | _ => none
theorem eInst_ok {g : Nat → Option Int32} {a : pm_E} {idx : Nat} {T : String} (hg : ∀ c z, g c = some z → ∃ rc, vwCl[c]? = some rc ∧ (((rc.1, T) ∈ pm_cast ∧ z = 1) ∨ (rc.1 = T ∧ z = 1) ∨ ((rc.1, T) ∈ pm_ncast ∧ z = 0))) (ha : eOK cc y nL rk n pc p1 a) (d : decode cc p1 = .ok (.instanceof idx, 3)) (w1 : Cond.classLink y.cls idx T ∈ gws) : eOK cc y nL rk n pc (p1 + 3) (eInst g a) := by
  have sp : ∀ {env : List Value} {σ σ' : pm_H} {v : Value}, eInst g a env σ = some (v, σ') → ∃ b z, a env σ = some (.ref b, σ') ∧ g (pT σ' b) = some z ∧ v = .int z := by
    intro env σ σ' v h
    obtain ⟨b, σ1, h1, h2⟩ := pm_ref h
    cases hz : g (pT σ1 b) with
    | none => rw [hz] at h2; cases h2
    | some z => rw [hz] at h2; cases h2; exact ⟨b, z, h1, hz, rfl⟩
  refine ⟨fun env σ v σ' h => ?_, fun hG env σ v σ' st hs h l1 l2 k => ?_⟩
  · obtain ⟨b, z, h1, -⟩ := sp h
    exact ha.1 _ _ _ _ h1
  · obtain ⟨b, z, h1, h2, rfl⟩ := sp h
    obtain ⟨rc, r1, r2⟩ := hg _ _ h2
    exact ha.2 hG env σ _ _ st hs h1 l1 l2 (rw_inst hG d w1 rfl r1 r2 k)
-- statements
def sSi (k : Nat) (e : pm_E) : pm_S := fun env σ => match e env σ with
  | some (.int x, σ1) => if pm_nl env k = true then some (.inl (env.set k (.int x)), σ1) else none
  | _ => none
def sSa (k : Nat) (e : pm_E) : pm_S := fun env σ => match e env σ with
  | some (.ref x, σ1) => if pm_nl env k = true then some (.inl (env.set k (.ref x)), σ1) else none
  | some (.null, σ1) => if pm_nl env k = true then some (.inl (env.set k .null), σ1) else none
  | _ => none
def sSj (k : Nat) (e : pm_E) : pm_S := fun env σ => match e env σ with
  | some (.long x, σ1) => if pm_nl env k = true then some (.inl ((env.set k (.long x)).set (k + 1) (.float 0)), σ1) else none
  | _ => none
def sInc (k : Nat) (c : Int32) : pm_S := fun env σ => match env[k]? with
  | some (.int x) => if pm_nl env k = true then some (.inl (env.set k (.int (x + c))), σ) else none
  | _ => none
def sSkip : pm_S := fun env σ => some (.inl env, σ)
def sFail : pm_S := fun _ _ => none
def sSeq (a b : pm_S) : pm_S := fun env σ => match a env σ with
  | some (.inl env1, σ1) => b env1 σ1
  | some (.inr v, σ1) => some (.inr v, σ1)
  | none => none
def sIf (c : pm_C) (a b : pm_S) : pm_S := fun env σ => match c env σ with
  | some (true, σ1) => a env σ1
  | some (false, σ1) => b env σ1
  | none => none
def sRet (e : pm_E) : pm_S := fun env σ => match e env σ with
  | some (v, σ1) => some (.inr (some v), σ1)
  | none => none
def sRetV : pm_S := fun _ σ => some (.inr none, σ)
def sLp (c : pm_C) (b : pm_S) : Nat → pm_S
  | 0 => fun _ _ => none
  | k + 1 => fun env σ => match c env σ with
    | some (true, σ1) => match b env σ1 with
      | some (.inl env1, σ2) => sLp c b k env1 σ2
      | some (.inr v, σ2) => some (.inr v, σ2)
      | none => none
    | some (false, σ1) => some (.inl env, σ1)
    | none => none
def pm_fuel : Nat := 100000
def sLoop (c : pm_C) (b : pm_S) : pm_S := sLp c b pm_fuel
/-- a switch: cases from lo on, else -/
def sSw (e : pm_E) (lo : Int) (cs : List pm_S) (sd : pm_S) : pm_S := fun env σ => match e env σ with
  | some (.int x, σ1) => if x.toInt < lo then sd env σ1 else ((cs[(x.toInt - lo).toNat]?).getD sd) env σ1
  | _ => none
theorem sSi_sp {k : Nat} {e : pm_E} {env : List Value} {σ σ' : pm_H} {r : List Value ⊕ Option Value} (h : sSi k e env σ = some (r, σ')) : ∃ x, e env σ = some (.int x, σ') ∧ pm_nl env k = true ∧ r = .inl (env.set k (.int x)) := by
  obtain ⟨x, σ1, h1, h2⟩ := pm_int h
  obtain ⟨h3, h4⟩ := pm_if h2
  cases h4
  exact ⟨x, h1, h3, rfl⟩
theorem sSa_sp {k : Nat} {e : pm_E} {env : List Value} {σ σ' : pm_H} {r : List Value ⊕ Option Value} (h : sSa k e env σ = some (r, σ')) : ∃ x, e env σ = some (va_rf x, σ') ∧ pm_nl env k = true ∧ r = .inl (env.set k (va_rf x)) := by
  unfold sSa at h
  split at h
  · obtain ⟨h3, h4⟩ := pm_if h
    cases h4
    exact ⟨some _, by assumption, h3, rfl⟩
  · obtain ⟨h3, h4⟩ := pm_if h
    cases h4
    exact ⟨none, by assumption, h3, rfl⟩
  · cases h
theorem sSi_n {k : Fin 4} {i : Nat} {e : pm_E} (he : eOK cc y nL rk 0 pc p1 e) (d : decode cc p1 = .ok (.istore_n k, 1)) (hi : (k : Nat) = i) (hk : i < nL) (hj : jOK cc y nL rk (p1 + 1) nx) : sOK cc y nL rk pc nx (sSi i e) := by
  subst hi
  refine ⟨fun env σ v σ' h => ?_, fun hG env σ r σ' h l1 l2 k1 k2 => ?_⟩
  · obtain ⟨x, h1, -⟩ := sSi_sp h
    exact he.1 _ _ _ _ h1
  · obtain ⟨x, h1, h2, h3⟩ := sSi_sp h
    exact he.2 hG env σ _ _ [] (Nat.le_refl _) h1 l1 l2 (rw_istore_n hG d hk h2 (hj hG _ _ _ (k1 _ h3)))
theorem sSi_w {i : Nat} {e : pm_E} (he : eOK cc y nL rk 0 pc p1 e) (d : decode cc p1 = .ok (.istore i, 2)) (hk : i < nL) (hj : jOK cc y nL rk (p1 + 2) nx) : sOK cc y nL rk pc nx (sSi i e) := by
  refine ⟨fun env σ v σ' h => ?_, fun hG env σ r σ' h l1 l2 k1 k2 => ?_⟩
  · obtain ⟨x, h1, -⟩ := sSi_sp h
    exact he.1 _ _ _ _ h1
  · obtain ⟨x, h1, h2, h3⟩ := sSi_sp h
    exact he.2 hG env σ _ _ [] (Nat.le_refl _) h1 l1 l2 (rw_istore hG d hk h2 (hj hG _ _ _ (k1 _ h3)))
theorem sSa_n {k : Fin 4} {i : Nat} {e : pm_E} (he : eOK cc y nL rk 0 pc p1 e) (d : decode cc p1 = .ok (.astore_n k, 1)) (hi : (k : Nat) = i) (hk : i < nL) (hj : jOK cc y nL rk (p1 + 1) nx) : sOK cc y nL rk pc nx (sSa i e) := by
  subst hi
  refine ⟨fun env σ v σ' h => ?_, fun hG env σ r σ' h l1 l2 k1 k2 => ?_⟩
  · obtain ⟨x, h1, -⟩ := sSa_sp h
    exact he.1 _ _ _ _ h1
  · obtain ⟨x, h1, h2, h3⟩ := sSa_sp h
    exact he.2 hG env σ _ _ [] (Nat.le_refl _) h1 l1 l2 (rw_astore_n hG d hk h2 (hj hG _ _ _ (k1 _ h3)))
theorem sSa_w {i : Nat} {e : pm_E} (he : eOK cc y nL rk 0 pc p1 e) (d : decode cc p1 = .ok (.astore i, 2)) (hk : i < nL) (hj : jOK cc y nL rk (p1 + 2) nx) : sOK cc y nL rk pc nx (sSa i e) := by
  refine ⟨fun env σ v σ' h => ?_, fun hG env σ r σ' h l1 l2 k1 k2 => ?_⟩
  · obtain ⟨x, h1, -⟩ := sSa_sp h
    exact he.1 _ _ _ _ h1
  · obtain ⟨x, h1, h2, h3⟩ := sSa_sp h
    exact he.2 hG env σ _ _ [] (Nat.le_refl _) h1 l1 l2 (rw_astore hG d hk h2 (hj hG _ _ _ (k1 _ h3)))
theorem sSj_w {i : Nat} {e : pm_E} (he : eOK cc y nL rk 0 pc p1 e) (d : decode cc p1 = .ok (.lstore i, 2)) (hk : i + 1 < nL) (hj : jOK cc y nL rk (p1 + 2) nx) : sOK cc y nL rk pc nx (sSj i e) := by
  have sp : ∀ {env : List Value} {σ σ' : pm_H} {r : List Value ⊕ Option Value}, sSj i e env σ = some (r, σ') → ∃ x, e env σ = some (.long x, σ') ∧ pm_nl env i = true ∧ r = .inl ((env.set i (.long x)).set (i + 1) (.float 0)) := by
    intro env σ σ' r h
    obtain ⟨x, σ1, h1, h2⟩ := pm_lng h
    obtain ⟨h3, h4⟩ := pm_if h2
    cases h4
    exact ⟨x, h1, h3, rfl⟩
  refine ⟨fun env σ v σ' h => ?_, fun hG env σ r σ' h l1 l2 k1 k2 => ?_⟩
  · obtain ⟨x, h1, -⟩ := sp h
    exact he.1 _ _ _ _ h1
  · obtain ⟨x, h1, h2, h3⟩ := sp h
    exact he.2 hG env σ _ _ [] (Nat.le_refl _) h1 l1 l2 (rw_lstore hG d hk h2 (hj hG _ _ _ (k1 _ h3)))
theorem sInc_ok {i : Nat} {c : Int} {c2 : Int32} (d : decode cc pc = .ok (.iinc i c, 3)) (hc : Int32.ofInt c = c2) (hk : i < nL) (hj : jOK cc y nL rk (pc + 3) nx) : sOK cc y nL rk pc nx (sInc i c2) := by
  subst hc
  have sp : ∀ {env : List Value} {σ σ' : pm_H} {r : List Value ⊕ Option Value}, sInc i (Int32.ofInt c) env σ = some (r, σ') → ∃ x, env[i]? = some (.int x) ∧ pm_nl env i = true ∧ σ' = σ ∧ r = .inl (env.set i (.int (x + Int32.ofInt c))) := by
    intro env σ σ' r h
    unfold sInc at h
    split at h
    · obtain ⟨h3, h4⟩ := pm_if h
      cases h4
      exact ⟨_, by assumption, h3, rfl, rfl⟩
    · cases h
  refine ⟨fun env σ v σ' h => ?_, fun hG env σ r σ' h l1 l2 k1 k2 => ?_⟩
  · obtain ⟨x, -, -, rfl, -⟩ := sp h
    exact ⟨Nat.le_refl _, Nat.le_refl _⟩
  · obtain ⟨x, h1, h2, rfl, h3⟩ := sp h
    exact rw_iinc hG d h1 hk h2 (hj hG _ _ _ (k1 _ h3))
theorem sSkip_ok (hj : jOK cc y nL rk pc nx) : sOK cc y nL rk pc nx sSkip := by
  refine ⟨fun env σ v σ' h => ?_, fun hG env σ r σ' h l1 l2 k1 k2 => ?_⟩
  · cases h; exact ⟨Nat.le_refl _, Nat.le_refl _⟩
  · cases h; exact hj hG _ _ _ (k1 _ rfl)
theorem sFail_ok : sOK cc y nL rk pc nx sFail := by
  refine ⟨fun env σ v σ' h => ?_, fun hG env σ r σ' h l1 l2 k1 k2 => ?_⟩
  · cases h
  · cases h
theorem sSeq_sp {a b : pm_S} {env : List Value} {σ σ' : pm_H} {r : List Value ⊕ Option Value} (h : sSeq a b env σ = some (r, σ')) : (∃ env1 σ1, a env σ = some (.inl env1, σ1) ∧ b env1 σ1 = some (r, σ')) ∨ (∃ v, a env σ = some (.inr v, σ') ∧ r = .inr v) := by
  unfold sSeq at h
  split at h
  · exact Or.inl ⟨_, _, by assumption, h⟩
  · cases h; exact Or.inr ⟨_, by assumption, rfl⟩
  · cases h
theorem sSeq_ok {a b : pm_S} (ha : sOK cc y nL rk pc p1 a) (hb : sOK cc y nL rk p1 nx b) : sOK cc y nL rk pc nx (sSeq a b) := by
  refine ⟨fun env σ v σ' h => ?_, fun hG env σ r σ' h l1 l2 k1 k2 => ?_⟩
  · rcases sSeq_sp h with ⟨env1, σ1, h1, h2⟩ | ⟨v, h1, -⟩
    · obtain ⟨q1, q2⟩ := ha.1 _ _ _ _ h1
      obtain ⟨q3, q4⟩ := hb.1 _ _ _ _ h2
      exact ⟨by omega, by omega⟩
    · exact ha.1 _ _ _ _ h1
  · rcases sSeq_sp h with ⟨env1, σ1, h1, h2⟩ | ⟨v, h1, rfl⟩
    · obtain ⟨q3, q4⟩ := hb.1 _ _ _ _ h2
      exact ha.2 hG env σ _ _ h1 (by omega) (by omega) (fun e he => by cases he; exact hb.2 hG _ _ _ _ h2 l1 l2 k1 k2) (fun v hv => by cases hv)
    · exact ha.2 hG env σ _ _ h1 l1 l2 (fun e he => by cases he) (fun v hv => k2 v hv)
theorem sIf_sp {c : pm_C} {a b : pm_S} {env : List Value} {σ σ' : pm_H} {r : List Value ⊕ Option Value} (h : sIf c a b env σ = some (r, σ')) : (∃ σ1, c env σ = some (true, σ1) ∧ a env σ1 = some (r, σ')) ∨ (∃ σ1, c env σ = some (false, σ1) ∧ b env σ1 = some (r, σ')) := by
  unfold sIf at h
  split at h
  · exact Or.inl ⟨_, by assumption, h⟩
  · exact Or.inr ⟨_, by assumption, h⟩
  · cases h
theorem sIf_ok {c : pm_C} {a b : pm_S} (hc : cOK cc y nL rk 0 pc p1 p2 c) (ha : sOK cc y nL rk p1 nx a) (hb : sOK cc y nL rk p2 nx b) : sOK cc y nL rk pc nx (sIf c a b) := by
  refine ⟨fun env σ v σ' h => ?_, fun hG env σ r σ' h l1 l2 k1 k2 => ?_⟩
  · rcases sIf_sp h with ⟨σ1, h1, h2⟩ | ⟨σ1, h1, h2⟩
    · obtain ⟨q1, q2⟩ := hc.1 _ _ _ _ h1
      obtain ⟨q3, q4⟩ := ha.1 _ _ _ _ h2
      exact ⟨by omega, by omega⟩
    · obtain ⟨q1, q2⟩ := hc.1 _ _ _ _ h1
      obtain ⟨q3, q4⟩ := hb.1 _ _ _ _ h2
      exact ⟨by omega, by omega⟩
  · rcases sIf_sp h with ⟨σ1, h1, h2⟩ | ⟨σ1, h1, h2⟩
    · obtain ⟨q3, q4⟩ := ha.1 _ _ _ _ h2
      exact hc.2 hG env σ _ _ [] (Nat.le_refl _) h1 (by omega) (by omega) (fun _ => ha.2 hG env σ1 _ _ h2 l1 l2 k1 k2) (fun q => by cases q)
    · obtain ⟨q3, q4⟩ := hb.1 _ _ _ _ h2
      exact hc.2 hG env σ _ _ [] (Nat.le_refl _) h1 (by omega) (by omega) (fun q => by cases q) (fun _ => hb.2 hG env σ1 _ _ h2 l1 l2 k1 k2)
theorem sRet_sp {e : pm_E} {env : List Value} {σ σ' : pm_H} {r : List Value ⊕ Option Value} (h : sRet e env σ = some (r, σ')) : ∃ v, e env σ = some (v, σ') ∧ r = .inr (some v) := by
  obtain ⟨v, σ1, h1, h2⟩ := pm_opt h
  cases h2
  exact ⟨v, h1, rfl⟩
theorem sRet_mo {e : pm_E} (he : pm_mo e) : pm_mo (sRet e) := fun env σ v σ' h => by
  obtain ⟨w, h1, -⟩ := sRet_sp h
  exact he _ _ _ _ h1
/-- what kind of value it is: 1 int, 3 long, 4 reference -/
def eKd (w : Nat) (e : pm_E) : Prop := ∀ env σ v σ', e env σ = some (v, σ') → (w = 1 ∧ ∃ x, v = .int x) ∨ (w = 3 ∧ ∃ x, v = .long x) ∨ (w = 4 ∧ ∃ o, v = va_rf o)
/-- as a value of that kind -/
def sRetK (w : Nat) (e : pm_E) : pm_S := fun env σ => match e env σ with
  | some (.int x, σ1) => if w = 1 then some (.inr (some (.int x)), σ1) else none
  | some (.long x, σ1) => if w = 3 then some (.inr (some (.long x)), σ1) else none
  | some (.ref x, σ1) => if w = 4 then some (.inr (some (.ref x)), σ1) else none
  | some (.null, σ1) => if w = 4 then some (.inr (some .null), σ1) else none
  | _ => none
theorem sRetK_sp {w : Nat} {e : pm_E} {env : List Value} {σ σ' : pm_H} {r : List Value ⊕ Option Value} (h : sRetK w e env σ = some (r, σ')) : ∃ v, e env σ = some (v, σ') ∧ r = .inr (some v) ∧ ((w = 1 ∧ ∃ x, v = .int x) ∨ (w = 3 ∧ ∃ x, v = .long x) ∨ (w = 4 ∧ ∃ o, v = va_rf o)) := by
  unfold sRetK at h
  split at h
  · obtain ⟨h3, h4⟩ := pm_if h
    cases h4
    exact ⟨_, by assumption, rfl, Or.inl ⟨h3, _, rfl⟩⟩
  · obtain ⟨h3, h4⟩ := pm_if h
    cases h4
    exact ⟨_, by assumption, rfl, Or.inr (Or.inl ⟨h3, _, rfl⟩)⟩
  · obtain ⟨h3, h4⟩ := pm_if h
    cases h4
    exact ⟨_, by assumption, rfl, Or.inr (Or.inr ⟨h3, some _, rfl⟩)⟩
  · obtain ⟨h3, h4⟩ := pm_if h
    cases h4
    exact ⟨_, by assumption, rfl, Or.inr (Or.inr ⟨h3, none, rfl⟩)⟩
  · cases h
theorem sRetK_mo {w : Nat} {e : pm_E} (he : pm_mo e) : pm_mo (sRetK w e) := fun env σ v σ' h => by
  obtain ⟨w, h1, -⟩ := sRetK_sp h
  exact he _ _ _ _ h1
theorem sRetI_ok {e : pm_E} (he : eOK cc y nL rk 0 pc p1 e) (d : decode cc p1 = .ok (.ireturn, 1)) : sOK cc y nL rk pc nx (sRetK 1 e) := by
  refine ⟨sRetK_mo he.1, fun hG env σ r σ' h l1 l2 k1 k2 => ?_⟩
  obtain ⟨v, h1, h2, h3⟩ := sRetK_sp h
  rcases h3 with ⟨-, x, rfl⟩ | ⟨h3, -⟩ | ⟨h3, -⟩
  · exact he.2 hG env σ _ _ [] (Nat.le_refl _) h1 l1 l2 (hG.2.1 _ _ _ _ d (k2 _ h2))
  · cases h3
  · cases h3
theorem sRetJ_ok {e : pm_E} (he : eOK cc y nL rk 0 pc p1 e) (d : decode cc p1 = .ok (.lreturn, 1)) : sOK cc y nL rk pc nx (sRetK 3 e) := by
  refine ⟨sRetK_mo he.1, fun hG env σ r σ' h l1 l2 k1 k2 => ?_⟩
  obtain ⟨v, h1, h2, h3⟩ := sRetK_sp h
  rcases h3 with ⟨h3, -⟩ | ⟨-, x, rfl⟩ | ⟨h3, -⟩
  · cases h3
  · exact he.2 hG env σ _ _ [] (Nat.le_refl _) h1 l1 l2 (hG.2.2.1 _ _ _ _ d (k2 _ h2))
  · cases h3
theorem sRetA_ok {e : pm_E} (he : eOK cc y nL rk 0 pc p1 e) (d : decode cc p1 = .ok (.areturn, 1)) : sOK cc y nL rk pc nx (sRetK 4 e) := by
  refine ⟨sRetK_mo he.1, fun hG env σ r σ' h l1 l2 k1 k2 => ?_⟩
  obtain ⟨v, h1, h2, h3⟩ := sRetK_sp h
  rcases h3 with ⟨h3, -⟩ | ⟨h3, -⟩ | ⟨-, x, rfl⟩
  · cases h3
  · cases h3
  · exact he.2 hG env σ _ _ [] (Nat.le_refl _) h1 l1 l2 (hG.2.2.2.1 _ _ _ _ d (k2 _ h2))
theorem sRetV_ok (d : decode cc pc = .ok (.return_, 1)) : sOK cc y nL rk pc nx sRetV := by
  refine ⟨fun env σ v σ' h => ?_, fun hG env σ r σ' h l1 l2 k1 k2 => ?_⟩
  · cases h; exact ⟨Nat.le_refl _, Nat.le_refl _⟩
  · cases h; exact hG.2.2.2.2 _ _ _ d (k2 _ rfl)
theorem sLp_sp {c : pm_C} {b : pm_S} {k : Nat} {env : List Value} {σ σ' : pm_H} {r : List Value ⊕ Option Value} (h : sLp c b (k + 1) env σ = some (r, σ')) : (∃ σ1 env1 σ2, c env σ = some (true, σ1) ∧ b env σ1 = some (.inl env1, σ2) ∧ sLp c b k env1 σ2 = some (r, σ')) ∨ (∃ σ1 v, c env σ = some (true, σ1) ∧ b env σ1 = some (.inr v, σ') ∧ r = .inr v) ∨ (c env σ = some (false, σ') ∧ r = .inl env) := by
  rw [sLp] at h
  dsimp only at h
  split at h
  · split at h
    · exact Or.inl ⟨_, _, _, by assumption, by assumption, h⟩
    · cases h; exact Or.inr (Or.inl ⟨_, _, by assumption, by assumption, rfl⟩)
    · cases h
  · cases h; exact Or.inr (Or.inr ⟨by assumption, rfl⟩)
  · cases h
theorem sLp_mo {c : pm_C} {b : pm_S} (hc : pm_mo c) (hb : pm_mo b) (k : Nat) : pm_mo (sLp c b k) := by
  induction k with
  | zero => intro env σ v σ' h; cases h
  | succ k ih =>
    intro env σ v σ' h
    rcases sLp_sp h with ⟨σ1, env1, σ2, h1, h2, h3⟩ | ⟨σ1, v, h1, h2, -⟩ | ⟨h1, -⟩
    · obtain ⟨q1, q2⟩ := hc _ _ _ _ h1
      obtain ⟨q3, q4⟩ := hb _ _ _ _ h2
      obtain ⟨q5, q6⟩ := ih _ _ _ _ h3
      exact ⟨by omega, by omega⟩
    · obtain ⟨q1, q2⟩ := hc _ _ _ _ h1
      obtain ⟨q3, q4⟩ := hb _ _ _ _ h2
      exact ⟨by omega, by omega⟩
    · exact hc _ _ _ _ h1
theorem sLoop_ok {c : pm_C} {b : pm_S} (hc : cOK cc y nL rk 0 pc p1 p2 c) (hb : sOK cc y nL rk p1 pc b) (hj : jOK cc y nL rk p2 nx) : sOK cc y nL rk pc nx (sLoop c b) := by
  refine ⟨sLp_mo hc.1 hb.1 _, ?_⟩
  intro lim lims G Ret hG
  show ∀ env σ r σ', sLp c b pm_fuel env σ = some (r, σ') → _
  generalize pm_fuel = k
  induction k with
  | zero => intro env σ r σ' h; cases h
  | succ k ih =>
    intro env σ r σ' h l1 l2 k1 k2
    rcases sLp_sp h with ⟨σ1, env1, σ2, h1, h2, h3⟩ | ⟨σ1, v, h1, h2, h3⟩ | ⟨h1, h3⟩
    · obtain ⟨q3, q4⟩ := hb.1 _ _ _ _ h2
      obtain ⟨q5, q6⟩ := sLp_mo hc.1 hb.1 _ _ _ _ _ h3
      exact hc.2 hG env σ _ _ [] (Nat.le_refl _) h1 (by omega) (by omega) (fun _ => hb.2 hG env σ1 _ _ h2 (by omega) (by omega) (fun e he => by cases he; exact ih _ _ _ _ h3 l1 l2 k1 k2) (fun v hv => by cases hv)) (fun q => by cases q)
    · obtain ⟨q3, q4⟩ := hb.1 _ _ _ _ h2
      exact hc.2 hG env σ _ _ [] (Nat.le_refl _) h1 (by omega) (by omega) (fun _ => hb.2 hG env σ1 _ _ h2 l1 l2 (fun e he => by cases he) (fun v' hv => by cases hv; exact k2 _ h3)) (fun q => by cases q)
    · exact hc.2 hG env σ _ _ [] (Nat.le_refl _) h1 l1 l2 (fun q => by cases q) (fun _ => hj hG _ _ _ (k1 _ h3))
/-- each case stands where its jump leads -/
def swOK (cc : ByteArray) (y : MethodName) (nL rk : Nat) (p1 nx : Nat) : List Int → List pm_S → Prop
  | [], [] => True
  | o :: os, s :: ss => (∃ tgt : Nat, (p1 : Int) + o = (tgt : Int) ∧ sOK cc y nL rk tgt nx s) ∧ swOK cc y nL rk p1 nx os ss
  | _, _ => False
theorem swOK_at : ∀ (os : List Int) (ss : List pm_S), swOK cc y nL rk p1 nx os ss → os.length = ss.length ∧ ∀ (i : Nat) (o : Int), os[i]? = some o → ∃ s tgt, ss[i]? = some s ∧ (p1 : Int) + o = ((tgt : Nat) : Int) ∧ sOK cc y nL rk tgt nx s
  | [], [], _ => ⟨rfl, fun i o h => by simp at h⟩
  | [], _ :: _, h => False.elim h
  | _ :: _, [], h => False.elim h
  | o :: os, s :: ss, h => by
    obtain ⟨⟨tgt, h1, h2⟩, h3⟩ := h
    obtain ⟨h4, h5⟩ := swOK_at os ss h3
    refine ⟨by simp [h4], fun i o' h' => ?_⟩
    cases i with
    | zero => simp at h'; subst h'; exact ⟨s, tgt, rfl, h1, h2⟩
    | succ i => exact h5 i o' (by simpa using h')
theorem sSw_sp {e : pm_E} {lo : Int} {cs : List pm_S} {sd : pm_S} {env : List Value} {σ σ' : pm_H} {r : List Value ⊕ Option Value} (h : sSw e lo cs sd env σ = some (r, σ')) : ∃ x σ1, e env σ = some (.int x, σ1) ∧ (if x.toInt < lo then sd env σ1 else ((cs[(x.toInt - lo).toNat]?).getD sd) env σ1) = some (r, σ') := by
  obtain ⟨x, σ1, h1, h2⟩ := pm_int h
  exact ⟨x, σ1, h1, h2⟩
theorem sSw_ok {e : pm_E} {dflt lo hi : Int} {offs : Array Int} {len td : Nat} {cs : List pm_S} {sd : pm_S} (he : eOK cc y nL rk 0 pc p1 e) (d : decode cc p1 = .ok (.tableswitch dflt lo hi offs, len)) (hh : hi = lo + offs.size - 1) (hc : swOK cc y nL rk p1 nx offs.toList cs) (ht : (p1 : Int) + dflt = (td : Int)) (hd : sOK cc y nL rk td nx sd) : sOK cc y nL rk pc nx (sSw e lo cs sd) := by
  obtain ⟨hlen, hat⟩ := swOK_at _ _ hc
  rw [Array.length_toList] at hlen
  have hin : ∀ x : Int32, ¬ x.toInt < lo → ¬ hi < x.toInt → ∃ o s tgt, offs[(x.toInt - lo).toNat]? = some o ∧ cs[(x.toInt - lo).toNat]? = some s ∧ (p1 : Int) + o = ((tgt : Nat) : Int) ∧ sOK cc y nL rk tgt nx s := by
    intro x h1 h2
    have hl : (x.toInt - lo).toNat < offs.size := by omega
    have ho : offs[(x.toInt - lo).toNat]? = some offs[(x.toInt - lo).toNat] := Array.getElem?_eq_getElem hl
    obtain ⟨s, tgt, g1, g2, g3⟩ := hat _ _ (by rw [Array.getElem?_toList]; exact ho)
    exact ⟨_, s, tgt, ho, g1, g2, g3⟩
  have hout : ∀ x : Int32, hi < x.toInt → ¬ x.toInt < lo → cs[(x.toInt - lo).toNat]? = none := by
    intro x h1 h2
    apply List.getElem?_eq_none
    omega
  refine ⟨fun env σ v σ' h => ?_, fun hG env σ r σ' h l1 l2 k1 k2 => ?_⟩
  · obtain ⟨x, σ1, h1, h2⟩ := sSw_sp h
    obtain ⟨q1, q2⟩ := he.1 _ _ _ _ h1
    by_cases c1 : x.toInt < lo
    · rw [if_pos c1] at h2
      obtain ⟨q3, q4⟩ := hd.1 _ _ _ _ h2
      exact ⟨by omega, by omega⟩
    · rw [if_neg c1] at h2
      by_cases c2 : hi < x.toInt
      · rw [hout x c2 c1] at h2
        obtain ⟨q3, q4⟩ := hd.1 _ _ _ _ h2
        exact ⟨by omega, by omega⟩
      · obtain ⟨o, s, tgt, g0, g1, g2, g3⟩ := hin x c1 c2
        rw [g1] at h2
        obtain ⟨q3, q4⟩ := g3.1 _ _ _ _ h2
        exact ⟨by omega, by omega⟩
  · obtain ⟨x, σ1, h1, h2⟩ := sSw_sp h
    by_cases c1 : x.toInt < lo
    · rw [if_pos c1] at h2
      obtain ⟨q3, q4⟩ := hd.1 _ _ _ _ h2
      exact he.2 hG env σ _ _ [] (Nat.le_refl _) h1 (by omega) (by omega) (rw_tableOut hG d (Or.inl c1) ht (hd.2 hG env σ1 _ _ h2 l1 l2 k1 k2))
    · rw [if_neg c1] at h2
      by_cases c2 : hi < x.toInt
      · rw [hout x c2 c1] at h2
        obtain ⟨q3, q4⟩ := hd.1 _ _ _ _ h2
        exact he.2 hG env σ _ _ [] (Nat.le_refl _) h1 (by omega) (by omega) (rw_tableOut hG d (Or.inr c2) ht (hd.2 hG env σ1 _ _ h2 l1 l2 k1 k2))
      · obtain ⟨o, s, tgt, g0, g1, g2, g3⟩ := hin x c1 c2
        rw [g1] at h2
        obtain ⟨q3, q4⟩ := g3.1 _ _ _ _ h2
        exact he.2 hG env σ _ _ [] (Nat.le_refl _) h1 (by omega) (by omega) (rw_tableIn hG d c1 c2 g0 g2 (g3.2 hG env σ1 _ _ h2 l1 l2 k1 k2))
theorem sOK.jump {s : pm_S} (h : sOK cc y nL rk pc p1 s) (hj : jOK cc y nL rk p1 nx) : sOK cc y nL rk pc nx s :=
  ⟨h.1, fun hG env σ r σ' h1 l1 l2 k1 k2 => h.2 hG env σ r σ' h1 l1 l2 (fun e he => hj hG _ _ _ (k1 e he)) k2⟩
end COMB5
/-- which values a method may return: 0 none, 1 int, 2 boolean, 3 long, 4 a reference -/
def pm_rt (w : Nat) (r : Option Value) : Bool := match r with
  | none => w == 0
  | some (.int x) => w == 1 || (w == 2 && (x == 0 || x == 1))
  | some (.long _) => w == 3
  | some (.ref _) => w == 4
  | some .null => w == 4
  | _ => false
/-- a method: its parameters into n locals, its body, its answer -/
def pm_meth (w n : Nat) (body : pm_S) : pm_D := fun vs σ => if (pm_ex vs).length ≤ n then match body (pm_args vs n) σ with
    | some (.inr r, σ') => if pm_rt w r = true then some (r, σ') else none
    | _ => none
  else none
theorem pm_meth_sp {w n : Nat} {body : pm_S} {vs : List Value} {σ σ' : pm_H} {r : Option Value} (h : pm_meth w n body vs σ = some (r, σ')) : (pm_ex vs).length ≤ n ∧ body (pm_args vs n) σ = some (.inr r, σ') ∧ pm_rt w r = true := by
  obtain ⟨h1, h2⟩ := pm_if h
  split at h2
  · obtain ⟨h3, h4⟩ := pm_if h2
    cases h4
    exact ⟨h1, by assumption, h3⟩
  · cases h2
def pm_rk (w : Nat) (ret : Option FieldType) : Prop := (w = 0 ∧ ret = none) ∨ (w = 1 ∧ ret = some .int) ∨ (w = 2 ∧ ret = some .boolean) ∨ (w = 3 ∧ ret = some .long) ∨ (w = 4 ∧ ∃ C, ret = some (.object C))
theorem pm_rt_of {w : Nat} {ret : Option FieldType} {r : Option Value} (h : pm_rt w r = true) (hk : pm_rk w ret) : pm_retok ret r := by
  cases r with
  | none =>
    have hw : w = 0 := by simpa [pm_rt] using h
    subst hw
    rcases hk with ⟨-, rfl⟩ | ⟨q, -⟩ | ⟨q, -⟩ | ⟨q, -⟩ | ⟨q, -⟩
    · exact Or.inl ⟨rfl, rfl⟩
    all_goals cases q
  | some v =>
    cases v with
    | int x =>
      have hw : w = 1 ∨ (w = 2 ∧ (x = 0 ∨ x = 1)) := by simpa [pm_rt] using h
      rcases hw with rfl | ⟨rfl, hx⟩
      · rcases hk with ⟨q, -⟩ | ⟨-, rfl⟩ | ⟨q, -⟩ | ⟨q, -⟩ | ⟨q, -⟩
        · cases q
        · exact Or.inr (Or.inl ⟨rfl, x, rfl⟩)
        all_goals cases q
      · rcases hk with ⟨q, -⟩ | ⟨q, -⟩ | ⟨-, rfl⟩ | ⟨q, -⟩ | ⟨q, -⟩
        · cases q
        · cases q
        · exact Or.inr (Or.inr (Or.inl ⟨rfl, by rcases hx with rfl | rfl <;> simp⟩))
        all_goals cases q
    | long x =>
      have hw : w = 3 := by simpa [pm_rt] using h
      subst hw
      rcases hk with ⟨q, -⟩ | ⟨q, -⟩ | ⟨q, -⟩ | ⟨-, rfl⟩ | ⟨q, -⟩
      · cases q
      · cases q
      · cases q
      · exact Or.inr (Or.inr (Or.inr (Or.inl ⟨rfl, x, rfl⟩)))
      · cases q
    | ref a =>
      have hw : w = 4 := by simpa [pm_rt] using h
      subst hw
      rcases hk with ⟨q, -⟩ | ⟨q, -⟩ | ⟨q, -⟩ | ⟨q, -⟩ | ⟨-, hC⟩
      · cases q
      · cases q
      · cases q
      · cases q
      · exact Or.inr (Or.inr (Or.inr (Or.inr ⟨hC, some a, rfl⟩)))
    | null =>
      have hw : w = 4 := by simpa [pm_rt] using h
      subst hw
      rcases hk with ⟨q, -⟩ | ⟨q, -⟩ | ⟨q, -⟩ | ⟨q, -⟩ | ⟨-, hC⟩
      · cases q
      · cases q
      · cases q
      · cases q
      · exact Or.inr (Or.inr (Or.inr (Or.inr ⟨hC, none, rfl⟩)))
    | float b => cases h
    | double b => cases h
    | retAddr b => cases h
theorem pm_M.of {y : MethodName} {cc : ByteArray} {nL rk w : Nat} {ret : Option FieldType} {body : pm_S} (hcode : Cond.code y cc nL ret ∈ gws) (hnL : nL ≤ 10) (hpl : plainName y.cls = true) (hw : pm_rk w ret) (hb : sOK cc y nL rk 0 100000 body) : pm_M y rk ret (pm_meth w nL body) := by
  refine pm_M.mk hcode hnL hpl (fun vs σ r σ' h => ?_) (fun vs σ r σ' h => ?_)
  · obtain ⟨-, h2, -⟩ := pm_meth_sp h
    exact hb.1 _ _ _ _ h2
  · obtain ⟨h1, h2, h3⟩ := pm_meth_sp h
    exact ⟨h1, pm_rt_of h3 hw, fun G Ret hG hR => hb.2 hG _ _ _ _ h2 (Nat.le_refl _) (Nat.le_refl _) (fun e he => by cases he) (fun v hv => by cases hv; exact hR)⟩
