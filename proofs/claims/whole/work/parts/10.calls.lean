/-! Methods by contract over the pure machine: 'pm_M y rk ret D': the method y does what D says, in room for rk frames. -/
def pm_Q (K : pm_K) (r : Option Value) (σ' : pm_H) : Array Value → State → Outcome → State → Prop := fun _ st oc t => oc = .returned (r.map (em K)) ∧ pm_ok K σ' t.heap ∧ ∀ q, q < kB K → t.heap[q]? = st.heap[q]?
def pm_Pc (K : pm_K) (vs : List Value) (σ : pm_H) : Array Value → State → Prop := va_Pc (vs.map (em K)) (fun U => pm_kx K U U.heap ∧ pm_ok K σ U.heap)
abbrev pm_D : Type := List Value → pm_H → Option (Option Value × pm_H)
def pm_mono (D : pm_D) : Prop := ∀ vs σ r σ', D vs σ = some (r, σ') → pN σ ≤ pN σ' ∧ pS σ ≤ pS σ'
def pm_M (y : MethodName) (rk : Nat) (ret : Option FieldType) (D : pm_D) : Prop :=
  pm_mono D ∧ ∃ (bytes : ByteArray) (maxL : Nat), Cond.code y bytes maxL ret ∈ gws ∧ maxL ≤ 10 ∧
    ∀ (l : Launch) (K : pm_K) (vs : List Value) (σ : pm_H) (r : Option Value) (σ' : pm_H), D vs σ = some (r, σ') →
      Met l y (Cond.code y bytes maxL ret :: gws) { frames := rk, cells := pN σ' - pN σ, slots := pS σ' - pS σ, locals := 29 * rk } (pm_Pc K vs σ) (pm_Q K r σ') (pN σ' - pN σ) (pS σ' - pS σ) (fun q => kB K ≤ q)
theorem pm_Pc.blind (K : pm_K) (vs : List Value) (σ : pm_H) : FrameBlind (pm_Pc K vs σ) := by
  intro a U g mk h
  obtain ⟨h1, h2, h3⟩ := h
  exact ⟨h1, pm_kx.same (s := U) rfl h2, h3⟩
/-- the machine behind a call -/
theorem pm_run {K : pm_K} {p : Program} {l : Launch} {e : Env} {R : Room} {s : State} {m : MethodId} {args : Array Value} {below : List Frame} {meth : Method} {co : Code} {Q : State → Prop} {nL n0 s0 : Nat} {H : Heap} {locs : List Loc} {ls : Array Slot} {pc : Nat} {env st st0 : List Value} {σ σ' : pm_H} {r : Option Value} {a0 : Array Value}
    (hr : va_Run p l e R s m args below meth co H locs (pN σ - n0) (pS σ - s0) (pN σ' - pN σ) (pS σ' - pS σ) (F0 m pc ls st0) (st.map (em K)) (pm_Q K r σ' a0) (fun q => kB K ≤ q))
    (h1 : n0 ≤ pN σ) (h2 : s0 ≤ pS σ) (h4 : ∀ q, q < kB K → H[q]? = s.heap[q]?) (h5 : ∀ q ∈ locs, kB K ≤ q.base) (h6 : pm_env K env ls nL) (m1 : pN σ ≤ pN σ') (m2 : pS σ ≤ pS σ')
    (kk : pm_gd K p l e R s m args below meth co Q nL n0 s0 (pc + 3) env (r.toList ++ st) σ') : W p l e R s m args below meth co H locs (pN σ - n0) (pS σ - s0) Q (F0 m pc ls st0) := by
  intro T hT X
  obtain ⟨v, st₀, t, T', L, z0, X', hL, e1, e2, ⟨hv, hok, hbs⟩, stp⟩ := hr T hT X
  cases hv
  rw [show pN σ - n0 + (pN σ' - pN σ) = pN σ' - n0 by omega, show pS σ - s0 + (pS σ' - pS σ) = pS σ' - s0 by omega] at X'
  obtain ⟨t2, a1, b1⟩ := kk T'.heap (locs ++ L) ls (by omega) (by omega) (by rw [e1]; exact hok) (fun q hq => by rw [e1, hbs q hq, z0]; exact h4 q hq) (fun q hq => by
    rcases List.mem_append.mp hq with h | h
    · exact h5 q h
    · exact hL q h) h6 T' rfl X'
  refine ⟨t2, stp t2 ?_, b1⟩
  have e3 : ((r.toList ++ st).map (em K)) = (r.map (em K)).toList ++ st.map (em K) := by cases r <;> simp
  rw [e3] at a1
  exact a1
/-- how many parameters, and no handle -/
def pm_plain (y : MethodName) (n : Nat) : Prop := y.cls ≠ "java/lang/invoke/MethodHandle" ∧ y.cls ≠ "java/lang/invoke/VarHandle" ∧ (parseMethodDescriptor y.desc).map (fun d => d.parameters.length) = some n
/-- invokevirtual idx in own, on an object of class C, runs y -/
def pm_sv (own : String) (idx : Nat) (C : String) (y : MethodName) (n : Nat) : Prop :=
  (Cond.methodLink own idx y ∈ gws ∧ Cond.instanceMethod y ∈ gws ∧ Cond.selects C y y ∈ gws ∧ Cond.initialized C ∈ gws ∧ y.cls = C ∧ pm_plain y n) ∨
  (∃ (x : MethodName) (owner : String), Cond.methodLink own idx x ∈ gws ∧ Cond.sameMethod x.cls owner x.name x.desc ∈ gws ∧ Cond.selects C x y ∈ gws ∧ Cond.instanceMethod y ∈ gws ∧ Cond.initialized y.cls ∈ gws ∧ owner ≠ "java/lang/invoke/MethodHandle" ∧ owner ≠ "java/lang/invoke/VarHandle" ∧ (parseMethodDescriptor x.desc).map (fun d => d.parameters.length) = some n ∧
    (y = ⟨owner, x.name, x.desc⟩ ∨ (Cond.instanceMethod ⟨owner, x.name, x.desc⟩ ∈ gws ∧ ∃ b0 m0 r0, Cond.code ⟨owner, x.name, x.desc⟩ b0 m0 r0 ∈ gws)))
theorem gws_code {y : MethodName} {bytes : ByteArray} {maxL : Nat} {ret : Option FieldType} (h : Cond.code y bytes maxL ret ∈ gws) : GoodIn gws (Cond.code y bytes maxL ret :: gws) := gws_cons h gws_good
section PMCALLS
variable {cc : ByteArray} {y : MethodName} {nL rk lim lims : Nat} {G : pm_J} {Ret : Option Value → pm_H → Prop} {pc : Nat} {env st : List Value} {σ σ' : pm_H}
theorem pm_cat {K : pm_K} {st : List Value} : ((st.map (em K)).map fun v => v.category).sum = (st.map fun v => v.category).sum := by
  rw [List.map_map]
  congr 1
  apply List.map_congr_left
  intro v _
  exact em_cat K v
theorem rw_callV (hG : pm_G cc y nL rk lim lims G Ret) {idx b c rk2 : Nat} {rc : vw_C} {y2 : MethodName} {ret : Option FieldType} {D : pm_D} {vs : List Value} {r : Option Value} (d : decode cc pc = .ok (.invokevirtual idx, 3)) (hM : pm_M y2 rk2 ret D) (hrk : rk2 + 1 ≤ rk) (ht : pT σ b = c) (hc : vwCl[c]? = some rc) (hs : pm_sv y.cls idx rc.1 y2 vs.length) (hD : D (.ref b :: vs) σ = some (r, σ')) (hst : (st.map fun v => v.category).sum ≤ 8) (l1 : pN σ' ≤ lim) (l2 : pS σ' ≤ lims) (kk : G (pc + 3) env (r.toList ++ st) σ') : G pc env (vs.reverse ++ .ref b :: st) σ := by
  obtain ⟨⟨K, p, l, e, R, s, m, args, below, meth, co, Q, n0, s0, ⟨hx, hb, hml, hown, hts, hkx, hin⟩, hfr, hlo, hlim, hlims, rfl⟩, -⟩ := hG
  intro H locs ls h1 h2 h3 h4 h5 h6
  obtain ⟨hmono, bytes, maxL, hcode, hmL, hmet⟩ := hM
  obtain ⟨m1, m2⟩ := hmono _ _ _ _ hD
  obtain ⟨-, cellB, g1, g2, g3, -⟩ := h3.obj ht hc
  have hcls := (hkx.1.1 c _ hc).2.1
  have hkH : pm_kx K s H := hkx.kept h4 (by have := h3.1; have := h3.2.1; omega)
  have hp : PreV s H rc.1 (kd K b) (pm_Pc K (.ref b :: vs) σ) (vs.map (em K)) := ⟨pm_Pc.blind _ _ _, ⟨cellB, g1, by rw [g3]; rfl, by rw [g2]; exact hcls⟩, fun U hU hW => ⟨rfl, by rw [hU]; exact hkH.moved hW, by rw [hU]; exact h3⟩⟩
  have hR : rk2 + 1 ≤ R.frames ∧ 8 + (maxL + 11) + 29 * rk2 ≤ R.locals := ⟨by omega, by omega⟩
  have hf : pN σ - n0 + (pN σ' - pN σ) ≤ R.cells ∧ pS σ - s0 + (pS σ' - pS σ) ≤ R.slots := ⟨by omega, by omega⟩
  have hstack : (F0 m pc ls ((vs.reverse ++ .ref b :: st).map (em K))).stack = (vs.map (em K)).reverse ++ .ref (kd K b) :: st.map (em K) := by
    show List.map (em K) (vs.reverse ++ .ref b :: st) = _
    rw [List.map_append, List.map_reverse]; rfl
  refine pm_run (a0 := (Value.ref (kd K b) :: vs.map (em K)).toArray) (r := r) ?_ h1 h2 h4 h5 h6 m1 m2 kk
  rcases hs with ⟨w1, w2, w3, w4, w5, w6⟩ | ⟨x, owner, w1, w2, w3, w4, w5, w6, w7, w8, w9⟩
  · exact va_runV ⟨hx, hb, hml, hown, hts⟩ (hmet l K _ _ _ _ hD) (cwV vs.length hts (gws_cons w1 (gws_cons w2 (gws_cons w3 (gws_cons w4 (gws_code hcode))))) rfl rfl rfl ⟨w5, w6⟩ hR) hp rfl (by simp) h6.1 hstack (lv_room (by rw [pm_cat]; exact hst)) d hf
  · have cw : va_CU R s args y.cls rc.1 owner idx x y2 bytes maxL ret (Cond.code y2 bytes maxL ret :: gws) { frames := rk2, cells := pN σ' - pN σ, slots := pS σ' - pS σ, locals := 29 * rk2 } (pN σ' - pN σ) (pS σ' - pS σ) vs.length := by
      rcases w9 with w9 | ⟨w9, b0, m0, r0, w10⟩
      · exact va_cwU vs.length hts (gws_cons w1 (gws_cons w2 (gws_cons w3 (gws_cons w4 (gws_cons w5 (gws_code hcode)))))) rfl rfl rfl w9 ⟨w6, w7, w8⟩ hR
      · exact va_cwO vs.length hts (gws_cons w1 (gws_cons w2 (gws_cons w9 (gws_cons w3 (gws_cons w4 (gws_cons w5 (gws_code hcode))))))) rfl rfl rfl w10 ⟨w6, w7, w8⟩ hR
    exact va_runU ⟨hx, hb, hml, hown, hts⟩ (hmet l K _ _ _ _ hD) cw hp rfl (by simp) h6.1 hstack (lv_room (by rw [pm_cat]; exact hst)) d hf
/-- invokestatic idx in own runs y -/
def pm_ss (own : String) (idx : Nat) (y : MethodName) (n : Nat) : Prop := (Cond.methodLink own idx y ∈ gws ∨ (own, idx, y) ∈ pm_nest) ∧ Cond.static y ∈ gws ∧ Cond.initialized y.cls ∈ gws ∧ pm_plain y n
theorem rw_callS (hG : pm_G cc y nL rk lim lims G Ret) {idx rk2 : Nat} {y2 : MethodName} {ret : Option FieldType} {D : pm_D} {vs : List Value} {r : Option Value} (d : decode cc pc = .ok (.invokestatic idx, 3)) (hM : pm_M y2 rk2 ret D) (hrk : rk2 + 1 ≤ rk) (hs : pm_ss y.cls idx y2 vs.length) (hD : D vs σ = some (r, σ')) (hst : (st.map fun v => v.category).sum ≤ 8) (l1 : pN σ' ≤ lim) (l2 : pS σ' ≤ lims) (kk : G (pc + 3) env (r.toList ++ st) σ') : G pc env (vs.reverse ++ st) σ := by
  obtain ⟨⟨K, p, l, e, R, s, m, args, below, meth, co, Q, n0, s0, ⟨hx, hb, hml, hown, hts, hkx, hin⟩, hfr, hlo, hlim, hlims, rfl⟩, -⟩ := hG
  intro H locs ls h1 h2 h3 h4 h5 h6
  obtain ⟨hmono, bytes, maxL, hcode, hmL, hmet⟩ := hM
  obtain ⟨m1, m2⟩ := hmono _ _ _ _ hD
  have hkH : pm_kx K s H := hkx.kept h4 (by have := h3.1; have := h3.2.1; omega)
  have hp : PreS s H (pm_Pc K vs σ) (vs.map (em K)) := ⟨pm_Pc.blind _ _ _, fun U hU hW => ⟨rfl, by rw [hU]; exact hkH.moved hW, by rw [hU]; exact h3⟩⟩
  have hR : rk2 + 1 ≤ R.frames ∧ 8 + (maxL + 11) + 29 * rk2 ≤ R.locals := ⟨by omega, by omega⟩
  have hf : pN σ - n0 + (pN σ' - pN σ) ≤ R.cells ∧ pS σ - s0 + (pS σ' - pS σ) ≤ R.slots := ⟨by omega, by omega⟩
  have hstack : (F0 m pc ls ((vs.reverse ++ st).map (em K))).stack = (vs.map (em K)).reverse ++ st.map (em K) := by
    show List.map (em K) (vs.reverse ++ st) = _
    rw [List.map_append, List.map_reverse]
  refine pm_run (a0 := (vs.map (em K)).toArray) (r := r) ?_ h1 h2 h4 h5 h6 m1 m2 kk
  obtain ⟨w1, w2, w3, w4⟩ := hs
  rcases w1 with w1 | w1
  · exact va_runS ⟨hx, hb, hml, hown, hts⟩ (hmet l K _ _ _ _ hD) ⟨callB_of vs.length hts (gws_code hcode) rfl rfl rfl (hts _ w3) (hts _ w1) w4 hR, hts _ w2⟩ hp rfl (by simp) h6.1 hstack (lv_room (by rw [pm_cat]; exact hst)) d hf
  · exact va_runSN (host := RX11) ⟨hx, hb, hml, hown, hts⟩ (hmet l K _ _ _ _ hD) ⟨va_cnB vs.length hts (gws_code hcode) rfl rfl rfl (hkx.2.1 _ w1) (hts _ w3) w4 hR, hts _ w2, trivial⟩ hp rfl (by simp) h6.1 hstack (lv_room (by rw [pm_cat]; exact hst)) d hf
/-- invokespecial idx in own runs the constructor y -/
def pm_si (own : String) (idx : Nat) (y : MethodName) (n : Nat) : Prop := (Cond.methodLink own idx y ∈ gws ∨ (own, idx, y) ∈ pm_nest) ∧ Cond.instanceMethod y ∈ gws ∧ Cond.initialized y.cls ∈ gws ∧ y.name = "<init>" ∧ pm_plain y n
theorem rw_callI (hG : pm_G cc y nL rk lim lims G Ret) {idx b rk2 : Nat} {y2 : MethodName} {D : pm_D} {vs : List Value} {r : Option Value} (d : decode cc pc = .ok (.invokespecial idx, 3)) (hM : pm_M y2 rk2 none D) (hrk : rk2 + 1 ≤ rk) (hs : pm_si y.cls idx y2 vs.length) (hD : D (.ref b :: vs) σ = some (r, σ')) (hst : (st.map fun v => v.category).sum ≤ 8) (l1 : pN σ' ≤ lim) (l2 : pS σ' ≤ lims) (kk : G (pc + 3) env (r.toList ++ st) σ') : G pc env (vs.reverse ++ .ref b :: st) σ := by
  obtain ⟨⟨K, p, l, e, R, s, m, args, below, meth, co, Q, n0, s0, ⟨hx, hb, hml, hown, hts, hkx, hin⟩, hfr, hlo, hlim, hlims, rfl⟩, -⟩ := hG
  intro H locs ls h1 h2 h3 h4 h5 h6
  obtain ⟨hmono, bytes, maxL, hcode, hmL, hmet⟩ := hM
  obtain ⟨m1, m2⟩ := hmono _ _ _ _ hD
  have hkH : pm_kx K s H := hkx.kept h4 (by have := h3.1; have := h3.2.1; omega)
  have hp : PreS s H (pm_Pc K (.ref b :: vs) σ) (.ref (kd K b) :: vs.map (em K)) := ⟨pm_Pc.blind _ _ _, fun U hU hW => ⟨rfl, by rw [hU]; exact hkH.moved hW, by rw [hU]; exact h3⟩⟩
  have hR : rk2 + 1 ≤ R.frames ∧ 8 + (maxL + 11) + 29 * rk2 ≤ R.locals := ⟨by omega, by omega⟩
  have hf : pN σ - n0 + (pN σ' - pN σ) ≤ R.cells ∧ pS σ - s0 + (pS σ' - pS σ) ≤ R.slots := ⟨by omega, by omega⟩
  have hstack : (F0 m pc ls ((vs.reverse ++ .ref b :: st).map (em K))).stack = (vs.map (em K)).reverse ++ .ref (kd K b) :: st.map (em K) := by
    show List.map (em K) (vs.reverse ++ .ref b :: st) = _
    rw [List.map_append, List.map_reverse]; rfl
  refine pm_run (a0 := (Value.ref (kd K b) :: vs.map (em K)).toArray) (r := r) ?_ h1 h2 h4 h5 h6 m1 m2 kk
  obtain ⟨w1, w2, w3, w5, w4⟩ := hs
  rcases w1 with w1 | w1
  · exact va_runI ⟨hx, hb, hml, hown, hts⟩ (hmet l K _ _ _ _ hD) (cwI vs.length hts (gws_code hcode) rfl rfl rfl (hts _ w3) (hts _ w1) (hts _ w2) w5 w4 hR) hp rfl (by simp) h6.1 hstack (lv_room (by rw [pm_cat]; exact hst)) d hf
  · exact va_runIN (host := RX11) ⟨hx, hb, hml, hown, hts⟩ (hmet l K _ _ _ _ hD) ⟨va_cnB vs.length hts (gws_code hcode) rfl rfl rfl (hkx.2.1 _ w1) (hts _ w3) w4 hR, w5, hts _ w2⟩ hp rfl (by simp) h6.1 hstack (lv_room (by rw [pm_cat]; exact hst)) d hf
/-- super.m(..), declared by the superclass -/
def pm_su (own : String) (idx : Nat) (y : MethodName) (n : Nat) : Prop := Cond.methodLink own idx y ∈ gws ∧ Cond.sameMethod y.cls y.cls y.name y.desc ∈ gws ∧ Cond.superclass own y.cls ∈ gws ∧ Cond.instanceMethod y ∈ gws ∧ Cond.initialized y.cls ∈ gws ∧ y.name ≠ "<init>" ∧ (parseMethodDescriptor y.desc).map (fun d => d.parameters.length) = some n
theorem rw_callSU (hG : pm_G cc y nL rk lim lims G Ret) {idx b c rk2 : Nat} {rc : vw_C} {y2 : MethodName} {ret : Option FieldType} {D : pm_D} {vs : List Value} {r : Option Value} (d : decode cc pc = .ok (.invokespecial idx, 3)) (hM : pm_M y2 rk2 ret D) (hrk : rk2 + 1 ≤ rk) (ht : pT σ b = c) (hc : vwCl[c]? = some rc) (hs : pm_su y.cls idx y2 vs.length) (hD : D (.ref b :: vs) σ = some (r, σ')) (hst : (st.map fun v => v.category).sum ≤ 8) (l1 : pN σ' ≤ lim) (l2 : pS σ' ≤ lims) (kk : G (pc + 3) env (r.toList ++ st) σ') : G pc env (vs.reverse ++ .ref b :: st) σ := by
  obtain ⟨⟨K, p, l, e, R, s, m, args, below, meth, co, Q, n0, s0, ⟨hx, hb, hml, hown, hts, hkx, hin⟩, hfr, hlo, hlim, hlims, rfl⟩, -⟩ := hG
  intro H locs ls h1 h2 h3 h4 h5 h6
  obtain ⟨hmono, bytes, maxL, hcode, hmL, hmet⟩ := hM
  obtain ⟨m1, m2⟩ := hmono _ _ _ _ hD
  obtain ⟨-, cellB, g1, g2, g3, -⟩ := h3.obj ht hc
  have hcls := (hkx.1.1 c _ hc).2
  have hkH : pm_kx K s H := hkx.kept h4 (by have := h3.1; have := h3.2.1; omega)
  have hp : PreV s H rc.1 (kd K b) (pm_Pc K (.ref b :: vs) σ) (vs.map (em K)) := ⟨pm_Pc.blind _ _ _, ⟨cellB, g1, by rw [g3]; rfl, by rw [g2]; exact hcls.1⟩, fun U hU hW => ⟨rfl, by rw [hU]; exact hkH.moved hW, by rw [hU]; exact h3⟩⟩
  have hR : rk2 + 1 ≤ R.frames ∧ 8 + (maxL + 11) + 29 * rk2 ≤ R.locals := ⟨by omega, by omega⟩
  have hf : pN σ - n0 + (pN σ' - pN σ) ≤ R.cells ∧ pS σ - s0 + (pS σ' - pS σ) ≤ R.slots := ⟨by omega, by omega⟩
  have hstack : (F0 m pc ls ((vs.reverse ++ .ref b :: st).map (em K))).stack = (vs.map (em K)).reverse ++ .ref (kd K b) :: st.map (em K) := by
    show List.map (em K) (vs.reverse ++ .ref b :: st) = _
    rw [List.map_append, List.map_reverse]; rfl
  refine pm_run (a0 := (Value.ref (kd K b) :: vs.map (em K)).toArray) (r := r) ?_ h1 h2 h4 h5 h6 m1 m2 kk
  obtain ⟨w1, w2, w3, w4, w5, w6, w7⟩ := hs
  exact va_runSU hcls ⟨hx, hb, hml, hown, hts⟩ (hmet l K _ _ _ _ hD) (va_cwSU vs.length hts (gws_cons w1 (gws_cons w2 (gws_cons w3 (gws_cons w4 (gws_cons w5 (gws_code hcode)))))) rfl rfl rfl ⟨w6, w7⟩ hR) hp rfl (by simp) h6.1 hstack (lv_room (by rw [pm_cat]; exact hst)) d hf
theorem rw_objInit (hG : pm_G cc y nL rk lim lims G Ret) {idx b : Nat} (d : decode cc pc = .ok (.invokespecial idx, 3)) (w1 : Cond.methodLink y.cls idx Lib.objectInit ∈ gws) (w2 : Cond.instanceMethod Lib.objectInit ∈ gws) (w3 : Cond.code Lib.objectInit ⟨#[0xb1]⟩ 1 none ∈ gws) (hrk : 1 ≤ rk) (hst : (st.map fun v => v.category).sum ≤ 8) (kk : G (pc + 3) env st σ) : G pc env (.ref b :: st) σ := by
  obtain ⟨⟨K, p, l, e, R, s, m, args, below, meth, co, Q, n0, s0, ⟨hx, hb, hml, hown, hts, hkx, hin⟩, hfr, hlo, hlim, hlims, rfl⟩, -⟩ := hG
  intro H locs ls h1 h2 h3 h4 h5 h6
  refine W.objInit hx hb hown (hts _ w1) (hts _ w2) (hts _ w3) rfl (by rw [hml]; exact h6.1) rfl d (by omega) ?_ (kk H locs ls h1 h2 h3 h4 h5 h6)
  show 2 * 0 + ((st.map (em K)).map fun v => v.category).sum + 12 ≤ R.locals
  rw [pm_cat]
  omega
/-- instanceof, on an object -/
theorem rw_inst (hG : pm_G cc y nL rk lim lims G Ret) {idx b c : Nat} {rc : vw_C} {T : String} (d : decode cc pc = .ok (.instanceof idx, 3)) (w1 : Cond.classLink y.cls idx T ∈ gws) (ht : pT σ b = c) (hc : vwCl[c]? = some rc) {z : Int32} (hz : ((rc.1, T) ∈ pm_cast ∧ z = 1) ∨ (rc.1 = T ∧ z = 1) ∨ ((rc.1, T) ∈ pm_ncast ∧ z = 0)) (kk : G (pc + 3) env (.int z :: st) σ) : G pc env (.ref b :: st) σ := by
  obtain ⟨⟨K, p, l, e, R, s, m, args, below, meth, co, Q, n0, s0, ⟨hx, hb, hml, hown, hts, hkx, hin⟩, hfr, hlo, hlim, hlims, rfl⟩, -⟩ := hG
  intro H locs ls h1 h2 h3 h4 h5 h6
  obtain ⟨-, cellB, g1, g2, g3, -⟩ := h3.obj ht hc
  have hcls := (hkx.1.1 c _ hc).2
  have hr : ∃ cell : Cell, H[kd K b]? = some cell ∧ cell.vm.isStatics = false ∧ s.vm.findClass rc.1 = some cell.cls := ⟨cellB, g1, by rw [g3]; rfl, by rw [g2]; exact hcls.1⟩
  have kw := kk H locs ls h1 h2 h3 h4 h5 h6
  rcases hz with ⟨q, rfl⟩ | ⟨q, rfl⟩ | ⟨q, rfl⟩
  · exact va_instY hx hb hown (hts _ w1) (hkx.2.2.1 _ q) hr d kw
  · subst q
    exact va_instS hx hb hown (hts _ w1) hcls hr d kw
  · exact va_instNo hx hb hown (hts _ w1) (hkx.2.2.2.1 _ q) hr d kw
end PMCALLS
