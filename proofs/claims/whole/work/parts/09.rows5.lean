/-! Rows of references stored, of new cells, of calls. -/
def pm_slp (t : Nat) : Bool := t == 0 || t == 1 || t == 2 || t == 4 || t == 6 || t == 9
theorem pm_slp_of {t : Nat} (h : pm_slp t = true) : t = 0 ∨ t = 1 ∨ t = 2 ∨ t = 4 ∨ t = 6 ∨ t = 9 := by
  simp only [pm_slp, Bool.or_eq_true, beq_iff_eq] at h
  omega
theorem pm_castable {K : pm_K} {s : State} {H : Heap} (hkx : pm_kx K s H) {C T : String} (h : (C, T) ∈ pm_cast) {c t : Nat} {rc rt : vw_C} (hc : vwCl[c]? = some rc) (ht : vwCl[t]? = some rt) (e1 : rc.1 = C) (e2 : rt.1 = T) : s.vm.assignable (kC K c) (kC K t) = true := by
  have h1 := hkx.2.2.1 _ h
  obtain ⟨c0, t0, f1, f2, f3⟩ := Cond.castable_spec (va_Nw.use (A := #[]) rfl h1)
  have g1 := (hkx.1.1 c _ hc).2.1
  have g2 := (hkx.1.1 t _ ht).2.1
  subst e1; subst e2
  cases f1.symm.trans g1
  cases f2.symm.trans g2
  exact f3
theorem pm_asg {K : pm_K} {s : State} {H : Heap} (hkx : pm_kx K s H) {c : Nat} (h : pm_slp c = true) : (∃ r, vwCl[c]? = some r) ∧ s.vm.assignable (kC K c) (kC K 6) = true := by
  rcases pm_slp_of h with rfl | rfl | rfl | rfl | rfl | rfl
  · exact ⟨⟨_, rfl⟩, pm_castable hkx (C := RX0) (T := RX6) (by simp [pm_cast]) (rc := (RX0, TX0, 7)) (rt := (RX6, TX6, 7)) rfl rfl rfl rfl⟩
  · exact ⟨⟨_, rfl⟩, pm_castable hkx (C := RX1) (T := RX6) (by simp [pm_cast]) (rc := (RX1, TX1, 7)) (rt := (RX6, TX6, 7)) rfl rfl rfl rfl⟩
  · exact ⟨⟨_, rfl⟩, pm_castable hkx (C := RX2) (T := RX6) (by simp [pm_cast]) (rc := (RX2, TX2, 7)) (rt := (RX6, TX6, 7)) rfl rfl rfl rfl⟩
  · exact ⟨⟨_, rfl⟩, pm_castable hkx (C := RX4) (T := RX6) (by simp [pm_cast]) (rc := (RX4, TX4, 7)) (rt := (RX6, TX6, 7)) rfl rfl rfl rfl⟩
  · exact ⟨⟨_, rfl⟩, va_assign (hkx.1.1 6 _ rfl).2⟩
  · exact ⟨⟨_, rfl⟩, pm_castable hkx (C := RX9) (T := RX6) (by simp [pm_cast]) (rc := (RX9, TX9, 7)) (rt := (RX6, TX6, 7)) rfl rfl rfl rfl⟩
/-- which array takes which object -/
def pm_takes (ta tb : Nat) : Bool := (ta == 15 && pm_slp tb) || (ta == 16 && tb == 5)
theorem pm_takes_of {ta tb : Nat} (h : pm_takes ta tb = true) : (ta = 15 ∧ pm_slp tb = true) ∨ (ta = 16 ∧ tb = 5) := by
  simp only [pm_takes, Bool.or_eq_true, Bool.and_eq_true, beq_iff_eq] at h
  exact h
section PMROWS5
variable {cc : ByteArray} {y : MethodName} {nL rk lim lims : Nat} {G : pm_J} {Ret : Option Value → pm_H → Prop} {pc : Nat} {env st : List Value} {σ σ' : pm_H}
theorem rw_aastore (hG : pm_G cc y nL rk lim lims G Ret) {a b : Nat} {i : Int32} (d : decode cc pc = .ok (.aastore, 1)) (ht : pm_takes (pT σ a) (pT σ b) = true) (hi : vp_in i (pL σ a)) (kk : G (pc + 1) env st (uR σ a i.toNatClampNeg (some b))) : G pc env (.ref b :: .int i :: .ref a :: st) σ := by
  obtain ⟨⟨K, p, l, e, R, s, m, args, below, meth, co, Q, n0, s0, ⟨hx, hb, hml, hown, hts, hkx, hin⟩, hfr, hlo, hlim, hlims, rfl⟩, -⟩ := hG
  intro H locs ls h1 h2 h3 h4 h5 h6
  have hlt : i.toNatClampNeg < pL σ a := Nat.not_le.mp fun q => hi (Or.inr q)
  have h0i : ¬ i < 0 := fun q => hi (Or.inl q)
  rcases pm_takes_of ht with ⟨ta, tb⟩ | ⟨ta, tb⟩
  · obtain ⟨h0, hc⟩ := (show pm_cc K 15 _ _ _ _ a H from h3.arr ta (by decide))
    have hge := pm_kd_ge hkx h0
    obtain ⟨⟨r, hr⟩, hasg⟩ := pm_asg hkx tb
    obtain ⟨-, cell, q1, q2, q3, -⟩ := h3.obj rfl hr
    obtain ⟨-, kC', hkC, -⟩ := (hkx.1.1 _ _ hr).2
    obtain ⟨kA', comp, k1, k2, k3, -⟩ := (hkx.1.2 2 _ rfl).2
    have h6c := (hkx.1.1 6 _ rfl).2
    have hcomp : comp = kC K 6 := Option.some.inj (k3.symm.trans h6c.1)
    subst hcomp
    obtain ⟨k6, hk6, -⟩ := h6c.2
    refine W.aast hx hb hc (fun q h => by cases h) (fun h => by cases h) k1 k2 rfl hk6 ⟨h0i, by rw [arrV_size]; exact hlt⟩ q1 (fun q h => by rw [q3] at h; cases h) (by rw [q2]; exact hkC) (by rw [q2]; exact hasg) rfl rfl d fun H' z1 z2 z3 => ?_
    refine kk H' _ ls h1 h2 ?_ (fun q hq => by rw [z3 q (pm_ne hge hq)]; exact h4 q hq) (pm_locs h5 hge) h6
    refine h3.put hkx h0 rfl rfl (fun b hb => ⟨rfl, rfl, rfl, by funext j; rw [pR_uR, if_neg (fun q => hb q.1)]⟩) z2 z3 ?_
    unfold pm_cell pm_cc
    rw [pT_uR, ta, if_neg (by decide), if_neg (by decide), if_pos rfl]
    refine ⟨h0, ?_⟩
    rw [z1, arrV_store, pL_uR]
    congr 2
    funext j
    simp only [updV, pR_uR]
    by_cases hj : j = i.toNatClampNeg <;> simp [hj, va_rf, em_ref]
  · obtain ⟨h0, hc⟩ := (show pm_cc K 16 _ _ _ _ a H from h3.arr ta (by decide))
    have hge := pm_kd_ge hkx h0
    obtain ⟨-, cell, q1, q2, q3, -⟩ := h3.obj (r := (RX5, TX5, 2)) tb rfl
    have h5c := (hkx.1.1 5 _ rfl).2
    obtain ⟨kA', comp, k1, k2, k3, -⟩ := (hkx.1.2 3 _ rfl).2
    have hcomp : comp = kC K 5 := Option.some.inj (k3.symm.trans h5c.1)
    subst hcomp
    obtain ⟨k6, hk6, -⟩ := h5c.2
    refine W.aast hx hb hc (fun q h => by cases h) (fun h => by cases h) k1 k2 rfl hk6 ⟨h0i, by rw [arrV_size]; exact hlt⟩ q1 (fun q h => by rw [q3] at h; cases h) (by rw [q2]; exact hk6) (by rw [q2]; exact va_assign h5c) rfl rfl d fun H' z1 z2 z3 => ?_
    refine kk H' _ ls h1 h2 ?_ (fun q hq => by rw [z3 q (pm_ne hge hq)]; exact h4 q hq) (pm_locs h5 hge) h6
    refine h3.put hkx h0 rfl rfl (fun b hb => ⟨rfl, rfl, rfl, by funext j; rw [pR_uR, if_neg (fun q => hb q.1)]⟩) z2 z3 ?_
    unfold pm_cell pm_cc
    rw [pT_uR, ta, if_neg (by decide), if_neg (by decide), if_neg (by decide), if_pos rfl]
    refine ⟨h0, ?_⟩
    rw [z1, arrV_store, pL_uR]
    congr 2
    funext j
    simp only [updV, pR_uR]
    by_cases hj : j = i.toNatClampNeg <;> simp [hj, va_rf, em_ref]
theorem rw_aastoreN (hG : pm_G cc y nL rk lim lims G Ret) {a : Nat} {i : Int32} (d : decode cc pc = .ok (.aastore, 1)) (ht : pT σ a = 16) (hi : vp_in i (pL σ a)) (kk : G (pc + 1) env st (uR σ a i.toNatClampNeg none)) : G pc env (.null :: .int i :: .ref a :: st) σ := by
  obtain ⟨⟨K, p, l, e, R, s, m, args, below, meth, co, Q, n0, s0, ⟨hx, hb, hml, hown, hts, hkx, hin⟩, hfr, hlo, hlim, hlims, rfl⟩, -⟩ := hG
  intro H locs ls h1 h2 h3 h4 h5 h6
  obtain ⟨h0, hc⟩ := (show pm_cc K 16 _ _ _ _ a H from h3.arr ht (by decide))
  have hge := pm_kd_ge hkx h0
  refine va_WaastN (C := RX5) hx hb hc ((hkx.1.2 3 _ rfl).1 _ _) (fun q => by cases q) (by rw [arrV_size]; exact hi) rfl rfl d fun H' z1 z2 z3 => ?_
  refine kk H' _ ls h1 h2 ?_ (fun q hq => by rw [z3 q (pm_ne hge hq)]; exact h4 q hq) (pm_locs h5 hge) h6
  refine h3.put hkx h0 rfl rfl (fun b hb => ⟨rfl, rfl, rfl, by funext j; rw [pR_uR, if_neg (fun q => hb q.1)]⟩) z2 z3 ?_
  unfold pm_cell pm_cc
  rw [pT_uR, ht, if_neg (by decide), if_neg (by decide), if_neg (by decide), if_pos rfl]
  refine ⟨h0, ?_⟩
  rw [z1, arrV_store, pL_uR]
  congr 2
  funext j
  simp only [updV, pR_uR]
  by_cases hj : j = i.toNatClampNeg <;> simp [hj, va_rf, em_null]
/-- a cell more -/
theorem pm_ok.new {K : pm_K} {U : State} {H0 : Heap} (hk : pm_kx K U H0) {H H' : Heap} (h : pm_ok K σ H) {t n ns : Nat} (ht : t ≠ 99) (hz : H'.size = H.size + 1) (ho : ∀ q, q < H.size → H'[q]? = H[q]?) (hc : pm_cc K t n (fun _ => 0) (fun _ => 0) (fun _ => none) (pN σ) H') : pm_ok K (nw σ t n ns) H' := by
  obtain ⟨g1, g2, g3, g4⟩ := h
  refine ⟨by rw [hz, pN_nw]; omega, by rw [pN_nw]; omega, fun b hb => ?_, fun b hb => ?_⟩
  · rw [pN_nw] at hb
    rw [pT_nw, if_neg (by omega)]
    exact g3 b (by omega)
  · rw [pN_nw] at hb
    by_cases e : b = pN σ
    · subst e
      unfold pm_cell
      rw [pT_nw, pL_nw, if_pos rfl, if_pos rfl, show pI (nw σ t n ns) (pN σ) = fun _ => 0 from by funext j; rw [pI_nw, if_pos rfl], show pJ (nw σ t n ns) (pN σ) = fun _ => 0 from by funext j; rw [pJ_nw, if_pos rfl], show pR (nw σ t n ns) (pN σ) = fun _ => none from by funext j; rw [pR_nw, if_pos rfl]]
      exact hc
    · have h1 := g4 b (by omega)
      unfold pm_cell at h1 ⊢
      rw [pT_nw, pL_nw, if_neg e, if_neg e, show pI (nw σ t n ns) b = pI σ b from by funext j; rw [pI_nw, if_neg e], show pJ (nw σ t n ns) b = pJ σ b from by funext j; rw [pJ_nw, if_neg e], show pR (nw σ t n ns) b = pR σ b from by funext j; rw [pR_nw, if_neg e]]
      refine h1.kept (ho _ ?_)
      obtain ⟨-, -, -, -, -, -, -, -, -, h10, h11, h12⟩ := hk
      rcases Nat.lt_or_ge b 11 with q | q
      · have := h10 b q; omega
      · rw [h11 b q]; omega
theorem pm_kd_new {K : pm_K} {U : State} {H0 H : Heap} (hk : pm_kx K U H0) (h : pm_ok K σ H) : kd K (pN σ) = H.size := by
  obtain ⟨-, -, -, -, -, -, -, -, -, h10, h11, h12⟩ := hk
  obtain ⟨g1, g2, -⟩ := h
  rw [h11 _ g2]; omega
theorem pm_dflt {d : String} {ty : FieldType} (h : parseFieldDescriptor d = some ty) (hd : d = "I" ∨ d = "Z" ∨ d = "J" ∨ (pm_ft d = 3 ∧ ((∃ n, ty = .object n) ∨ ∃ t, ty = .array t))) (K : pm_K) (k : Nat) : defaultValue ty = em K (pm_fv (fun _ => 0) (fun _ => 0) (fun _ => none) (pm_ft d) k) := by
  rcases hd with rfl | rfl | rfl | ⟨h3, hd⟩
  · have e : ty = .int := Option.some.inj (h.symm.trans (by decide +kernel))
    subst e
    rfl
  · have e : ty = .boolean := Option.some.inj (h.symm.trans (by decide +kernel))
    subst e
    rfl
  · have e : ty = .long := Option.some.inj (h.symm.trans (by decide +kernel))
    subst e
    rfl
  · rw [h3]
    rcases hd with ⟨n, rfl⟩ | ⟨t, rfl⟩ <;> rfl
theorem rw_new (hG : pm_G cc y nL rk lim lims G Ret) {c idx : Nat} {r : vw_C} (d : decode cc pc = .ok (.new idx, 3)) (hr : vwCl[c]? = some r) (w1 : Cond.classLink y.cls idx r.1 ∈ gws) (w2 : Cond.instantiable r.1 r.2.2 ∈ gws) (w3 : Cond.initialized r.1 ∈ gws) (l1 : pN σ + 1 ≤ lim) (l2 : pS σ + r.2.2 ≤ lims) (kk : G (pc + 3) env (.ref (pN σ) :: st) (nw σ c 0 r.2.2)) : G pc env st σ := by
  obtain ⟨⟨K, p, l, e, R, s, m, args, below, meth, co, Q, n0, s0, ⟨hx, hb, hml, hown, hts, hkx, hin⟩, hfr, hlo, hlim, hlims, rfl⟩, -⟩ := hG
  intro H locs ls h1 h2 h3 h4 h5 h6
  obtain ⟨ty, c1, c2, c3⟩ := pm_cls_all c r hr
  have hKn := hkx.1.1 c _ hr
  have hkd := pm_kd_new hkx h3
  have hc13 := vwCl_lt hr
  refine W.newcK hx hb hown (hts _ w1) (hts _ w2) (hts _ w3) rfl d (by omega) (by omega) hKn.2.1 rfl fun H1 kC' hkC e1 z1 o1 => ?_
  have kw := kk H1 locs ls (by rw [pN_nw]; omega) (by rw [pS_nw]; omega) (h3.new hkx (by omega) z1 o1 ?_) (fun q hq => ?_) h5 h6
  · rw [pN_nw, pS_nw, show pN σ + 1 - n0 = pN σ - n0 + 1 by omega, show pS σ + r.2.2 - s0 = pS σ - s0 + r.2.2 by omega] at kw
    rw [← hkd]
    exact kw
  · unfold pm_cc
    rw [if_neg (by omega), if_neg (by omega), if_neg (by omega), if_neg (by omega), if_neg (by omega), if_neg (by omega)]
    refine ⟨h3.2.1, r, hr, ?_⟩
    rw [hkd]
    exact (u_born ty hts c1 hKn hkC e1 c2).to (fun k hk => pm_dflt (c2 k hk) (pm_dchk_of (pm_dchk_all c r hr k hk) (c2 k hk)) K k)
  · have h12 := hkx.2.2.2.2.2.2.2.2.2.2.2
    have hs1 : q < H.size := by
      have := h3.1; have := h3.2.1; omega
    rw [o1 q hs1]; exact h4 q hq
theorem rw_newi (hG : pm_G cc y nL rk lim lims G Ret) {n : Int32} (d : decode cc pc = .ok (.newarray .int, 2)) (hn : ¬ n < 0) (hb2 : n.toNatClampNeg ≤ 1000) (l1 : pN σ + 1 ≤ lim) (l2 : pS σ + n.toNatClampNeg ≤ lims) (kk : G (pc + 2) env (.ref (pN σ) :: st) (nw σ 13 n.toNatClampNeg n.toNatClampNeg)) : G pc env (.int n :: st) σ := by
  obtain ⟨⟨K, p, l, e, R, s, m, args, below, meth, co, Q, n0, s0, ⟨hx, hb, hml, hown, hts, hkx, hin⟩, hfr, hlo, hlim, hlims, rfl⟩, -⟩ := hG
  intro H locs ls h1 h2 h3 h4 h5 h6
  have hkd := pm_kd_new hkx h3
  refine va_newaK hx hb (hts (.arrayClass (newarray.typeOf .int)) wt_58) rfl d rfl hn rfl (by show n.toNatClampNeg * 4 ≤ _; omega) (by omega) (by omega) rfl fun H1 cA e1 z1 o1 hAr hNm => ?_
  have hcA : cA = kA K 0 := Option.some.inj (hNm.symm.trans (show s.vm.findClass _ = some (kA K 0) from (hkx.1.2 0 _ rfl).2))
  subst hcA
  have kw := kk H1 locs ls (by rw [pN_nw]; omega) (by rw [pS_nw]; omega) (h3.new hkx (by decide) z1 o1 ?_) (fun q hq => ?_) h5 h6
  · rw [pN_nw, pS_nw, show pN σ + 1 - n0 = pN σ - n0 + 1 by omega, show pS σ + n.toNatClampNeg - s0 = pS σ - s0 + n.toNatClampNeg by omega] at kw
    rw [← hkd]
    exact kw
  · unfold pm_cc
    rw [if_pos rfl, hkd]
    exact ⟨h3.2.1, e1⟩
  · have hs1 : q < H.size := by
      have := h3.1; have := h3.2.1; omega
    rw [o1 q hs1]; exact h4 q hq
theorem rw_newl (hG : pm_G cc y nL rk lim lims G Ret) {n : Int32} (d : decode cc pc = .ok (.newarray .long, 2)) (hn : ¬ n < 0) (hb2 : n.toNatClampNeg ≤ 1000) (l1 : pN σ + 1 ≤ lim) (l2 : pS σ + n.toNatClampNeg ≤ lims) (kk : G (pc + 2) env (.ref (pN σ) :: st) (nw σ 14 n.toNatClampNeg n.toNatClampNeg)) : G pc env (.int n :: st) σ := by
  obtain ⟨⟨K, p, l, e, R, s, m, args, below, meth, co, Q, n0, s0, ⟨hx, hb, hml, hown, hts, hkx, hin⟩, hfr, hlo, hlim, hlims, rfl⟩, -⟩ := hG
  intro H locs ls h1 h2 h3 h4 h5 h6
  have hkd := pm_kd_new hkx h3
  refine va_newaK hx hb (hts (.arrayClass (newarray.typeOf .long)) wt_844) rfl d rfl hn rfl (by show n.toNatClampNeg * 8 ≤ _; omega) (by omega) (by omega) rfl fun H1 cA e1 z1 o1 hAr hNm => ?_
  have hcA : cA = kA K 1 := Option.some.inj (hNm.symm.trans (show s.vm.findClass _ = some (kA K 1) from (hkx.1.2 1 _ rfl).2))
  subst hcA
  have kw := kk H1 locs ls (by rw [pN_nw]; omega) (by rw [pS_nw]; omega) (h3.new hkx (by decide) z1 o1 ?_) (fun q hq => ?_) h5 h6
  · rw [pN_nw, pS_nw, show pN σ + 1 - n0 = pN σ - n0 + 1 by omega, show pS σ + n.toNatClampNeg - s0 = pS σ - s0 + n.toNatClampNeg by omega] at kw
    rw [← hkd]
    exact kw
  · unfold pm_cc
    rw [if_neg (by decide), if_pos rfl, hkd]
    exact ⟨h3.2.1, e1⟩
  · have hs1 : q < H.size := by
      have := h3.1; have := h3.2.1; omega
    rw [o1 q hs1]; exact h4 q hq
/-- t = 15: people, t = 16: rows -/
theorem rw_newr (hG : pm_G cc y nL rk lim lims G Ret) {n : Int32} {idx t : Nat} (d : decode cc pc = .ok (.anewarray idx, 3)) (w1 : (t = 15 ∧ Cond.classLink y.cls idx RX6 ∈ gws) ∨ (t = 16 ∧ Cond.classLink y.cls idx RX5 ∈ gws)) (hn : ¬ n < 0) (hb2 : n.toNatClampNeg ≤ 1000) (l1 : pN σ + 1 ≤ lim) (l2 : pS σ + n.toNatClampNeg ≤ lims) (kk : G (pc + 3) env (.ref (pN σ) :: st) (nw σ t n.toNatClampNeg n.toNatClampNeg)) : G pc env (.int n :: st) σ := by
  obtain ⟨⟨K, p, l, e, R, s, m, args, below, meth, co, Q, n0, s0, ⟨hx, hb, hml, hown, hts, hkx, hin⟩, hfr, hlo, hlim, hlims, rfl⟩, -⟩ := hG
  intro H locs ls h1 h2 h3 h4 h5 h6
  have hkd := pm_kd_new hkx h3
  have core : ∀ (C : String) (cR : ClassId), va_AO C s → Cond.classLink y.cls idx C ∈ gws → s.vm.findClass ("[" ++ (FieldType.object C).toString) = some cR → t ≠ 99 → (∀ H1 : Heap, H1[H.size]? = some (arrV cR n.toNatClampNeg (fun _ => .null)) → pm_cc K t n.toNatClampNeg (fun _ => 0) (fun _ => 0) (fun _ => none) (pN σ) H1) → W p l e R s m args below meth co H locs (pN σ - n0) (pS σ - s0) Q (F0 m pc ls (List.map (em K) (.int n :: st))) := by
    intro C cR hAO w hfc ht hcell
    refine W.anew hx hb hown (hts _ w) (va_AO.use hAO) rfl d rfl hn (by omega) (by omega) (by omega) fun cA kA' comp f1 f2 f3 f4 => ?_
    have hcA : cA = cR := Option.some.inj (f1.symm.trans hfc)
    subst hcA
    generalize hH1 : H.push ({ cls := cA, slots := Array.replicate n.toNatClampNeg .null, vm := .none } : Cell) = H1
    have z1 : H1.size = H.size + 1 := by rw [← hH1, Array.size_push]
    have e1 : H1[H.size]? = some (arrV cA n.toNatClampNeg (fun _ => .null)) := by rw [← hH1, Array.getElem?_push_size, ← arrV_new]
    have o1 : ∀ q : Nat, q < H.size → H1[q]? = H[q]? := fun q hq => by rw [← hH1, Array.getElem?_push, if_neg (Nat.ne_of_lt hq)]
    have kw := kk H1 locs ls (by rw [pN_nw]; omega) (by rw [pS_nw]; omega) (h3.new hkx ht z1 o1 (hcell H1 e1)) (fun q hq => ?_) h5 h6
    · rw [pN_nw, pS_nw, show pN σ + 1 - n0 = pN σ - n0 + 1 by omega, show pS σ + n.toNatClampNeg - s0 = pS σ - s0 + n.toNatClampNeg by omega] at kw
      rw [← hkd]
      exact kw
    · have hs1 : q < H.size := by
        have := h3.1; have := h3.2.1; omega
      rw [o1 q hs1]; exact h4 q hq
  rcases w1 with ⟨rfl, w1⟩ | ⟨rfl, w1⟩
  · obtain ⟨kA', comp, k1, k2, k3, k4⟩ := (hkx.1.2 2 _ rfl).2
    refine core RX6 (kA K 2) hkx.2.2.2.2.1.1 w1 k4 (by decide) fun H1 e1 => ?_
    unfold pm_cc
    rw [if_neg (by decide), if_neg (by decide), if_pos rfl, hkd]
    exact ⟨h3.2.1, e1⟩
  · obtain ⟨kA', comp, k1, k2, k3, k4⟩ := (hkx.1.2 3 _ rfl).2
    refine core RX5 (kA K 3) hkx.2.2.2.2.1.2 w1 k4 (by decide) fun H1 e1 => ?_
    unfold pm_cc
    rw [if_neg (by decide), if_neg (by decide), if_neg (by decide), if_pos rfl, hkd]
    exact ⟨h3.2.1, e1⟩
end PMROWS5
