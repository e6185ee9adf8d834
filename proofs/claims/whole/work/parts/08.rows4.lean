/-! Rows of stores into fields, of arrays, of new cells. -/
def pm_dchk (d : String) : Bool := d == "I" || d == "Z" || d == "J" || (pm_ft d == 3 && match parseFieldDescriptor d with
  | some (.object _) => true
  | some (.array _) => true
  | _ => false)
theorem pm_dchk_of {d : String} {ty : FieldType} (h : pm_dchk d = true) (ht : parseFieldDescriptor d = some ty) : d = "I" ∨ d = "Z" ∨ d = "J" ∨ (pm_ft d = 3 ∧ ((∃ n, ty = .object n) ∨ ∃ t, ty = .array t)) := by
  unfold pm_dchk at h
  rw [ht] at h
  simp only [Bool.or_eq_true, Bool.and_eq_true, beq_iff_eq] at h
  rcases h with ((h | h) | h) | ⟨h1, h2⟩
  · exact Or.inl h
  · exact Or.inr (Or.inl h)
  · exact Or.inr (Or.inr (Or.inl h))
  · refine Or.inr (Or.inr (Or.inr ⟨h1, ?_⟩))
    cases ty with
    | object n => exact Or.inl ⟨n, rfl⟩
    | array t => exact Or.inr ⟨t, rfl⟩
    | _ => cases h2
theorem pm_dchk_all (c : Nat) (r : vw_C) (h : vwCl[c]? = some r) : ∀ k, k < r.2.2 → pm_dchk (r.2.1 k).2.2.1 = true := by
  match c, h with
  | 0, h => cases h; decide +kernel
  | 1, h => cases h; decide +kernel
  | 2, h => cases h; decide +kernel
  | 3, h => cases h; decide +kernel
  | 4, h => cases h; decide +kernel
  | 5, h => cases h; decide +kernel
  | 6, h => cases h; decide +kernel
  | 7, h => cases h; decide +kernel
  | 8, h => cases h; decide +kernel
  | 9, h => cases h; decide +kernel
  | 10, h => cases h; decide +kernel
  | 11, h => cases h; decide +kernel
  | 12, h => cases h; decide +kernel
  | k + 13, h => simp [vwCl] at h
theorem pm_locs {K : pm_K} {locs : List Loc} {q : Loc} (h : ∀ x ∈ locs, kB K ≤ x.base) (hq : kB K ≤ q.base) : ∀ x ∈ locs ++ [q], kB K ≤ x.base := by
  intro x hx
  rcases List.mem_append.mp hx with hx | hx
  · exact h x hx
  · rw [List.mem_singleton.mp hx]; exact hq
theorem pm_ne {K : pm_K} {a q : Nat} (hge : kB K ≤ kd K a) (hq : q < kB K) : q ≠ kd K a := by
  intro h
  rw [h] at hq
  exact absurd hge (Nat.not_le.mpr hq)
section PMROWS4
variable {cc : ByteArray} {y : MethodName} {nL rk lim lims : Nat} {G : pm_J} {Ret : Option Value → pm_H → Prop} {pc : Nat} {env st : List Value} {σ σ' : pm_H}
theorem rw_put (hG : pm_G cc y nL rk lim lims G Ret) {a c k idx : Nat} {r : vw_C} {v : Value} (d : decode cc pc = .ok (.putfield idx, 3)) (ht : pT σ a = c) (hr : vwCl[c]? = some r) (hf : pm_fl y.cls idx r k) (hfin : (r.2.1 k).2.2.2 = false ∨ ((r.2.1 k).2.2.2 = true ∧ y.name = "<init>" ∧ (r.2.1 k).1 = y.cls)) (hp : pm_pf σ a (pm_ft (r.2.1 k).2.2.1) k v = some σ') (kk : G (pc + 3) env st σ') : G pc env (v :: .ref a :: st) σ := by
  obtain ⟨⟨K, p, l, e, R, s, m, args, below, meth, co, Q, n0, s0, ⟨hx, hb, hml, hown, hts, hkx, hin⟩, hfr, hlo, hlim, hlims, rfl⟩, -⟩ := hG
  intro H locs ls h1 h2 h3 h4 h5 h6
  obtain ⟨hk, ref, hl, hs⟩ := hf
  obtain ⟨ty, c1, c2, c3⟩ := pm_cls_all c r hr
  obtain ⟨h0, cell, q1, q2, q3, q4⟩ := h3.obj ht hr
  have hap := va_apart (own := y.cls) hts c1 ty c2 c3 hkx.1 hr
  obtain ⟨hS, hfc, kC', hkC, hkind⟩ := hkx.1.1 c _ hr
  obtain ⟨cf, kf, fi, f, hi, hsl⟩ := hS k hk
  obtain ⟨⟨e1, e2, e3, e4, e5⟩, f1, f2, f3, f4⟩ := pm_pf_spec hp
  obtain ⟨g1, g2⟩ := pm_ft_ty (K := K) (c2 k hk) (pm_dchk_of (pm_dchk_all c r hr k hk) (c2 k hk)) f4
  have hst := (u_facts hfc hkC (u_lays hts c1 hk) hi).1
  have hlay := hts _ (c1 _ (u_in_lay hk))
  have hge := pm_kd_ge hkx h0
  have fin : ∀ H' : Heap, H'[kd K a]? = some (cell.setSlot f.slot (em K v)) → H'.size = H.size → (∀ q, q ≠ kd K a → H'[q]? = H[q]?) → W p l e R s m args below meth co H' (locs ++ [⟨kd K a, f.slot⟩]) (pN σ - n0) (pS σ - s0) Q (F0 m (pc + 3) ls (st.map (em K))) := by
    intro H' z1 z2 z3
    rw [← e3, ← e4]
    refine kk H' _ ls (by rw [e3]; exact h1) (by rw [e4]; exact h2) ?_ (fun q hq => by rw [z3 q (pm_ne hge hq)]; exact h4 q hq) (pm_locs h5 hge) h6
    refine h3.put hkx h0 e3 e1 (fun b hb => ⟨by rw [e2], (e5 b hb).1, (e5 b hb).2.1, (e5 b hb).2.2⟩) z2 z3 ?_
    unfold pm_cell pm_cc
    have hc := vwCl_lt hr
    rw [e1, ht, if_neg (by omega), if_neg (by omega), if_neg (by omega), if_neg (by omega), if_neg (by omega), if_neg (by omega)]
    rw [hsl] at z1
    refine ⟨h0, r, hr, t_OB.to ⟨_, z1, q2, q3, t_set q4 hap hk (em K v)⟩ (fun j hj => ?_)⟩
    by_cases hjk : j = k
    · subst hjk
      rw [f1]
      simp [updV]
    · rw [f2 j _ hjk]
      simp [updV, hjk]
  rcases hfin with hfin | ⟨hfin, hnm, hdecl⟩
  · unfold u_lay at hlay
    rw [if_neg (by rw [hfin]; decide)] at hlay
    have h7 := u_store hfc hkC hkind hlay hi (c2 k hk) g1 g2
    exact W.putK hx hb (f := f) ⟨hown, hts _ hl, ⟨_, _, _, pm_same hts hs _ hi⟩, hst⟩ (by rw [q2]; exact h7) q1 q3 (by rw [hsl]; exact k2_hasslot (q4 k hk)) rfl rfl d fin
  · unfold u_lay at hlay
    rw [if_pos hfin] at hlay
    have hcf : m.cls = cf := by
      obtain ⟨_, _, c', _, _, _, -, -, hf', -, -, -, hown2, -⟩ := Cond.laysFinal_spec hlay
      have e1 : c' = cf := by have := hi.symm.trans hf'; simp at this; exact this.1.symm
      rw [hdecl] at hown2
      rw [← e1]; exact Option.some.inj (hown.symm.trans hown2)
    have h7 := u_fits hfc hkC hkind (Or.inr hlay) hi (c2 k hk) g1 g2
    exact W.putFinK hx hb hown (hts _ hl) (pm_same hts hs _ hi) hst hcf (hin hnm) (by rw [q2]; exact h7) q1 q3 (by rw [hsl]; exact k2_hasslot (q4 k hk)) rfl rfl d fin
theorem pm_ok.arr {K : pm_K} {H : Heap} (h : pm_ok K σ H) {a t : Nat} (ht : pT σ a = t) (hn : t ≠ 99) : pm_cc K t (pL σ a) (pI σ a) (pJ σ a) (pR σ a) a H := by
  have h1 := h.2.2.2 a (h.lt ht hn)
  unfold pm_cell at h1
  rw [ht] at h1
  exact h1
theorem rw_iaload (hG : pm_G cc y nL rk lim lims G Ret) {a : Nat} {i : Int32} (d : decode cc pc = .ok (.iaload, 1)) (ht : pT σ a = 13) (hi : vp_in i (pL σ a)) (kk : G (pc + 1) env (.int (pI σ a i.toNatClampNeg) :: st) σ) : G pc env (.int i :: .ref a :: st) σ := by
  obtain ⟨⟨K, p, l, e, R, s, m, args, below, meth, co, Q, n0, s0, ⟨hx, hb, hml, hown, hts, hkx, hin⟩, hfr, hlo, hlim, hlims, rfl⟩, -⟩ := hG
  intro H locs ls h1 h2 h3 h4 h5 h6
  obtain ⟨h0, hc⟩ := (show pm_cc K 13 _ _ _ _ a H from h3.arr ht (by decide))
  have hlt : i.toNatClampNeg < pL σ a := Nat.not_le.mp fun q => hi (Or.inr q)
  exact W.iald hx hb hc ((hkx.1.2 0 _ rfl).1 _ _) (fun q => by cases q) (by rw [arrV_size]; exact hi) (arrV_read _ _ hlt) rfl rfl d (kk H locs ls h1 h2 h3 h4 h5 h6)
theorem rw_sload (hG : pm_G cc y nL rk lim lims G Ret) {a : Nat} {i : Int32} (d : decode cc pc = .ok (.iaload, 1)) (ht : pT σ a = 18) (hi : vp_in i (pL σ a)) (kk : G (pc + 1) env (.int (pI σ a i.toNatClampNeg) :: st) σ) : G pc env (.int i :: .ref a :: st) σ := by
  obtain ⟨⟨K, p, l, e, R, s, m, args, below, meth, co, Q, n0, s0, ⟨hx, hb, hml, hown, hts, hkx, hin⟩, hfr, hlo, hlim, hlims, rfl⟩, -⟩ := hG
  intro H locs ls h1 h2 h3 h4 h5 h6
  obtain ⟨h0, hn, hv⟩ := (show pm_cc K 18 _ _ _ _ a H from h3.arr ht (by decide))
  have hlt : i.toNatClampNeg < pL σ a := Nat.not_le.mp fun q => hi (Or.inr q)
  have hX := hkx.2.2.2.2.2.2.2.2.1
  have hkept := hX.kept (h4 _ (hkx.2.2.2.2.2.2.2.2.2.1 10 (by decide)))
  obtain ⟨scr, g1, g2, g3, g4, g5⟩ := hkept
  subst h0
  exact W.iald hx hb g1 g2 g3 (by rw [g4, ← hn]; exact hi) ((g5 _ (by rw [← hn]; exact hlt)).trans (by rw [← hv _ hlt]; rfl)) rfl rfl d (kk H locs ls h1 h2 h3 h4 h5 h6)
theorem rw_iastore (hG : pm_G cc y nL rk lim lims G Ret) {a : Nat} {i x : Int32} (d : decode cc pc = .ok (.iastore, 1)) (ht : pT σ a = 13) (hi : vp_in i (pL σ a)) (kk : G (pc + 1) env st (uI σ a i.toNatClampNeg x)) : G pc env (.int x :: .int i :: .ref a :: st) σ := by
  obtain ⟨⟨K, p, l, e, R, s, m, args, below, meth, co, Q, n0, s0, ⟨hx, hb, hml, hown, hts, hkx, hin⟩, hfr, hlo, hlim, hlims, rfl⟩, -⟩ := hG
  intro H locs ls h1 h2 h3 h4 h5 h6
  obtain ⟨h0, hc⟩ := (show pm_cc K 13 _ _ _ _ a H from h3.arr ht (by decide))
  have hge := pm_kd_ge hkx h0
  refine W.iast hx hb hc ((hkx.1.2 0 _ rfl).1 _ _) (fun q => by cases q) (by rw [arrV_size]; exact hi) rfl rfl d fun H' z1 z2 z3 => ?_
  refine kk H' _ ls h1 h2 ?_ (fun q hq => by rw [z3 q (pm_ne hge hq)]; exact h4 q hq) (pm_locs h5 hge) h6
  refine h3.put hkx h0 rfl rfl (fun b hb => ⟨rfl, by funext j; rw [pI_uI, if_neg (fun q => hb q.1)], rfl, rfl⟩) z2 z3 ?_
  unfold pm_cell pm_cc
  rw [pT_uI, ht, if_pos rfl]
  refine ⟨h0, ?_⟩
  rw [z1, arrV_store, pL_uI]
  congr 2
  funext j
  simp only [updV, pI_uI]
  by_cases hj : j = i.toNatClampNeg <;> simp [hj]
theorem rw_laload (hG : pm_G cc y nL rk lim lims G Ret) {a : Nat} {i : Int32} (d : decode cc pc = .ok (.laload, 1)) (ht : pT σ a = 14) (hi : vp_in i (pL σ a)) (kk : G (pc + 1) env (.long (pJ σ a i.toNatClampNeg) :: st) σ) : G pc env (.int i :: .ref a :: st) σ := by
  obtain ⟨⟨K, p, l, e, R, s, m, args, below, meth, co, Q, n0, s0, ⟨hx, hb, hml, hown, hts, hkx, hin⟩, hfr, hlo, hlim, hlims, rfl⟩, -⟩ := hG
  intro H locs ls h1 h2 h3 h4 h5 h6
  obtain ⟨h0, hc⟩ := (show pm_cc K 14 _ _ _ _ a H from h3.arr ht (by decide))
  have hlt : i.toNatClampNeg < pL σ a := Nat.not_le.mp fun q => hi (Or.inr q)
  exact W.lald hx hb hc ((hkx.1.2 1 _ rfl).1 _ _) (fun q => by cases q) (by rw [arrV_size]; exact hi) (arrV_read _ _ hlt) rfl rfl d (kk H locs ls h1 h2 h3 h4 h5 h6)
theorem rw_lastore (hG : pm_G cc y nL rk lim lims G Ret) {a : Nat} {i : Int32} {x : Int64} (d : decode cc pc = .ok (.lastore, 1)) (ht : pT σ a = 14) (hi : vp_in i (pL σ a)) (kk : G (pc + 1) env st (uJ σ a i.toNatClampNeg x)) : G pc env (.long x :: .int i :: .ref a :: st) σ := by
  obtain ⟨⟨K, p, l, e, R, s, m, args, below, meth, co, Q, n0, s0, ⟨hx, hb, hml, hown, hts, hkx, hin⟩, hfr, hlo, hlim, hlims, rfl⟩, -⟩ := hG
  intro H locs ls h1 h2 h3 h4 h5 h6
  obtain ⟨h0, hc⟩ := (show pm_cc K 14 _ _ _ _ a H from h3.arr ht (by decide))
  have hge := pm_kd_ge hkx h0
  refine W.last hx hb hc ((hkx.1.2 1 _ rfl).1 _ _) (fun q => by cases q) (by rw [arrV_size]; exact hi) rfl rfl d fun H' z1 z2 z3 => ?_
  refine kk H' _ ls h1 h2 ?_ (fun q hq => by rw [z3 q (pm_ne hge hq)]; exact h4 q hq) (pm_locs h5 hge) h6
  refine h3.put hkx h0 rfl rfl (fun b hb => ⟨rfl, rfl, by funext j; rw [pJ_uJ, if_neg (fun q => hb q.1)], rfl⟩) z2 z3 ?_
  unfold pm_cell pm_cc
  rw [pT_uJ, ht, if_neg (by decide), if_pos rfl]
  refine ⟨h0, ?_⟩
  rw [z1, arrV_store, pL_uJ]
  congr 2
  funext j
  simp only [updV, pJ_uJ]
  by_cases hj : j = i.toNatClampNeg <;> simp [hj]
theorem rw_aaload (hG : pm_G cc y nL rk lim lims G Ret) {a : Nat} {i : Int32} (d : decode cc pc = .ok (.aaload, 1)) (ht : pT σ a = 15 ∨ pT σ a = 16) (hi : vp_in i (pL σ a)) (kk : G (pc + 1) env (va_rf (pR σ a i.toNatClampNeg) :: st) σ) : G pc env (.int i :: .ref a :: st) σ := by
  obtain ⟨⟨K, p, l, e, R, s, m, args, below, meth, co, Q, n0, s0, ⟨hx, hb, hml, hown, hts, hkx, hin⟩, hfr, hlo, hlim, hlims, rfl⟩, -⟩ := hG
  intro H locs ls h1 h2 h3 h4 h5 h6
  have hlt : i.toNatClampNeg < pL σ a := Nat.not_le.mp fun q => hi (Or.inr q)
  rcases ht with ht | ht
  · obtain ⟨h0, hc⟩ := (show pm_cc K 15 _ _ _ _ a H from h3.arr ht (by decide))
    exact W.aald (ty := .object RX6) hx hb hc ((hkx.1.2 2 _ rfl).1 _ _) rfl (fun q => by cases q) (by rw [arrV_size]; exact hi) (arrV_read _ _ hlt) rfl rfl d (kk H locs ls h1 h2 h3 h4 h5 h6)
  · obtain ⟨h0, hc⟩ := (show pm_cc K 16 _ _ _ _ a H from h3.arr ht (by decide))
    exact W.aald (ty := .object RX5) hx hb hc ((hkx.1.2 3 _ rfl).1 _ _) rfl (fun q => by cases q) (by rw [arrV_size]; exact hi) (arrV_read _ _ hlt) rfl rfl d (kk H locs ls h1 h2 h3 h4 h5 h6)
theorem rw_alen (hG : pm_G cc y nL rk lim lims G Ret) {a : Nat} (d : decode cc pc = .ok (.arraylength, 1)) (ht : pT σ a = 13 ∨ pT σ a = 14 ∨ pT σ a = 15 ∨ pT σ a = 16 ∨ pT σ a = 18) (kk : G (pc + 1) env (.int (Int32.ofNat (pL σ a)) :: st) σ) : G pc env (.ref a :: st) σ := by
  obtain ⟨⟨K, p, l, e, R, s, m, args, below, meth, co, Q, n0, s0, ⟨hx, hb, hml, hown, hts, hkx, hin⟩, hfr, hlo, hlim, hlims, rfl⟩, -⟩ := hG
  intro H locs ls h1 h2 h3 h4 h5 h6
  have kw := kk H locs ls h1 h2 h3 h4 h5 h6
  rcases ht with ht | ht | ht | ht | ht
  · obtain ⟨h0, hc⟩ := (show pm_cc K 13 _ _ _ _ a H from h3.arr ht (by decide))
    exact W.alen hx hb hc ((hkx.1.2 0 _ rfl).1 _ _) (by rw [arrV_size] <;> rfl) rfl rfl d kw
  · obtain ⟨h0, hc⟩ := (show pm_cc K 14 _ _ _ _ a H from h3.arr ht (by decide))
    exact W.alen hx hb hc ((hkx.1.2 1 _ rfl).1 _ _) (by rw [arrV_size] <;> rfl) rfl rfl d kw
  · obtain ⟨h0, hc⟩ := (show pm_cc K 15 _ _ _ _ a H from h3.arr ht (by decide))
    exact W.alen hx hb hc ((hkx.1.2 2 _ rfl).1 _ _) (by rw [arrV_size] <;> rfl) rfl rfl d kw
  · obtain ⟨h0, hc⟩ := (show pm_cc K 16 _ _ _ _ a H from h3.arr ht (by decide))
    exact W.alen hx hb hc ((hkx.1.2 3 _ rfl).1 _ _) (by rw [arrV_size] <;> rfl) rfl rfl d kw
  · obtain ⟨h0, hn, hv⟩ := (show pm_cc K 18 _ _ _ _ a H from h3.arr ht (by decide))
    have hX := hkx.2.2.2.2.2.2.2.2.1
    obtain ⟨scr, g1, g2, g3, g4, g5⟩ := hX.kept (h4 _ (hkx.2.2.2.2.2.2.2.2.2.1 10 (by decide)))
    subst h0
    exact W.alen hx hb g1 g2 (by rw [g4, ← hn] <;> rfl) rfl rfl d kw
end PMROWS4
