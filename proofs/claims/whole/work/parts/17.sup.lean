/-! System.arraycopy of a whole row of ints; super.m(..), where the superclass has it from its own. -/
/-- the ints of b become those of a, n of them -/
def uC (σ : pm_H) (b a n : Nat) : pm_H := (σ.1, σ.2.1, fun c j => if c = b ∧ j < n then σ.2.2.1 a j else σ.2.2.1 c j, σ.2.2.2)
theorem pT_uC (σ : pm_H) (b a n : Nat) : pT (uC σ b a n) = pT σ := rfl
theorem pL_uC (σ : pm_H) (b a n : Nat) : pL (uC σ b a n) = pL σ := rfl
theorem pJ_uC (σ : pm_H) (b a n : Nat) : pJ (uC σ b a n) = pJ σ := rfl
theorem pR_uC (σ : pm_H) (b a n : Nat) : pR (uC σ b a n) = pR σ := rfl
theorem pN_uC (σ : pm_H) (b a n : Nat) : pN (uC σ b a n) = pN σ := rfl
theorem pS_uC (σ : pm_H) (b a n : Nat) : pS (uC σ b a n) = pS σ := rfl
theorem pI_uC (σ : pm_H) (b a n c j : Nat) : pI (uC σ b a n) c j = if c = b ∧ j < n then pI σ a j else pI σ c j := rfl
def D_copy : pm_D := fun vs σ => match vs with
  | [.ref a, .int sp, .ref b, .int dp, .int n] => if pT σ a = 13 ∧ pT σ b = 13 ∧ sp = 0 ∧ dp = 0 ∧ ¬ n < 0 ∧ n.toNatClampNeg ≤ pL σ a ∧ n.toNatClampNeg ≤ pL σ b then some (none, uC σ b a n.toNatClampNeg) else none
  | _ => none
theorem wn_copy : Cond.native arraycopyName ∈ gws := gws_tab 996 (by decide +kernel) rfl
section XCPY
variable {cc : ByteArray} {y : MethodName} {nL rk : Nat} {p1 : Nat}
theorem xCpy (d : decode cc p1 = .ok (.invokestatic 95, 3)) (hy : y.cls = RX10) (hrk : 1 ≤ rk) : kOK cc y nL rk p1 5 D_copy := by
  have sp : ∀ {vs : List Value} {σ σ' : pm_H} {r : Option Value}, D_copy vs σ = some (r, σ') → ∃ a b n, vs = [.ref a, .int 0, .ref b, .int 0, .int n] ∧ pT σ a = 13 ∧ pT σ b = 13 ∧ ¬ n < 0 ∧ n.toNatClampNeg ≤ pL σ a ∧ n.toNatClampNeg ≤ pL σ b ∧ r = none ∧ σ' = uC σ b a n.toNatClampNeg := by
    intro vs σ σ' r h
    unfold D_copy at h
    split at h
    · obtain ⟨⟨h1, h2, rfl, rfl, h3, h4, h5⟩, h6⟩ := pm_if h
      cases h6
      exact ⟨_, _, _, rfl, h1, h2, h3, h4, h5, rfl, rfl⟩
    · cases h
  refine ⟨fun vs σ r σ' h => ?_, fun hG env σ vs r σ' st hm hst hD l1 l2 k => ?_⟩
  · obtain ⟨a, b, n, -, -, -, -, -, -, -, rfl⟩ := sp h
    exact ⟨Nat.le_refl _, Nat.le_refl _⟩
  · obtain ⟨a, b, n, rfl, ta, tb, hn0, hna, hnb, rfl, rfl⟩ := sp hD
    obtain ⟨⟨K, p, l, e, R, s, m, args, below, meth, c, Q, n0, s0, ⟨hx, hb, hml, hown, hts, hkx, hin⟩, hfr, hlo, hlim, hlims, rfl⟩, -⟩ := hG
    intro H locs ls h1 h2 h3 h4 h5 h6
    rw [hy] at hown
    obtain ⟨ha, hca⟩ := (show pm_cc K 13 _ _ _ _ a H from h3.arr ta (by decide))
    obtain ⟨hb0, hcb⟩ := (show pm_cc K 13 _ _ _ _ b H from h3.arr tb (by decide))
    have hge := pm_kd_ge hkx hb0
    intro T hT X
    obtain ⟨-, k0, hk0, cm0, hkk0⟩ := (hkx.1.2 0 _ rfl).1 (pL σ a) (fun j => .int (pI σ a j))
    obtain ⟨-, k1, hk1, cm1, hkk1⟩ := (hkx.1.2 0 _ rfl).1 (pL σ b) (fun j => .int (pI σ b j))
    have nn : n.toInt = (n.toNatClampNeg : Int) := by
      have hz0 : (0 : Int) ≤ n.toInt := by
        have := Int32.not_lt.mp hn0
        simpa using Int32.le_iff_toInt_le.mp this
      show n.toInt = ((n.toInt.toNat : Nat) : Int)
      omega
    obtain ⟨vm', X', step⟩ := X.arraycopy hx hown (hts _ wt_994) (hts _ wn_copy) (hts _ wt_995) (hts _ wt_20) (src := kd K a) (dst := kd K b) (cs := arrV (kA K 0) (pL σ a) (fun j => .int (pI σ a j))) (cd := arrV (kA K 0) (pL σ b) (fun j => .int (pI σ b j))) (srcPos := 0) (destPos := 0) (n := n) (by rw [hT]; exact hca) (by rw [hT]; exact hcb)
      (fun _ h => by cases h) (fun _ h => by cases h) (fun h => by cases h) (fun h => by cases h) hk0 hk1 hkk0 hkk1 (by simp [refKind]) (by decide) (by decide) hn0
      (by rw [nn, arrV_size]; show ¬ (0 : Int) + _ > _; omega)
      (by rw [nn, arrV_size]; show ¬ (0 : Int) + _ > _; omega)
      (fun vm₁ _ i hi => by
        have e : (arrV (kA K 0) (pL σ a) (fun j => .int (pI σ a j))).slots.getD ((0 : Int32).toNatClampNeg + i) .null = .int (pI σ a (0 + i)) := by
          rw [Array.getD_eq_getD_getElem?, show (0 : Int32).toNatClampNeg = 0 from by decide, arrV_read _ _ (by omega)]
          rfl
        refine ⟨?_, ?_⟩
        · rw [e]
          rfl
        · rw [e]
          exact trivial)
      (g := F0 m p1 ls (.int n :: .int 0 :: .ref (kd K b) :: .int 0 :: .ref (kd K a) :: st.map (em K))) rfl (by rw [hml]; exact h6.1) (rest := st.map (em K)) rfl (by rw [hb]; exact d) (by omega) (by
        show 2 * 0 + _ + _ ≤ _
        have hq : ((st.map (em K)).map fun v => v.category).sum ≤ 8 := by rw [pm_cat]; exact hst
        have hw : nativeFrameWords "java/lang/System" "arraycopy" 5 ≤ 10 := by decide +kernel
        have hw2 : (2 * 0 + ((st.map (em K)).map fun v => v.category).sum + (nativeFrameWords "java/lang/System" "arraycopy" 5 + 11)) ≤ R.locals := by omega
        exact hw2)
    have e1 : copied (arrV (kA K 0) (pL σ a) (fun j => .int (pI σ a j))) (arrV (kA K 0) (pL σ b) (fun j => .int (pI σ b j))) 0 0 n = arrV (kA K 0) (pL σ b) (fun j => .int (va_cpy (pI σ a) (pI σ b) (0 : Int32).toNatClampNeg (0 : Int32).toNatClampNeg n.toNatClampNeg j)) := va_copied (fun z => .int z) (kA K 0) (kA K 0) (pI σ a) (pI σ b) (by rw [show (0 : Int32).toNatClampNeg = 0 from by decide]; omega)
    rw [e1] at X' step
    have hl : kd K b < H.size := (Array.getElem?_eq_some_iff.mp hcb).1
    generalize hC : arrV (kA K 0) (pL σ b) (fun j => .int (va_cpy (pI σ a) (pI σ b) (0 : Int32).toNatClampNeg (0 : Int32).toNatClampNeg n.toNatClampNeg j)) = C at X' step
    have hheap : ((T.setVm vm').setCell (kd K b) C).heap = H.setIfInBounds (kd K b) C := by rw [← hT]; rfl
    have oq : ∀ q : Nat, q ≠ kd K b → (H.setIfInBounds (kd K b) C)[q]? = H[q]? := fun q hq => by simp [Array.getElem?_setIfInBounds, Ne.symm hq]
    have self : (H.setIfInBounds (kd K b) C)[kd K b]? = some C := by simp [Array.getElem?_setIfInBounds, hl]
    have hok' : pm_ok K (uC σ b a n.toNatClampNeg) (H.setIfInBounds (kd K b) C) := by
      refine h3.put hkx hb0 rfl rfl (fun b' hb' => ⟨rfl, by funext j; rw [pI_uC, if_neg (fun q => hb' q.1)], rfl, rfl⟩) (by simp) oq ?_
      unfold pm_cell pm_cc
      rw [pT_uC, tb, if_pos rfl]
      refine ⟨hb0, ?_⟩
      rw [self, ← hC, pL_uC]
      congr 2
      funext j
      rw [pI_uC]
      simp only [va_cpy, show (0 : Int32).toNatClampNeg = 0 from by decide]
      by_cases hj : j < n.toNatClampNeg <;> simp [hj]
    obtain ⟨t, a1, b1⟩ := k _ _ ls h1 h2 hok' (fun q hq => by rw [oq q (pm_ne hge hq)]; exact h4 q hq) (fun q hq => by
      rcases List.mem_append.mp hq with h | h
      · exact h5 q h
      · obtain ⟨z, -, hz⟩ := List.mem_map.mp h
        rw [← hz]
        exact hge) h6 _ hheap X'
    exact ⟨t, step t a1, b1⟩
end XCPY
def pm_sw (own : String) (idx : Nat) (mid : String) (y : MethodName) (n : Nat) : Prop := Cond.methodLink own idx ⟨mid, y.name, y.desc⟩ ∈ gws ∧ Cond.sameMethod mid y.cls y.name y.desc ∈ gws ∧ Cond.superclass own mid ∈ gws ∧ Cond.superclass mid y.cls ∈ gws ∧ Cond.instanceMethod y ∈ gws ∧ Cond.initialized y.cls ∈ gws ∧ y.name ≠ "<init>" ∧ (parseMethodDescriptor y.desc).map (fun d => d.parameters.length) = some n
section XW
variable {cc : ByteArray} {y : MethodName} {nL rk : Nat} {p1 m : Nat}
theorem xW {ok : Nat → Bool} {idx rk2 : Nat} {mid : String} {y2 : MethodName} {ret : Option FieldType} {D : pm_D} (d : decode cc p1 = .ok (.invokespecial idx, 3)) (hM : pm_M y2 rk2 ret D) (hrk : rk2 + 1 ≤ rk) (hok : ∀ c, ok c = true → ∃ rc, vwCl[c]? = some rc) (hs : pm_sw y.cls idx mid y2 m) : kOK cc y nL rk p1 (m + 1) (pm_on ok D) := by
  refine ⟨fun vs σ r σ' h => ?_, fun hG env σ vs r σ' st hm hst hD l1 l2 k => ?_⟩
  · obtain ⟨b, ws, rfl, h1, h2⟩ := pm_on_sp h
    exact hM.1 _ _ _ _ h2
  · obtain ⟨b, ws, rfl, hok1, hD2⟩ := pm_on_sp hD
    obtain ⟨rc, hc⟩ := hok _ hok1
    have hm2 : ws.length = m := by simpa using hm
    obtain ⟨⟨K, p, l, e, R, s, mm, args, below, meth, co, Q, n0, s0, ⟨hx, hb, hml, hown, hts, hkx, hin⟩, hfr, hlo, hlim, hlims, rfl⟩, -⟩ := hG
    intro H locs ls h1 h2 h3 h4 h5 h6
    obtain ⟨hmono, bytes, maxL, hcode, hmL, hmet⟩ := hM
    obtain ⟨m1, m2⟩ := hmono _ _ _ _ hD2
    obtain ⟨-, cellB, g1, g2, g3, -⟩ := h3.obj rfl hc
    have hcls := (hkx.1.1 _ _ hc).2
    have hkH : pm_kx K s H := hkx.kept h4 (by have := h3.1; have := h3.2.1; omega)
    obtain ⟨w1, w2, w3, w4, w5, w6, w7, w8⟩ := hs
    have hK : Back l R p e below s args y2 3 8 (PreOf R (pN σ' - pN σ) (pS σ' - pS σ) (pm_Pc K (.ref b :: ws) σ)) (PostOf (pm_Q K r σ') (pN σ' - pN σ) (pS σ' - pS σ) (fun q => kB K ≤ q)) := back_of (bytes := bytes) (maxL := maxL) (ret := ret) (hmet l K _ _ _ _ hD2) (pm_Pc.blind _ _ _) rfl rfl (by show rk2 + 1 ≤ _; omega) (by show 8 + (maxL + 11) + 29 * rk2 ≤ _; omega) (pay_in hts (gws_code hcode)) List.mem_cons_self (fun a' U hW => word_at hW (Or.inl (by first | rfl | simp [Cond.onTables, Cond.keeps, Cond.steady])) (hts _ w6))
    have hp : ∀ U : State, U.heap = H → s.WarmedH U.vm → pm_Pc K (.ref b :: ws) σ (Value.ref (kd K b) :: ws.map (em K)).toArray U := fun U hU hW => ⟨rfl, by rw [hU]; exact hkH.moved hW, by rw [hU]; exact h3⟩
    have hstack : (F0 mm p1 ls (((.ref b :: ws).reverse ++ st).map (em K))).stack = (ws.map (em K)).reverse ++ .ref (kd K b) :: st.map (em K) := by
      show List.map (em K) ((.ref b :: ws).reverse ++ st) = _
      rw [List.reverse_cons, List.append_assoc, List.map_append, List.map_reverse]; rfl
    refine pm_run (a0 := (Value.ref (kd K b) :: ws.map (em K)).toArray) (r := r) ?_ h1 h2 h4 h5 h6 m1 m2 k
    obtain ⟨mk, methM, hnamed, hmethM, hstM, habM⟩ := Cond.instanceMethod_spec (hts _ w5)
    obtain ⟨methM', cM, hmethM', -, -, -, -, -, -, hsigM⟩ := Cond.code_spec hnamed (hts _ hcode)
    cases hmethM.symm.trans hmethM'
    obtain ⟨ps, dk, kp, hps, hdk, hkp, hsuper, -, -, hnid⟩ := Cond.superclass_spec hown (hts _ w3)
    obtain ⟨ps2, dk2, kp2, hps2, hdk2, hkp2, hsuper2, -, -, hnid2⟩ := Cond.superclass_spec hps (hts _ w4)
    have hn : s.methodNamed? ⟨y2.cls, y2.name, y2.desc⟩ = some mk := hnamed
    have hpm : ps2 = mk.cls := Option.some.inj (hps2.symm.trans (findClass_of_methodNamed hnamed))
    have hsub : s.vm.isSubclass ps mk.cls = true := by
      have hsz : ∃ z, s.vm.classes.size = z + 1 := by
        have := (Array.getElem?_eq_some_iff.mp hdk2).1
        exact ⟨s.vm.classes.size - 1, by omega⟩
      obtain ⟨z, hz⟩ := hsz
      rw [← hpm]
      simp only [Vm.isSubclass, hz, Vm.isSubclassAux, hdk2, hsuper2]
      simp
    have hlen : (ws.map (em K)).length = methM.sig.parameters.length := by
      rw [List.length_map, hm2]
      rw [hsigM] at w8
      exact (Option.some.inj w8).symm
    obtain ⟨hfc, kB', hkB', -⟩ := hcls
    intro T hT X
    obtain ⟨vm₁, X₁, hstep₁⟩ := X.invokespecialUp hx hown (hts _ w1) (hts _ w2) hn hmethM hstM habM w7 hdk hnid hps hsuper hsub (a := kd K b) (cell := cellB) (by rw [hT]; exact g1) (fun z h => by rw [g3] at h; cases h) (by rw [g2]; exact hkB') (g := F0 mm p1 ls (((.ref b :: ws).reverse ++ st).map (em K))) rfl (argsL := ws.map (em K)) (rest := st.map (em K)) hlen hstack (by rw [hb]; exact d)
    obtain ⟨v, ⟨U', lo2, c2, s2⟩, X', ⟨g', mk', t, L, e1, e2, hq, q1, hL, q2, q3⟩, hsteps⟩ := hK mm meth co ⟨T.setVm vm₁, locs, pN σ - n0, pS σ - s0⟩ { (F0 mm p1 ls (((.ref b :: ws).reverse ++ st).map (em K))) with stack := st.map (em K) } (.invokespecial idx) mk (Value.ref (kd K b) :: ws.map (em K)).toArray X₁ rfl (by rw [hml]; exact h6.1) (by rw [hb]; exact d) (lv_room (by rw [pm_cat]; exact hst)) (X₁.named hnamed) ⟨by show pN σ - n0 + (pN σ' - pN σ) ≤ _; omega, by show pS σ - s0 + (pS σ' - pS σ) ≤ _; omega, hp (T.setVm vm₁) hT X₁.warmed⟩
    dsimp only [Pt.U, Pt.locs, Pt.cells, Pt.slots] at X' e1 e2 q1 q2 q3 hsteps
    subst q1; subst q2; subst q3
    exact ⟨v, (T.setVm vm₁).calling g' mk' (Value.ref (kd K b) :: ws.map (em K)).toArray, t, U', L, hT, X', hL, e1, e2, hq, fun target h => hstep₁ _ (by rw [doInvoke_state]; exact hsteps.trans h)⟩
end XW
