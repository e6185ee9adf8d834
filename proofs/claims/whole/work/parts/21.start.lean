/-! THE CLAIM OUT OF ONE WALK OF THE LAW'S BODY. Your part is whole_start (and what it stands on); all else here is the same for every law, but numbers. -/
def R_law : String := "SungAsleepLaw"
def lw_P (b : Addr) (xs : List Int32) (args : Array Value) (s : State) : Prop := args = #[.ref b] ∧ s.IntsAt b xs ∧ xs.length ≤ 320 ∧ (Jvm.Cond.and given_1 narrow_1).before args s = true
def lw_Q (_ : Array Value) (s : State) (o : Outcome) (t : State) : Prop := o = .returned (some (.int 1)) ∧ Framed s o t [] 600000 7302250
def lw_Z (below : List Frame) (a : Array Value) (s : State) : State → Prop := fun t => ∃ o, t.status = .running ∧ Ended t below o ∧ lw_Q a s o t
/-- the law's own end, with 1 on the stack, nothing written that was there before, its room as the claim has it -/
theorem lw_ret {p : Program} {l : Launch} {e : Env} {s : State} {m : MethodId} {below : List Frame} {meth : Method} {c : Code} {b : Nat} (hx : p.tables.exec = Jvm.exec) (hb : c.code = code) (hr : meth.sig.returnType = ret) (hlocks : meth.locks = false) {pc : Nat} {H : Heap} {ls : Array Slot} (hdg : decode code pc = .ok (.ireturn, 1)) : W p l e room_1 s m #[Value.ref b] below meth c H [] 600000 7302250 (lw_Z below #[Value.ref b] s) (F0 m pc ls [.int 1]) := by
  intro T hT X
  obtain ⟨fs, hret, hrun, hended, hW, hframe⟩ := X.leave (v := some (.int 1)) (hlocks := hlocks) (fun h => by rw [hr] at h; cases h)
  have hmeth' : T.vm.method? m = some meth := X.method'
  refine ⟨T.setFrames fs, ?_, .returned (some (.int 1)), hrun, hended, rfl, ⟨_, rfl⟩, hW, hframe⟩
  jvm_step X.here [X.here.top, hx, hb, hdg, hmeth', hr, ret, narrow_b1]
  (try refine ⟨rfl, ?_⟩); (try refine ⟨rfl, ?_⟩)
  first | (intro acts; rw [hret _ acts rfl rfl rfl]) | rw [hret _ _ rfl rfl rfl]
  exact Steps.refl _
/-- what holds at the law's entry: the machine, the code, the tables' words (any of lw_tbl by 'hts w (by decide +kernel)'), the script of L ints xs at the cell b, what the Statement gives of the start (any of its parts by flat_of_before) -/
def lw_At (p : Program) (s : State) (m : MethodId) (meth : Method) (c : Code) (b L : Nat) (xs : Nat → Int32) : Prop :=
  p.tables.exec = Jvm.exec ∧ c.code = code ∧ meth.sig.returnType = ret ∧ c.maxLocals = 4 ∧ s.vm.findClass R_law = some m.cls ∧ (∀ w ∈ lw_tbl, w.before #[Value.ref b] s = true) ∧ va_X b L xs s s.heap ∧ b < s.heap.size ∧ meth.locks = false ∧ (Jvm.Cond.and given_1 narrow_1).before #[Value.ref b] s = true
/-! The machine at the law's entry, out of what the pure machine does with the law. -/
def lw_s0 (L : Nat) (xs : Nat → Int32) : pm_H := (fun a => if a < 10 then 17 else if a = 10 then 18 else 99, fun a => if a < 10 then pm_len.getD a 0 else if a = 10 then L else 0, fun a j => if a < 10 then (pm_byt.getD a []).getD j 0 else if a = 10 then xs j else 0, fun _ _ => 0, fun _ _ => none, 11, 0)
/-- what is to be shown of the pure machine -/
def lw_pure : Prop := ∀ (L : Nat) (xs : Nat → Int32), L ≤ 320 → ∃ σ', B_L_law (pm_args [.ref 10] 4) (lw_s0 L xs) = some (.inr (some (.int 1)), σ') ∧ pN σ' ≤ 600011 ∧ pS σ' ≤ 7302250
def lw_tm (i : Nat) : Term := .string RX7 ((pm_txt.getD i (0, "")).1)
theorem lw_ex : ∀ i, i < 10 → (Cond.exactly (lw_tm i) "java/lang/String") ∈ flatC (Jvm.Cond.and given_1 narrow_1) := by decide +kernel
theorem lw_co : ∀ i, i < 10 → (Cond.eq (.field (lw_tm i) "java/lang/String" "coder" "B") (.int 0)) ∈ flatC (Jvm.Cond.and given_1 narrow_1) := by decide +kernel
theorem lw_ar : ∀ i, i < 10 → (Cond.arrayOf (.field (lw_tm i) "java/lang/String" "value" "[B") .byte) ∈ flatC (Jvm.Cond.and given_1 narrow_1) := by decide +kernel
theorem lw_le : ∀ i, i < 10 → (Cond.eq (.length (.field (lw_tm i) "java/lang/String" "value" "[B")) (.int (Int32.ofNat (pm_len.getD i 0)))) ∈ flatC (Jvm.Cond.and given_1 narrow_1) := by decide +kernel
theorem lw_el : ∀ i, i < 10 → ∀ j, j < pm_len.getD i 0 → (Cond.eq (.elem (.field (lw_tm i) "java/lang/String" "value" "[B") (.int (Int32.ofNat j))) (.int ((pm_byt.getD i []).getD j 0))) ∈ flatC (Jvm.Cond.and given_1 narrow_1) := by decide +kernel
theorem lw_ne : ∀ i, i < 10 → ∀ j, j < 10 → i ≠ j → (Cond.not (Cond.eq (lw_tm i) (lw_tm j))) ∈ flatC (Jvm.Cond.and given_1 narrow_1) ∨ (Cond.not (Cond.eq (lw_tm j) (lw_tm i))) ∈ flatC (Jvm.Cond.and given_1 narrow_1) := by decide +kernel
theorem lw_nc : ∀ q ∈ pm_ncast, (Cond.not (.castable q.1 q.2)) ∈ flatC (Jvm.Cond.and given_1 narrow_1) := by decide +kernel
theorem lw_cs : (Cond.eq (.static "java/lang/String" "COMPACT_STRINGS" "Z") (.int 1)) ∈ flatC (Jvm.Cond.and given_1 narrow_1) := by decide +kernel
theorem lw_sf : (Cond.isRef (.static "jdk/internal/util/Preconditions" "SIOOBE_FORMATTER" "Ljava/util/function/BiFunction;")) ∈ flatC (Jvm.Cond.and given_1 narrow_1) := by decide +kernel
theorem lw_in {w : Cond} (i : Nat) (h : tables_1[i]? = some w) : w ∈ lw_tbl := List.mem_append_right _ (List.mem_of_getElem? h)
theorem lw_nest : ∀ q ∈ pm_nest, Cond.methodLinkNest q.1 q.2.1 q.2.2 RX11 ∈ lw_tbl := by
  have h : pm_nest.map (fun q => Cond.methodLinkNest q.1 q.2.1 q.2.2 RX11) = ([31, 61, 116, 136, 315, 328, 704, 998] : List Nat).filterMap (fun i => tables_1[i]?) := by decide +kernel
  intro q hq
  have h1 : Cond.methodLinkNest q.1 q.2.1 q.2.2 RX11 ∈ pm_nest.map (fun q => Cond.methodLinkNest q.1 q.2.1 q.2.2 RX11) := List.mem_map.mpr ⟨q, hq, rfl⟩
  rw [h] at h1
  obtain ⟨i, -, hi⟩ := List.mem_filterMap.mp h1
  exact lw_in i hi
theorem lw_cast : ∀ q ∈ pm_cast, Cond.castable q.1 q.2 ∈ lw_tbl := by
  have h : pm_cast.map (fun q => Cond.castable q.1 q.2) = ([1575, 1576, 1577, 1578, 1579, 1580, 1581] : List Nat).filterMap (fun i => tables_1[i]?) := by decide +kernel
  intro q hq
  have h1 : Cond.castable q.1 q.2 ∈ pm_cast.map (fun q => Cond.castable q.1 q.2) := List.mem_map.mpr ⟨q, hq, rfl⟩
  rw [h] at h1
  obtain ⟨i, -, hi⟩ := List.mem_filterMap.mp h1
  exact lw_in i hi
theorem lw_ao6 : Cond.arrayOver (.object RX6) ∈ lw_tbl := lw_in 36 (by decide +kernel)
theorem lw_ao5 : Cond.arrayOver (.object RX5) ∈ lw_tbl := lw_in 157 (by decide +kernel)
theorem lw_ls1 : Cond.laysStatic "java/lang/String" "COMPACT_STRINGS" "Z" ∈ lw_tbl := lw_in 243 (by decide +kernel)
theorem lw_ls2 : Cond.laysStatic "jdk/internal/util/Preconditions" "SIOOBE_FORMATTER" "Ljava/util/function/BiFunction;" ∈ lw_tbl := lw_in 259 (by decide +kernel)
theorem lw_sr : ∀ (i : Nat) (q : Nat × String), pm_txt[i]? = some q → Cond.stringRef RX7 q.1 q.2 ∈ lw_tbl := by
  have h : pm_txt.map (fun q => Cond.stringRef RX7 q.1 q.2) = ([220, 221, 222, 223, 224, 225, 226, 227, 228, 229] : List Nat).filterMap (fun i => tables_1[i]?) := by decide +kernel
  intro i q hq
  have h1 : Cond.stringRef RX7 q.1 q.2 ∈ pm_txt.map (fun q => Cond.stringRef RX7 q.1 q.2) := List.mem_map.mpr ⟨q, List.mem_of_getElem? hq, rfl⟩
  rw [h] at h1
  obtain ⟨i, -, hi⟩ := List.mem_filterMap.mp h1
  exact lw_in i hi
theorem lw_classes {args : Array Value} {s : State} (hts : ∀ w ∈ gws, w.before args s = true) : ∃ (dC : Nat → ClassId) (dI : Nat → Nat → Nat), ∀ (k : Nat) (q : vw_C), vwCl[k]? = some q → u_Kn s q.1 q.2.1 q.2.2 (dC k) (dI k) := by
  obtain ⟨c0, i0, h0⟩ := u_known (C := RX0) (T := TX0) (N := 7) (n := 7) hts inw_0 (hts _ wt_332)
  obtain ⟨c1, i1, h1⟩ := u_known (C := RX1) (T := TX1) (N := 7) (n := 7) hts inw_1 (hts _ wt_416)
  obtain ⟨c2, i2, h2⟩ := u_known (C := RX2) (T := TX2) (N := 7) (n := 7) hts inw_2 (hts _ wt_388)
  obtain ⟨c3, i3, h3⟩ := u_known (C := RX3) (T := TX3) (N := 15) (n := 15) hts inw_3 (hts _ wt_60)
  obtain ⟨c4, i4, h4⟩ := u_known (C := RX4) (T := TX4) (N := 7) (n := 7) hts inw_4 (hts _ wt_402)
  obtain ⟨c5, i5, h5⟩ := u_known (C := RX5) (T := TX5) (N := 2) (n := 2) hts inw_5 (hts _ wt_829)
  obtain ⟨c6, i6, h6⟩ := u_known (C := RX6) (T := TX6) (N := 7) (n := 7) hts inw_6 (hts _ wt_444)
  obtain ⟨c7, i7, h7⟩ := u_known (C := RX7) (T := TX7) (N := 4) (n := 4) hts inw_7 (hts _ wt_115)
  obtain ⟨c8, i8, h8⟩ := u_known (C := RX8) (T := TX8) (N := 3) (n := 3) hts inw_8 (hts _ wt_135)
  obtain ⟨c9, i9, h9⟩ := u_known (C := RX9) (T := TX9) (N := 7) (n := 7) hts inw_9 (hts _ wt_430)
  obtain ⟨c10, i10, h10⟩ := u_known (C := RX10) (T := TX10) (N := 5) (n := 5) hts inw_10 (hts _ wt_30)
  obtain ⟨c11, i11, h11⟩ := u_known (C := RX11) (T := TX11) (N := 10) (n := 10) hts inw_11 (hts _ wt_22)
  obtain ⟨c12, i12, h12⟩ := u_known (C := RX12) (T := TX12) (N := 53) (n := 53) hts inw_12 (hts _ wt_1004)
  refine ⟨fun k => if k = 0 then c0 else if k = 1 then c1 else if k = 2 then c2 else if k = 3 then c3 else if k = 4 then c4 else if k = 5 then c5 else if k = 6 then c6 else if k = 7 then c7 else if k = 8 then c8 else if k = 9 then c9 else if k = 10 then c10 else if k = 11 then c11 else c12, fun k => if k = 0 then i0 else if k = 1 then i1 else if k = 2 then i2 else if k = 3 then i3 else if k = 4 then i4 else if k = 5 then i5 else if k = 6 then i6 else if k = 7 then i7 else if k = 8 then i8 else if k = 9 then i9 else if k = 10 then i10 else if k = 11 then i11 else i12, ?_⟩
  intro k q hq
  match k, hq with
  | 0, hq => cases hq; exact h0
  | 1, hq => cases hq; exact h1
  | 2, hq => cases hq; exact h2
  | 3, hq => cases hq; exact h3
  | 4, hq => cases hq; exact h4
  | 5, hq => cases hq; exact h5
  | 6, hq => cases hq; exact h6
  | 7, hq => cases hq; exact h7
  | 8, hq => cases hq; exact h8
  | 9, hq => cases hq; exact h9
  | 10, hq => cases hq; exact h10
  | 11, hq => cases hq; exact h11
  | 12, hq => cases hq; exact h12
  | k + 13, hq => simp [vwCl] at hq
set_option maxHeartbeats 4000000 in
/-- what holds at the law's entry, in the pure machine's words -/
theorem lw_kx {s : State} {b L : Nat} {xs : Nat → Int32} (hts : ∀ w ∈ lw_tbl, w.before #[Value.ref b] s = true) (hX : va_X b L xs s s.heap) (hbl : b < s.heap.size) (hgv : (Jvm.Cond.and given_1 narrow_1).before #[Value.ref b] s = true) : ∃ K : pm_K, pm_kx K s s.heap ∧ kB K = s.heap.size ∧ kL K = L ∧ kX K = xs ∧ kd K 10 = b := by
  have hg : ∀ w ∈ gws, w.before #[Value.ref b] s = true := fun w hw => hts w (List.mem_filter.mp hw).1
  have hn := flat_of_before _ hgv
  obtain ⟨dC, dI, hKc⟩ := lw_classes hg
  obtain ⟨aI, kI', compI, fI1, fI2, fI3⟩ := Cond.arrayClass_spec (hg _ wt_58)
  obtain ⟨aJ, kJ', compJ, fJ1, fJ2, fJ3⟩ := Cond.arrayClass_spec (hg _ wt_844)
  obtain ⟨comp6, a6, k6, f61, -, f62, f63, f64⟩ := Cond.arrayOver_spec (hts _ lw_ao6)
  obtain ⟨comp5, a5, k5, f51, -, f52, f53, f54⟩ := Cond.arrayOver_spec (hts _ lw_ao5)
  have hA : ∀ a : Nat, a < s.heap.size → ¬ (fun q => s.heap.size ≤ q) a := fun a h q => absurd h (Nat.not_lt.mpr q)
  obtain ⟨adK, adV, hSt, hev⟩ := vk_Sof (args := #[Value.ref b]) (s := s) (N := 10) (tm := lw_tm) (len := pm_len) (byt := pm_byt) (A := fun q => s.heap.size ≤ q) (by decide +kernel) (fun i hi => hn _ (lw_ex i hi)) (fun i hi => hn _ (lw_co i hi)) (fun i hi => hn _ (lw_ar i hi)) (fun i hi => hn _ (lw_le i hi)) (fun i hi j hj => hn _ (lw_el i hi j hj)) (fun i j hi hj hne => (lw_ne i hi j hj hne).imp (hn _) (hn _)) hA
  have hlt : ∀ i, i < 10 → adK i < s.heap.size := fun i hi => by
    obtain ⟨cell, q1, -⟩ := (hSt.1 i hi).1
    exact (Array.getElem?_eq_some_iff.mp q1).1
  let K : pm_K := (dC, dI, fun t => if t = 0 then aI else if t = 1 then aJ else if t = 2 then a6 else a5, fun a => if a < 10 then adK a else if a = 10 then b else s.heap.size + (a - 11), s.heap.size, L, xs, adV)
  have hkdlt : ∀ i, i < 10 → kd K i = adK i := fun i hi => if_pos hi
  have hZ1 := va_Zof (hts _ lw_ls1) (hg _ wt_7) (va_eqi (hn _ lw_cs)) hA
  have hZ2 := va_Zqof (hts _ lw_ls2) (hg _ wt_9) (hn _ lw_sf) hA
  refine ⟨K, ⟨⟨hKc, fun k q h => ?_⟩, fun q hq => va_Nw.of rfl (hts _ (lw_nest q hq)), fun q hq => va_Nw.of rfl (hts _ (lw_cast q hq)), fun q hq => va_Nc.of (hn _ (lw_nc q hq)), ⟨va_AO.of (hts _ lw_ao6), va_AO.of (hts _ lw_ao5)⟩, fun i q hq => ?_, ?_, ⟨hZ1, ?_⟩, ?_, fun a ha => ?_, fun a ha => ?_, Nat.le_refl _⟩, rfl, rfl, rfl, rfl⟩
  · match k, h with
    | 0, h => cases h; exact ⟨fun N z => ⟨(fun k h => by cases h), kI', fI2, compI, fI3⟩, fI1⟩
    | 1, h => cases h; exact ⟨fun N z => ⟨(fun k h => by cases h), kJ', fJ2, compJ, fJ3⟩, fJ1⟩
    | 2, h => cases h; exact ⟨fun N z => ⟨(fun k h => by cases h), k6, f62, comp6, f63⟩, k6, comp6, f62, f63, f61, f64⟩
    | 3, h => cases h; exact ⟨fun N z => ⟨(fun k h => by cases h), k5, f52, comp5, f53⟩, k5, comp5, f52, f53, f51, f54⟩
    | k + 4, h => simp [pm_tys] at h
  · have hi : i < 10 := (List.getElem?_eq_some_iff.mp hq).1
    rw [hkdlt i hi]
    refine vk_R.of (hts _ (lw_sr i q hq)) ?_
    have h1 := hev i hi
    unfold lw_tm at h1
    rw [List.getD_eq_getElem?_getD, hq] at h1
    exact h1
  · refine ⟨fun i hi => ?_, fun i j hi hj h => ?_⟩
    · rw [hkdlt i hi]
      exact hSt.1 i hi
    · rw [hkdlt i hi, hkdlt j hj] at h
      exact hSt.2 i j hi hj h
  · rcases hZ2 with h | ⟨t, h⟩
    · exact ⟨none, h⟩
    · exact ⟨some t, h⟩
  · exact hX
  · by_cases h : a < 10
    · rw [hkdlt a h]; exact hlt a h
    · have e : a = 10 := by omega
      subst e
      exact hbl
  · show (if a < 10 then adK a else if a = 10 then b else s.heap.size + (a - 11)) = _
    rw [if_neg (by omega), if_neg (by omega)]
theorem lw_ok0 {K : pm_K} {H : Heap} {L : Nat} {xs : Nat → Int32} (hB : kB K = H.size) (hL : kL K = L) (hxs : kX K = xs) : pm_ok K (lw_s0 L xs) H := by
  refine ⟨by show H.size + 11 = kB K + 11; rw [hB], Nat.le_refl _, fun a ha => ?_, fun a ha => ?_⟩
  · have ha' : 11 ≤ a := ha
    show (if a < 10 then 17 else if a = 10 then 18 else 99) = 99
    rw [if_neg (by omega), if_neg (by omega)]
  · have ha' : a < 11 := ha
    unfold pm_cell pm_cc
    by_cases h : a < 10
    · have e : pT (lw_s0 L xs) a = 17 := if_pos h
      rw [e, if_neg (by decide), if_neg (by decide), if_neg (by decide), if_neg (by decide), if_pos rfl]
      exact ⟨h, if_pos h, fun j => if_pos h⟩
    · have e10 : a = 10 := by omega
      subst e10
      rw [show pT (lw_s0 L xs) 10 = 18 from rfl, if_neg (by decide), if_neg (by decide), if_neg (by decide), if_neg (by decide), if_neg (by decide), if_pos rfl]
      exact ⟨rfl, hL.symm, fun j _ => by rw [hxs]; rfl⟩
set_option maxHeartbeats 4000000 in
theorem whole_of (hpure : lw_pure) {p : Program} {e : Env} {s : State} {m : MethodId} {below : List Frame} {meth : Method} {c : Code} (l : Launch) {b L : Nat} {xs : Nat → Int32} (hL : L ≤ 320) (C0 : lw_At p s m meth c b L xs) : W p l e room_1 s m #[Value.ref b] below meth c s.heap [] 0 0 (lw_Z below #[Value.ref b] s) (entryFrame m ([Value.ref b] : List Value).toArray 4) := by
  obtain ⟨hx, hb, hr, hml, hown, hts, hX, hbl, hlocks, hgv⟩ := C0
  obtain ⟨K, hkx, eB, eL, eX, e10⟩ := lw_kx hts hX hbl hgv
  obtain ⟨σ', hrun, l1, l2⟩ := hpure L xs hL
  have hg : ∀ w ∈ gws, w.before #[Value.ref b] s = true := fun w hw => hts w (List.mem_filter.mp hw).1
  have hok := lw_ok0 (K := K) (H := s.heap) eB eL eX
  have he := pm_env_entry K [.ref 10] (n := 4) (by decide)
  rw [lg_entry_eq]
  have hnr : ∀ pc env v σ1, (∀ (q : Nat), q = q) → (some (.int v) : Option Value) = some (.int 1) ∧ pN σ1 ≤ 600011 ∧ pS σ1 ≤ 7302250 → decode cL_law pc = .ok (.ireturn, 1) → pm_gd K p l e room_1 s m #[Value.ref b] below meth c (lw_Z below #[Value.ref b] s) 4 11 0 pc env [.int v] σ1 := by
    intro pc env v σ1 _ hR d
    obtain ⟨hv, q1, q2⟩ := hR
    cases hv
    intro H locs ls h1 h2 h3 h4 h5 h6
    refine W.widen (k := 600000) (n := 7302250) (by omega) (by omega) ?_
    have kw := lw_ret (p := p) (l := l) (e := e) (s := s) (m := m) (below := below) (meth := meth) (c := c) (b := b) hx hb hr hlocks (H := H) (ls := ls) d
    have := W.forget (L := locs) (fun q hq => by have := h5 q hq; rw [eB] at this; exact this) kw
    simpa [em_int] using this
  have hGG : pm_G cL_law yL_law 4 13 600011 7302250 (pm_gd K p l e room_1 s m #[Value.ref b] below meth c (lw_Z below #[Value.ref b] s) 4 11 0) (fun r σ1 => r = some (.int 1) ∧ pN σ1 ≤ 600011 ∧ pS σ1 ≤ 7302250) := by
    refine ⟨⟨K, p, l, e, room_1, s, m, #[Value.ref b], below, meth, c, _, 11, 0, ⟨hx, hb, hml, hown, hg, hkx, fun h => absurd h (by decide)⟩, by decide, by decide, rfl, rfl, rfl⟩, ?_, ?_, ?_, ?_⟩
    · intro pc env v σ1 d hR
      exact hnr pc env v σ1 (fun _ => rfl) hR d
    · intro pc env v σ1 d hR
      cases hR.1
    · intro pc env v σ1 d hR
      have h := hR.1
      cases v <;> cases h
    · intro pc env σ1 d hR
      cases hR.1
  have key := S_L_law.2 hGG _ _ _ _ hrun l1 l2 (fun env' h => by cases h) (fun v h => by cases h; exact ⟨rfl, l1, l2⟩)
  have := key s.heap [] _ (Nat.le_refl _) (Nat.le_refl _) hok (fun q _ => rfl) (fun q h => by simp at h) he
  simp only [List.map_cons, List.map_nil, em_ref, e10] at this
  exact this
