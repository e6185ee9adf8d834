/-! String.charAt, and the calls of both. -/
/-- Preconditions.checkIndex, within: the index -/
theorem met_pci (l : Launch) (K : pm_K) (σ : pm_H) {j n : Int32} {w : Option Nat} (h0 : ¬ j < 0) (h1 : j < n) : Met l yJ3_checkIndex_8e157 (Cond.code yJ3_checkIndex_8e157 cJ3_checkIndex_8e157 3 (some .int) :: gws) { frames := 0, cells := 0, slots := 0, locals := 0 } (va_Pc [.int j, .int n, va_rf w] (fun U => pm_kx K U U.heap ∧ pm_ok K σ U.heap)) (pm_Q K (some (.int j)) σ) 0 0 (fun q => kB K ≤ q) := by
  refine Met.ofW (cc := cJ3_checkIndex_8e157) (maxL := 3) (ret := some .int) (by decide +kernel) rfl ?_
  intro p e s m args below meth c s₁ B hml hv
  obtain ⟨rfl, hkx, hok⟩ := hv
  have hx := B.exec
  have hb := B.bytes
  have hr := B.returns
  have hlocks := B.notSynchronized
  have hle : (lg_sl ([.int j, .int n, va_rf w])).length ≤ 3 := by cases w <;> exact Nat.le_of_ble_eq_true rfl
  have hl := lv_entry ([.int j, .int n, va_rf w]) (n := 3) hle
  rw [lg_entry_eq]
  generalize (lg_sl ([.int j, .int n, va_rf w]) ++ List.replicate (3 - (lg_sl ([.int j, .int n, va_rf w])).length) Slot.unset).toArray = ls at hl ⊢
  have hl : lv_has ls 3 [(0, .int j), (1, .int n), (2, va_rf w)] := hl
  refine lv_iload_n hx hb dJ3_checkIndex_8e157_0 rfl (lv_at hl 0 rfl) ?_
  refine lv_if_lt (tgt := 9) hx hb dJ3_checkIndex_8e157_1 (by decide) (fun q => absurd q h0) (fun _ => ?_)
  refine lv_iload_n hx hb dJ3_checkIndex_8e157_4 rfl (lv_at hl 0 rfl) ?_
  refine lv_iload_n hx hb dJ3_checkIndex_8e157_5 rfl (lv_at hl 1 rfl) ?_
  refine lv_icmp_lt (tgt := 16) hx hb dJ3_checkIndex_8e157_6 (by decide) (fun _ => ?_) (fun q => absurd h1 q)
  refine lv_iload_n hx hb dJ3_checkIndex_8e157_16 rfl (lv_at hl 0 rfl) ?_
  exact W.iret hx hb hr (fun t ht hW => ⟨rfl, by rw [ht]; exact hok, fun q hq => by rw [ht]⟩) (fun q h => by simp at h) dJ3_checkIndex_8e157_17 (hlocks := hlocks)
/-- a run behind a call that changes nothing, over the rows' own judgement -/
theorem st_run {K : pm_K} {σ : pm_H} {p : Program} {l : Launch} {e : Env} {R : Room} {s : State} {m : MethodId} {args : Array Value} {below : List Frame} {meth : Method} {co : Code} {Q : State → Prop} {H : Heap} {locs : List Loc} {ls : Array Slot} {pc : Nat} {st0 rest : List Value} {r : Option Value} {a0 : Array Value}
    (hr : va_Run p l e R s m args below meth co H locs 0 0 0 0 (F0 m pc ls st0) rest (pm_Q K r σ a0) (fun q => kB K ≤ q)) (h4 : ∀ q, q < kB K → H[q]? = s.heap[q]?) (h5 : ∀ q ∈ locs, kB K ≤ q.base)
    (kk : ∀ (H1 : Heap) (locs1 : List Loc), pm_ok K σ H1 → (∀ q, q < kB K → H1[q]? = s.heap[q]?) → (∀ q ∈ locs1, kB K ≤ q.base) → W p l e R s m args below meth co H1 locs1 0 0 Q (F0 m (pc + 3) ls ((r.map (em K)).toList ++ rest))) : W p l e R s m args below meth co H locs 0 0 Q (F0 m pc ls st0) := by
  intro T hT X
  obtain ⟨v, st₀, t, T', L, z0, X', hL, e1, e2, ⟨hv, hok, hbs⟩, stp⟩ := hr T hT X
  cases hv
  obtain ⟨t2, a1, b1⟩ := kk T'.heap (locs ++ L) (by rw [e1]; exact hok) (fun q hq => by rw [e1, hbs q hq, z0]; exact h4 q hq) (fun q hq => by
    rcases List.mem_append.mp hq with h | h
    · exact h5 q h
    · exact hL q h) T' rfl X'
  exact ⟨t2, stp t2 a1, b1⟩
theorem st_S {K : pm_K} {s : State} {σ : pm_H} {H : Heap} {locs : List Loc} (hkx : pm_kx K s s.heap) (hok0 : s.heap.size ≤ H.size) (h4 : ∀ q, q < kB K → H[q]? = s.heap[q]?) (h5 : ∀ q ∈ locs, kB K ≤ q.base) : va_S (fun q => kB K ≤ q) s.heap H locs := ⟨hok0, fun q _ hn => h4 q (Nat.not_le.mp hn), h5⟩
theorem met_sci (l : Launch) (K : pm_K) (σ : pm_H) {j n : Int32} (h0 : ¬ j < 0) (h1 : j < n) : Met l yJ0_checkIndex_df160 (Cond.code yJ0_checkIndex_df160 cJ0_checkIndex_df160 2 none :: gws) { frames := 1, cells := 0, slots := 0, locals := 29 } (va_Pc [.int j, .int n] (fun U => pm_kx K U U.heap ∧ pm_ok K σ U.heap)) (pm_Q K none σ) 0 0 (fun q => kB K ≤ q) := by
  refine Met.ofW (cc := cJ0_checkIndex_df160) (maxL := 2) (ret := none) (by decide +kernel) rfl ?_
  intro p e s m args below meth c s₁ B hml hv
  obtain ⟨rfl, hkx, hok⟩ := hv
  have hx := B.exec
  have hb := B.bytes
  have hr := B.returns
  have hlocks := B.notSynchronized
  have hts : ∀ w ∈ gws, w.before (([.int j, .int n] : List Value).toArray) s = true := fun w hw => atoms_spec (ws := Cond.code yJ0_checkIndex_df160 cJ0_checkIndex_df160 2 none :: gws) B.pre w (List.mem_cons_of_mem _ hw)
  have hown : s.vm.findClass RJ0 = some m.cls := findClass_of_methodNamed B.named
  obtain ⟨w, hZ⟩ := hkx.2.2.2.2.2.2.2.1.2
  have hS : va_S (fun q => kB K ≤ q) s.heap s.heap [] := va_S.rf
  have hl := lv_entry ([.int j, .int n]) (n := 2) (Nat.le_of_ble_eq_true rfl)
  rw [lg_entry_eq]
  generalize (lg_sl ([.int j, .int n]) ++ List.replicate (2 - (lg_sl ([.int j, .int n])).length) Slot.unset).toArray = ls at hl ⊢
  have hl : lv_has ls 2 [(0, .int j), (1, .int n)] := hl
  refine lv_iload_n hx hb dJ0_checkIndex_df160_0 rfl (lv_at hl 0 rfl) ?_
  refine lv_iload_n hx hb dJ0_checkIndex_df160_1 rfl (lv_at hl 1 rfl) ?_
  refine va_gets hx hb hZ hS hown (hts _ wt_258) (fun _ h => h) dJ0_checkIndex_df160_2 ?_
  have hp : PreS s s.heap (va_Pc [.int j, .int n, va_rf w] (fun U => pm_kx K U U.heap ∧ pm_ok K σ U.heap)) [.int j, .int n, va_rf w] := ⟨fun a U g mk h => ⟨h.1, pm_kx.same (s := U) rfl h.2.1, h.2.2⟩, fun U hU hW => ⟨rfl, by rw [hU]; exact hkx.moved hW, by rw [hU]; exact hok⟩⟩
  refine st_run (K := K) (σ := σ) (r := some (.int j)) (a0 := ([.int j, .int n, va_rf w] : List Value).toArray) (rest := []) (va_runS ⟨hx, hb, hml, hown, hts⟩ (met_pci l K σ h0 h1) ⟨callB_of 3 hts (gws_code wt_262) rfl rfl rfl (hts _ wt_9) (hts _ wt_260) ⟨by decide +kernel, by decide +kernel, by decide +kernel⟩ ⟨Nat.le_of_ble_eq_true rfl, Nat.le_of_ble_eq_true rfl⟩, hts _ wt_261⟩ hp rfl rfl hl.1 rfl (lv_room (Nat.le_of_ble_eq_true rfl)) dJ0_checkIndex_df160_5 ⟨Nat.le_refl _, Nat.le_refl _⟩) (fun _ _ => rfl) (fun q h => by simp at h) (fun H1 locs1 k1 k2 k3 => ?_)
  refine lv_pop (va := .int j) hx hb dJ0_checkIndex_df160_8 rfl ?_
  exact W.vret hx hb hr (fun t ht hW => ⟨rfl, by rw [ht]; exact k1, fun q hq => by rw [ht]; exact k2 q hq⟩) k3 dJ0_checkIndex_df160_9 (hlocks := hlocks)
/-- what stands at a place of a text -/
def st_at (i j : Nat) : Int32 := (pm_byt.getD i []).getD j 0
theorem st_chr : ∀ i, i < 10 → ∀ j, j < pm_len.getD i 0 → ((st_at i j &&& 255).toUInt32 % 65536).toInt32 = st_at i j := by decide +kernel
theorem met_lca (l : Launch) (K : pm_K) (σ : pm_H) {i : Nat} (hi : i < 10) {j : Int32} (hj : ib j (pm_len.getD i 0) = true) : Met l yJ1_charAt_3b067 (Cond.code yJ1_charAt_3b067 cJ1_charAt_3b067 2 (some .char) :: gws) { frames := 2, cells := 0, slots := 0, locals := 58 } (va_Pc [.ref (kV K i), .int j] (fun U => pm_kx K U U.heap ∧ pm_ok K σ U.heap)) (pm_Q K (some (.int (st_at i j.toNatClampNeg))) σ) 0 0 (fun q => kB K ≤ q) := by
  have hin := ib_in hj
  have hlt : j.toNatClampNeg < pm_len.getD i 0 := Nat.not_le.mp fun q => hin (Or.inr q)
  have h0 : ¬ j < 0 := fun q => hin (Or.inl q)
  have hlen : pm_len.getD i 0 < 2 ^ 31 := by
    have : ∀ i, i < 10 → pm_len.getD i 0 < 2 ^ 31 := by decide +kernel
    exact this i hi
  have h1 : j < Int32.ofNat (pm_len.getD i 0) := by
    have hz0 : (0 : Int) ≤ j.toInt := by
      have := Int32.not_lt.mp h0
      simpa using Int32.le_iff_toInt_le.mp this
    have e1 : j.toInt = (j.toNatClampNeg : Int) := by
      show j.toInt = ((j.toInt.toNat : Nat) : Int)
      omega
    rw [Int32.lt_iff_toInt_lt, show Int32.ofNat (pm_len.getD i 0) = nI (pm_len.getD i 0) from rfl, nI_toInt hlen, e1]
    omega
  refine Met.ofW (cc := cJ1_charAt_3b067) (maxL := 2) (ret := some .char) (by decide +kernel) rfl ?_
  intro p e s m args below meth c s₁ B hml hv
  obtain ⟨rfl, hkx, hok⟩ := hv
  have hx := B.exec
  have hb := B.bytes
  have hr := B.returns
  have hlocks := B.notSynchronized
  have hts : ∀ w ∈ gws, w.before (([.ref (kV K i), .int j] : List Value).toArray) s = true := fun w hw => atoms_spec (ws := Cond.code yJ1_charAt_3b067 cJ1_charAt_3b067 2 (some .char) :: gws) B.pre w (List.mem_cons_of_mem _ hw)
  have hown : s.vm.findClass RJ1 = some m.cls := findClass_of_methodNamed B.named
  have hE := hkx.2.2.2.2.2.2.1
  have hS : va_S (fun q => kB K ≤ q) s.heap s.heap [] := va_S.rf
  have hl := lv_entry ([.ref (kV K i), .int j]) (n := 2) (Nat.le_of_ble_eq_true rfl)
  rw [lg_entry_eq]
  generalize (lg_sl ([.ref (kV K i), .int j]) ++ List.replicate (2 - (lg_sl ([.ref (kV K i), .int j])).length) Slot.unset).toArray = ls at hl ⊢
  have hl : lv_has ls 2 [(0, .ref (kV K i)), (1, .int j)] := hl
  refine lv_iload_n hx hb dJ1_charAt_3b067_0 rfl (lv_at hl 1 rfl) ?_
  refine lv_aload_n hx hb dJ1_charAt_3b067_1 rfl (lv_at hl 0 rfl) ?_
  refine va_tlen hx hb (hE.1 i hi).2.2.2 hS rfl dJ1_charAt_3b067_2 ?_
  have hp : PreS s s.heap (va_Pc [.int j, .int (Int32.ofNat (pm_len.getD i 0))] (fun U => pm_kx K U U.heap ∧ pm_ok K σ U.heap)) [.int j, .int (Int32.ofNat (pm_len.getD i 0))] := ⟨fun a U g mk h => ⟨h.1, pm_kx.same (s := U) rfl h.2.1, h.2.2⟩, fun U hU hW => ⟨rfl, by rw [hU]; exact hkx.moved hW, by rw [hU]; exact hok⟩⟩
  refine st_run (K := K) (σ := σ) (r := none) (a0 := ([.int j, .int (Int32.ofNat (pm_len.getD i 0))] : List Value).toArray) (rest := []) (va_runS ⟨hx, hb, hml, hown, hts⟩ (met_sci l K σ h0 h1) ⟨callB_of 2 hts (gws_code wt_257) rfl rfl rfl (hts _ wt_7) (hts _ wt_255) ⟨by decide +kernel, by decide +kernel, by decide +kernel⟩ ⟨Nat.le_of_ble_eq_true rfl, Nat.le_of_ble_eq_true rfl⟩, hts _ wt_256⟩ hp rfl rfl hl.1 rfl (lv_room (Nat.le_of_ble_eq_true rfl)) dJ1_charAt_3b067_3 ⟨Nat.le_refl _, Nat.le_refl _⟩) (fun _ _ => rfl) (fun q h => by simp at h) (fun H1 locs1 k1 k2 k3 => ?_)
  have hz : s.heap.size ≤ H1.size := by
    have := hok.1; have := k1.1; omega
  have hS1 : va_S (fun q => kB K ≤ q) s.heap H1 locs1 := st_S (σ := σ) hkx hz k2 k3
  refine lv_aload_n hx hb dJ1_charAt_3b067_6 rfl (lv_at hl 0 rfl) ?_
  refine lv_iload_n hx hb dJ1_charAt_3b067_7 rfl (lv_at hl 1 rfl) ?_
  refine va_tb hx hb (hE.1 i hi).2.2.2 hS1 hin (v := .int (st_at i j.toNatClampNeg)) rfl dJ1_charAt_3b067_8 ?_
  refine lv_sipush (v := 255) hx hb dJ1_charAt_3b067_9 (by decide +kernel) ?_
  refine lv_iand hx hb dJ1_charAt_3b067_12 ?_
  refine lv_i2c hx hb dJ1_charAt_3b067_13 (st_chr i hi _ hlt) ?_
  have hn : narrow .char (.int (st_at i j.toNatClampNeg)) = .int (st_at i j.toNatClampNeg) := by
    have : ∀ i, i < 10 → ∀ j, j < pm_len.getD i 0 → narrow .char (.int (st_at i j)) = .int (st_at i j) := by decide +kernel
    exact this i hi _ hlt
  exact W.zret (ty := .char) hx hb hr hn (fun t ht hW => ⟨rfl, by rw [ht]; exact k1, fun q hq => by rw [ht]; exact k2 q hq⟩) k3 dJ1_charAt_3b067_14 (hlocks := hlocks)
theorem met_charAt (l : Launch) (K : pm_K) (σ : pm_H) {i : Nat} (hi : i < 10) {j : Int32} (hj : ib j (pm_len.getD i 0) = true) : Met l yJ0_charAt_5068e (Cond.code yJ0_charAt_5068e cJ0_charAt_5068e 2 (some .char) :: gws) { frames := 3, cells := 0, slots := 0, locals := 87 } (pm_Pc K [.ref i, .int j] σ) (pm_Q K (some (.int (st_at i j.toNatClampNeg))) σ) 0 0 (fun q => kB K ≤ q) := by
  have hin := ib_in hj
  have hlt : j.toNatClampNeg < pm_len.getD i 0 := Nat.not_le.mp fun q => hin (Or.inr q)
  refine Met.ofW (cc := cJ0_charAt_5068e) (maxL := 2) (ret := some .char) (by decide +kernel) rfl ?_
  intro p e s m args below meth c s₁ B hml hv
  obtain ⟨rfl, hkx, hok⟩ := hv
  have hx := B.exec
  have hb := B.bytes
  have hr := B.returns
  have hlocks := B.notSynchronized
  have hts : ∀ w ∈ gws, w.before ((([.ref i, .int j] : List Value).map (em K)).toArray) s = true := fun w hw => atoms_spec (ws := Cond.code yJ0_charAt_5068e cJ0_charAt_5068e 2 (some .char) :: gws) B.pre w (List.mem_cons_of_mem _ hw)
  have hown : s.vm.findClass RJ0 = some m.cls := findClass_of_methodNamed B.named
  have hE := hkx.2.2.2.2.2.2.1
  have hl := lv_entry ([.ref (kd K i), .int j]) (n := 2) (Nat.le_of_ble_eq_true rfl)
  show W _ _ _ _ _ _ _ _ _ _ _ _ _ _ _ (entryFrame m ([Value.ref (kd K i), .int j] : List Value).toArray 2)
  rw [lg_entry_eq]
  generalize (lg_sl ([.ref (kd K i), .int j]) ++ List.replicate (2 - (lg_sl ([.ref (kd K i), .int j])).length) Slot.unset).toArray = ls at hl ⊢
  have hl : lv_has ls 2 [(0, .ref (kd K i)), (1, .int j)] := hl
  refine lv_aload_n hx hb dJ0_charAt_5068e_0 rfl (lv_at hl 0 rfl) ?_
  have hp : PreV s s.heap RJ0 (kd K i) (pm_Pc K [.ref i] σ) [] := ⟨pm_Pc.blind _ _ _, st_recv hkx hi (fun _ _ => rfl), fun U hU hW => ⟨rfl, by rw [hU]; exact hkx.moved hW, by rw [hU]; exact hok⟩⟩
  refine st_run (K := K) (σ := σ) (r := some (.int 1)) (a0 := ([.ref (kd K i)] : List Value).toArray) (rest := []) (va_runV ⟨hx, hb, hml, hown, hts⟩ (met_isLatin1 l K σ hi) (cwV 0 hts (gws_cons wt_248 (gws_cons wt_249 (gws_cons wt_250 (gws_cons wt_7 (gws_code wt_251))))) rfl rfl rfl ⟨rfl, by decide +kernel, by decide +kernel, by decide +kernel⟩ ⟨Nat.le_of_ble_eq_true rfl, Nat.le_of_ble_eq_true rfl⟩) hp rfl rfl hl.1 rfl (lv_room (Nat.le_of_ble_eq_true rfl)) dJ0_charAt_5068e_1 ⟨Nat.le_refl _, Nat.le_refl _⟩) (fun _ _ => rfl) (fun q h => by simp at h) (fun H1 locs1 k1 k2 k3 => ?_)
  have hz : s.heap.size ≤ H1.size := by
    have := hok.1; have := k1.1; omega
  have hS1 : va_S (fun q => kB K ≤ q) s.heap H1 locs1 := st_S (σ := σ) hkx hz k2 k3
  refine lv_if_eq (tgt := 16) hx hb dJ0_charAt_5068e_4 (by decide) (fun q => absurd q (by decide)) (fun _ => ?_)
  refine lv_aload_n hx hb dJ0_charAt_5068e_7 rfl (lv_at hl 0 rfl) ?_
  refine vk_getf hx hb (hE.1 i hi).2.2.1 hS1 hown (hts _ wt_1582) (fun _ h => h) dJ0_charAt_5068e_8 ?_
  refine lv_iload_n hx hb dJ0_charAt_5068e_11 rfl (lv_at hl 1 rfl) ?_
  have hkH : pm_kx K s H1 := hkx.kept k2 (by have := k1.1; have := k1.2.1; omega)
  have hp2 : PreS s H1 (va_Pc [.ref (kV K i), .int j] (fun U => pm_kx K U U.heap ∧ pm_ok K σ U.heap)) [.ref (kV K i), .int j] := ⟨fun a U g mk h => ⟨h.1, pm_kx.same (s := U) rfl h.2.1, h.2.2⟩, fun U hU hW => ⟨rfl, by rw [hU]; exact hkH.moved hW, by rw [hU]; exact k1⟩⟩
  refine st_run (K := K) (σ := σ) (r := some (.int (st_at i j.toNatClampNeg))) (a0 := ([.ref (kV K i), .int j] : List Value).toArray) (rest := []) (va_runS ⟨hx, hb, hml, hown, hts⟩ (met_lca l K σ hi hj) ⟨callB_of 2 hts (gws_code wt_254) rfl rfl rfl (hts _ wt_8) (hts _ wt_252) ⟨by decide +kernel, by decide +kernel, by decide +kernel⟩ ⟨Nat.le_of_ble_eq_true rfl, Nat.le_of_ble_eq_true rfl⟩, hts _ wt_253⟩ hp2 rfl rfl hl.1 rfl (lv_room (Nat.le_of_ble_eq_true rfl)) dJ0_charAt_5068e_12 ⟨Nat.le_refl _, Nat.le_refl _⟩) k2 k3 (fun H2 locs2 q1 q2 q3 => ?_)
  have hn : narrow .char (.int (st_at i j.toNatClampNeg)) = .int (st_at i j.toNatClampNeg) := by
    have : ∀ i, i < 10 → ∀ j, j < pm_len.getD i 0 → narrow .char (.int (st_at i j)) = .int (st_at i j) := by decide +kernel
    exact this i hi _ hlt
  exact W.zret (ty := .char) hx hb hr hn (fun t ht hW => ⟨rfl, by rw [ht]; exact q1, fun q hq => by rw [ht]; exact q2 q hq⟩) q3 dJ0_charAt_5068e_15 (hlocks := hlocks)
def D_length : pm_D := fun vs σ => match vs with
  | [.ref a] => if pT σ a = 17 then some (some (.int (Int32.ofNat (pL σ a))), σ) else none
  | _ => none
def D_charAt : pm_D := fun vs σ => match vs with
  | [.ref a, .int j] => if pT σ a = 17 ∧ ib j (pL σ a) = true then some (some (.int (pI σ a j.toNatClampNeg)), σ) else none
  | _ => none
section XSTR
variable {cc : ByteArray} {y : MethodName} {nL rk : Nat} {p1 : Nat}
theorem xLen (d : decode cc p1 = .ok (.invokevirtual 111, 3)) (hy : y.cls = RX7) (hrk : 2 ≤ rk) : kOK cc y nL rk p1 1 D_length := by
  have sp : ∀ {vs : List Value} {σ σ' : pm_H} {r : Option Value}, D_length vs σ = some (r, σ') → ∃ a, vs = [.ref a] ∧ σ' = σ ∧ pT σ a = 17 ∧ r = some (.int (Int32.ofNat (pL σ a))) := by
    intro vs σ σ' r h
    unfold D_length at h
    split at h
    · obtain ⟨h1, h2⟩ := pm_if h
      cases h2
      exact ⟨_, rfl, rfl, h1, rfl⟩
    · cases h
  refine ⟨fun vs σ r σ' h => ?_, fun hG env σ vs r σ' st hm hst hD l1 l2 k => ?_⟩
  · obtain ⟨a, -, rfl, -⟩ := sp h
    exact ⟨Nat.le_refl _, Nat.le_refl _⟩
  · obtain ⟨a, rfl, rfl, ht, rfl⟩ := sp hD
    obtain ⟨⟨K, p, l, e, R, s, m, args, below, meth, c, Q, n0, s0, ⟨hx, hb, hml, hown, hts, hkx, hin⟩, hfr, hlo, hlim, hlims, rfl⟩, -⟩ := hG
    intro H locs ls h1 h2 h3 h4 h5 h6
    obtain ⟨ha, hn, hI⟩ := (show pm_cc K 17 _ _ _ _ a H from h3.arr ht (by decide))
    have hkH : pm_kx K s H := hkx.kept h4 (by have := h3.1; have := h3.2.1; omega)
    have hp : PreV s H RJ0 (kd K a) (pm_Pc K [.ref a] σ') [] := ⟨pm_Pc.blind _ _ _, st_recv hkx ha h4, fun U hU hW => ⟨rfl, by rw [hU]; exact hkH.moved hW, by rw [hU]; exact h3⟩⟩
    rw [hy] at hown
    have hrun := va_runV (p := p) (l := l) (e := e) (below := below) (meth := meth) (cells := pN σ' - n0) (slots := pS σ' - s0) (locs := locs) (rest := st.map (em K)) ⟨hx, hb, hml, hown, hts⟩ (met_length l K σ' ha) (cwV (R := R) 0 hts (gws_cons wt_234 (gws_cons wt_235 (gws_cons wt_236 (gws_cons wt_7 (gws_code wt_237))))) rfl rfl rfl ⟨rfl, by decide +kernel, by decide +kernel, by decide +kernel⟩ ⟨by show 1 + 1 ≤ _; omega, by show 8 + (1 + 11) + 29 ≤ _; omega⟩) hp rfl rfl h6.1 (g := F0 m p1 ls (.ref (kd K a) :: st.map (em K))) rfl (lv_room (by rw [pm_cat]; exact hst)) d ⟨by omega, by omega⟩

    have hrun2 : va_Run p l e R s m args below meth c H locs (pN σ' - n0) (pS σ' - s0) (pN σ' - pN σ') (pS σ' - pS σ') (F0 m p1 ls (.ref (kd K a) :: st.map (em K))) (st.map (em K)) (pm_Q K (some (.int (Int32.ofNat (pL σ' a)))) σ' ([.ref (kd K a)] : List Value).toArray) (fun q => kB K ≤ q) := by
      rw [hn, Nat.sub_self, Nat.sub_self]
      exact hrun
    exact pm_run (r := some (.int (Int32.ofNat (pL σ' a)))) hrun2 h1 h2 h4 h5 h6 (Nat.le_refl _) (Nat.le_refl _) k
theorem xChr (d : decode cc p1 = .ok (.invokevirtual 116, 3)) (hy : y.cls = RX7) (hrk : 4 ≤ rk) : kOK cc y nL rk p1 2 D_charAt := by
  have sp : ∀ {vs : List Value} {σ σ' : pm_H} {r : Option Value}, D_charAt vs σ = some (r, σ') → ∃ a j, vs = [.ref a, .int j] ∧ σ' = σ ∧ pT σ a = 17 ∧ ib j (pL σ a) = true ∧ r = some (.int (pI σ a j.toNatClampNeg)) := by
    intro vs σ σ' r h
    unfold D_charAt at h
    split at h
    · obtain ⟨⟨h1, h1'⟩, h2⟩ := pm_if h
      cases h2
      exact ⟨_, _, rfl, rfl, h1, h1', rfl⟩
    · cases h
  refine ⟨fun vs σ r σ' h => ?_, fun hG env σ vs r σ' st hm hst hD l1 l2 k => ?_⟩
  · obtain ⟨a, j, -, rfl, -⟩ := sp h
    exact ⟨Nat.le_refl _, Nat.le_refl _⟩
  · obtain ⟨a, j, rfl, rfl, ht, hj, rfl⟩ := sp hD
    obtain ⟨⟨K, p, l, e, R, s, m, args, below, meth, c, Q, n0, s0, ⟨hx, hb, hml, hown, hts, hkx, hin⟩, hfr, hlo, hlim, hlims, rfl⟩, -⟩ := hG
    intro H locs ls h1 h2 h3 h4 h5 h6
    obtain ⟨ha, hn, hI⟩ := (show pm_cc K 17 _ _ _ _ a H from h3.arr ht (by decide))
    have hkH : pm_kx K s H := hkx.kept h4 (by have := h3.1; have := h3.2.1; omega)
    have hp : PreV s H RJ0 (kd K a) (pm_Pc K [.ref a, .int j] σ') [.int j] := ⟨pm_Pc.blind _ _ _, st_recv hkx ha h4, fun U hU hW => ⟨rfl, by rw [hU]; exact hkH.moved hW, by rw [hU]; exact h3⟩⟩
    rw [hy] at hown
    have hrun := va_runV (p := p) (l := l) (e := e) (below := below) (meth := meth) (cells := pN σ' - n0) (slots := pS σ' - s0) (locs := locs) (rest := st.map (em K)) ⟨hx, hb, hml, hown, hts⟩ (met_charAt l K σ' ha (j := j) (by rw [← hn]; exact hj)) (cwV (R := R) 1 hts (gws_cons wt_244 (gws_cons wt_245 (gws_cons wt_246 (gws_cons wt_7 (gws_code wt_247))))) rfl rfl rfl ⟨rfl, by decide +kernel, by decide +kernel, by decide +kernel⟩ ⟨by show 3 + 1 ≤ _; omega, by show 8 + (2 + 11) + 87 ≤ _; omega⟩) hp rfl rfl h6.1 (g := F0 m p1 ls (.int j :: .ref (kd K a) :: st.map (em K))) rfl (lv_room (by rw [pm_cat]; exact hst)) d ⟨by omega, by omega⟩
    have hrun2 : va_Run p l e R s m args below meth c H locs (pN σ' - n0) (pS σ' - s0) (pN σ' - pN σ') (pS σ' - pS σ') (F0 m p1 ls (.int j :: .ref (kd K a) :: st.map (em K))) (st.map (em K)) (pm_Q K (some (.int (pI σ' a j.toNatClampNeg))) σ' ([.ref (kd K a), .int j] : List Value).toArray) (fun q => kB K ≤ q) := by
      rw [hI, Nat.sub_self, Nat.sub_self]
      exact hrun
    exact pm_run (r := some (.int (pI σ' a j.toNatClampNeg))) hrun2 h1 h2 h4 h5 h6 (Nat.le_refl _) (Nat.le_refl _) k
end XSTR
