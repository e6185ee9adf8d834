/-! Texts: String.length, String.charAt on the constants; System.arraycopy of ints; super.m where the superclass has it from above. -/
theorem st_shr0 {n : Nat} (h : n < 2 ^ 31) : (Int32.ofNat n) >>> ((0 : Int32) &&& 31) = Int32.ofNat n := sc_shr0 h
section STRS
variable {l : Launch} {K : pm_K} {σ : pm_H} {i : Nat}
theorem met_coder (l : Launch) (K : pm_K) (σ : pm_H) {i : Nat} (hi : i < 10) : Met l yJ0_coder_7d493 (Cond.code yJ0_coder_7d493 cJ0_coder_7d493 1 (some .byte) :: gws) { frames := 0, cells := 0, slots := 0, locals := 0 } (pm_Pc K [.ref i] σ) (pm_Q K (some (.int 0)) σ) 0 0 (fun q => kB K ≤ q) := by
  refine Met.ofW (cc := cJ0_coder_7d493) (maxL := 1) (ret := some .byte) (by decide +kernel) rfl ?_
  intro p e s m args below meth c s₁ B hml hv
  obtain ⟨rfl, hkx, hok⟩ := hv
  have hx := B.exec
  have hb := B.bytes
  have hr := B.returns
  have hlocks := B.notSynchronized
  have hts : ∀ w ∈ gws, w.before ((([.ref i] : List Value).map (em K)).toArray) s = true := fun w hw => atoms_spec (ws := Cond.code yJ0_coder_7d493 cJ0_coder_7d493 1 (some .byte) :: gws) B.pre w (List.mem_cons_of_mem _ hw)
  have hown : s.vm.findClass RJ0 = some m.cls := findClass_of_methodNamed B.named
  have hE := hkx.2.2.2.2.2.2.1
  have hZ := hkx.2.2.2.2.2.2.2.1.1
  have hS : va_S (fun q => kB K ≤ q) s.heap s.heap [] := va_S.rf
  have hl := lv_entry ([.ref (kd K i)]) (n := 1) (Nat.le_of_ble_eq_true rfl)
  show W _ _ _ _ _ _ _ _ _ _ _ _ _ _ _ (entryFrame m ([Value.ref (kd K i)] : List Value).toArray 1)
  rw [lg_entry_eq]
  generalize (lg_sl ([.ref (kd K i)]) ++ List.replicate (1 - (lg_sl ([.ref (kd K i)])).length) Slot.unset).toArray = ls at hl ⊢
  have hl : lv_has ls 1 [(0, .ref (kd K i))] := hl
  refine va_gets hx hb hZ hS hown (hts _ wt_242) (fun _ h => h) dJ0_coder_7d493_0 ?_
  refine lv_if_eq (tgt := 13) hx hb dJ0_coder_7d493_3 (by decide) (fun q => absurd q (by decide)) (fun _ => ?_)
  refine lv_aload_n hx hb dJ0_coder_7d493_6 rfl (lv_at hl 0 rfl) ?_
  refine vk_getf hx hb (hE.1 i hi).2.1 hS hown (hts _ wt_1583) (fun _ h => h) dJ0_coder_7d493_7 ?_
  refine lv_goto (tgt := 14) hx hb dJ0_coder_7d493_10 (by decide) ?_
  exact W.zret (ty := .byte) hx hb hr rfl (fun t ht hW => ⟨rfl, by rw [ht]; exact hok, fun q hq => by rw [ht]⟩) (fun q h => by simp at h) dJ0_coder_7d493_14 (hlocks := hlocks)
theorem met_isLatin1 (l : Launch) (K : pm_K) (σ : pm_H) {i : Nat} (hi : i < 10) : Met l yJ0_isLatin1_aae02 (Cond.code yJ0_isLatin1_aae02 cJ0_isLatin1_aae02 1 (some .boolean) :: gws) { frames := 0, cells := 0, slots := 0, locals := 0 } (pm_Pc K [.ref i] σ) (pm_Q K (some (.int 1)) σ) 0 0 (fun q => kB K ≤ q) := by
  refine Met.ofW (cc := cJ0_isLatin1_aae02) (maxL := 1) (ret := some .boolean) (by decide +kernel) rfl ?_
  intro p e s m args below meth c s₁ B hml hv
  obtain ⟨rfl, hkx, hok⟩ := hv
  have hx := B.exec
  have hb := B.bytes
  have hr := B.returns
  have hlocks := B.notSynchronized
  have hts : ∀ w ∈ gws, w.before ((([.ref i] : List Value).map (em K)).toArray) s = true := fun w hw => atoms_spec (ws := Cond.code yJ0_isLatin1_aae02 cJ0_isLatin1_aae02 1 (some .boolean) :: gws) B.pre w (List.mem_cons_of_mem _ hw)
  have hown : s.vm.findClass RJ0 = some m.cls := findClass_of_methodNamed B.named
  have hE := hkx.2.2.2.2.2.2.1
  have hZ := hkx.2.2.2.2.2.2.2.1.1
  have hS : va_S (fun q => kB K ≤ q) s.heap s.heap [] := va_S.rf
  have hl := lv_entry ([.ref (kd K i)]) (n := 1) (Nat.le_of_ble_eq_true rfl)
  show W _ _ _ _ _ _ _ _ _ _ _ _ _ _ _ (entryFrame m ([Value.ref (kd K i)] : List Value).toArray 1)
  rw [lg_entry_eq]
  generalize (lg_sl ([.ref (kd K i)]) ++ List.replicate (1 - (lg_sl ([.ref (kd K i)])).length) Slot.unset).toArray = ls at hl ⊢
  have hl : lv_has ls 1 [(0, .ref (kd K i))] := hl
  refine va_gets hx hb hZ hS hown (hts _ wt_242) (fun _ h => h) dJ0_isLatin1_aae02_0 ?_
  refine lv_if_eq (tgt := 17) hx hb dJ0_isLatin1_aae02_3 (by decide) (fun q => absurd q (by decide)) (fun _ => ?_)
  refine lv_aload_n hx hb dJ0_isLatin1_aae02_6 rfl (lv_at hl 0 rfl) ?_
  refine vk_getf hx hb (hE.1 i hi).2.1 hS hown (hts _ wt_1583) (fun _ h => h) dJ0_isLatin1_aae02_7 ?_
  refine lv_if_ne (tgt := 17) hx hb dJ0_isLatin1_aae02_10 (by decide) (fun q => absurd rfl q) (fun _ => ?_)
  refine lv_iconst (v := 1) hx hb dJ0_isLatin1_aae02_13 (by decide) ?_
  refine lv_goto (tgt := 18) hx hb dJ0_isLatin1_aae02_14 (by decide) ?_
  exact W.zret (ty := .boolean) hx hb hr rfl (fun t ht hW => ⟨rfl, by rw [ht]; exact hok, fun q hq => by rw [ht]⟩) (fun q h => by simp at h) dJ0_isLatin1_aae02_18 (hlocks := hlocks)
/-- a call on one of the texts that answers and changes nothing -/
theorem st_recv {K : pm_K} {s : State} (hkx : pm_kx K s s.heap) {i : Nat} (hi : i < 10) {H : Heap} (h4 : ∀ q, q < kB K → H[q]? = s.heap[q]?) : ∃ cell : Cell, H[kd K i]? = some cell ∧ cell.vm.isStatics = false ∧ s.vm.findClass RJ0 = some cell.cls := by
  obtain ⟨cell, q1, q2, q3⟩ := vk_recv (H := s.heap) (locs := []) hkx.2.2.2.2.2.2.1 hi va_S.rf
  exact ⟨cell, by rw [h4 _ (hkx.2.2.2.2.2.2.2.2.2.1 i (by omega))]; exact q1, q2, q3⟩
theorem met_length (l : Launch) (K : pm_K) (σ : pm_H) {i : Nat} (hi : i < 10) : Met l yJ0_length_8abf5 (Cond.code yJ0_length_8abf5 cJ0_length_8abf5 1 (some .int) :: gws) { frames := 1, cells := 0, slots := 0, locals := 29 } (pm_Pc K [.ref i] σ) (pm_Q K (some (.int (Int32.ofNat (pm_len.getD i 0)))) σ) 0 0 (fun q => kB K ≤ q) := by
  refine Met.ofW (cc := cJ0_length_8abf5) (maxL := 1) (ret := some .int) (by decide +kernel) rfl ?_
  intro p e s m args below meth c s₁ B hml hv
  obtain ⟨rfl, hkx, hok⟩ := hv
  have hx := B.exec
  have hb := B.bytes
  have hr := B.returns
  have hlocks := B.notSynchronized
  have hts : ∀ w ∈ gws, w.before ((([.ref i] : List Value).map (em K)).toArray) s = true := fun w hw => atoms_spec (ws := Cond.code yJ0_length_8abf5 cJ0_length_8abf5 1 (some .int) :: gws) B.pre w (List.mem_cons_of_mem _ hw)
  have hown : s.vm.findClass RJ0 = some m.cls := findClass_of_methodNamed B.named
  have hE := hkx.2.2.2.2.2.2.1
  have hS : va_S (fun q => kB K ≤ q) s.heap s.heap [] := va_S.rf
  have hl := lv_entry ([.ref (kd K i)]) (n := 1) (Nat.le_of_ble_eq_true rfl)
  show W _ _ _ _ _ _ _ _ _ _ _ _ _ _ _ (entryFrame m ([Value.ref (kd K i)] : List Value).toArray 1)
  rw [lg_entry_eq]
  generalize (lg_sl ([.ref (kd K i)]) ++ List.replicate (1 - (lg_sl ([.ref (kd K i)])).length) Slot.unset).toArray = ls at hl ⊢
  have hl : lv_has ls 1 [(0, .ref (kd K i))] := hl
  refine lv_aload_n hx hb dJ0_length_8abf5_0 rfl (lv_at hl 0 rfl) ?_
  refine vk_getf hx hb (hE.1 i hi).2.2.1 hS hown (hts _ wt_1582) (fun _ h => h) dJ0_length_8abf5_1 ?_
  refine va_tlen hx hb (hE.1 i hi).2.2.2 hS rfl dJ0_length_8abf5_4 ?_
  refine lv_aload_n hx hb dJ0_length_8abf5_5 rfl (lv_at hl 0 rfl) ?_
  have hp : PreV s s.heap RJ0 (kd K i) (pm_Pc K [.ref i] σ) [] := ⟨pm_Pc.blind _ _ _, st_recv hkx hi (fun _ _ => rfl), fun U hU hW => ⟨rfl, by rw [hU]; exact hkx.moved hW, by rw [hU]; exact hok⟩⟩
  intro T hT X
  obtain ⟨v, st₀, t, T', L, z0, X', hL, e1, e2, ⟨hv, hok', hbs⟩, stp⟩ := va_runV (p := p) (below := below) (meth := meth) (cells := 0) (slots := 0) (locs := []) (rest := [.int (Int32.ofNat (pm_len.getD i 0))]) ⟨hx, hb, hml, hown, hts⟩ (met_coder l K σ hi) (cwV (R := { frames := 1, cells := 0, slots := 0, locals := 29 }) 0 hts (gws_cons wt_238 (gws_cons wt_239 (gws_cons wt_240 (gws_cons wt_7 (gws_code wt_241))))) rfl rfl rfl ⟨rfl, by decide +kernel, by decide +kernel, by decide +kernel⟩ ⟨Nat.le_of_ble_eq_true rfl, Nat.le_of_ble_eq_true rfl⟩) hp rfl rfl hl.1 (g := F0 m 6 ls [.ref (kd K i), .int (Int32.ofNat (pm_len.getD i 0))]) rfl (lv_room (Nat.le_of_ble_eq_true rfl)) dJ0_length_8abf5_6 ⟨Nat.le_refl _, Nat.le_refl _⟩ T hT X
  cases hv
  have kw : W p l e (headSpec (Cond.code yJ0_length_8abf5 cJ0_length_8abf5 1 (some .int) :: gws) { frames := 1, cells := 0, slots := 0, locals := 29 }).room s m (([.ref i] : List Value).map (em K)).toArray below meth c T'.heap ([] ++ L) 0 0 (MQ below (pm_Q K (some (.int (Int32.ofNat (pm_len.getD i 0)))) σ) ((([.ref i] : List Value).map (em K)).toArray) s 0 0 (fun q => kB K ≤ q)) (F0 m 9 ls [.int 0, .int (Int32.ofNat (pm_len.getD i 0))]) := by
    refine lv_ishr hx hb dJ0_length_8abf5_9 ?_
    have hlen : pm_len.getD i 0 < 2 ^ 31 := by
      have : ∀ i, i < 10 → pm_len.getD i 0 < 2 ^ 31 := by decide +kernel
      exact this i hi
    rw [st_shr0 hlen]
    exact W.iret hx hb hr (fun t ht hW => ⟨rfl, by rw [ht, e1]; exact hok', fun q hq => by rw [ht, e1, hbs q hq, z0]⟩) (fun q h => hL q (by simpa using h)) dJ0_length_8abf5_10 (hlocks := hlocks)
  obtain ⟨t2, a1, b1⟩ := kw T' rfl X'
  exact ⟨t2, stp t2 a1, b1⟩
end STRS
