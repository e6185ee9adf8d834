/-! What the derivations lean on. -/
theorem tb1_ok {own : String} {idx rk m c : Nat} {D : pm_D} (h : ∃ rc y2 rk2 ret, vwCl[c]? = some rc ∧ pm_M y2 rk2 ret D ∧ rk2 + 1 ≤ rk ∧ pm_sv own idx rc.1 y2 m) : ∀ c' D', tb1 c D c' = some D' → ∃ rc y2 rk2 ret, vwCl[c']? = some rc ∧ pm_M y2 rk2 ret D' ∧ rk2 + 1 ≤ rk ∧ pm_sv own idx rc.1 y2 m := by
  intro c' D' e
  unfold tb1 at e
  split at e
  · rename_i q; subst q; cases e; exact h
  · cases e
def tb2 (c1 c2 : Nat) (D1 D2 : pm_D) : Nat → Option pm_D := fun d => if d = c1 then some D1 else if d = c2 then some D2 else none
theorem tb2_ok {own : String} {idx rk m c1 c2 : Nat} {D1 D2 : pm_D} (h1 : ∃ rc y2 rk2 ret, vwCl[c1]? = some rc ∧ pm_M y2 rk2 ret D1 ∧ rk2 + 1 ≤ rk ∧ pm_sv own idx rc.1 y2 m) (h2 : ∃ rc y2 rk2 ret, vwCl[c2]? = some rc ∧ pm_M y2 rk2 ret D2 ∧ rk2 + 1 ≤ rk ∧ pm_sv own idx rc.1 y2 m) : ∀ c' D', tb2 c1 c2 D1 D2 c' = some D' → ∃ rc y2 rk2 ret, vwCl[c']? = some rc ∧ pm_M y2 rk2 ret D' ∧ rk2 + 1 ≤ rk ∧ pm_sv own idx rc.1 y2 m := by
  intro c' D' e
  unfold tb2 at e
  split at e
  · rename_i q; subst q; cases e; exact h1
  split at e
  · rename_i q; subst q; cases e; exact h2
  · cases e
theorem tb6_ok {own : String} {idx rk m : Nat} {D0 D1 D2 D4 D6 D9 : pm_D} (h0 : ∃ rc y2 rk2 ret, vwCl[0]? = some rc ∧ pm_M y2 rk2 ret D0 ∧ rk2 + 1 ≤ rk ∧ pm_sv own idx rc.1 y2 m) (h1 : ∃ rc y2 rk2 ret, vwCl[1]? = some rc ∧ pm_M y2 rk2 ret D1 ∧ rk2 + 1 ≤ rk ∧ pm_sv own idx rc.1 y2 m) (h2 : ∃ rc y2 rk2 ret, vwCl[2]? = some rc ∧ pm_M y2 rk2 ret D2 ∧ rk2 + 1 ≤ rk ∧ pm_sv own idx rc.1 y2 m) (h4 : ∃ rc y2 rk2 ret, vwCl[4]? = some rc ∧ pm_M y2 rk2 ret D4 ∧ rk2 + 1 ≤ rk ∧ pm_sv own idx rc.1 y2 m) (h6 : ∃ rc y2 rk2 ret, vwCl[6]? = some rc ∧ pm_M y2 rk2 ret D6 ∧ rk2 + 1 ≤ rk ∧ pm_sv own idx rc.1 y2 m) (h9 : ∃ rc y2 rk2 ret, vwCl[9]? = some rc ∧ pm_M y2 rk2 ret D9 ∧ rk2 + 1 ≤ rk ∧ pm_sv own idx rc.1 y2 m) : ∀ c' D', tb6 D0 D1 D2 D4 D6 D9 c' = some D' → ∃ rc y2 rk2 ret, vwCl[c']? = some rc ∧ pm_M y2 rk2 ret D' ∧ rk2 + 1 ≤ rk ∧ pm_sv own idx rc.1 y2 m := by
  intro c' D' e
  unfold tb6 at e
  split at e
  · rename_i q; subst q; cases e; exact h0
  split at e
  · rename_i q; subst q; cases e; exact h1
  split at e
  · rename_i q; subst q; cases e; exact h2
  split at e
  · rename_i q; subst q; cases e; exact h4
  split at e
  · rename_i q; subst q; cases e; exact h6
  split at e
  · rename_i q; subst q; cases e; exact h9
  · cases e
theorem flw {cs : Nat → Bool} {y : MethodName} {idx k ty : Nat} (h : ∀ c, cs c = true → ∃ r, vwCl[c]? = some r ∧ pm_fl y.cls idx r k ∧ pm_ft (r.2.1 k).2.2.1 = ty ∧ (r.2.1 k).2.2.2 = false) : ∀ c, cs c = true → ∃ r, vwCl[c]? = some r ∧ pm_fl y.cls idx r k ∧ pm_ft (r.2.1 k).2.2.1 = ty ∧ ((r.2.1 k).2.2.2 = false ∨ ((r.2.1 k).2.2.2 = true ∧ y.name = "<init>" ∧ (r.2.1 k).1 = y.cls)) := by
  intro c hc
  obtain ⟨r, h1, h2, h3, h4⟩ := h c hc
  exact ⟨r, h1, h2, h3, Or.inl h4⟩
theorem pm_slp_cl : ∀ c, pm_slp c = true → ∃ rc, vwCl[c]? = some rc := by
  intro c h
  rcases pm_slp_of h with rfl | rfl | rfl | rfl | rfl | rfl <;> exact ⟨_, rfl⟩
section SWS
variable {cc : ByteArray} {y : MethodName} {nL rk : Nat} {n pc p1 nx : Nat}
theorem swN : swOK cc y nL rk p1 nx [] [] := trivial
theorem swC {o : Int} {os : List Int} {s : pm_S} {ss : List pm_S} {tgt : Nat} (ht : (p1 : Int) + o = (tgt : Int)) (h : sOK cc y nL rk tgt nx s) (hs : swOK cc y nL rk p1 nx os ss) : swOK cc y nL rk p1 nx (o :: os) (s :: ss) := ⟨⟨tgt, ht, h⟩, hs⟩
theorem sSw_lk {e : pm_E} {dflt o0 o1 : Int} {len t0 t1 td : Nat} {s0 s1 sd : pm_S} (he : eOK cc y nL rk 0 pc p1 e) (d : decode cc p1 = .ok (.lookupswitch dflt #[(0, o0), (1, o1)], len)) (h0 : (p1 : Int) + o0 = (t0 : Int)) (h1 : (p1 : Int) + o1 = (t1 : Int)) (k0 : sOK cc y nL rk t0 nx s0) (k1 : sOK cc y nL rk t1 nx s1) (hd : (p1 : Int) + dflt = (td : Int)) (kd : sOK cc y nL rk td nx sd) : sOK cc y nL rk pc nx (sSw e 0 [s0, s1] sd) := by
  have cs : ∀ x : Int32, (x.toInt = 0 ∧ Op.lookupswitch.offset [(0, o0), (1, o1)] dflt x.toInt = o0 ∧ ¬ x.toInt < 0 ∧ ([s0, s1][(x.toInt - 0).toNat]?).getD sd = s0) ∨ (x.toInt = 1 ∧ Op.lookupswitch.offset [(0, o0), (1, o1)] dflt x.toInt = o1 ∧ ¬ x.toInt < 0 ∧ ([s0, s1][(x.toInt - 0).toNat]?).getD sd = s1) ∨ (Op.lookupswitch.offset [(0, o0), (1, o1)] dflt x.toInt = dflt ∧ (x.toInt < 0 ∨ (¬ x.toInt < 0 ∧ ([s0, s1][(x.toInt - 0).toNat]?).getD sd = sd))) := by
    intro x
    by_cases c0 : x.toInt = 0
    · refine Or.inl ⟨c0, ?_, by omega, ?_⟩
      · rw [c0]; rfl
      · rw [c0]; rfl
    · by_cases c1 : x.toInt = 1
      · refine Or.inr (Or.inl ⟨c1, ?_, by omega, ?_⟩)
        · rw [c1]; rfl
        · rw [c1]; rfl
      · refine Or.inr (Or.inr ⟨?_, ?_⟩)
        · simp only [Op.lookupswitch.offset]
          simp [c0, c1, Ne.symm c0, Ne.symm c1]
        · by_cases c2 : x.toInt < 0
          · exact Or.inl c2
          · refine Or.inr ⟨c2, ?_⟩
            have : 2 ≤ (x.toInt - 0).toNat := by omega
            rw [List.getElem?_eq_none (by simpa using this)]
            rfl
  refine ⟨fun env σ v σ' h => ?_, fun hG env σ r σ' h l1 l2 q1 q2 => ?_⟩
  · obtain ⟨x, σ1, g1, g2⟩ := sSw_sp h
    obtain ⟨a1, a2⟩ := he.1 _ _ _ _ g1
    rcases cs x with ⟨-, -, c, e2⟩ | ⟨-, -, c, e2⟩ | ⟨-, c | ⟨c, e2⟩⟩
    · rw [if_neg c, e2] at g2
      obtain ⟨a3, a4⟩ := k0.1 _ _ _ _ g2
      exact ⟨by omega, by omega⟩
    · rw [if_neg c, e2] at g2
      obtain ⟨a3, a4⟩ := k1.1 _ _ _ _ g2
      exact ⟨by omega, by omega⟩
    · rw [if_pos c] at g2
      obtain ⟨a3, a4⟩ := kd.1 _ _ _ _ g2
      exact ⟨by omega, by omega⟩
    · rw [if_neg c, e2] at g2
      obtain ⟨a3, a4⟩ := kd.1 _ _ _ _ g2
      exact ⟨by omega, by omega⟩
  · obtain ⟨x, σ1, g1, g2⟩ := sSw_sp h
    have hs : ((#[((0 : Int), o0), (1, o1)] : Array (Int × Int)).toList.zip (((#[((0 : Int), o0), (1, o1)] : Array (Int × Int)).toList).drop 1)).all (fun (a, next) => a.1 < next.1) = true := rfl
    rcases cs x with ⟨-, e1, c, e2⟩ | ⟨-, e1, c, e2⟩ | ⟨e1, c | ⟨c, e2⟩⟩
    · rw [if_neg c, e2] at g2
      obtain ⟨a3, a4⟩ := k0.1 _ _ _ _ g2
      exact he.2 hG env σ _ _ [] (Nat.le_refl _) g1 (by omega) (by omega) (rw_lookup hG d hs e1 h0 (k0.2 hG env σ1 _ _ g2 l1 l2 q1 q2))
    · rw [if_neg c, e2] at g2
      obtain ⟨a3, a4⟩ := k1.1 _ _ _ _ g2
      exact he.2 hG env σ _ _ [] (Nat.le_refl _) g1 (by omega) (by omega) (rw_lookup hG d hs e1 h1 (k1.2 hG env σ1 _ _ g2 l1 l2 q1 q2))
    · rw [if_pos c] at g2
      obtain ⟨a3, a4⟩ := kd.1 _ _ _ _ g2
      exact he.2 hG env σ _ _ [] (Nat.le_refl _) g1 (by omega) (by omega) (rw_lookup hG d hs e1 hd (kd.2 hG env σ1 _ _ g2 l1 l2 q1 q2))
    · rw [if_neg c, e2] at g2
      obtain ⟨a3, a4⟩ := kd.1 _ _ _ _ g2
      exact he.2 hG env σ _ _ [] (Nat.le_refl _) g1 (by omega) (by omega) (rw_lookup hG d hs e1 hd (kd.2 hG env σ1 _ _ g2 l1 l2 q1 q2))
end SWS
/-- whether an object of that class is one of class 0 -/
def in_0 : Nat → Option Int32 := fun d => if d = 0 then some 1 else if d = 1 then some 0 else if d = 2 then some 0 else if d = 4 then some 1 else if d = 6 then some 0 else if d = 9 then some 0 else none
theorem in_0_ok : ∀ c z, in_0 c = some z → ∃ rc, vwCl[c]? = some rc ∧ (((rc.1, RX0) ∈ pm_cast ∧ z = 1) ∨ (rc.1 = RX0 ∧ z = 1) ∨ ((rc.1, RX0) ∈ pm_ncast ∧ z = 0)) := by
  intro c z e
  unfold in_0 at e
  split at e
  · rename_i q; subst q; cases e; exact ⟨(RX0, TX0, 7), rfl, Or.inr (Or.inl ⟨rfl, rfl⟩)⟩
  split at e
  · rename_i q; subst q; cases e; exact ⟨(RX1, TX1, 7), rfl, Or.inr (Or.inr ⟨by simp [pm_ncast], rfl⟩)⟩
  split at e
  · rename_i q; subst q; cases e; exact ⟨(RX2, TX2, 7), rfl, Or.inr (Or.inr ⟨by simp [pm_ncast], rfl⟩)⟩
  split at e
  · rename_i q; subst q; cases e; exact ⟨(RX4, TX4, 7), rfl, Or.inl ⟨by simp [pm_cast], rfl⟩⟩
  split at e
  · rename_i q; subst q; cases e; exact ⟨(RX6, TX6, 7), rfl, Or.inr (Or.inr ⟨by simp [pm_ncast], rfl⟩)⟩
  split at e
  · rename_i q; subst q; cases e; exact ⟨(RX9, TX9, 7), rfl, Or.inr (Or.inr ⟨by simp [pm_ncast], rfl⟩)⟩
  · cases e
/-- whether an object of that class is one of class 2 -/
def in_2 : Nat → Option Int32 := fun d => if d = 0 then some 0 else if d = 1 then some 1 else if d = 2 then some 1 else if d = 4 then some 0 else if d = 6 then some 0 else if d = 9 then some 0 else none
theorem in_2_ok : ∀ c z, in_2 c = some z → ∃ rc, vwCl[c]? = some rc ∧ (((rc.1, RX2) ∈ pm_cast ∧ z = 1) ∨ (rc.1 = RX2 ∧ z = 1) ∨ ((rc.1, RX2) ∈ pm_ncast ∧ z = 0)) := by
  intro c z e
  unfold in_2 at e
  split at e
  · rename_i q; subst q; cases e; exact ⟨(RX0, TX0, 7), rfl, Or.inr (Or.inr ⟨by simp [pm_ncast], rfl⟩)⟩
  split at e
  · rename_i q; subst q; cases e; exact ⟨(RX1, TX1, 7), rfl, Or.inl ⟨by simp [pm_cast], rfl⟩⟩
  split at e
  · rename_i q; subst q; cases e; exact ⟨(RX2, TX2, 7), rfl, Or.inr (Or.inl ⟨rfl, rfl⟩)⟩
  split at e
  · rename_i q; subst q; cases e; exact ⟨(RX4, TX4, 7), rfl, Or.inr (Or.inr ⟨by simp [pm_ncast], rfl⟩)⟩
  split at e
  · rename_i q; subst q; cases e; exact ⟨(RX6, TX6, 7), rfl, Or.inr (Or.inr ⟨by simp [pm_ncast], rfl⟩)⟩
  split at e
  · rename_i q; subst q; cases e; exact ⟨(RX9, TX9, 7), rfl, Or.inr (Or.inr ⟨by simp [pm_ncast], rfl⟩)⟩
  · cases e
/-- whether an object of that class is one of class 4 -/
def in_4 : Nat → Option Int32 := fun d => if d = 0 then some 0 else if d = 1 then some 0 else if d = 2 then some 0 else if d = 4 then some 1 else if d = 6 then some 0 else if d = 9 then some 0 else none
theorem in_4_ok : ∀ c z, in_4 c = some z → ∃ rc, vwCl[c]? = some rc ∧ (((rc.1, RX4) ∈ pm_cast ∧ z = 1) ∨ (rc.1 = RX4 ∧ z = 1) ∨ ((rc.1, RX4) ∈ pm_ncast ∧ z = 0)) := by
  intro c z e
  unfold in_4 at e
  split at e
  · rename_i q; subst q; cases e; exact ⟨(RX0, TX0, 7), rfl, Or.inr (Or.inr ⟨by simp [pm_ncast], rfl⟩)⟩
  split at e
  · rename_i q; subst q; cases e; exact ⟨(RX1, TX1, 7), rfl, Or.inr (Or.inr ⟨by simp [pm_ncast], rfl⟩)⟩
  split at e
  · rename_i q; subst q; cases e; exact ⟨(RX2, TX2, 7), rfl, Or.inr (Or.inr ⟨by simp [pm_ncast], rfl⟩)⟩
  split at e
  · rename_i q; subst q; cases e; exact ⟨(RX4, TX4, 7), rfl, Or.inr (Or.inl ⟨rfl, rfl⟩)⟩
  split at e
  · rename_i q; subst q; cases e; exact ⟨(RX6, TX6, 7), rfl, Or.inr (Or.inr ⟨by simp [pm_ncast], rfl⟩)⟩
  split at e
  · rename_i q; subst q; cases e; exact ⟨(RX9, TX9, 7), rfl, Or.inr (Or.inr ⟨by simp [pm_ncast], rfl⟩)⟩
  · cases e
/-- whether an object of that class is one of class 1 -/
def in_1 : Nat → Option Int32 := fun d => if d = 0 then some 0 else if d = 1 then some 1 else if d = 2 then some 0 else if d = 4 then some 0 else if d = 6 then some 0 else if d = 9 then some 0 else none
theorem in_1_ok : ∀ c z, in_1 c = some z → ∃ rc, vwCl[c]? = some rc ∧ (((rc.1, RX1) ∈ pm_cast ∧ z = 1) ∨ (rc.1 = RX1 ∧ z = 1) ∨ ((rc.1, RX1) ∈ pm_ncast ∧ z = 0)) := by
  intro c z e
  unfold in_1 at e
  split at e
  · rename_i q; subst q; cases e; exact ⟨(RX0, TX0, 7), rfl, Or.inr (Or.inr ⟨by simp [pm_ncast], rfl⟩)⟩
  split at e
  · rename_i q; subst q; cases e; exact ⟨(RX1, TX1, 7), rfl, Or.inr (Or.inl ⟨rfl, rfl⟩)⟩
  split at e
  · rename_i q; subst q; cases e; exact ⟨(RX2, TX2, 7), rfl, Or.inr (Or.inr ⟨by simp [pm_ncast], rfl⟩)⟩
  split at e
  · rename_i q; subst q; cases e; exact ⟨(RX4, TX4, 7), rfl, Or.inr (Or.inr ⟨by simp [pm_ncast], rfl⟩)⟩
  split at e
  · rename_i q; subst q; cases e; exact ⟨(RX6, TX6, 7), rfl, Or.inr (Or.inr ⟨by simp [pm_ncast], rfl⟩)⟩
  split at e
  · rename_i q; subst q; cases e; exact ⟨(RX9, TX9, 7), rfl, Or.inr (Or.inr ⟨by simp [pm_ncast], rfl⟩)⟩
  · cases e
/-- whether an object of that class is one of class 9 -/
def in_9 : Nat → Option Int32 := fun d => if d = 0 then some 0 else if d = 1 then some 0 else if d = 2 then some 0 else if d = 4 then some 0 else if d = 6 then some 0 else if d = 9 then some 1 else none
theorem in_9_ok : ∀ c z, in_9 c = some z → ∃ rc, vwCl[c]? = some rc ∧ (((rc.1, RX9) ∈ pm_cast ∧ z = 1) ∨ (rc.1 = RX9 ∧ z = 1) ∨ ((rc.1, RX9) ∈ pm_ncast ∧ z = 0)) := by
  intro c z e
  unfold in_9 at e
  split at e
  · rename_i q; subst q; cases e; exact ⟨(RX0, TX0, 7), rfl, Or.inr (Or.inr ⟨by simp [pm_ncast], rfl⟩)⟩
  split at e
  · rename_i q; subst q; cases e; exact ⟨(RX1, TX1, 7), rfl, Or.inr (Or.inr ⟨by simp [pm_ncast], rfl⟩)⟩
  split at e
  · rename_i q; subst q; cases e; exact ⟨(RX2, TX2, 7), rfl, Or.inr (Or.inr ⟨by simp [pm_ncast], rfl⟩)⟩
  split at e
  · rename_i q; subst q; cases e; exact ⟨(RX4, TX4, 7), rfl, Or.inr (Or.inr ⟨by simp [pm_ncast], rfl⟩)⟩
  split at e
  · rename_i q; subst q; cases e; exact ⟨(RX6, TX6, 7), rfl, Or.inr (Or.inr ⟨by simp [pm_ncast], rfl⟩)⟩
  split at e
  · rename_i q; subst q; cases e; exact ⟨(RX9, TX9, 7), rfl, Or.inr (Or.inl ⟨rfl, rfl⟩)⟩
  · cases e
theorem wp_0 : Cond.selects RX7 yX7_skipBlanks yX7_skipBlanks ∈ gws := gws_priv 0 (by decide +kernel) rfl
theorem wp_1 : Cond.selects RX7 yX7_byteAt yX7_byteAt ∈ gws := gws_priv 1 (by decide +kernel) rfl
theorem wp_2 : Cond.selects RX7 yX7_wordHere yX7_wordHere ∈ gws := gws_priv 2 (by decide +kernel) rfl
theorem wp_3 : Cond.selects RX7 yX7_isHere yX7_isHere ∈ gws := gws_priv 3 (by decide +kernel) rfl
theorem wp_4 : Cond.selects RX7 yX7_readsOwes yX7_readsOwes ∈ gws := gws_priv 4 (by decide +kernel) rfl
theorem wp_5 : Cond.selects RX7 yX7_pass yX7_pass ∈ gws := gws_priv 5 (by decide +kernel) rfl
theorem wp_6 : Cond.selects RX7 yX7_numberHere yX7_numberHere ∈ gws := gws_priv 6 (by decide +kernel) rfl
theorem wp_7 : Cond.selects RX7 yX7_readsSemicolon yX7_readsSemicolon ∈ gws := gws_priv 7 (by decide +kernel) rfl
theorem wp_8 : Cond.selects RX7 yX7_readsAsleep yX7_readsAsleep ∈ gws := gws_priv 8 (by decide +kernel) rfl
theorem wp_9 : Cond.selects RX7 yX7_readsPerson yX7_readsPerson ∈ gws := gws_priv 9 (by decide +kernel) rfl
theorem wp_10 : Cond.selects RX7 yX7_readsVoice yX7_readsVoice ∈ gws := gws_priv 10 (by decide +kernel) rfl
theorem wp_11 : Cond.selects RX7 yX7_readsPurse yX7_readsPurse ∈ gws := gws_priv 11 (by decide +kernel) rfl
theorem wp_12 : Cond.selects RX10 yX10_settleWith yX10_settleWith ∈ gws := gws_priv 12 (by decide +kernel) rfl
theorem wp_13 : Cond.selects RX10 yX10_lessen yX10_lessen ∈ gws := gws_priv 13 (by decide +kernel) rfl
theorem wp_14 : Cond.selects RX11 yX11_isPair yX11_isPair ∈ gws := gws_priv 14 (by decide +kernel) rfl
theorem wp_15 : Cond.selects RX11 yX11_fewestMinutes yX11_fewestMinutes ∈ gws := gws_priv 15 (by decide +kernel) rfl
theorem wp_16 : Cond.selects RX3 yX3_note yX3_note ∈ gws := gws_priv 16 (by decide +kernel) rfl
theorem wp_17 : Cond.selects RX3 yX3_reckon yX3_reckon ∈ gws := gws_priv 17 (by decide +kernel) rfl
theorem wp_18 : Cond.selects RX3 yX3_listSongs yX3_listSongs ∈ gws := gws_priv 18 (by decide +kernel) rfl
theorem wp_19 : Cond.selects RX3 yX3_isSungTo yX3_isSungTo ∈ gws := gws_priv 19 (by decide +kernel) rfl
theorem wp_20 : Cond.selects RX3 yX3_ableFor yX3_ableFor ∈ gws := gws_priv 20 (by decide +kernel) rfl
theorem wp_21 : Cond.selects RX3 yX3_reckonSet yX3_reckonSet ∈ gws := gws_priv 21 (by decide +kernel) rfl
theorem wp_22 : Cond.selects RX3 yX3_weigh yX3_weigh ∈ gws := gws_priv 22 (by decide +kernel) rfl
theorem wp_23 : Cond.selects RX3 yX3_laySong yX3_laySong ∈ gws := gws_priv 23 (by decide +kernel) rfl
theorem wp_24 : Cond.selects RX3 yX3_isBest yX3_isBest ∈ gws := gws_priv 24 (by decide +kernel) rfl
theorem wp_25 : Cond.selects RX11 yX11_isInRow yX11_isInRow ∈ gws := gws_priv 25 (by decide +kernel) rfl
theorem wp_26 : Cond.selects RX12 yX12_advance yX12_advance ∈ gws := gws_priv 26 (by decide +kernel) rfl
theorem wp_27 : Cond.selects RX12 yX12_byteAt yX12_byteAt ∈ gws := gws_priv 27 (by decide +kernel) rfl
theorem wp_28 : Cond.selects RX12 yX12_wantClause yX12_wantClause ∈ gws := gws_priv 28 (by decide +kernel) rfl
theorem wp_29 : Cond.selects RX12 yX12_kindHere yX12_kindHere ∈ gws := gws_priv 29 (by decide +kernel) rfl
theorem wp_30 : Cond.selects RX12 yX12_isWord yX12_isWord ∈ gws := gws_priv 30 (by decide +kernel) rfl
theorem wp_31 : Cond.selects RX12 yX12_wantPerson yX12_wantPerson ∈ gws := gws_priv 31 (by decide +kernel) rfl
theorem wp_32 : Cond.selects RX12 yX12_wantNumber yX12_wantNumber ∈ gws := gws_priv 32 (by decide +kernel) rfl
theorem wp_33 : Cond.selects RX12 yX12_takes yX12_takes ∈ gws := gws_priv 33 (by decide +kernel) rfl
theorem wp_34 : Cond.selects RX12 yX12_wantEnd yX12_wantEnd ∈ gws := gws_priv 34 (by decide +kernel) rfl
theorem wp_35 : Cond.selects RX12 yX12_isMark yX12_isMark ∈ gws := gws_priv 35 (by decide +kernel) rfl
theorem wp_36 : Cond.selects RX12 yX12_wantOwes yX12_wantOwes ∈ gws := gws_priv 36 (by decide +kernel) rfl
theorem wp_37 : Cond.selects RX12 yX12_wantAsleep yX12_wantAsleep ∈ gws := gws_priv 37 (by decide +kernel) rfl
theorem wp_38 : Cond.selects RX12 yX12_isPerson yX12_isPerson ∈ gws := gws_priv 38 (by decide +kernel) rfl
theorem wp_39 : Cond.selects RX12 yX12_needs yX12_needs ∈ gws := gws_priv 39 (by decide +kernel) rfl
theorem wp_40 : Cond.selects RX12 yX12_isAsk yX12_isAsk ∈ gws := gws_priv 40 (by decide +kernel) rfl
theorem wp_41 : Cond.selects RX12 yX12_canBe yX12_canBe ∈ gws := gws_priv 41 (by decide +kernel) rfl
theorem wp_42 : Cond.selects RX12 yX12_lengthOf yX12_lengthOf ∈ gws := gws_priv 42 (by decide +kernel) rfl
theorem wp_43 : Cond.selects RX12 yX12_owesMore yX12_owesMore ∈ gws := gws_priv 43 (by decide +kernel) rfl
theorem wp_44 : Cond.selects RX12 yX12_only yX12_only ∈ gws := gws_priv 44 (by decide +kernel) rfl
theorem wp_45 : Cond.selects RX12 yX12_round yX12_round ∈ gws := gws_priv 45 (by decide +kernel) rfl
theorem wp_46 : Cond.selects RX12 yX12_findLeast yX12_findLeast ∈ gws := gws_priv 46 (by decide +kernel) rfl
theorem wp_47 : Cond.selects RX12 yX12_findLengths yX12_findLengths ∈ gws := gws_priv 47 (by decide +kernel) rfl
theorem wp_48 : Cond.selects RX12 yX12_fewest yX12_fewest ∈ gws := gws_priv 48 (by decide +kernel) rfl
theorem wp_49 : Cond.selects RX12 yX12_costOf yX12_costOf ∈ gws := gws_priv 49 (by decide +kernel) rfl
theorem wp_50 : Cond.selects RX12 yX12_findPlan yX12_findPlan ∈ gws := gws_priv 50 (by decide +kernel) rfl
theorem wp_51 : Cond.selects RX12 yX12_findAll yX12_findAll ∈ gws := gws_priv 51 (by decide +kernel) rfl
theorem wp_52 : Cond.selects RX12 yX12_findMore yX12_findMore ∈ gws := gws_priv 52 (by decide +kernel) rfl
theorem wp_53 : Cond.selects RX12 yX12_isBest yX12_isBest ∈ gws := gws_priv 53 (by decide +kernel) rfl
theorem wp_54 : Cond.selects RX12 yX12_noteFirst yX12_noteFirst ∈ gws := gws_priv 54 (by decide +kernel) rfl
theorem wp_55 : Cond.selects RX12 yX12_isFirst yX12_isFirst ∈ gws := gws_priv 55 (by decide +kernel) rfl
theorem wp_56 : Cond.selects RX12 yX12_isRow yX12_isRow ∈ gws := gws_priv 56 (by decide +kernel) rfl
theorem wp_57 : Cond.selects RX12 yX12_lacksSort yX12_lacksSort ∈ gws := gws_priv 57 (by decide +kernel) rfl
theorem wp_58 : Cond.selects RX12 yX12_isHeld yX12_isHeld ∈ gws := gws_priv 58 (by decide +kernel) rfl
theorem wp_59 : Cond.selects RX12 yX12_kindOn yX12_kindOn ∈ gws := gws_priv 59 (by decide +kernel) rfl
theorem wp_60 : Cond.selects RX12 yX12_singsIt yX12_singsIt ∈ gws := gws_priv 60 (by decide +kernel) rfl
theorem wp_61 : Cond.selects RX12 yX12_oldSings yX12_oldSings ∈ gws := gws_priv 61 (by decide +kernel) rfl
theorem wp_62 : Cond.selects RX12 yX12_ran yX12_ran ∈ gws := gws_priv 62 (by decide +kernel) rfl
theorem wp_63 : Cond.selects RX12 yX12_plainSings yX12_plainSings ∈ gws := gws_priv 63 (by decide +kernel) rfl
theorem wp_64 : Cond.selects RX12 yX12_needsIt yX12_needsIt ∈ gws := gws_priv 64 (by decide +kernel) rfl
theorem wp_65 : Cond.selects RX12 yX12_plainNeeds yX12_plainNeeds ∈ gws := gws_priv 65 (by decide +kernel) rfl
theorem wp_66 : Cond.selects RX12 yX12_sharesIt yX12_sharesIt ∈ gws := gws_priv 66 (by decide +kernel) rfl
theorem wp_67 : Cond.selects RX12 yX12_plainShares yX12_plainShares ∈ gws := gws_priv 67 (by decide +kernel) rfl
theorem wp_68 : Cond.selects RX12 yX12_tellsIt yX12_tellsIt ∈ gws := gws_priv 68 (by decide +kernel) rfl
theorem wp_69 : Cond.selects RX12 yX12_plainTells yX12_plainTells ∈ gws := gws_priv 69 (by decide +kernel) rfl
theorem wp_70 : Cond.selects RX12 yX12_moveAll yX12_moveAll ∈ gws := gws_priv 70 (by decide +kernel) rfl
theorem wp_71 : Cond.selects RX12 yX12_moveRow yX12_moveRow ∈ gws := gws_priv 71 (by decide +kernel) rfl
