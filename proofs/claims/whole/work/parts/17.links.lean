theorem pl_X10_init : pm_plain yX10_init 0 := ⟨by decide +kernel, by decide +kernel, by decide +kernel⟩
theorem si_RX11_9 : pm_si RX11 9 yX10_init 0 := ⟨Or.inr (by simp [pm_nest]), wt_32, wt_2, rfl, pl_X10_init⟩
theorem flp_RX11_10 : ∀ c, is 11 c = true → ∃ r, vwCl[c]? = some r ∧ pm_fl RX11 10 r 0 ∧ pm_ft (r.2.1 0).2.2.1 = 3 ∧ (r.2.1 0).2.2.2 = false := by
  intro c h
  have e : c = 11 := by simpa [is] using h
  subst e
  exact ⟨(RX11, TX11, 10), rfl, ⟨by decide, "SungAsleep", wt_158, Or.inl rfl⟩, by decide +kernel, rfl⟩
theorem pl_X3_init : pm_plain yX3_init 0 := ⟨by decide +kernel, by decide +kernel, by decide +kernel⟩
theorem si_RX11_18 : pm_si RX11 18 yX3_init 0 := ⟨Or.inr (by simp [pm_nest]), wt_62, wt_3, rfl, pl_X3_init⟩
theorem flp_RX11_19f : ∀ c, is 11 c = true → ∃ r, vwCl[c]? = some r ∧ pm_fl RX11 19 r 2 ∧ pm_ft (r.2.1 2).2.2.1 = 3 ∧ ((r.2.1 2).2.2.2 = false ∨ ((r.2.1 2).2.2.2 = true ∧ "<init>" = "<init>" ∧ (r.2.1 2).1 = RX11)) := by
  intro c h
  have e : c = 11 := by simpa [is] using h
  subst e
  exact ⟨(RX11, TX11, 10), rfl, ⟨by decide, "SungAsleep", wt_160, Or.inl rfl⟩, by decide +kernel, (Or.inr ⟨rfl, rfl, rfl⟩)⟩
theorem pl_X7_init : pm_plain yX7_init 0 := ⟨by decide +kernel, by decide +kernel, by decide +kernel⟩
theorem si_RX11_25 : pm_si RX11 25 yX7_init 0 := ⟨Or.inr (by simp [pm_nest]), wt_117, wt_4, rfl, pl_X7_init⟩
theorem flp_RX11_26f : ∀ c, is 11 c = true → ∃ r, vwCl[c]? = some r ∧ pm_fl RX11 26 r 3 ∧ pm_ft (r.2.1 3).2.2.1 = 3 ∧ ((r.2.1 3).2.2.2 = false ∨ ((r.2.1 3).2.2.2 = true ∧ "<init>" = "<init>" ∧ (r.2.1 3).1 = RX11)) := by
  intro c h
  have e : c = 11 := by simpa [is] using h
  subst e
  exact ⟨(RX11, TX11, 10), rfl, ⟨by decide, "SungAsleep", wt_161, Or.inl rfl⟩, by decide +kernel, (Or.inr ⟨rfl, rfl, rfl⟩)⟩
theorem pl_X8_init : pm_plain yX8_init 0 := ⟨by decide +kernel, by decide +kernel, by decide +kernel⟩
theorem si_RX11_32 : pm_si RX11 32 yX8_init 0 := ⟨Or.inr (by simp [pm_nest]), wt_137, wt_5, rfl, pl_X8_init⟩
theorem flp_RX11_33f : ∀ c, is 11 c = true → ∃ r, vwCl[c]? = some r ∧ pm_fl RX11 33 r 4 ∧ pm_ft (r.2.1 4).2.2.1 = 3 ∧ ((r.2.1 4).2.2.2 = false ∨ ((r.2.1 4).2.2.2 = true ∧ "<init>" = "<init>" ∧ (r.2.1 4).1 = RX11)) := by
  intro c h
  have e : c = 11 := by simpa [is] using h
  subst e
  exact ⟨(RX11, TX11, 10), rfl, ⟨by decide, "SungAsleep", wt_162, Or.inl rfl⟩, by decide +kernel, (Or.inr ⟨rfl, rfl, rfl⟩)⟩
theorem flp_RX11_37f : ∀ c, is 11 c = true → ∃ r, vwCl[c]? = some r ∧ pm_fl RX11 37 r 5 ∧ pm_ft (r.2.1 5).2.2.1 = 3 ∧ ((r.2.1 5).2.2.2 = false ∨ ((r.2.1 5).2.2.2 = true ∧ "<init>" = "<init>" ∧ (r.2.1 5).1 = RX11)) := by
  intro c h
  have e : c = 11 := by simpa [is] using h
  subst e
  exact ⟨(RX11, TX11, 10), rfl, ⟨by decide, "SungAsleep", wt_163, Or.inl rfl⟩, by decide +kernel, (Or.inr ⟨rfl, rfl, rfl⟩)⟩
theorem flp_RX11_43f : ∀ c, is 11 c = true → ∃ r, vwCl[c]? = some r ∧ pm_fl RX11 43 r 7 ∧ pm_ft (r.2.1 7).2.2.1 = 3 ∧ ((r.2.1 7).2.2.2 = false ∨ ((r.2.1 7).2.2.2 = true ∧ "<init>" = "<init>" ∧ (r.2.1 7).1 = RX11)) := by
  intro c h
  have e : c = 11 := by simpa [is] using h
  subst e
  exact ⟨(RX11, TX11, 10), rfl, ⟨by decide, "SungAsleep", wt_165, Or.inl rfl⟩, by decide +kernel, (Or.inr ⟨rfl, rfl, rfl⟩)⟩
theorem flp_RX11_47f : ∀ c, is 11 c = true → ∃ r, vwCl[c]? = some r ∧ pm_fl RX11 47 r 8 ∧ pm_ft (r.2.1 8).2.2.1 = 3 ∧ ((r.2.1 8).2.2.2 = false ∨ ((r.2.1 8).2.2.2 = true ∧ "<init>" = "<init>" ∧ (r.2.1 8).1 = RX11)) := by
  intro c h
  have e : c = 11 := by simpa [is] using h
  subst e
  exact ⟨(RX11, TX11, 10), rfl, ⟨by decide, "SungAsleep", wt_166, Or.inl rfl⟩, by decide +kernel, (Or.inr ⟨rfl, rfl, rfl⟩)⟩
theorem flp_RX11_50f : ∀ c, is 11 c = true → ∃ r, vwCl[c]? = some r ∧ pm_fl RX11 50 r 9 ∧ pm_ft (r.2.1 9).2.2.1 = 3 ∧ ((r.2.1 9).2.2.2 = false ∨ ((r.2.1 9).2.2.2 = true ∧ "<init>" = "<init>" ∧ (r.2.1 9).1 = RX11)) := by
  intro c h
  have e : c = 11 := by simpa [is] using h
  subst e
  exact ⟨(RX11, TX11, 10), rfl, ⟨by decide, "SungAsleep", wt_167, Or.inl rfl⟩, by decide +kernel, (Or.inr ⟨rfl, rfl, rfl⟩)⟩
theorem flg_RX11_26 : ∀ c, is 11 c = true → ∃ r, vwCl[c]? = some r ∧ pm_fl RX11 26 r 3 ∧ pm_ft (r.2.1 3).2.2.1 = 3 := by
  intro c h
  have e : c = 11 := by simpa [is] using h
  subst e
  exact ⟨(RX11, TX11, 10), rfl, ⟨by decide, "SungAsleep", wt_161, Or.inl rfl⟩, by decide +kernel⟩
theorem flg_RX11_53 : ∀ c, is 7 c = true → ∃ r, vwCl[c]? = some r ∧ pm_fl RX11 53 r 1 ∧ pm_ft (r.2.1 1).2.2.1 = 0 := by
  intro c h
  have e : c = 7 := by simpa [is] using h
  subst e
  exact ⟨(RX7, TX7, 4), rfl, ⟨by decide, "SungAsleep$Tape", wt_122, Or.inl rfl⟩, by decide +kernel⟩
theorem pl_X7_append : pm_plain yX7_append 1 := ⟨by decide +kernel, by decide +kernel, by decide +kernel⟩
theorem sv_RX11_57_7 : pm_sv RX11 57 RX7 yX7_append 1 := Or.inl ⟨wt_193, wt_194, wt_195, wt_4, rfl, pl_X7_append⟩
theorem flg_RX11_10 : ∀ c, is 11 c = true → ∃ r, vwCl[c]? = some r ∧ pm_fl RX11 10 r 0 ∧ pm_ft (r.2.1 0).2.2.1 = 3 := by
  intro c h
  have e : c = 11 := by simpa [is] using h
  subst e
  exact ⟨(RX11, TX11, 10), rfl, ⟨by decide, "SungAsleep", wt_158, Or.inl rfl⟩, by decide +kernel⟩
theorem flg_RX11_61 : ∀ c, is 10 c = true → ∃ r, vwCl[c]? = some r ∧ pm_fl RX11 61 r 4 ∧ pm_ft (r.2.1 4).2.2.1 = 0 := by
  intro c h
  have e : c = 10 := by simpa [is] using h
  subst e
  exact ⟨(RX10, TX10, 5), rfl, ⟨by decide, "SungAsleep$Valley", wt_46, Or.inl rfl⟩, by decide +kernel⟩
theorem flp_RX11_61 : ∀ c, is 10 c = true → ∃ r, vwCl[c]? = some r ∧ pm_fl RX11 61 r 4 ∧ pm_ft (r.2.1 4).2.2.1 = 0 ∧ (r.2.1 4).2.2.2 = false := by
  intro c h
  have e : c = 10 := by simpa [is] using h
  subst e
  exact ⟨(RX10, TX10, 5), rfl, ⟨by decide, "SungAsleep$Valley", wt_46, Or.inl rfl⟩, by decide +kernel, rfl⟩
theorem pl_X7_faultOf : pm_plain yX7_faultOf 1 := ⟨by decide +kernel, by decide +kernel, by decide +kernel⟩
theorem sv_RX11_64_7 : pm_sv RX11 64 RX7 yX7_faultOf 1 := Or.inl ⟨wt_201, wt_202, wt_203, wt_4, rfl, pl_X7_faultOf⟩
theorem flp_RX11_53 : ∀ c, is 7 c = true → ∃ r, vwCl[c]? = some r ∧ pm_fl RX11 53 r 1 ∧ pm_ft (r.2.1 1).2.2.1 = 0 ∧ (r.2.1 1).2.2.2 = false := by
  intro c h
  have e : c = 7 := by simpa [is] using h
  subst e
  exact ⟨(RX7, TX7, 4), rfl, ⟨by decide, "SungAsleep$Tape", wt_122, Or.inl rfl⟩, by decide +kernel, rfl⟩
theorem flp_RX11_68 : ∀ c, is 11 c = true → ∃ r, vwCl[c]? = some r ∧ pm_fl RX11 68 r 6 ∧ pm_ft (r.2.1 6).2.2.1 = 0 ∧ (r.2.1 6).2.2.2 = false := by
  intro c h
  have e : c = 11 := by simpa [is] using h
  subst e
  exact ⟨(RX11, TX11, 10), rfl, ⟨by decide, "SungAsleep", wt_164, Or.inl rfl⟩, by decide +kernel, rfl⟩
theorem flg_RX11_71 : ∀ c, is 10 c = true → ∃ r, vwCl[c]? = some r ∧ pm_fl RX11 71 r 2 ∧ pm_ft (r.2.1 2).2.2.1 = 0 := by
  intro c h
  have e : c = 10 := by simpa [is] using h
  subst e
  exact ⟨(RX10, TX10, 5), rfl, ⟨by decide, "SungAsleep$Valley", wt_41, Or.inl rfl⟩, by decide +kernel⟩
theorem pl_X11_made : pm_plain yX11_made 3 := ⟨by decide +kernel, by decide +kernel, by decide +kernel⟩
theorem ss_RX11_72 : pm_ss RX11 72 yX11_made 3 := ⟨Or.inl wt_470, wt_329, wt_1, pl_X11_made⟩
theorem pl_X10_join : pm_plain yX10_join 1 := ⟨by decide +kernel, by decide +kernel, by decide +kernel⟩
theorem sv_RX11_76_10 : pm_sv RX11 76 RX10 yX10_join 1 := Or.inl ⟨wt_471, wt_455, wt_456, wt_2, rfl, pl_X10_join⟩
theorem pl_X10_at : pm_plain yX10_at 1 := ⟨by decide +kernel, by decide +kernel, by decide +kernel⟩
theorem sv_RX11_80_10 : pm_sv RX11 80 RX10 yX10_at 1 := Or.inl ⟨wt_476, wt_299, wt_300, wt_2, rfl, pl_X10_at⟩
theorem sv_RX11_84_0 : pm_sv RX11 84 RX0 yX0_kind 0 := Or.inr ⟨yX6_kind, RX6, wt_477, wt_480, wt_481, wt_482, wt_13, by decide +kernel, by decide +kernel, by decide +kernel, Or.inr ⟨wt_478, _, _, _, wt_496⟩⟩
theorem sv_RX11_84_1 : pm_sv RX11 84 RX1 yX1_kind 0 := Or.inr ⟨yX6_kind, RX6, wt_477, wt_480, wt_484, wt_485, wt_16, by decide +kernel, by decide +kernel, by decide +kernel, Or.inr ⟨wt_478, _, _, _, wt_496⟩⟩
theorem sv_RX11_84_2 : pm_sv RX11 84 RX2 yX2_kind 0 := Or.inr ⟨yX6_kind, RX6, wt_477, wt_480, wt_487, wt_488, wt_14, by decide +kernel, by decide +kernel, by decide +kernel, Or.inr ⟨wt_478, _, _, _, wt_496⟩⟩
theorem sv_RX11_84_4 : pm_sv RX11 84 RX4 yX4_kind 0 := Or.inr ⟨yX6_kind, RX6, wt_477, wt_480, wt_490, wt_491, wt_15, by decide +kernel, by decide +kernel, by decide +kernel, Or.inr ⟨wt_478, _, _, _, wt_496⟩⟩
theorem pl_X6_kind : pm_plain yX6_kind 0 := ⟨by decide +kernel, by decide +kernel, by decide +kernel⟩
theorem sv_RX11_84_6 : pm_sv RX11 84 RX6 yX6_kind 0 := Or.inl ⟨wt_477, wt_478, wt_479, wt_12, rfl, pl_X6_kind⟩
theorem sv_RX11_84_9 : pm_sv RX11 84 RX9 yX9_kind 0 := Or.inr ⟨yX6_kind, RX6, wt_477, wt_480, wt_493, wt_494, wt_17, by decide +kernel, by decide +kernel, by decide +kernel, Or.inr ⟨wt_478, _, _, _, wt_496⟩⟩
theorem flg_RX11_90 : ∀ c, pm_slp c = true → ∃ r, vwCl[c]? = some r ∧ pm_fl RX11 90 r 1 ∧ pm_ft (r.2.1 1).2.2.1 = 0 := by
  intro c h
  rcases pm_slp_of h with rfl | rfl | rfl | rfl | rfl | rfl
  · exact ⟨(RX0, TX0, 7), rfl, ⟨by decide, "SungAsleep$Sleeper", wt_354, Or.inl rfl⟩, by decide +kernel⟩
  · exact ⟨(RX1, TX1, 7), rfl, ⟨by decide, "SungAsleep$Sleeper", wt_354, Or.inl rfl⟩, by decide +kernel⟩
  · exact ⟨(RX2, TX2, 7), rfl, ⟨by decide, "SungAsleep$Sleeper", wt_354, Or.inl rfl⟩, by decide +kernel⟩
  · exact ⟨(RX4, TX4, 7), rfl, ⟨by decide, "SungAsleep$Sleeper", wt_354, Or.inl rfl⟩, by decide +kernel⟩
  · exact ⟨(RX6, TX6, 7), rfl, ⟨by decide, "SungAsleep$Sleeper", wt_354, Or.inl rfl⟩, by decide +kernel⟩
  · exact ⟨(RX9, TX9, 7), rfl, ⟨by decide, "SungAsleep$Sleeper", wt_354, Or.inl rfl⟩, by decide +kernel⟩
theorem flg_RX11_93 : ∀ c, pm_slp c = true → ∃ r, vwCl[c]? = some r ∧ pm_fl RX11 93 r 2 ∧ pm_ft (r.2.1 2).2.2.1 = 0 := by
  intro c h
  rcases pm_slp_of h with rfl | rfl | rfl | rfl | rfl | rfl
  · exact ⟨(RX0, TX0, 7), rfl, ⟨by decide, "SungAsleep$Sleeper", wt_358, Or.inl rfl⟩, by decide +kernel⟩
  · exact ⟨(RX1, TX1, 7), rfl, ⟨by decide, "SungAsleep$Sleeper", wt_358, Or.inl rfl⟩, by decide +kernel⟩
  · exact ⟨(RX2, TX2, 7), rfl, ⟨by decide, "SungAsleep$Sleeper", wt_358, Or.inl rfl⟩, by decide +kernel⟩
  · exact ⟨(RX4, TX4, 7), rfl, ⟨by decide, "SungAsleep$Sleeper", wt_358, Or.inl rfl⟩, by decide +kernel⟩
  · exact ⟨(RX6, TX6, 7), rfl, ⟨by decide, "SungAsleep$Sleeper", wt_358, Or.inl rfl⟩, by decide +kernel⟩
  · exact ⟨(RX9, TX9, 7), rfl, ⟨by decide, "SungAsleep$Sleeper", wt_358, Or.inl rfl⟩, by decide +kernel⟩
theorem sv_RX11_96_0 : pm_sv RX11 96 RX0 yX0_minutes 0 := Or.inr ⟨yX6_minutes, RX6, wt_497, wt_500, wt_501, wt_502, wt_13, by decide +kernel, by decide +kernel, by decide +kernel, Or.inr ⟨wt_498, _, _, _, wt_515⟩⟩
theorem sv_RX11_96_1 : pm_sv RX11 96 RX1 yX2_minutes 0 := Or.inr ⟨yX6_minutes, RX6, wt_497, wt_500, wt_505, wt_506, wt_14, by decide +kernel, by decide +kernel, by decide +kernel, Or.inr ⟨wt_498, _, _, _, wt_515⟩⟩
theorem sv_RX11_96_2 : pm_sv RX11 96 RX2 yX2_minutes 0 := Or.inr ⟨yX6_minutes, RX6, wt_497, wt_500, wt_509, wt_506, wt_14, by decide +kernel, by decide +kernel, by decide +kernel, Or.inr ⟨wt_498, _, _, _, wt_515⟩⟩
theorem sv_RX11_96_4 : pm_sv RX11 96 RX4 yX4_minutes 0 := Or.inr ⟨yX6_minutes, RX6, wt_497, wt_500, wt_510, wt_511, wt_15, by decide +kernel, by decide +kernel, by decide +kernel, Or.inr ⟨wt_498, _, _, _, wt_515⟩⟩
theorem pl_X6_minutes : pm_plain yX6_minutes 0 := ⟨by decide +kernel, by decide +kernel, by decide +kernel⟩
theorem sv_RX11_96_6 : pm_sv RX11 96 RX6 yX6_minutes 0 := Or.inl ⟨wt_497, wt_498, wt_499, wt_12, rfl, pl_X6_minutes⟩
theorem sv_RX11_96_9 : pm_sv RX11 96 RX9 yX6_minutes 0 := Or.inr ⟨yX6_minutes, RX6, wt_497, wt_500, wt_514, wt_498, wt_12, by decide +kernel, by decide +kernel, by decide +kernel, Or.inl rfl⟩
theorem flg_RX11_99 : ∀ c, pm_slp c = true → ∃ r, vwCl[c]? = some r ∧ pm_fl RX11 99 r 5 ∧ pm_ft (r.2.1 5).2.2.1 = 0 := by
  intro c h
  rcases pm_slp_of h with rfl | rfl | rfl | rfl | rfl | rfl
  · exact ⟨(RX0, TX0, 7), rfl, ⟨by decide, "SungAsleep$Sleeper", wt_364, Or.inl rfl⟩, by decide +kernel⟩
  · exact ⟨(RX1, TX1, 7), rfl, ⟨by decide, "SungAsleep$Sleeper", wt_364, Or.inl rfl⟩, by decide +kernel⟩
  · exact ⟨(RX2, TX2, 7), rfl, ⟨by decide, "SungAsleep$Sleeper", wt_364, Or.inl rfl⟩, by decide +kernel⟩
  · exact ⟨(RX4, TX4, 7), rfl, ⟨by decide, "SungAsleep$Sleeper", wt_364, Or.inl rfl⟩, by decide +kernel⟩
  · exact ⟨(RX6, TX6, 7), rfl, ⟨by decide, "SungAsleep$Sleeper", wt_364, Or.inl rfl⟩, by decide +kernel⟩
  · exact ⟨(RX9, TX9, 7), rfl, ⟨by decide, "SungAsleep$Sleeper", wt_364, Or.inl rfl⟩, by decide +kernel⟩
theorem flg_RX11_102 : ∀ c, pm_slp c = true → ∃ r, vwCl[c]? = some r ∧ pm_fl RX11 102 r 4 ∧ pm_ft (r.2.1 4).2.2.1 = 0 := by
  intro c h
  rcases pm_slp_of h with rfl | rfl | rfl | rfl | rfl | rfl
  · exact ⟨(RX0, TX0, 7), rfl, ⟨by decide, "SungAsleep$Sleeper", wt_363, Or.inl rfl⟩, by decide +kernel⟩
  · exact ⟨(RX1, TX1, 7), rfl, ⟨by decide, "SungAsleep$Sleeper", wt_363, Or.inl rfl⟩, by decide +kernel⟩
  · exact ⟨(RX2, TX2, 7), rfl, ⟨by decide, "SungAsleep$Sleeper", wt_363, Or.inl rfl⟩, by decide +kernel⟩
  · exact ⟨(RX4, TX4, 7), rfl, ⟨by decide, "SungAsleep$Sleeper", wt_363, Or.inl rfl⟩, by decide +kernel⟩
  · exact ⟨(RX6, TX6, 7), rfl, ⟨by decide, "SungAsleep$Sleeper", wt_363, Or.inl rfl⟩, by decide +kernel⟩
  · exact ⟨(RX9, TX9, 7), rfl, ⟨by decide, "SungAsleep$Sleeper", wt_363, Or.inl rfl⟩, by decide +kernel⟩
theorem flg_RX11_105 : ∀ c, pm_slp c = true → ∃ r, vwCl[c]? = some r ∧ pm_fl RX11 105 r 6 ∧ pm_ft (r.2.1 6).2.2.1 = 1 := by
  intro c h
  rcases pm_slp_of h with rfl | rfl | rfl | rfl | rfl | rfl
  · exact ⟨(RX0, TX0, 7), rfl, ⟨by decide, "SungAsleep$Sleeper", wt_369, Or.inl rfl⟩, by decide +kernel⟩
  · exact ⟨(RX1, TX1, 7), rfl, ⟨by decide, "SungAsleep$Sleeper", wt_369, Or.inl rfl⟩, by decide +kernel⟩
  · exact ⟨(RX2, TX2, 7), rfl, ⟨by decide, "SungAsleep$Sleeper", wt_369, Or.inl rfl⟩, by decide +kernel⟩
  · exact ⟨(RX4, TX4, 7), rfl, ⟨by decide, "SungAsleep$Sleeper", wt_369, Or.inl rfl⟩, by decide +kernel⟩
  · exact ⟨(RX6, TX6, 7), rfl, ⟨by decide, "SungAsleep$Sleeper", wt_369, Or.inl rfl⟩, by decide +kernel⟩
  · exact ⟨(RX9, TX9, 7), rfl, ⟨by decide, "SungAsleep$Sleeper", wt_369, Or.inl rfl⟩, by decide +kernel⟩
theorem flg_RX11_109 : ∀ c, pm_slp c = true → ∃ r, vwCl[c]? = some r ∧ pm_fl RX11 109 r 3 ∧ pm_ft (r.2.1 3).2.2.1 = 0 := by
  intro c h
  rcases pm_slp_of h with rfl | rfl | rfl | rfl | rfl | rfl
  · exact ⟨(RX0, TX0, 7), rfl, ⟨by decide, "SungAsleep$Sleeper", wt_360, Or.inl rfl⟩, by decide +kernel⟩
  · exact ⟨(RX1, TX1, 7), rfl, ⟨by decide, "SungAsleep$Sleeper", wt_360, Or.inl rfl⟩, by decide +kernel⟩
  · exact ⟨(RX2, TX2, 7), rfl, ⟨by decide, "SungAsleep$Sleeper", wt_360, Or.inl rfl⟩, by decide +kernel⟩
  · exact ⟨(RX4, TX4, 7), rfl, ⟨by decide, "SungAsleep$Sleeper", wt_360, Or.inl rfl⟩, by decide +kernel⟩
  · exact ⟨(RX6, TX6, 7), rfl, ⟨by decide, "SungAsleep$Sleeper", wt_360, Or.inl rfl⟩, by decide +kernel⟩
  · exact ⟨(RX9, TX9, 7), rfl, ⟨by decide, "SungAsleep$Sleeper", wt_360, Or.inl rfl⟩, by decide +kernel⟩
theorem flp_RX11_93 : ∀ c, pm_slp c = true → ∃ r, vwCl[c]? = some r ∧ pm_fl RX11 93 r 2 ∧ pm_ft (r.2.1 2).2.2.1 = 0 ∧ (r.2.1 2).2.2.2 = false := by
  intro c h
  rcases pm_slp_of h with rfl | rfl | rfl | rfl | rfl | rfl
  · exact ⟨(RX0, TX0, 7), rfl, ⟨by decide, "SungAsleep$Sleeper", wt_358, Or.inl rfl⟩, by decide +kernel, rfl⟩
  · exact ⟨(RX1, TX1, 7), rfl, ⟨by decide, "SungAsleep$Sleeper", wt_358, Or.inl rfl⟩, by decide +kernel, rfl⟩
  · exact ⟨(RX2, TX2, 7), rfl, ⟨by decide, "SungAsleep$Sleeper", wt_358, Or.inl rfl⟩, by decide +kernel, rfl⟩
  · exact ⟨(RX4, TX4, 7), rfl, ⟨by decide, "SungAsleep$Sleeper", wt_358, Or.inl rfl⟩, by decide +kernel, rfl⟩
  · exact ⟨(RX6, TX6, 7), rfl, ⟨by decide, "SungAsleep$Sleeper", wt_358, Or.inl rfl⟩, by decide +kernel, rfl⟩
  · exact ⟨(RX9, TX9, 7), rfl, ⟨by decide, "SungAsleep$Sleeper", wt_358, Or.inl rfl⟩, by decide +kernel, rfl⟩
theorem flp_RX11_109 : ∀ c, pm_slp c = true → ∃ r, vwCl[c]? = some r ∧ pm_fl RX11 109 r 3 ∧ pm_ft (r.2.1 3).2.2.1 = 0 ∧ (r.2.1 3).2.2.2 = false := by
  intro c h
  rcases pm_slp_of h with rfl | rfl | rfl | rfl | rfl | rfl
  · exact ⟨(RX0, TX0, 7), rfl, ⟨by decide, "SungAsleep$Sleeper", wt_360, Or.inl rfl⟩, by decide +kernel, rfl⟩
  · exact ⟨(RX1, TX1, 7), rfl, ⟨by decide, "SungAsleep$Sleeper", wt_360, Or.inl rfl⟩, by decide +kernel, rfl⟩
  · exact ⟨(RX2, TX2, 7), rfl, ⟨by decide, "SungAsleep$Sleeper", wt_360, Or.inl rfl⟩, by decide +kernel, rfl⟩
  · exact ⟨(RX4, TX4, 7), rfl, ⟨by decide, "SungAsleep$Sleeper", wt_360, Or.inl rfl⟩, by decide +kernel, rfl⟩
  · exact ⟨(RX6, TX6, 7), rfl, ⟨by decide, "SungAsleep$Sleeper", wt_360, Or.inl rfl⟩, by decide +kernel, rfl⟩
  · exact ⟨(RX9, TX9, 7), rfl, ⟨by decide, "SungAsleep$Sleeper", wt_360, Or.inl rfl⟩, by decide +kernel, rfl⟩
theorem flg_RX11_113 : ∀ c, is 10 c = true → ∃ r, vwCl[c]? = some r ∧ pm_fl RX11 113 r 0 ∧ pm_ft (r.2.1 0).2.2.1 = 3 := by
  intro c h
  have e : c = 10 := by simpa [is] using h
  subst e
  exact ⟨(RX10, TX10, 5), rfl, ⟨by decide, "SungAsleep$Valley", wt_38, Or.inl rfl⟩, by decide +kernel⟩
theorem pl_X11_likeness : pm_plain yX11_likeness 2 := ⟨by decide +kernel, by decide +kernel, by decide +kernel⟩
theorem ss_RX11_117 : pm_ss RX11 117 yX11_likeness 2 := ⟨Or.inl wt_529, wt_530, wt_1, pl_X11_likeness⟩
theorem flp_RX11_90 : ∀ c, pm_slp c = true → ∃ r, vwCl[c]? = some r ∧ pm_fl RX11 90 r 1 ∧ pm_ft (r.2.1 1).2.2.1 = 0 ∧ (r.2.1 1).2.2.2 = false := by
  intro c h
  rcases pm_slp_of h with rfl | rfl | rfl | rfl | rfl | rfl
  · exact ⟨(RX0, TX0, 7), rfl, ⟨by decide, "SungAsleep$Sleeper", wt_354, Or.inl rfl⟩, by decide +kernel, rfl⟩
  · exact ⟨(RX1, TX1, 7), rfl, ⟨by decide, "SungAsleep$Sleeper", wt_354, Or.inl rfl⟩, by decide +kernel, rfl⟩
  · exact ⟨(RX2, TX2, 7), rfl, ⟨by decide, "SungAsleep$Sleeper", wt_354, Or.inl rfl⟩, by decide +kernel, rfl⟩
  · exact ⟨(RX4, TX4, 7), rfl, ⟨by decide, "SungAsleep$Sleeper", wt_354, Or.inl rfl⟩, by decide +kernel, rfl⟩
  · exact ⟨(RX6, TX6, 7), rfl, ⟨by decide, "SungAsleep$Sleeper", wt_354, Or.inl rfl⟩, by decide +kernel, rfl⟩
  · exact ⟨(RX9, TX9, 7), rfl, ⟨by decide, "SungAsleep$Sleeper", wt_354, Or.inl rfl⟩, by decide +kernel, rfl⟩
theorem flp_RX11_102 : ∀ c, pm_slp c = true → ∃ r, vwCl[c]? = some r ∧ pm_fl RX11 102 r 4 ∧ pm_ft (r.2.1 4).2.2.1 = 0 ∧ (r.2.1 4).2.2.2 = false := by
  intro c h
  rcases pm_slp_of h with rfl | rfl | rfl | rfl | rfl | rfl
  · exact ⟨(RX0, TX0, 7), rfl, ⟨by decide, "SungAsleep$Sleeper", wt_363, Or.inl rfl⟩, by decide +kernel, rfl⟩
  · exact ⟨(RX1, TX1, 7), rfl, ⟨by decide, "SungAsleep$Sleeper", wt_363, Or.inl rfl⟩, by decide +kernel, rfl⟩
  · exact ⟨(RX2, TX2, 7), rfl, ⟨by decide, "SungAsleep$Sleeper", wt_363, Or.inl rfl⟩, by decide +kernel, rfl⟩
  · exact ⟨(RX4, TX4, 7), rfl, ⟨by decide, "SungAsleep$Sleeper", wt_363, Or.inl rfl⟩, by decide +kernel, rfl⟩
  · exact ⟨(RX6, TX6, 7), rfl, ⟨by decide, "SungAsleep$Sleeper", wt_363, Or.inl rfl⟩, by decide +kernel, rfl⟩
  · exact ⟨(RX9, TX9, 7), rfl, ⟨by decide, "SungAsleep$Sleeper", wt_363, Or.inl rfl⟩, by decide +kernel, rfl⟩
theorem pl_X10_awakeSet : pm_plain yX10_awakeSet 0 := ⟨by decide +kernel, by decide +kernel, by decide +kernel⟩
theorem sv_RX11_127_10 : pm_sv RX11 127 RX10 yX10_awakeSet 0 := Or.inl ⟨wt_547, wt_312, wt_313, wt_2, rfl, pl_X10_awakeSet⟩
theorem pl_X10_songMinutes : pm_plain yX10_songMinutes 3 := ⟨by decide +kernel, by decide +kernel, by decide +kernel⟩
theorem sv_RX11_130_10 : pm_sv RX11 130 RX10 yX10_songMinutes 3 := Or.inl ⟨wt_548, wt_549, wt_550, wt_2, rfl, pl_X10_songMinutes⟩
theorem pl_X10_settleSong : pm_plain yX10_settleSong 3 := ⟨by decide +kernel, by decide +kernel, by decide +kernel⟩
theorem sv_RX11_134_10 : pm_sv RX11 134 RX10 yX10_settleSong 3 := Or.inl ⟨wt_573, wt_574, wt_575, wt_2, rfl, pl_X10_settleSong⟩
theorem flp_RX11_105 : ∀ c, pm_slp c = true → ∃ r, vwCl[c]? = some r ∧ pm_fl RX11 105 r 6 ∧ pm_ft (r.2.1 6).2.2.1 = 1 ∧ (r.2.1 6).2.2.2 = false := by
  intro c h
  rcases pm_slp_of h with rfl | rfl | rfl | rfl | rfl | rfl
  · exact ⟨(RX0, TX0, 7), rfl, ⟨by decide, "SungAsleep$Sleeper", wt_369, Or.inl rfl⟩, by decide +kernel, rfl⟩
  · exact ⟨(RX1, TX1, 7), rfl, ⟨by decide, "SungAsleep$Sleeper", wt_369, Or.inl rfl⟩, by decide +kernel, rfl⟩
  · exact ⟨(RX2, TX2, 7), rfl, ⟨by decide, "SungAsleep$Sleeper", wt_369, Or.inl rfl⟩, by decide +kernel, rfl⟩
  · exact ⟨(RX4, TX4, 7), rfl, ⟨by decide, "SungAsleep$Sleeper", wt_369, Or.inl rfl⟩, by decide +kernel, rfl⟩
  · exact ⟨(RX6, TX6, 7), rfl, ⟨by decide, "SungAsleep$Sleeper", wt_369, Or.inl rfl⟩, by decide +kernel, rfl⟩
  · exact ⟨(RX9, TX9, 7), rfl, ⟨by decide, "SungAsleep$Sleeper", wt_369, Or.inl rfl⟩, by decide +kernel, rfl⟩
theorem flg_RX11_138 : ∀ c, is 10 c = true → ∃ r, vwCl[c]? = some r ∧ pm_fl RX11 138 r 3 ∧ pm_ft (r.2.1 3).2.2.1 = 0 := by
  intro c h
  have e : c = 10 := by simpa [is] using h
  subst e
  exact ⟨(RX10, TX10, 5), rfl, ⟨by decide, "SungAsleep$Valley", wt_44, Or.inl rfl⟩, by decide +kernel⟩
theorem pl_X11_isOver : pm_plain yX11_isOver 1 := ⟨by decide +kernel, by decide +kernel, by decide +kernel⟩
theorem ss_RX11_141 : pm_ss RX11 141 yX11_isOver 1 := ⟨Or.inl wt_611, wt_316, wt_1, pl_X11_isOver⟩
theorem pl_X10_sungByAll : pm_plain yX10_sungByAll 0 := ⟨by decide +kernel, by decide +kernel, by decide +kernel⟩
theorem sv_RX11_145_10 : pm_sv RX11 145 RX10 yX10_sungByAll 0 := Or.inl ⟨wt_612, wt_613, wt_614, wt_2, rfl, pl_X10_sungByAll⟩
theorem pl_J6_bitCount_0f7a4 : pm_plain yJ6_bitCount_0f7a4 1 := ⟨by decide +kernel, by decide +kernel, by decide +kernel⟩
theorem ss_RX11_148 : pm_ss RX11 148 yJ6_bitCount_0f7a4 1 := ⟨Or.inl wt_318, wt_319, wt_11, pl_J6_bitCount_0f7a4⟩
theorem pl_J6_numberOfTrailingZeros_0f7a4 : pm_plain yJ6_numberOfTrailingZeros_0f7a4 1 := ⟨by decide +kernel, by decide +kernel, by decide +kernel⟩
theorem ss_RX11_154 : pm_ss RX11 154 yJ6_numberOfTrailingZeros_0f7a4 1 := ⟨Or.inl wt_620, wt_621, wt_11, pl_J6_numberOfTrailingZeros_0f7a4⟩
theorem pl_X10_beginDay : pm_plain yX10_beginDay 0 := ⟨by decide +kernel, by decide +kernel, by decide +kernel⟩
theorem sv_RX11_157_10 : pm_sv RX11 157 RX10 yX10_beginDay 0 := Or.inl ⟨wt_624, wt_625, wt_626, wt_2, rfl, pl_X10_beginDay⟩
theorem pl_X11_isPair : pm_plain yX11_isPair 2 := ⟨by decide +kernel, by decide +kernel, by decide +kernel⟩
theorem sv_RX11_160_11 : pm_sv RX11 160 RX11 yX11_isPair 2 := Or.inl ⟨wt_636, wt_638, wp_14, wt_1, rfl, pl_X11_isPair⟩
theorem pl_X10_debt : pm_plain yX10_debt 2 := ⟨by decide +kernel, by decide +kernel, by decide +kernel⟩
theorem sv_RX11_164_10 : pm_sv RX11 164 RX10 yX10_debt 2 := Or.inl ⟨wt_640, wt_594, wt_595, wt_2, rfl, pl_X10_debt⟩
theorem pl_X10_setDebt : pm_plain yX10_setDebt 3 := ⟨by decide +kernel, by decide +kernel, by decide +kernel⟩
theorem sv_RX11_167_10 : pm_sv RX11 167 RX10 yX10_setDebt 3 := Or.inl ⟨wt_645, wt_295, wt_296, wt_2, rfl, pl_X10_setDebt⟩
theorem pl_X10_thirdOfRing : pm_plain yX10_thirdOfRing 2 := ⟨by decide +kernel, by decide +kernel, by decide +kernel⟩
theorem sv_RX11_170_10 : pm_sv RX11 170 RX10 yX10_thirdOfRing 2 := Or.inl ⟨wt_650, wt_651, wt_652, wt_2, rfl, pl_X10_thirdOfRing⟩
theorem pl_X10_clearRing : pm_plain yX10_clearRing 3 := ⟨by decide +kernel, by decide +kernel, by decide +kernel⟩
theorem sv_RX11_173_10 : pm_sv RX11 173 RX10 yX10_clearRing 3 := Or.inl ⟨wt_654, wt_655, wt_656, wt_2, rfl, pl_X10_clearRing⟩
theorem pl_X11_fewestMinutes : pm_plain yX11_fewestMinutes 3 := ⟨by decide +kernel, by decide +kernel, by decide +kernel⟩
theorem sv_RX11_176_11 : pm_sv RX11 176 RX11 yX11_fewestMinutes 3 := Or.inl ⟨wt_662, wt_664, wp_15, wt_1, rfl, pl_X11_fewestMinutes⟩
theorem pl_X11_least : pm_plain yX11_least 0 := ⟨by decide +kernel, by decide +kernel, by decide +kernel⟩
theorem sv_RX11_179_11 : pm_sv RX11 179 RX11 yX11_least 0 := Or.inl ⟨wt_719, wt_659, wt_660, wt_1, rfl, pl_X11_least⟩
theorem flg_RX11_19 : ∀ c, is 11 c = true → ∃ r, vwCl[c]? = some r ∧ pm_fl RX11 19 r 2 ∧ pm_ft (r.2.1 2).2.2.1 = 3 := by
  intro c h
  have e : c = 11 := by simpa [is] using h
  subst e
  exact ⟨(RX11, TX11, 10), rfl, ⟨by decide, "SungAsleep", wt_160, Or.inl rfl⟩, by decide +kernel⟩
theorem pl_X3_layPlan : pm_plain yX3_layPlan 0 := ⟨by decide +kernel, by decide +kernel, by decide +kernel⟩
theorem sv_RX11_182_3 : pm_sv RX11 182 RX3 yX3_layPlan 0 := Or.inl ⟨wt_720, wt_721, wt_722, wt_3, rfl, pl_X3_layPlan⟩
theorem flg_RX11_185 : ∀ c, is 3 c = true → ∃ r, vwCl[c]? = some r ∧ pm_fl RX11 185 r 14 ∧ pm_ft (r.2.1 14).2.2.1 = 0 := by
  intro c h
  have e : c = 3 := by simpa [is] using h
  subst e
  exact ⟨(RX3, TX3, 15), rfl, ⟨by decide, "SungAsleep$Reckoner", wt_82, Or.inl rfl⟩, by decide +kernel⟩
theorem pl_X3_planLast : pm_plain yX3_planLast 0 := ⟨by decide +kernel, by decide +kernel, by decide +kernel⟩
theorem sv_RX11_188_3 : pm_sv RX11 188 RX3 yX3_planLast 0 := Or.inl ⟨wt_732, wt_733, wt_734, wt_3, rfl, pl_X3_planLast⟩
theorem flg_RX11_191 : ∀ c, is 3 c = true → ∃ r, vwCl[c]? = some r ∧ pm_fl RX11 191 r 12 ∧ pm_ft (r.2.1 12).2.2.1 = 3 := by
  intro c h
  have e : c = 3 := by simpa [is] using h
  subst e
  exact ⟨(RX3, TX3, 15), rfl, ⟨by decide, "SungAsleep$Reckoner", wt_78, Or.inl rfl⟩, by decide +kernel⟩
theorem flg_RX11_194 : ∀ c, is 3 c = true → ∃ r, vwCl[c]? = some r ∧ pm_fl RX11 194 r 13 ∧ pm_ft (r.2.1 13).2.2.1 = 3 := by
  intro c h
  have e : c = 3 := by simpa [is] using h
  subst e
  exact ⟨(RX3, TX3, 15), rfl, ⟨by decide, "SungAsleep$Reckoner", wt_80, Or.inl rfl⟩, by decide +kernel⟩
theorem pl_X3_lastsOf : pm_plain yX3_lastsOf 1 := ⟨by decide +kernel, by decide +kernel, by decide +kernel⟩
theorem sv_RX11_197_3 : pm_sv RX11 197 RX3 yX3_lastsOf 1 := Or.inl ⟨wt_740, wt_741, wt_742, wt_3, rfl, pl_X3_lastsOf⟩
theorem pl_X3_waysOf : pm_plain yX3_waysOf 1 := ⟨by decide +kernel, by decide +kernel, by decide +kernel⟩
theorem sv_RX11_200_3 : pm_sv RX11 200 RX3 yX3_waysOf 1 := Or.inl ⟨wt_756, wt_757, wt_758, wt_3, rfl, pl_X3_waysOf⟩
theorem pl_X3_endsOf : pm_plain yX3_endsOf 1 := ⟨by decide +kernel, by decide +kernel, by decide +kernel⟩
theorem sv_RX11_203_3 : pm_sv RX11 203 RX3 yX3_endsOf 1 := Or.inl ⟨wt_764, wt_765, wt_766, wt_3, rfl, pl_X3_endsOf⟩
theorem pl_X3_leastOf : pm_plain yX3_leastOf 1 := ⟨by decide +kernel, by decide +kernel, by decide +kernel⟩
theorem sv_RX11_206_3 : pm_sv RX11 206 RX3 yX3_leastOf 1 := Or.inl ⟨wt_711, wt_712, wt_713, wt_3, rfl, pl_X3_leastOf⟩
theorem pl_X3_ask : pm_plain yX3_ask 4 := ⟨by decide +kernel, by decide +kernel, by decide +kernel⟩
theorem sv_RX11_213_3 : pm_sv RX11 213 RX3 yX3_ask 4 := Or.inl ⟨wt_666, wt_667, wt_668, wt_3, rfl, pl_X3_ask⟩
theorem pl_X10_neededBy : pm_plain yX10_neededBy 1 := ⟨by decide +kernel, by decide +kernel, by decide +kernel⟩
theorem sv_RX11_217_10 : pm_sv RX11 217 RX10 yX10_neededBy 1 := Or.inl ⟨wt_794, wt_554, wt_555, wt_2, rfl, pl_X10_neededBy⟩
theorem flg_RX11_37 : ∀ c, is 11 c = true → ∃ r, vwCl[c]? = some r ∧ pm_fl RX11 37 r 5 ∧ pm_ft (r.2.1 5).2.2.1 = 3 := by
  intro c h
  have e : c = 11 := by simpa [is] using h
  subst e
  exact ⟨(RX11, TX11, 10), rfl, ⟨by decide, "SungAsleep", wt_163, Or.inl rfl⟩, by decide +kernel⟩
theorem flg_RX11_68 : ∀ c, is 11 c = true → ∃ r, vwCl[c]? = some r ∧ pm_fl RX11 68 r 6 ∧ pm_ft (r.2.1 6).2.2.1 = 0 := by
  intro c h
  have e : c = 11 := by simpa [is] using h
  subst e
  exact ⟨(RX11, TX11, 10), rfl, ⟨by decide, "SungAsleep", wt_164, Or.inl rfl⟩, by decide +kernel⟩
theorem pl_X11_isInRow : pm_plain yX11_isInRow 2 := ⟨by decide +kernel, by decide +kernel, by decide +kernel⟩
theorem sv_RX11_220_11 : pm_sv RX11 220 RX11 yX11_isInRow 2 := Or.inl ⟨wt_799, wt_801, wp_25, wt_1, rfl, pl_X11_isInRow⟩
theorem pl_X11_isPlace : pm_plain yX11_isPlace 1 := ⟨by decide +kernel, by decide +kernel, by decide +kernel⟩
theorem ss_RX11_223 : pm_ss RX11 223 yX11_isPlace 1 := ⟨Or.inl wt_815, wt_816, wt_1, pl_X11_isPlace⟩
theorem flg_RX11_43 : ∀ c, is 11 c = true → ∃ r, vwCl[c]? = some r ∧ pm_fl RX11 43 r 7 ∧ pm_ft (r.2.1 7).2.2.1 = 3 := by
  intro c h
  have e : c = 11 := by simpa [is] using h
  subst e
  exact ⟨(RX11, TX11, 10), rfl, ⟨by decide, "SungAsleep", wt_165, Or.inl rfl⟩, by decide +kernel⟩
theorem flg_RX11_226 : ∀ c, is 5 c = true → ∃ r, vwCl[c]? = some r ∧ pm_fl RX11 226 r 0 ∧ pm_ft (r.2.1 0).2.2.1 = 0 := by
  intro c h
  have e : c = 5 := by simpa [is] using h
  subst e
  exact ⟨(RX5, TX5, 2), rfl, ⟨by decide, "SungAsleep$Row", wt_836, Or.inl rfl⟩, by decide +kernel⟩
theorem flg_RX11_229 : ∀ c, is 5 c = true → ∃ r, vwCl[c]? = some r ∧ pm_fl RX11 229 r 1 ∧ pm_ft (r.2.1 1).2.2.1 = 3 := by
  intro c h
  have e : c = 5 := by simpa [is] using h
  subst e
  exact ⟨(RX5, TX5, 2), rfl, ⟨by decide, "SungAsleep$Row", wt_838, Or.inl rfl⟩, by decide +kernel⟩
theorem pl_X5_init : pm_plain yX5_init 2 := ⟨by decide +kernel, by decide +kernel, by decide +kernel⟩
theorem si_RX11_240 : pm_si RX11 240 yX5_init 2 := ⟨Or.inl wt_830, wt_831, wt_19, rfl, pl_X5_init⟩
theorem pl_X5_has : pm_plain yX5_has 1 := ⟨by decide +kernel, by decide +kernel, by decide +kernel⟩
theorem sv_RX11_243_5 : pm_sv RX11 243 RX5 yX5_has 1 := Or.inl ⟨wt_849, wt_850, wt_851, wt_19, rfl, pl_X5_has⟩
theorem pl_X5_narrowed : pm_plain yX5_narrowed 1 := ⟨by decide +kernel, by decide +kernel, by decide +kernel⟩
theorem sv_RX11_246_5 : pm_sv RX11 246 RX5 yX5_narrowed 1 := Or.inl ⟨wt_853, wt_854, wt_855, wt_19, rfl, pl_X5_narrowed⟩
theorem flg_RX11_50 : ∀ c, is 11 c = true → ∃ r, vwCl[c]? = some r ∧ pm_fl RX11 50 r 9 ∧ pm_ft (r.2.1 9).2.2.1 = 3 := by
  intro c h
  have e : c = 11 := by simpa [is] using h
  subst e
  exact ⟨(RX11, TX11, 10), rfl, ⟨by decide, "SungAsleep", wt_167, Or.inl rfl⟩, by decide +kernel⟩
theorem flg_RX11_47 : ∀ c, is 11 c = true → ∃ r, vwCl[c]? = some r ∧ pm_fl RX11 47 r 8 ∧ pm_ft (r.2.1 8).2.2.1 = 3 := by
  intro c h
  have e : c = 11 := by simpa [is] using h
  subst e
  exact ⟨(RX11, TX11, 10), rfl, ⟨by decide, "SungAsleep", wt_166, Or.inl rfl⟩, by decide +kernel⟩
theorem pl_X11_isOfKind : pm_plain yX11_isOfKind 2 := ⟨by decide +kernel, by decide +kernel, by decide +kernel⟩
theorem ss_RX11_250 : pm_ss RX11 250 yX11_isOfKind 2 := ⟨Or.inl wt_869, wt_870, wt_1, pl_X11_isOfKind⟩
theorem flg_RX11_254 : ∀ c, pm_slp c = true → ∃ r, vwCl[c]? = some r ∧ pm_fl RX11 254 r 0 ∧ pm_ft (r.2.1 0).2.2.1 = 0 := by
  intro c h
  rcases pm_slp_of h with rfl | rfl | rfl | rfl | rfl | rfl
  · exact ⟨(RX0, TX0, 7), rfl, ⟨by decide, "SungAsleep$Sleeper", wt_348, Or.inl rfl⟩, by decide +kernel⟩
  · exact ⟨(RX1, TX1, 7), rfl, ⟨by decide, "SungAsleep$Sleeper", wt_348, Or.inl rfl⟩, by decide +kernel⟩
  · exact ⟨(RX2, TX2, 7), rfl, ⟨by decide, "SungAsleep$Sleeper", wt_348, Or.inl rfl⟩, by decide +kernel⟩
  · exact ⟨(RX4, TX4, 7), rfl, ⟨by decide, "SungAsleep$Sleeper", wt_348, Or.inl rfl⟩, by decide +kernel⟩
  · exact ⟨(RX6, TX6, 7), rfl, ⟨by decide, "SungAsleep$Sleeper", wt_348, Or.inl rfl⟩, by decide +kernel⟩
  · exact ⟨(RX9, TX9, 7), rfl, ⟨by decide, "SungAsleep$Sleeper", wt_348, Or.inl rfl⟩, by decide +kernel⟩
theorem flg_RX11_33 : ∀ c, is 11 c = true → ∃ r, vwCl[c]? = some r ∧ pm_fl RX11 33 r 4 ∧ pm_ft (r.2.1 4).2.2.1 = 3 := by
  intro c h
  have e : c = 11 := by simpa [is] using h
  subst e
  exact ⟨(RX11, TX11, 10), rfl, ⟨by decide, "SungAsleep", wt_162, Or.inl rfl⟩, by decide +kernel⟩
theorem pl_X8_clear : pm_plain yX8_clear 0 := ⟨by decide +kernel, by decide +kernel, by decide +kernel⟩
theorem sv_RX11_257_8 : pm_sv RX11 257 RX8 yX8_clear 0 := Or.inl ⟨wt_876, wt_877, wt_878, wt_5, rfl, pl_X8_clear⟩
theorem sv_RX11_260_0 : pm_sv RX11 260 RX0 yX6_sings 2 := Or.inr ⟨yX6_sings, RX6, wt_880, wt_883, wt_884, wt_881, wt_12, by decide +kernel, by decide +kernel, by decide +kernel, Or.inl rfl⟩
theorem sv_RX11_260_1 : pm_sv RX11 260 RX1 yX1_sings 2 := Or.inr ⟨yX6_sings, RX6, wt_880, wt_883, wt_885, wt_886, wt_16, by decide +kernel, by decide +kernel, by decide +kernel, Or.inr ⟨wt_881, _, _, _, wt_906⟩⟩
theorem sv_RX11_260_2 : pm_sv RX11 260 RX2 yX2_sings 2 := Or.inr ⟨yX6_sings, RX6, wt_880, wt_883, wt_897, wt_893, wt_14, by decide +kernel, by decide +kernel, by decide +kernel, Or.inr ⟨wt_881, _, _, _, wt_906⟩⟩
theorem sv_RX11_260_4 : pm_sv RX11 260 RX4 yX4_sings 2 := Or.inr ⟨yX6_sings, RX6, wt_880, wt_883, wt_898, wt_899, wt_15, by decide +kernel, by decide +kernel, by decide +kernel, Or.inr ⟨wt_881, _, _, _, wt_906⟩⟩
theorem pl_X6_sings : pm_plain yX6_sings 2 := ⟨by decide +kernel, by decide +kernel, by decide +kernel⟩
theorem sv_RX11_260_6 : pm_sv RX11 260 RX6 yX6_sings 2 := Or.inl ⟨wt_880, wt_881, wt_882, wt_12, rfl, pl_X6_sings⟩
theorem sv_RX11_260_9 : pm_sv RX11 260 RX9 yX6_sings 2 := Or.inr ⟨yX6_sings, RX6, wt_880, wt_883, wt_905, wt_881, wt_12, by decide +kernel, by decide +kernel, by decide +kernel, Or.inl rfl⟩
theorem sv_RX11_264_0 : pm_sv RX11 264 RX0 yX0_needs 2 := Or.inr ⟨yX6_needs, RX6, wt_907, wt_910, wt_911, wt_912, wt_13, by decide +kernel, by decide +kernel, by decide +kernel, Or.inr ⟨wt_908, _, _, _, wt_926⟩⟩
theorem sv_RX11_264_1 : pm_sv RX11 264 RX1 yX1_needs 2 := Or.inr ⟨yX6_needs, RX6, wt_907, wt_910, wt_916, wt_917, wt_16, by decide +kernel, by decide +kernel, by decide +kernel, Or.inr ⟨wt_908, _, _, _, wt_926⟩⟩
theorem sv_RX11_264_2 : pm_sv RX11 264 RX2 yX6_needs 2 := Or.inr ⟨yX6_needs, RX6, wt_907, wt_910, wt_923, wt_908, wt_12, by decide +kernel, by decide +kernel, by decide +kernel, Or.inl rfl⟩
theorem sv_RX11_264_4 : pm_sv RX11 264 RX4 yX0_needs 2 := Or.inr ⟨yX6_needs, RX6, wt_907, wt_910, wt_924, wt_912, wt_13, by decide +kernel, by decide +kernel, by decide +kernel, Or.inr ⟨wt_908, _, _, _, wt_926⟩⟩
theorem pl_X6_needs : pm_plain yX6_needs 2 := ⟨by decide +kernel, by decide +kernel, by decide +kernel⟩
theorem sv_RX11_264_6 : pm_sv RX11 264 RX6 yX6_needs 2 := Or.inl ⟨wt_907, wt_908, wt_909, wt_12, rfl, pl_X6_needs⟩
theorem sv_RX11_264_9 : pm_sv RX11 264 RX9 yX6_needs 2 := Or.inr ⟨yX6_needs, RX6, wt_907, wt_910, wt_925, wt_908, wt_12, by decide +kernel, by decide +kernel, by decide +kernel, Or.inl rfl⟩
theorem sv_RX11_267_0 : pm_sv RX11 267 RX0 yX6_shares 2 := Or.inr ⟨yX6_shares, RX6, wt_929, wt_932, wt_933, wt_930, wt_12, by decide +kernel, by decide +kernel, by decide +kernel, Or.inl rfl⟩
theorem sv_RX11_267_1 : pm_sv RX11 267 RX1 yX6_shares 2 := Or.inr ⟨yX6_shares, RX6, wt_929, wt_932, wt_934, wt_930, wt_12, by decide +kernel, by decide +kernel, by decide +kernel, Or.inl rfl⟩
theorem sv_RX11_267_2 : pm_sv RX11 267 RX2 yX6_shares 2 := Or.inr ⟨yX6_shares, RX6, wt_929, wt_932, wt_935, wt_930, wt_12, by decide +kernel, by decide +kernel, by decide +kernel, Or.inl rfl⟩
theorem sv_RX11_267_4 : pm_sv RX11 267 RX4 yX4_shares 2 := Or.inr ⟨yX6_shares, RX6, wt_929, wt_932, wt_936, wt_937, wt_15, by decide +kernel, by decide +kernel, by decide +kernel, Or.inr ⟨wt_930, _, _, _, wt_950⟩⟩
theorem pl_X6_shares : pm_plain yX6_shares 2 := ⟨by decide +kernel, by decide +kernel, by decide +kernel⟩
theorem sv_RX11_267_6 : pm_sv RX11 267 RX6 yX6_shares 2 := Or.inl ⟨wt_929, wt_930, wt_931, wt_12, rfl, pl_X6_shares⟩
theorem sv_RX11_267_9 : pm_sv RX11 267 RX9 yX9_shares 2 := Or.inr ⟨yX6_shares, RX6, wt_929, wt_932, wt_942, wt_943, wt_17, by decide +kernel, by decide +kernel, by decide +kernel, Or.inr ⟨wt_930, _, _, _, wt_950⟩⟩
theorem sv_RX11_270_0 : pm_sv RX11 270 RX0 yX6_tells 2 := Or.inr ⟨yX6_tells, RX6, wt_955, wt_958, wt_959, wt_956, wt_12, by decide +kernel, by decide +kernel, by decide +kernel, Or.inl rfl⟩
theorem sv_RX11_270_1 : pm_sv RX11 270 RX1 yX2_tells 2 := Or.inr ⟨yX6_tells, RX6, wt_955, wt_958, wt_960, wt_961, wt_14, by decide +kernel, by decide +kernel, by decide +kernel, Or.inr ⟨wt_956, _, _, _, wt_974⟩⟩
theorem sv_RX11_270_2 : pm_sv RX11 270 RX2 yX2_tells 2 := Or.inr ⟨yX6_tells, RX6, wt_955, wt_958, wt_968, wt_961, wt_14, by decide +kernel, by decide +kernel, by decide +kernel, Or.inr ⟨wt_956, _, _, _, wt_974⟩⟩
theorem sv_RX11_270_4 : pm_sv RX11 270 RX4 yX6_tells 2 := Or.inr ⟨yX6_tells, RX6, wt_955, wt_958, wt_969, wt_956, wt_12, by decide +kernel, by decide +kernel, by decide +kernel, Or.inl rfl⟩
theorem pl_X6_tells : pm_plain yX6_tells 2 := ⟨by decide +kernel, by decide +kernel, by decide +kernel⟩
theorem sv_RX11_270_6 : pm_sv RX11 270 RX6 yX6_tells 2 := Or.inl ⟨wt_955, wt_956, wt_957, wt_12, rfl, pl_X6_tells⟩
theorem sv_RX11_270_9 : pm_sv RX11 270 RX9 yX9_tells 2 := Or.inr ⟨yX6_tells, RX6, wt_955, wt_958, wt_970, wt_971, wt_17, by decide +kernel, by decide +kernel, by decide +kernel, Or.inr ⟨wt_956, _, _, _, wt_974⟩⟩
theorem flg_RX11_273 : ∀ c, is 8 c = true → ∃ r, vwCl[c]? = some r ∧ pm_fl RX11 273 r 2 ∧ pm_ft (r.2.1 2).2.2.1 = 1 := by
  intro c h
  have e : c = 8 := by simpa [is] using h
  subst e
  exact ⟨(RX8, TX8, 3), rfl, ⟨by decide, "SungAsleep$Trace", wt_148, Or.inl rfl⟩, by decide +kernel⟩
theorem flg_RX11_276 : ∀ c, is 8 c = true → ∃ r, vwCl[c]? = some r ∧ pm_fl RX11 276 r 1 ∧ pm_ft (r.2.1 1).2.2.1 = 0 := by
  intro c h
  have e : c = 8 := by simpa [is] using h
  subst e
  exact ⟨(RX8, TX8, 3), rfl, ⟨by decide, "SungAsleep$Trace", wt_145, Or.inl rfl⟩, by decide +kernel⟩
theorem flg_RX11_277 : ∀ c, is 8 c = true → ∃ r, vwCl[c]? = some r ∧ pm_fl RX11 277 r 0 ∧ pm_ft (r.2.1 0).2.2.1 = 3 := by
  intro c h
  have e : c = 8 := by simpa [is] using h
  subst e
  exact ⟨(RX8, TX8, 3), rfl, ⟨by decide, "SungAsleep$Trace", wt_142, Or.inl rfl⟩, by decide +kernel⟩
theorem pl_X10_copied : pm_plain yX10_copied 0 := ⟨by decide +kernel, by decide +kernel, by decide +kernel⟩
theorem sv_RX11_280_10 : pm_sv RX11 280 RX10 yX10_copied 0 := Or.inl ⟨wt_988, wt_989, wt_990, wt_2, rfl, pl_X10_copied⟩
theorem flp_RX11_284 : ∀ c, is 11 c = true → ∃ r, vwCl[c]? = some r ∧ pm_fl RX11 284 r 1 ∧ pm_ft (r.2.1 1).2.2.1 = 3 ∧ (r.2.1 1).2.2.2 = false := by
  intro c h
  have e : c = 11 := by simpa [is] using h
  subst e
  exact ⟨(RX11, TX11, 10), rfl, ⟨by decide, "SungAsleep", wt_159, Or.inl rfl⟩, by decide +kernel, rfl⟩
theorem flg_RX11_284 : ∀ c, is 11 c = true → ∃ r, vwCl[c]? = some r ∧ pm_fl RX11 284 r 1 ∧ pm_ft (r.2.1 1).2.2.1 = 3 := by
  intro c h
  have e : c = 11 := by simpa [is] using h
  subst e
  exact ⟨(RX11, TX11, 10), rfl, ⟨by decide, "SungAsleep", wt_159, Or.inl rfl⟩, by decide +kernel⟩
theorem pl_X0_init : pm_plain yX0_init 2 := ⟨by decide +kernel, by decide +kernel, by decide +kernel⟩
theorem si_RX11_289 : pm_si RX11 289 yX0_init 2 := ⟨Or.inl wt_333, wt_334, wt_13, rfl, pl_X0_init⟩
theorem pl_X2_init : pm_plain yX2_init 2 := ⟨by decide +kernel, by decide +kernel, by decide +kernel⟩
theorem si_RX11_292 : pm_si RX11 292 yX2_init 2 := ⟨Or.inl wt_389, wt_390, wt_14, rfl, pl_X2_init⟩
theorem pl_X4_init : pm_plain yX4_init 2 := ⟨by decide +kernel, by decide +kernel, by decide +kernel⟩
theorem si_RX11_295 : pm_si RX11 295 yX4_init 2 := ⟨Or.inl wt_403, wt_404, wt_15, rfl, pl_X4_init⟩
theorem pl_X1_init : pm_plain yX1_init 2 := ⟨by decide +kernel, by decide +kernel, by decide +kernel⟩
theorem si_RX11_298 : pm_si RX11 298 yX1_init 2 := ⟨Or.inl wt_417, wt_418, wt_16, rfl, pl_X1_init⟩
theorem pl_X9_init : pm_plain yX9_init 2 := ⟨by decide +kernel, by decide +kernel, by decide +kernel⟩
theorem si_RX11_301 : pm_si RX11 301 yX9_init 2 := ⟨Or.inl wt_431, wt_432, wt_17, rfl, pl_X9_init⟩
theorem pl_X6_init : pm_plain yX6_init 2 := ⟨by decide +kernel, by decide +kernel, by decide +kernel⟩
theorem si_RX11_302 : pm_si RX11 302 yX6_init 2 := ⟨Or.inl wt_445, wt_337, wt_12, rfl, pl_X6_init⟩
theorem flp_RX11_99 : ∀ c, pm_slp c = true → ∃ r, vwCl[c]? = some r ∧ pm_fl RX11 99 r 5 ∧ pm_ft (r.2.1 5).2.2.1 = 0 ∧ (r.2.1 5).2.2.2 = false := by
  intro c h
  rcases pm_slp_of h with rfl | rfl | rfl | rfl | rfl | rfl
  · exact ⟨(RX0, TX0, 7), rfl, ⟨by decide, "SungAsleep$Sleeper", wt_364, Or.inl rfl⟩, by decide +kernel, rfl⟩
  · exact ⟨(RX1, TX1, 7), rfl, ⟨by decide, "SungAsleep$Sleeper", wt_364, Or.inl rfl⟩, by decide +kernel, rfl⟩
  · exact ⟨(RX2, TX2, 7), rfl, ⟨by decide, "SungAsleep$Sleeper", wt_364, Or.inl rfl⟩, by decide +kernel, rfl⟩
  · exact ⟨(RX4, TX4, 7), rfl, ⟨by decide, "SungAsleep$Sleeper", wt_364, Or.inl rfl⟩, by decide +kernel, rfl⟩
  · exact ⟨(RX6, TX6, 7), rfl, ⟨by decide, "SungAsleep$Sleeper", wt_364, Or.inl rfl⟩, by decide +kernel, rfl⟩
  · exact ⟨(RX9, TX9, 7), rfl, ⟨by decide, "SungAsleep$Sleeper", wt_364, Or.inl rfl⟩, by decide +kernel, rfl⟩
theorem flp_RX6_9 : ∀ c, pm_slp c = true → ∃ r, vwCl[c]? = some r ∧ pm_fl RX6 9 r 2 ∧ pm_ft (r.2.1 2).2.2.1 = 0 ∧ (r.2.1 2).2.2.2 = false := by
  intro c h
  rcases pm_slp_of h with rfl | rfl | rfl | rfl | rfl | rfl
  · exact ⟨(RX0, TX0, 7), rfl, ⟨by decide, "SungAsleep$Sleeper", wt_355, Or.inl rfl⟩, by decide +kernel, rfl⟩
  · exact ⟨(RX1, TX1, 7), rfl, ⟨by decide, "SungAsleep$Sleeper", wt_355, Or.inl rfl⟩, by decide +kernel, rfl⟩
  · exact ⟨(RX2, TX2, 7), rfl, ⟨by decide, "SungAsleep$Sleeper", wt_355, Or.inl rfl⟩, by decide +kernel, rfl⟩
  · exact ⟨(RX4, TX4, 7), rfl, ⟨by decide, "SungAsleep$Sleeper", wt_355, Or.inl rfl⟩, by decide +kernel, rfl⟩
  · exact ⟨(RX6, TX6, 7), rfl, ⟨by decide, "SungAsleep$Sleeper", wt_355, Or.inl rfl⟩, by decide +kernel, rfl⟩
  · exact ⟨(RX9, TX9, 7), rfl, ⟨by decide, "SungAsleep$Sleeper", wt_355, Or.inl rfl⟩, by decide +kernel, rfl⟩
theorem flp_RX6_15 : ∀ c, pm_slp c = true → ∃ r, vwCl[c]? = some r ∧ pm_fl RX6 15 r 6 ∧ pm_ft (r.2.1 6).2.2.1 = 1 ∧ (r.2.1 6).2.2.2 = false := by
  intro c h
  rcases pm_slp_of h with rfl | rfl | rfl | rfl | rfl | rfl
  · exact ⟨(RX0, TX0, 7), rfl, ⟨by decide, "SungAsleep$Sleeper", wt_366, Or.inl rfl⟩, by decide +kernel, rfl⟩
  · exact ⟨(RX1, TX1, 7), rfl, ⟨by decide, "SungAsleep$Sleeper", wt_366, Or.inl rfl⟩, by decide +kernel, rfl⟩
  · exact ⟨(RX2, TX2, 7), rfl, ⟨by decide, "SungAsleep$Sleeper", wt_366, Or.inl rfl⟩, by decide +kernel, rfl⟩
  · exact ⟨(RX4, TX4, 7), rfl, ⟨by decide, "SungAsleep$Sleeper", wt_366, Or.inl rfl⟩, by decide +kernel, rfl⟩
  · exact ⟨(RX6, TX6, 7), rfl, ⟨by decide, "SungAsleep$Sleeper", wt_366, Or.inl rfl⟩, by decide +kernel, rfl⟩
  · exact ⟨(RX9, TX9, 7), rfl, ⟨by decide, "SungAsleep$Sleeper", wt_366, Or.inl rfl⟩, by decide +kernel, rfl⟩
theorem flp_RX6_19f : ∀ c, pm_slp c = true → ∃ r, vwCl[c]? = some r ∧ pm_fl RX6 19 r 0 ∧ pm_ft (r.2.1 0).2.2.1 = 0 ∧ ((r.2.1 0).2.2.2 = false ∨ ((r.2.1 0).2.2.2 = true ∧ "<init>" = "<init>" ∧ (r.2.1 0).1 = RX6)) := by
  intro c h
  rcases pm_slp_of h with rfl | rfl | rfl | rfl | rfl | rfl
  · exact ⟨(RX0, TX0, 7), rfl, ⟨by decide, "SungAsleep$Sleeper", wt_340, Or.inl rfl⟩, by decide +kernel, (Or.inr ⟨rfl, rfl, rfl⟩)⟩
  · exact ⟨(RX1, TX1, 7), rfl, ⟨by decide, "SungAsleep$Sleeper", wt_340, Or.inl rfl⟩, by decide +kernel, (Or.inr ⟨rfl, rfl, rfl⟩)⟩
  · exact ⟨(RX2, TX2, 7), rfl, ⟨by decide, "SungAsleep$Sleeper", wt_340, Or.inl rfl⟩, by decide +kernel, (Or.inr ⟨rfl, rfl, rfl⟩)⟩
  · exact ⟨(RX4, TX4, 7), rfl, ⟨by decide, "SungAsleep$Sleeper", wt_340, Or.inl rfl⟩, by decide +kernel, (Or.inr ⟨rfl, rfl, rfl⟩)⟩
  · exact ⟨(RX6, TX6, 7), rfl, ⟨by decide, "SungAsleep$Sleeper", wt_340, Or.inl rfl⟩, by decide +kernel, (Or.inr ⟨rfl, rfl, rfl⟩)⟩
  · exact ⟨(RX9, TX9, 7), rfl, ⟨by decide, "SungAsleep$Sleeper", wt_340, Or.inl rfl⟩, by decide +kernel, (Or.inr ⟨rfl, rfl, rfl⟩)⟩
theorem flp_RX6_22 : ∀ c, pm_slp c = true → ∃ r, vwCl[c]? = some r ∧ pm_fl RX6 22 r 1 ∧ pm_ft (r.2.1 1).2.2.1 = 0 ∧ (r.2.1 1).2.2.2 = false := by
  intro c h
  rcases pm_slp_of h with rfl | rfl | rfl | rfl | rfl | rfl
  · exact ⟨(RX0, TX0, 7), rfl, ⟨by decide, "SungAsleep$Sleeper", wt_349, Or.inl rfl⟩, by decide +kernel, rfl⟩
  · exact ⟨(RX1, TX1, 7), rfl, ⟨by decide, "SungAsleep$Sleeper", wt_349, Or.inl rfl⟩, by decide +kernel, rfl⟩
  · exact ⟨(RX2, TX2, 7), rfl, ⟨by decide, "SungAsleep$Sleeper", wt_349, Or.inl rfl⟩, by decide +kernel, rfl⟩
  · exact ⟨(RX4, TX4, 7), rfl, ⟨by decide, "SungAsleep$Sleeper", wt_349, Or.inl rfl⟩, by decide +kernel, rfl⟩
  · exact ⟨(RX6, TX6, 7), rfl, ⟨by decide, "SungAsleep$Sleeper", wt_349, Or.inl rfl⟩, by decide +kernel, rfl⟩
  · exact ⟨(RX9, TX9, 7), rfl, ⟨by decide, "SungAsleep$Sleeper", wt_349, Or.inl rfl⟩, by decide +kernel, rfl⟩
theorem flg_RX6_22 : ∀ c, pm_slp c = true → ∃ r, vwCl[c]? = some r ∧ pm_fl RX6 22 r 1 ∧ pm_ft (r.2.1 1).2.2.1 = 0 := by
  intro c h
  rcases pm_slp_of h with rfl | rfl | rfl | rfl | rfl | rfl
  · exact ⟨(RX0, TX0, 7), rfl, ⟨by decide, "SungAsleep$Sleeper", wt_349, Or.inl rfl⟩, by decide +kernel⟩
  · exact ⟨(RX1, TX1, 7), rfl, ⟨by decide, "SungAsleep$Sleeper", wt_349, Or.inl rfl⟩, by decide +kernel⟩
  · exact ⟨(RX2, TX2, 7), rfl, ⟨by decide, "SungAsleep$Sleeper", wt_349, Or.inl rfl⟩, by decide +kernel⟩
  · exact ⟨(RX4, TX4, 7), rfl, ⟨by decide, "SungAsleep$Sleeper", wt_349, Or.inl rfl⟩, by decide +kernel⟩
  · exact ⟨(RX6, TX6, 7), rfl, ⟨by decide, "SungAsleep$Sleeper", wt_349, Or.inl rfl⟩, by decide +kernel⟩
  · exact ⟨(RX9, TX9, 7), rfl, ⟨by decide, "SungAsleep$Sleeper", wt_349, Or.inl rfl⟩, by decide +kernel⟩
theorem flg_RX6_25 : ∀ c, is 8 c = true → ∃ r, vwCl[c]? = some r ∧ pm_fl RX6 25 r 2 ∧ pm_ft (r.2.1 2).2.2.1 = 1 := by
  intro c h
  have e : c = 8 := by simpa [is] using h
  subst e
  exact ⟨(RX8, TX8, 3), rfl, ⟨by decide, "SungAsleep$Trace", wt_147, Or.inl rfl⟩, by decide +kernel⟩
theorem flg_RX6_30 : ∀ c, is 8 c = true → ∃ r, vwCl[c]? = some r ∧ pm_fl RX6 30 r 1 ∧ pm_ft (r.2.1 1).2.2.1 = 0 := by
  intro c h
  have e : c = 8 := by simpa [is] using h
  subst e
  exact ⟨(RX8, TX8, 3), rfl, ⟨by decide, "SungAsleep$Trace", wt_144, Or.inl rfl⟩, by decide +kernel⟩
theorem flg_RX6_33 : ∀ c, is 8 c = true → ∃ r, vwCl[c]? = some r ∧ pm_fl RX6 33 r 0 ∧ pm_ft (r.2.1 0).2.2.1 = 3 := by
  intro c h
  have e : c = 8 := by simpa [is] using h
  subst e
  exact ⟨(RX8, TX8, 3), rfl, ⟨by decide, "SungAsleep$Trace", wt_141, Or.inl rfl⟩, by decide +kernel⟩
theorem flp_RX6_30 : ∀ c, is 8 c = true → ∃ r, vwCl[c]? = some r ∧ pm_fl RX6 30 r 1 ∧ pm_ft (r.2.1 1).2.2.1 = 0 ∧ (r.2.1 1).2.2.2 = false := by
  intro c h
  have e : c = 8 := by simpa [is] using h
  subst e
  exact ⟨(RX8, TX8, 3), rfl, ⟨by decide, "SungAsleep$Trace", wt_144, Or.inl rfl⟩, by decide +kernel, rfl⟩
theorem flg_RX6_19 : ∀ c, pm_slp c = true → ∃ r, vwCl[c]? = some r ∧ pm_fl RX6 19 r 0 ∧ pm_ft (r.2.1 0).2.2.1 = 0 := by
  intro c h
  rcases pm_slp_of h with rfl | rfl | rfl | rfl | rfl | rfl
  · exact ⟨(RX0, TX0, 7), rfl, ⟨by decide, "SungAsleep$Sleeper", wt_340, Or.inl rfl⟩, by decide +kernel⟩
  · exact ⟨(RX1, TX1, 7), rfl, ⟨by decide, "SungAsleep$Sleeper", wt_340, Or.inl rfl⟩, by decide +kernel⟩
  · exact ⟨(RX2, TX2, 7), rfl, ⟨by decide, "SungAsleep$Sleeper", wt_340, Or.inl rfl⟩, by decide +kernel⟩
  · exact ⟨(RX4, TX4, 7), rfl, ⟨by decide, "SungAsleep$Sleeper", wt_340, Or.inl rfl⟩, by decide +kernel⟩
  · exact ⟨(RX6, TX6, 7), rfl, ⟨by decide, "SungAsleep$Sleeper", wt_340, Or.inl rfl⟩, by decide +kernel⟩
  · exact ⟨(RX9, TX9, 7), rfl, ⟨by decide, "SungAsleep$Sleeper", wt_340, Or.inl rfl⟩, by decide +kernel⟩
theorem pl_X8_begins : pm_plain yX8_begins 1 := ⟨by decide +kernel, by decide +kernel, by decide +kernel⟩
theorem sv_RX6_37_8 : pm_sv RX6 37 RX8 yX8_begins 1 := Or.inl ⟨wt_927, wt_889, wt_890, wt_5, rfl, pl_X8_begins⟩
theorem sv_RX6_41_0 : pm_sv RX6 41 RX0 yX6_sings 2 := Or.inr ⟨yX6_sings, RX6, wt_928, wt_883, wt_884, wt_881, wt_12, by decide +kernel, by decide +kernel, by decide +kernel, Or.inl rfl⟩
theorem sv_RX6_41_1 : pm_sv RX6 41 RX1 yX1_sings 2 := Or.inr ⟨yX6_sings, RX6, wt_928, wt_883, wt_885, wt_886, wt_16, by decide +kernel, by decide +kernel, by decide +kernel, Or.inr ⟨wt_881, _, _, _, wt_906⟩⟩
theorem sv_RX6_41_2 : pm_sv RX6 41 RX2 yX2_sings 2 := Or.inr ⟨yX6_sings, RX6, wt_928, wt_883, wt_897, wt_893, wt_14, by decide +kernel, by decide +kernel, by decide +kernel, Or.inr ⟨wt_881, _, _, _, wt_906⟩⟩
theorem sv_RX6_41_4 : pm_sv RX6 41 RX4 yX4_sings 2 := Or.inr ⟨yX6_sings, RX6, wt_928, wt_883, wt_898, wt_899, wt_15, by decide +kernel, by decide +kernel, by decide +kernel, Or.inr ⟨wt_881, _, _, _, wt_906⟩⟩
theorem sv_RX6_41_6 : pm_sv RX6 41 RX6 yX6_sings 2 := Or.inl ⟨wt_928, wt_881, wt_882, wt_12, rfl, pl_X6_sings⟩
theorem sv_RX6_41_9 : pm_sv RX6 41 RX9 yX6_sings 2 := Or.inr ⟨yX6_sings, RX6, wt_928, wt_883, wt_905, wt_881, wt_12, by decide +kernel, by decide +kernel, by decide +kernel, Or.inl rfl⟩
theorem pl_X8_parted : pm_plain yX8_parted 2 := ⟨by decide +kernel, by decide +kernel, by decide +kernel⟩
theorem sv_RX6_45_8 : pm_sv RX6 45 RX8 yX8_parted 2 := Or.inl ⟨wt_951, wt_952, wt_953, wt_5, rfl, pl_X8_parted⟩
theorem sv_RX6_49_0 : pm_sv RX6 49 RX0 yX0_needs 2 := Or.inr ⟨yX6_needs, RX6, wt_975, wt_910, wt_911, wt_912, wt_13, by decide +kernel, by decide +kernel, by decide +kernel, Or.inr ⟨wt_908, _, _, _, wt_926⟩⟩
theorem sv_RX6_49_1 : pm_sv RX6 49 RX1 yX1_needs 2 := Or.inr ⟨yX6_needs, RX6, wt_975, wt_910, wt_916, wt_917, wt_16, by decide +kernel, by decide +kernel, by decide +kernel, Or.inr ⟨wt_908, _, _, _, wt_926⟩⟩
theorem sv_RX6_49_2 : pm_sv RX6 49 RX2 yX6_needs 2 := Or.inr ⟨yX6_needs, RX6, wt_975, wt_910, wt_923, wt_908, wt_12, by decide +kernel, by decide +kernel, by decide +kernel, Or.inl rfl⟩
theorem sv_RX6_49_4 : pm_sv RX6 49 RX4 yX0_needs 2 := Or.inr ⟨yX6_needs, RX6, wt_975, wt_910, wt_924, wt_912, wt_13, by decide +kernel, by decide +kernel, by decide +kernel, Or.inr ⟨wt_908, _, _, _, wt_926⟩⟩
theorem sv_RX6_49_6 : pm_sv RX6 49 RX6 yX6_needs 2 := Or.inl ⟨wt_975, wt_908, wt_909, wt_12, rfl, pl_X6_needs⟩
theorem sv_RX6_49_9 : pm_sv RX6 49 RX9 yX6_needs 2 := Or.inr ⟨yX6_needs, RX6, wt_975, wt_910, wt_925, wt_908, wt_12, by decide +kernel, by decide +kernel, by decide +kernel, Or.inl rfl⟩
theorem si_RX0_1 : pm_si RX0 1 yX6_init 2 := ⟨Or.inl wt_336, wt_337, wt_12, rfl, pl_X6_init⟩
theorem su_RX0_7 : pm_su RX0 7 yX6_minutes 0 := ⟨wt_504, wt_500, wt_385, wt_498, wt_12, by decide +kernel, by decide +kernel⟩
theorem sv_RX0_11_8 : pm_sv RX0 11 RX8 yX8_begins 1 := Or.inl ⟨wt_914, wt_889, wt_890, wt_5, rfl, pl_X8_begins⟩
theorem su_RX0_17 : pm_su RX0 17 yX6_needs 2 := ⟨wt_915, wt_910, wt_385, wt_908, wt_12, by decide +kernel, by decide +kernel⟩
theorem flg_RX0_21 : ∀ c, pm_slp c = true → ∃ r, vwCl[c]? = some r ∧ pm_fl RX0 21 r 1 ∧ pm_ft (r.2.1 1).2.2.1 = 0 := by
  intro c h
  rcases pm_slp_of h with rfl | rfl | rfl | rfl | rfl | rfl
  · exact ⟨(RX0, TX0, 7), rfl, ⟨by decide, "SungAsleep$Child", wt_350, Or.inr wt_351⟩, by decide +kernel⟩
  · exact ⟨(RX1, TX1, 7), rfl, ⟨by decide, "SungAsleep$Child", wt_350, Or.inr wt_351⟩, by decide +kernel⟩
  · exact ⟨(RX2, TX2, 7), rfl, ⟨by decide, "SungAsleep$Child", wt_350, Or.inr wt_351⟩, by decide +kernel⟩
  · exact ⟨(RX4, TX4, 7), rfl, ⟨by decide, "SungAsleep$Child", wt_350, Or.inr wt_351⟩, by decide +kernel⟩
  · exact ⟨(RX6, TX6, 7), rfl, ⟨by decide, "SungAsleep$Child", wt_350, Or.inr wt_351⟩, by decide +kernel⟩
  · exact ⟨(RX9, TX9, 7), rfl, ⟨by decide, "SungAsleep$Child", wt_350, Or.inr wt_351⟩, by decide +kernel⟩
theorem si_RX2_1 : pm_si RX2 1 yX6_init 2 := ⟨Or.inl wt_392, wt_337, wt_12, rfl, pl_X6_init⟩
theorem su_RX2_7 : pm_su RX2 7 yX6_minutes 0 := ⟨wt_508, wt_500, wt_400, wt_498, wt_12, by decide +kernel, by decide +kernel⟩
theorem sv_RX2_11_8 : pm_sv RX2 11 RX8 yX8_begins 1 := Or.inl ⟨wt_895, wt_889, wt_890, wt_5, rfl, pl_X8_begins⟩
theorem su_RX2_17 : pm_su RX2 17 yX6_sings 2 := ⟨wt_896, wt_883, wt_400, wt_881, wt_12, by decide +kernel, by decide +kernel⟩
theorem su_RX2_21 : pm_su RX2 21 yX6_tells 2 := ⟨wt_963, wt_958, wt_400, wt_956, wt_12, by decide +kernel, by decide +kernel⟩
theorem flg_RX2_24 : ∀ c, pm_slp c = true → ∃ r, vwCl[c]? = some r ∧ pm_fl RX2 24 r 0 ∧ pm_ft (r.2.1 0).2.2.1 = 0 := by
  intro c h
  rcases pm_slp_of h with rfl | rfl | rfl | rfl | rfl | rfl
  · exact ⟨(RX0, TX0, 7), rfl, ⟨by decide, "SungAsleep$Old", wt_345, Or.inr wt_346⟩, by decide +kernel⟩
  · exact ⟨(RX1, TX1, 7), rfl, ⟨by decide, "SungAsleep$Old", wt_345, Or.inr wt_346⟩, by decide +kernel⟩
  · exact ⟨(RX2, TX2, 7), rfl, ⟨by decide, "SungAsleep$Old", wt_345, Or.inr wt_346⟩, by decide +kernel⟩
  · exact ⟨(RX4, TX4, 7), rfl, ⟨by decide, "SungAsleep$Old", wt_345, Or.inr wt_346⟩, by decide +kernel⟩
  · exact ⟨(RX6, TX6, 7), rfl, ⟨by decide, "SungAsleep$Old", wt_345, Or.inr wt_346⟩, by decide +kernel⟩
  · exact ⟨(RX9, TX9, 7), rfl, ⟨by decide, "SungAsleep$Old", wt_345, Or.inr wt_346⟩, by decide +kernel⟩
theorem sv_RX2_30_1 : pm_sv RX2 30 RX1 yX6_shares 2 := Or.inr ⟨(⟨RX2, "shares", "(LSungAsleep$Trace;I)I"⟩ : MethodName), RX6, wt_964, wt_965, wt_966, wt_930, wt_12, by decide +kernel, by decide +kernel, by decide +kernel, Or.inl rfl⟩
theorem sv_RX2_30_2 : pm_sv RX2 30 RX2 yX6_shares 2 := Or.inr ⟨(⟨RX2, "shares", "(LSungAsleep$Trace;I)I"⟩ : MethodName), RX6, wt_964, wt_965, wt_967, wt_930, wt_12, by decide +kernel, by decide +kernel, by decide +kernel, Or.inl rfl⟩
theorem si_RX4_1 : pm_si RX4 1 yX0_init 2 := ⟨Or.inl wt_406, wt_334, wt_13, rfl, pl_X0_init⟩
theorem su_RX4_7 : pm_su RX4 7 yX0_minutes 0 := ⟨wt_513, wt_1572, wt_414, wt_502, wt_13, by decide +kernel, by decide +kernel⟩
theorem sv_RX4_11_8 : pm_sv RX4 11 RX8 yX8_begins 1 := Or.inl ⟨wt_901, wt_889, wt_890, wt_5, rfl, pl_X8_begins⟩
theorem flg_RX4_24 : ∀ c, pm_slp c = true → ∃ r, vwCl[c]? = some r ∧ pm_fl RX4 24 r 0 ∧ pm_ft (r.2.1 0).2.2.1 = 0 := by
  intro c h
  rcases pm_slp_of h with rfl | rfl | rfl | rfl | rfl | rfl
  · exact ⟨(RX0, TX0, 7), rfl, ⟨by decide, "SungAsleep$Restless", wt_341, Or.inr wt_342⟩, by decide +kernel⟩
  · exact ⟨(RX1, TX1, 7), rfl, ⟨by decide, "SungAsleep$Restless", wt_341, Or.inr wt_342⟩, by decide +kernel⟩
  · exact ⟨(RX2, TX2, 7), rfl, ⟨by decide, "SungAsleep$Restless", wt_341, Or.inr wt_342⟩, by decide +kernel⟩
  · exact ⟨(RX4, TX4, 7), rfl, ⟨by decide, "SungAsleep$Restless", wt_341, Or.inr wt_342⟩, by decide +kernel⟩
  · exact ⟨(RX6, TX6, 7), rfl, ⟨by decide, "SungAsleep$Restless", wt_341, Or.inr wt_342⟩, by decide +kernel⟩
  · exact ⟨(RX9, TX9, 7), rfl, ⟨by decide, "SungAsleep$Restless", wt_341, Or.inr wt_342⟩, by decide +kernel⟩
theorem si_RX1_1 : pm_si RX1 1 yX2_init 2 := ⟨Or.inl wt_420, wt_390, wt_14, rfl, pl_X2_init⟩
theorem sv_RX1_7_8 : pm_sv RX1 7 RX8 yX8_begins 1 := Or.inl ⟨wt_888, wt_889, wt_890, wt_5, rfl, pl_X8_begins⟩
theorem su_RX1_13 : pm_su RX1 13 yX2_sings 2 := ⟨wt_892, wt_1573, wt_428, wt_893, wt_14, by decide +kernel, by decide +kernel⟩
theorem flg_RX1_20 : ∀ c, pm_slp c = true → ∃ r, vwCl[c]? = some r ∧ pm_fl RX1 20 r 0 ∧ pm_ft (r.2.1 0).2.2.1 = 0 := by
  intro c h
  rcases pm_slp_of h with rfl | rfl | rfl | rfl | rfl | rfl
  · exact ⟨(RX0, TX0, 7), rfl, ⟨by decide, "SungAsleep$Deaf", wt_343, Or.inr wt_344⟩, by decide +kernel⟩
  · exact ⟨(RX1, TX1, 7), rfl, ⟨by decide, "SungAsleep$Deaf", wt_343, Or.inr wt_344⟩, by decide +kernel⟩
  · exact ⟨(RX2, TX2, 7), rfl, ⟨by decide, "SungAsleep$Deaf", wt_343, Or.inr wt_344⟩, by decide +kernel⟩
  · exact ⟨(RX4, TX4, 7), rfl, ⟨by decide, "SungAsleep$Deaf", wt_343, Or.inr wt_344⟩, by decide +kernel⟩
  · exact ⟨(RX6, TX6, 7), rfl, ⟨by decide, "SungAsleep$Deaf", wt_343, Or.inr wt_344⟩, by decide +kernel⟩
  · exact ⟨(RX9, TX9, 7), rfl, ⟨by decide, "SungAsleep$Deaf", wt_343, Or.inr wt_344⟩, by decide +kernel⟩
theorem pl_X1_sings : pm_plain yX1_sings 2 := ⟨by decide +kernel, by decide +kernel, by decide +kernel⟩
theorem sv_RX1_26_1 : pm_sv RX1 26 RX1 yX1_sings 2 := Or.inl ⟨wt_922, wt_886, wt_1574, wt_16, rfl, pl_X1_sings⟩
theorem si_RX9_1 : pm_si RX9 1 yX6_init 2 := ⟨Or.inl wt_434, wt_337, wt_12, rfl, pl_X6_init⟩
theorem sv_RX9_7_8 : pm_sv RX9 7 RX8 yX8_begins 1 := Or.inl ⟨wt_945, wt_889, wt_890, wt_5, rfl, pl_X8_begins⟩
theorem su_RX9_13 : pm_su RX9 13 yX6_tells 2 := ⟨wt_973, wt_958, wt_442, wt_956, wt_12, by decide +kernel, by decide +kernel⟩
theorem su_RX9_17 : pm_su RX9 17 yX6_shares 2 := ⟨wt_946, wt_932, wt_442, wt_930, wt_12, by decide +kernel, by decide +kernel⟩
theorem flg_RX9_20 : ∀ c, pm_slp c = true → ∃ r, vwCl[c]? = some r ∧ pm_fl RX9 20 r 1 ∧ pm_ft (r.2.1 1).2.2.1 = 0 := by
  intro c h
  rcases pm_slp_of h with rfl | rfl | rfl | rfl | rfl | rfl
  · exact ⟨(RX0, TX0, 7), rfl, ⟨by decide, "SungAsleep$Traveller", wt_352, Or.inr wt_353⟩, by decide +kernel⟩
  · exact ⟨(RX1, TX1, 7), rfl, ⟨by decide, "SungAsleep$Traveller", wt_352, Or.inr wt_353⟩, by decide +kernel⟩
  · exact ⟨(RX2, TX2, 7), rfl, ⟨by decide, "SungAsleep$Traveller", wt_352, Or.inr wt_353⟩, by decide +kernel⟩
  · exact ⟨(RX4, TX4, 7), rfl, ⟨by decide, "SungAsleep$Traveller", wt_352, Or.inr wt_353⟩, by decide +kernel⟩
  · exact ⟨(RX6, TX6, 7), rfl, ⟨by decide, "SungAsleep$Traveller", wt_352, Or.inr wt_353⟩, by decide +kernel⟩
  · exact ⟨(RX9, TX9, 7), rfl, ⟨by decide, "SungAsleep$Traveller", wt_352, Or.inr wt_353⟩, by decide +kernel⟩
theorem sv_RX9_26_9 : pm_sv RX9 26 RX9 yX6_sings 2 := Or.inr ⟨(⟨RX9, "sings", "(LSungAsleep$Trace;I)I"⟩ : MethodName), RX6, wt_947, wt_948, wt_949, wt_881, wt_12, by decide +kernel, by decide +kernel, by decide +kernel, Or.inl rfl⟩
theorem flp_RX8_9f : ∀ c, is 8 c = true → ∃ r, vwCl[c]? = some r ∧ pm_fl RX8 9 r 0 ∧ pm_ft (r.2.1 0).2.2.1 = 3 ∧ ((r.2.1 0).2.2.2 = false ∨ ((r.2.1 0).2.2.2 = true ∧ "<init>" = "<init>" ∧ (r.2.1 0).1 = RX8)) := by
  intro c h
  have e : c = 8 := by simpa [is] using h
  subst e
  exact ⟨(RX8, TX8, 3), rfl, ⟨by decide, "SungAsleep$Trace", wt_140, Or.inl rfl⟩, by decide +kernel, (Or.inr ⟨rfl, rfl, rfl⟩)⟩
theorem flp_RX8_15 : ∀ c, is 8 c = true → ∃ r, vwCl[c]? = some r ∧ pm_fl RX8 15 r 1 ∧ pm_ft (r.2.1 1).2.2.1 = 0 ∧ (r.2.1 1).2.2.2 = false := by
  intro c h
  have e : c = 8 := by simpa [is] using h
  subst e
  exact ⟨(RX8, TX8, 3), rfl, ⟨by decide, "SungAsleep$Trace", wt_143, Or.inl rfl⟩, by decide +kernel, rfl⟩
theorem flp_RX8_19 : ∀ c, is 8 c = true → ∃ r, vwCl[c]? = some r ∧ pm_fl RX8 19 r 2 ∧ pm_ft (r.2.1 2).2.2.1 = 1 ∧ (r.2.1 2).2.2.2 = false := by
  intro c h
  have e : c = 8 := by simpa [is] using h
  subst e
  exact ⟨(RX8, TX8, 3), rfl, ⟨by decide, "SungAsleep$Trace", wt_146, Or.inl rfl⟩, by decide +kernel, rfl⟩
theorem flg_RX8_19 : ∀ c, is 8 c = true → ∃ r, vwCl[c]? = some r ∧ pm_fl RX8 19 r 2 ∧ pm_ft (r.2.1 2).2.2.1 = 1 := by
  intro c h
  have e : c = 8 := by simpa [is] using h
  subst e
  exact ⟨(RX8, TX8, 3), rfl, ⟨by decide, "SungAsleep$Trace", wt_146, Or.inl rfl⟩, by decide +kernel⟩
theorem flg_RX8_15 : ∀ c, is 8 c = true → ∃ r, vwCl[c]? = some r ∧ pm_fl RX8 15 r 1 ∧ pm_ft (r.2.1 1).2.2.1 = 0 := by
  intro c h
  have e : c = 8 := by simpa [is] using h
  subst e
  exact ⟨(RX8, TX8, 3), rfl, ⟨by decide, "SungAsleep$Trace", wt_143, Or.inl rfl⟩, by decide +kernel⟩
theorem flg_RX8_9 : ∀ c, is 8 c = true → ∃ r, vwCl[c]? = some r ∧ pm_fl RX8 9 r 0 ∧ pm_ft (r.2.1 0).2.2.1 = 3 := by
  intro c h
  have e : c = 8 := by simpa [is] using h
  subst e
  exact ⟨(RX8, TX8, 3), rfl, ⟨by decide, "SungAsleep$Trace", wt_140, Or.inl rfl⟩, by decide +kernel⟩
theorem flp_RX5_7f : ∀ c, is 5 c = true → ∃ r, vwCl[c]? = some r ∧ pm_fl RX5 7 r 0 ∧ pm_ft (r.2.1 0).2.2.1 = 0 ∧ ((r.2.1 0).2.2.2 = false ∨ ((r.2.1 0).2.2.2 = true ∧ "<init>" = "<init>" ∧ (r.2.1 0).1 = RX5)) := by
  intro c h
  have e : c = 5 := by simpa [is] using h
  subst e
  exact ⟨(RX5, TX5, 2), rfl, ⟨by decide, "SungAsleep$Row", wt_835, Or.inl rfl⟩, by decide +kernel, (Or.inr ⟨rfl, rfl, rfl⟩)⟩
theorem flp_RX5_19f : ∀ c, is 5 c = true → ∃ r, vwCl[c]? = some r ∧ pm_fl RX5 19 r 1 ∧ pm_ft (r.2.1 1).2.2.1 = 3 ∧ ((r.2.1 1).2.2.2 = false ∨ ((r.2.1 1).2.2.2 = true ∧ "<init>" = "<init>" ∧ (r.2.1 1).1 = RX5)) := by
  intro c h
  have e : c = 5 := by simpa [is] using h
  subst e
  exact ⟨(RX5, TX5, 2), rfl, ⟨by decide, "SungAsleep$Row", wt_837, Or.inl rfl⟩, by decide +kernel, (Or.inr ⟨rfl, rfl, rfl⟩)⟩
theorem flg_RX5_19 : ∀ c, is 5 c = true → ∃ r, vwCl[c]? = some r ∧ pm_fl RX5 19 r 1 ∧ pm_ft (r.2.1 1).2.2.1 = 3 := by
  intro c h
  have e : c = 5 := by simpa [is] using h
  subst e
  exact ⟨(RX5, TX5, 2), rfl, ⟨by decide, "SungAsleep$Row", wt_837, Or.inl rfl⟩, by decide +kernel⟩
theorem flg_RX5_7 : ∀ c, is 5 c = true → ∃ r, vwCl[c]? = some r ∧ pm_fl RX5 7 r 0 ∧ pm_ft (r.2.1 0).2.2.1 = 0 := by
  intro c h
  have e : c = 5 := by simpa [is] using h
  subst e
  exact ⟨(RX5, TX5, 2), rfl, ⟨by decide, "SungAsleep$Row", wt_835, Or.inl rfl⟩, by decide +kernel⟩
theorem flp_RX10_11f : ∀ c, is 10 c = true → ∃ r, vwCl[c]? = some r ∧ pm_fl RX10 11 r 0 ∧ pm_ft (r.2.1 0).2.2.1 = 3 ∧ ((r.2.1 0).2.2.2 = false ∨ ((r.2.1 0).2.2.2 = true ∧ "<init>" = "<init>" ∧ (r.2.1 0).1 = RX10)) := by
  intro c h
  have e : c = 10 := by simpa [is] using h
  subst e
  exact ⟨(RX10, TX10, 5), rfl, ⟨by decide, "SungAsleep$Valley", wt_37, Or.inl rfl⟩, by decide +kernel, (Or.inr ⟨rfl, rfl, rfl⟩)⟩
theorem flp_RX10_17f : ∀ c, is 10 c = true → ∃ r, vwCl[c]? = some r ∧ pm_fl RX10 17 r 1 ∧ pm_ft (r.2.1 1).2.2.1 = 3 ∧ ((r.2.1 1).2.2.2 = false ∨ ((r.2.1 1).2.2.2 = true ∧ "<init>" = "<init>" ∧ (r.2.1 1).1 = RX10)) := by
  intro c h
  have e : c = 10 := by simpa [is] using h
  subst e
  exact ⟨(RX10, TX10, 5), rfl, ⟨by decide, "SungAsleep$Valley", wt_39, Or.inl rfl⟩, by decide +kernel, (Or.inr ⟨rfl, rfl, rfl⟩)⟩
theorem flp_RX10_21 : ∀ c, is 10 c = true → ∃ r, vwCl[c]? = some r ∧ pm_fl RX10 21 r 4 ∧ pm_ft (r.2.1 4).2.2.1 = 0 ∧ (r.2.1 4).2.2.2 = false := by
  intro c h
  have e : c = 10 := by simpa [is] using h
  subst e
  exact ⟨(RX10, TX10, 5), rfl, ⟨by decide, "SungAsleep$Valley", wt_45, Or.inl rfl⟩, by decide +kernel, rfl⟩
theorem flg_RX10_25 : ∀ c, is 10 c = true → ∃ r, vwCl[c]? = some r ∧ pm_fl RX10 25 r 2 ∧ pm_ft (r.2.1 2).2.2.1 = 0 := by
  intro c h
  have e : c = 10 := by simpa [is] using h
  subst e
  exact ⟨(RX10, TX10, 5), rfl, ⟨by decide, "SungAsleep$Valley", wt_40, Or.inl rfl⟩, by decide +kernel⟩
theorem flg_RX10_11 : ∀ c, is 10 c = true → ∃ r, vwCl[c]? = some r ∧ pm_fl RX10 11 r 0 ∧ pm_ft (r.2.1 0).2.2.1 = 3 := by
  intro c h
  have e : c = 10 := by simpa [is] using h
  subst e
  exact ⟨(RX10, TX10, 5), rfl, ⟨by decide, "SungAsleep$Valley", wt_37, Or.inl rfl⟩, by decide +kernel⟩
theorem flp_RX10_25 : ∀ c, is 10 c = true → ∃ r, vwCl[c]? = some r ∧ pm_fl RX10 25 r 2 ∧ pm_ft (r.2.1 2).2.2.1 = 0 ∧ (r.2.1 2).2.2.2 = false := by
  intro c h
  have e : c = 10 := by simpa [is] using h
  subst e
  exact ⟨(RX10, TX10, 5), rfl, ⟨by decide, "SungAsleep$Valley", wt_40, Or.inl rfl⟩, by decide +kernel, rfl⟩
theorem flg_RX10_28 : ∀ c, pm_slp c = true → ∃ r, vwCl[c]? = some r ∧ pm_fl RX10 28 r 6 ∧ pm_ft (r.2.1 6).2.2.1 = 1 := by
  intro c h
  rcases pm_slp_of h with rfl | rfl | rfl | rfl | rfl | rfl
  · exact ⟨(RX0, TX0, 7), rfl, ⟨by decide, "SungAsleep$Sleeper", wt_368, Or.inl rfl⟩, by decide +kernel⟩
  · exact ⟨(RX1, TX1, 7), rfl, ⟨by decide, "SungAsleep$Sleeper", wt_368, Or.inl rfl⟩, by decide +kernel⟩
  · exact ⟨(RX2, TX2, 7), rfl, ⟨by decide, "SungAsleep$Sleeper", wt_368, Or.inl rfl⟩, by decide +kernel⟩
  · exact ⟨(RX4, TX4, 7), rfl, ⟨by decide, "SungAsleep$Sleeper", wt_368, Or.inl rfl⟩, by decide +kernel⟩
  · exact ⟨(RX6, TX6, 7), rfl, ⟨by decide, "SungAsleep$Sleeper", wt_368, Or.inl rfl⟩, by decide +kernel⟩
  · exact ⟨(RX9, TX9, 7), rfl, ⟨by decide, "SungAsleep$Sleeper", wt_368, Or.inl rfl⟩, by decide +kernel⟩
theorem sv_RX10_32_0 : pm_sv RX10 32 RX0 yX6_alone 0 := Or.inr ⟨yX6_alone, RX6, wt_557, wt_560, wt_561, wt_558, wt_12, by decide +kernel, by decide +kernel, by decide +kernel, Or.inl rfl⟩
theorem sv_RX10_32_1 : pm_sv RX10 32 RX1 yX1_alone 0 := Or.inr ⟨yX6_alone, RX6, wt_557, wt_560, wt_562, wt_563, wt_16, by decide +kernel, by decide +kernel, by decide +kernel, Or.inr ⟨wt_558, _, _, _, wt_568⟩⟩
theorem sv_RX10_32_2 : pm_sv RX10 32 RX2 yX6_alone 0 := Or.inr ⟨yX6_alone, RX6, wt_557, wt_560, wt_565, wt_558, wt_12, by decide +kernel, by decide +kernel, by decide +kernel, Or.inl rfl⟩
theorem sv_RX10_32_4 : pm_sv RX10 32 RX4 yX6_alone 0 := Or.inr ⟨yX6_alone, RX6, wt_557, wt_560, wt_566, wt_558, wt_12, by decide +kernel, by decide +kernel, by decide +kernel, Or.inl rfl⟩
theorem pl_X6_alone : pm_plain yX6_alone 0 := ⟨by decide +kernel, by decide +kernel, by decide +kernel⟩
theorem sv_RX10_32_6 : pm_sv RX10 32 RX6 yX6_alone 0 := Or.inl ⟨wt_557, wt_558, wt_559, wt_12, rfl, pl_X6_alone⟩
theorem sv_RX10_32_9 : pm_sv RX10 32 RX9 yX6_alone 0 := Or.inr ⟨yX6_alone, RX6, wt_557, wt_560, wt_567, wt_558, wt_12, by decide +kernel, by decide +kernel, by decide +kernel, Or.inl rfl⟩
theorem flg_RX10_36 : ∀ c, pm_slp c = true → ∃ r, vwCl[c]? = some r ∧ pm_fl RX10 36 r 5 ∧ pm_ft (r.2.1 5).2.2.1 = 0 := by
  intro c h
  rcases pm_slp_of h with rfl | rfl | rfl | rfl | rfl | rfl
  · exact ⟨(RX0, TX0, 7), rfl, ⟨by decide, "SungAsleep$Sleeper", wt_365, Or.inl rfl⟩, by decide +kernel⟩
  · exact ⟨(RX1, TX1, 7), rfl, ⟨by decide, "SungAsleep$Sleeper", wt_365, Or.inl rfl⟩, by decide +kernel⟩
  · exact ⟨(RX2, TX2, 7), rfl, ⟨by decide, "SungAsleep$Sleeper", wt_365, Or.inl rfl⟩, by decide +kernel⟩
  · exact ⟨(RX4, TX4, 7), rfl, ⟨by decide, "SungAsleep$Sleeper", wt_365, Or.inl rfl⟩, by decide +kernel⟩
  · exact ⟨(RX6, TX6, 7), rfl, ⟨by decide, "SungAsleep$Sleeper", wt_365, Or.inl rfl⟩, by decide +kernel⟩
  · exact ⟨(RX9, TX9, 7), rfl, ⟨by decide, "SungAsleep$Sleeper", wt_365, Or.inl rfl⟩, by decide +kernel⟩
theorem ss_RX10_39 : pm_ss RX10 39 yJ6_bitCount_0f7a4 1 := ⟨Or.inl wt_552, wt_319, wt_11, pl_J6_bitCount_0f7a4⟩
theorem sv_RX10_45_0 : pm_sv RX10 45 RX0 yX0_minutes 0 := Or.inr ⟨yX6_minutes, RX6, wt_569, wt_500, wt_501, wt_502, wt_13, by decide +kernel, by decide +kernel, by decide +kernel, Or.inr ⟨wt_498, _, _, _, wt_515⟩⟩
theorem sv_RX10_45_1 : pm_sv RX10 45 RX1 yX2_minutes 0 := Or.inr ⟨yX6_minutes, RX6, wt_569, wt_500, wt_505, wt_506, wt_14, by decide +kernel, by decide +kernel, by decide +kernel, Or.inr ⟨wt_498, _, _, _, wt_515⟩⟩
theorem sv_RX10_45_2 : pm_sv RX10 45 RX2 yX2_minutes 0 := Or.inr ⟨yX6_minutes, RX6, wt_569, wt_500, wt_509, wt_506, wt_14, by decide +kernel, by decide +kernel, by decide +kernel, Or.inr ⟨wt_498, _, _, _, wt_515⟩⟩
theorem sv_RX10_45_4 : pm_sv RX10 45 RX4 yX4_minutes 0 := Or.inr ⟨yX6_minutes, RX6, wt_569, wt_500, wt_510, wt_511, wt_15, by decide +kernel, by decide +kernel, by decide +kernel, Or.inr ⟨wt_498, _, _, _, wt_515⟩⟩
theorem sv_RX10_45_6 : pm_sv RX10 45 RX6 yX6_minutes 0 := Or.inl ⟨wt_569, wt_498, wt_499, wt_12, rfl, pl_X6_minutes⟩
theorem sv_RX10_45_9 : pm_sv RX10 45 RX9 yX6_minutes 0 := Or.inr ⟨yX6_minutes, RX6, wt_569, wt_500, wt_514, wt_498, wt_12, by decide +kernel, by decide +kernel, by decide +kernel, Or.inl rfl⟩
theorem sv_RX10_55_10 : pm_sv RX10 55 RX10 yX10_at 1 := Or.inl ⟨wt_298, wt_299, wt_300, wt_2, rfl, pl_X10_at⟩
theorem sv_RX10_59_10 : pm_sv RX10 59 RX10 yX10_neededBy 1 := Or.inl ⟨wt_553, wt_554, wt_555, wt_2, rfl, pl_X10_neededBy⟩
theorem flg_RX10_62 : ∀ c, pm_slp c = true → ∃ r, vwCl[c]? = some r ∧ pm_fl RX10 62 r 2 ∧ pm_ft (r.2.1 2).2.2.1 = 0 := by
  intro c h
  rcases pm_slp_of h with rfl | rfl | rfl | rfl | rfl | rfl
  · exact ⟨(RX0, TX0, 7), rfl, ⟨by decide, "SungAsleep$Sleeper", wt_359, Or.inl rfl⟩, by decide +kernel⟩
  · exact ⟨(RX1, TX1, 7), rfl, ⟨by decide, "SungAsleep$Sleeper", wt_359, Or.inl rfl⟩, by decide +kernel⟩
  · exact ⟨(RX2, TX2, 7), rfl, ⟨by decide, "SungAsleep$Sleeper", wt_359, Or.inl rfl⟩, by decide +kernel⟩
  · exact ⟨(RX4, TX4, 7), rfl, ⟨by decide, "SungAsleep$Sleeper", wt_359, Or.inl rfl⟩, by decide +kernel⟩
  · exact ⟨(RX6, TX6, 7), rfl, ⟨by decide, "SungAsleep$Sleeper", wt_359, Or.inl rfl⟩, by decide +kernel⟩
  · exact ⟨(RX9, TX9, 7), rfl, ⟨by decide, "SungAsleep$Sleeper", wt_359, Or.inl rfl⟩, by decide +kernel⟩
theorem flp_RX10_65 : ∀ c, is 10 c = true → ∃ r, vwCl[c]? = some r ∧ pm_fl RX10 65 r 3 ∧ pm_ft (r.2.1 3).2.2.1 = 0 ∧ (r.2.1 3).2.2.2 = false := by
  intro c h
  have e : c = 10 := by simpa [is] using h
  subst e
  exact ⟨(RX10, TX10, 5), rfl, ⟨by decide, "SungAsleep$Valley", wt_43, Or.inl rfl⟩, by decide +kernel, rfl⟩
theorem flp_RX10_36 : ∀ c, pm_slp c = true → ∃ r, vwCl[c]? = some r ∧ pm_fl RX10 36 r 5 ∧ pm_ft (r.2.1 5).2.2.1 = 0 ∧ (r.2.1 5).2.2.2 = false := by
  intro c h
  rcases pm_slp_of h with rfl | rfl | rfl | rfl | rfl | rfl
  · exact ⟨(RX0, TX0, 7), rfl, ⟨by decide, "SungAsleep$Sleeper", wt_365, Or.inl rfl⟩, by decide +kernel, rfl⟩
  · exact ⟨(RX1, TX1, 7), rfl, ⟨by decide, "SungAsleep$Sleeper", wt_365, Or.inl rfl⟩, by decide +kernel, rfl⟩
  · exact ⟨(RX2, TX2, 7), rfl, ⟨by decide, "SungAsleep$Sleeper", wt_365, Or.inl rfl⟩, by decide +kernel, rfl⟩
  · exact ⟨(RX4, TX4, 7), rfl, ⟨by decide, "SungAsleep$Sleeper", wt_365, Or.inl rfl⟩, by decide +kernel, rfl⟩
  · exact ⟨(RX6, TX6, 7), rfl, ⟨by decide, "SungAsleep$Sleeper", wt_365, Or.inl rfl⟩, by decide +kernel, rfl⟩
  · exact ⟨(RX9, TX9, 7), rfl, ⟨by decide, "SungAsleep$Sleeper", wt_365, Or.inl rfl⟩, by decide +kernel, rfl⟩
theorem flp_RX10_28 : ∀ c, pm_slp c = true → ∃ r, vwCl[c]? = some r ∧ pm_fl RX10 28 r 6 ∧ pm_ft (r.2.1 6).2.2.1 = 1 ∧ (r.2.1 6).2.2.2 = false := by
  intro c h
  rcases pm_slp_of h with rfl | rfl | rfl | rfl | rfl | rfl
  · exact ⟨(RX0, TX0, 7), rfl, ⟨by decide, "SungAsleep$Sleeper", wt_368, Or.inl rfl⟩, by decide +kernel, rfl⟩
  · exact ⟨(RX1, TX1, 7), rfl, ⟨by decide, "SungAsleep$Sleeper", wt_368, Or.inl rfl⟩, by decide +kernel, rfl⟩
  · exact ⟨(RX2, TX2, 7), rfl, ⟨by decide, "SungAsleep$Sleeper", wt_368, Or.inl rfl⟩, by decide +kernel, rfl⟩
  · exact ⟨(RX4, TX4, 7), rfl, ⟨by decide, "SungAsleep$Sleeper", wt_368, Or.inl rfl⟩, by decide +kernel, rfl⟩
  · exact ⟨(RX6, TX6, 7), rfl, ⟨by decide, "SungAsleep$Sleeper", wt_368, Or.inl rfl⟩, by decide +kernel, rfl⟩
  · exact ⟨(RX9, TX9, 7), rfl, ⟨by decide, "SungAsleep$Sleeper", wt_368, Or.inl rfl⟩, by decide +kernel, rfl⟩
theorem pl_X10_settleWith : pm_plain yX10_settleWith 2 := ⟨by decide +kernel, by decide +kernel, by decide +kernel⟩
theorem sv_RX10_68_10 : pm_sv RX10 68 RX10 yX10_settleWith 2 := Or.inl ⟨wt_577, wt_579, wp_12, wt_2, rfl, pl_X10_settleWith⟩
theorem sv_RX10_72_0 : pm_sv RX10 72 RX0 yX6_pays 0 := Or.inr ⟨yX6_pays, RX6, wt_581, wt_584, wt_585, wt_582, wt_12, by decide +kernel, by decide +kernel, by decide +kernel, Or.inl rfl⟩
theorem sv_RX10_72_1 : pm_sv RX10 72 RX1 yX6_pays 0 := Or.inr ⟨yX6_pays, RX6, wt_581, wt_584, wt_586, wt_582, wt_12, by decide +kernel, by decide +kernel, by decide +kernel, Or.inl rfl⟩
theorem sv_RX10_72_2 : pm_sv RX10 72 RX2 yX6_pays 0 := Or.inr ⟨yX6_pays, RX6, wt_581, wt_584, wt_587, wt_582, wt_12, by decide +kernel, by decide +kernel, by decide +kernel, Or.inl rfl⟩
theorem sv_RX10_72_4 : pm_sv RX10 72 RX4 yX6_pays 0 := Or.inr ⟨yX6_pays, RX6, wt_581, wt_584, wt_588, wt_582, wt_12, by decide +kernel, by decide +kernel, by decide +kernel, Or.inl rfl⟩
theorem pl_X6_pays : pm_plain yX6_pays 0 := ⟨by decide +kernel, by decide +kernel, by decide +kernel⟩
theorem sv_RX10_72_6 : pm_sv RX10 72 RX6 yX6_pays 0 := Or.inl ⟨wt_581, wt_582, wt_583, wt_12, rfl, pl_X6_pays⟩
theorem sv_RX10_72_9 : pm_sv RX10 72 RX9 yX9_pays 0 := Or.inr ⟨yX6_pays, RX6, wt_581, wt_584, wt_589, wt_590, wt_17, by decide +kernel, by decide +kernel, by decide +kernel, Or.inr ⟨wt_582, _, _, _, wt_592⟩⟩
theorem flp_RX10_75 : ∀ c, pm_slp c = true → ∃ r, vwCl[c]? = some r ∧ pm_fl RX10 75 r 3 ∧ pm_ft (r.2.1 3).2.2.1 = 0 ∧ (r.2.1 3).2.2.2 = false := by
  intro c h
  rcases pm_slp_of h with rfl | rfl | rfl | rfl | rfl | rfl
  · exact ⟨(RX0, TX0, 7), rfl, ⟨by decide, "SungAsleep$Sleeper", wt_362, Or.inl rfl⟩, by decide +kernel, rfl⟩
  · exact ⟨(RX1, TX1, 7), rfl, ⟨by decide, "SungAsleep$Sleeper", wt_362, Or.inl rfl⟩, by decide +kernel, rfl⟩
  · exact ⟨(RX2, TX2, 7), rfl, ⟨by decide, "SungAsleep$Sleeper", wt_362, Or.inl rfl⟩, by decide +kernel, rfl⟩
  · exact ⟨(RX4, TX4, 7), rfl, ⟨by decide, "SungAsleep$Sleeper", wt_362, Or.inl rfl⟩, by decide +kernel, rfl⟩
  · exact ⟨(RX6, TX6, 7), rfl, ⟨by decide, "SungAsleep$Sleeper", wt_362, Or.inl rfl⟩, by decide +kernel, rfl⟩
  · exact ⟨(RX9, TX9, 7), rfl, ⟨by decide, "SungAsleep$Sleeper", wt_362, Or.inl rfl⟩, by decide +kernel, rfl⟩
theorem flg_RX10_78 : ∀ c, pm_slp c = true → ∃ r, vwCl[c]? = some r ∧ pm_fl RX10 78 r 0 ∧ pm_ft (r.2.1 0).2.2.1 = 0 := by
  intro c h
  rcases pm_slp_of h with rfl | rfl | rfl | rfl | rfl | rfl
  · exact ⟨(RX0, TX0, 7), rfl, ⟨by decide, "SungAsleep$Sleeper", wt_347, Or.inl rfl⟩, by decide +kernel⟩
  · exact ⟨(RX1, TX1, 7), rfl, ⟨by decide, "SungAsleep$Sleeper", wt_347, Or.inl rfl⟩, by decide +kernel⟩
  · exact ⟨(RX2, TX2, 7), rfl, ⟨by decide, "SungAsleep$Sleeper", wt_347, Or.inl rfl⟩, by decide +kernel⟩
  · exact ⟨(RX4, TX4, 7), rfl, ⟨by decide, "SungAsleep$Sleeper", wt_347, Or.inl rfl⟩, by decide +kernel⟩
  · exact ⟨(RX6, TX6, 7), rfl, ⟨by decide, "SungAsleep$Sleeper", wt_347, Or.inl rfl⟩, by decide +kernel⟩
  · exact ⟨(RX9, TX9, 7), rfl, ⟨by decide, "SungAsleep$Sleeper", wt_347, Or.inl rfl⟩, by decide +kernel⟩
theorem sv_RX10_81_10 : pm_sv RX10 81 RX10 yX10_debt 2 := Or.inl ⟨wt_593, wt_594, wt_595, wt_2, rfl, pl_X10_debt⟩
theorem sv_RX10_87_10 : pm_sv RX10 87 RX10 yX10_setDebt 3 := Or.inl ⟨wt_598, wt_295, wt_296, wt_2, rfl, pl_X10_setDebt⟩
theorem pl_X10_lessen : pm_plain yX10_lessen 3 := ⟨by decide +kernel, by decide +kernel, by decide +kernel⟩
theorem sv_RX10_91_10 : pm_sv RX10 91 RX10 yX10_lessen 3 := Or.inl ⟨wt_628, wt_630, wp_13, wt_2, rfl, pl_X10_lessen⟩
theorem flg_RX10_17 : ∀ c, is 10 c = true → ∃ r, vwCl[c]? = some r ∧ pm_fl RX10 17 r 1 ∧ pm_ft (r.2.1 1).2.2.1 = 3 := by
  intro c h
  have e : c = 10 := by simpa [is] using h
  subst e
  exact ⟨(RX10, TX10, 5), rfl, ⟨by decide, "SungAsleep$Valley", wt_39, Or.inl rfl⟩, by decide +kernel⟩
theorem si_RX10_94 : pm_si RX10 94 yX10_init 0 := ⟨Or.inl wt_993, wt_32, wt_2, rfl, pl_X10_init⟩
theorem flg_RX10_65 : ∀ c, is 10 c = true → ∃ r, vwCl[c]? = some r ∧ pm_fl RX10 65 r 3 ∧ pm_ft (r.2.1 3).2.2.1 = 0 := by
  intro c h
  have e : c = 10 := by simpa [is] using h
  subst e
  exact ⟨(RX10, TX10, 5), rfl, ⟨by decide, "SungAsleep$Valley", wt_43, Or.inl rfl⟩, by decide +kernel⟩
theorem flg_RX10_21 : ∀ c, is 10 c = true → ∃ r, vwCl[c]? = some r ∧ pm_fl RX10 21 r 4 ∧ pm_ft (r.2.1 4).2.2.1 = 0 := by
  intro c h
  have e : c = 10 := by simpa [is] using h
  subst e
  exact ⟨(RX10, TX10, 5), rfl, ⟨by decide, "SungAsleep$Valley", wt_45, Or.inl rfl⟩, by decide +kernel⟩
theorem sv_RX10_101_0 : pm_sv RX10 101 RX0 yX0_kind 0 := Or.inr ⟨yX6_kind, RX6, wt_997, wt_480, wt_481, wt_482, wt_13, by decide +kernel, by decide +kernel, by decide +kernel, Or.inr ⟨wt_478, _, _, _, wt_496⟩⟩
theorem sv_RX10_101_1 : pm_sv RX10 101 RX1 yX1_kind 0 := Or.inr ⟨yX6_kind, RX6, wt_997, wt_480, wt_484, wt_485, wt_16, by decide +kernel, by decide +kernel, by decide +kernel, Or.inr ⟨wt_478, _, _, _, wt_496⟩⟩
theorem sv_RX10_101_2 : pm_sv RX10 101 RX2 yX2_kind 0 := Or.inr ⟨yX6_kind, RX6, wt_997, wt_480, wt_487, wt_488, wt_14, by decide +kernel, by decide +kernel, by decide +kernel, Or.inr ⟨wt_478, _, _, _, wt_496⟩⟩
theorem sv_RX10_101_4 : pm_sv RX10 101 RX4 yX4_kind 0 := Or.inr ⟨yX6_kind, RX6, wt_997, wt_480, wt_490, wt_491, wt_15, by decide +kernel, by decide +kernel, by decide +kernel, Or.inr ⟨wt_478, _, _, _, wt_496⟩⟩
theorem sv_RX10_101_6 : pm_sv RX10 101 RX6 yX6_kind 0 := Or.inl ⟨wt_997, wt_478, wt_479, wt_12, rfl, pl_X6_kind⟩
theorem sv_RX10_101_9 : pm_sv RX10 101 RX9 yX9_kind 0 := Or.inr ⟨yX6_kind, RX6, wt_997, wt_480, wt_493, wt_494, wt_17, by decide +kernel, by decide +kernel, by decide +kernel, Or.inr ⟨wt_478, _, _, _, wt_496⟩⟩
theorem ss_RX10_104 : pm_ss RX10 104 yX11_likeness 2 := ⟨Or.inr (by simp [pm_nest]), wt_530, wt_1, pl_X11_likeness⟩
theorem flp_RX3_9f : ∀ c, is 3 c = true → ∃ r, vwCl[c]? = some r ∧ pm_fl RX3 9 r 0 ∧ pm_ft (r.2.1 0).2.2.1 = 3 ∧ ((r.2.1 0).2.2.2 = false ∨ ((r.2.1 0).2.2.2 = true ∧ "<init>" = "<init>" ∧ (r.2.1 0).1 = RX3)) := by
  intro c h
  have e : c = 3 := by simpa [is] using h
  subst e
  exact ⟨(RX3, TX3, 15), rfl, ⟨by decide, "SungAsleep$Reckoner", wt_65, Or.inl rfl⟩, by decide +kernel, (Or.inr ⟨rfl, rfl, rfl⟩)⟩
theorem flp_RX3_15f : ∀ c, is 3 c = true → ∃ r, vwCl[c]? = some r ∧ pm_fl RX3 15 r 3 ∧ pm_ft (r.2.1 3).2.2.1 = 3 ∧ ((r.2.1 3).2.2.2 = false ∨ ((r.2.1 3).2.2.2 = true ∧ "<init>" = "<init>" ∧ (r.2.1 3).1 = RX3)) := by
  intro c h
  have e : c = 3 := by simpa [is] using h
  subst e
  exact ⟨(RX3, TX3, 15), rfl, ⟨by decide, "SungAsleep$Reckoner", wt_68, Or.inl rfl⟩, by decide +kernel, (Or.inr ⟨rfl, rfl, rfl⟩)⟩
theorem flp_RX3_18f : ∀ c, is 3 c = true → ∃ r, vwCl[c]? = some r ∧ pm_fl RX3 18 r 5 ∧ pm_ft (r.2.1 5).2.2.1 = 3 ∧ ((r.2.1 5).2.2.2 = false ∨ ((r.2.1 5).2.2.2 = true ∧ "<init>" = "<init>" ∧ (r.2.1 5).1 = RX3)) := by
  intro c h
  have e : c = 3 := by simpa [is] using h
  subst e
  exact ⟨(RX3, TX3, 15), rfl, ⟨by decide, "SungAsleep$Reckoner", wt_70, Or.inl rfl⟩, by decide +kernel, (Or.inr ⟨rfl, rfl, rfl⟩)⟩
theorem flp_RX3_21f : ∀ c, is 3 c = true → ∃ r, vwCl[c]? = some r ∧ pm_fl RX3 21 r 6 ∧ pm_ft (r.2.1 6).2.2.1 = 3 ∧ ((r.2.1 6).2.2.2 = false ∨ ((r.2.1 6).2.2.2 = true ∧ "<init>" = "<init>" ∧ (r.2.1 6).1 = RX3)) := by
  intro c h
  have e : c = 3 := by simpa [is] using h
  subst e
  exact ⟨(RX3, TX3, 15), rfl, ⟨by decide, "SungAsleep$Reckoner", wt_71, Or.inl rfl⟩, by decide +kernel, (Or.inr ⟨rfl, rfl, rfl⟩)⟩
theorem flp_RX3_24f : ∀ c, is 3 c = true → ∃ r, vwCl[c]? = some r ∧ pm_fl RX3 24 r 7 ∧ pm_ft (r.2.1 7).2.2.1 = 3 ∧ ((r.2.1 7).2.2.2 = false ∨ ((r.2.1 7).2.2.2 = true ∧ "<init>" = "<init>" ∧ (r.2.1 7).1 = RX3)) := by
  intro c h
  have e : c = 3 := by simpa [is] using h
  subst e
  exact ⟨(RX3, TX3, 15), rfl, ⟨by decide, "SungAsleep$Reckoner", wt_72, Or.inl rfl⟩, by decide +kernel, (Or.inr ⟨rfl, rfl, rfl⟩)⟩
theorem flp_RX3_27f : ∀ c, is 3 c = true → ∃ r, vwCl[c]? = some r ∧ pm_fl RX3 27 r 8 ∧ pm_ft (r.2.1 8).2.2.1 = 3 ∧ ((r.2.1 8).2.2.2 = false ∨ ((r.2.1 8).2.2.2 = true ∧ "<init>" = "<init>" ∧ (r.2.1 8).1 = RX3)) := by
  intro c h
  have e : c = 3 := by simpa [is] using h
  subst e
  exact ⟨(RX3, TX3, 15), rfl, ⟨by decide, "SungAsleep$Reckoner", wt_73, Or.inl rfl⟩, by decide +kernel, (Or.inr ⟨rfl, rfl, rfl⟩)⟩
theorem flp_RX3_30f : ∀ c, is 3 c = true → ∃ r, vwCl[c]? = some r ∧ pm_fl RX3 30 r 9 ∧ pm_ft (r.2.1 9).2.2.1 = 3 ∧ ((r.2.1 9).2.2.2 = false ∨ ((r.2.1 9).2.2.2 = true ∧ "<init>" = "<init>" ∧ (r.2.1 9).1 = RX3)) := by
  intro c h
  have e : c = 3 := by simpa [is] using h
  subst e
  exact ⟨(RX3, TX3, 15), rfl, ⟨by decide, "SungAsleep$Reckoner", wt_74, Or.inl rfl⟩, by decide +kernel, (Or.inr ⟨rfl, rfl, rfl⟩)⟩
theorem flp_RX3_33f : ∀ c, is 3 c = true → ∃ r, vwCl[c]? = some r ∧ pm_fl RX3 33 r 10 ∧ pm_ft (r.2.1 10).2.2.1 = 3 ∧ ((r.2.1 10).2.2.2 = false ∨ ((r.2.1 10).2.2.2 = true ∧ "<init>" = "<init>" ∧ (r.2.1 10).1 = RX3)) := by
  intro c h
  have e : c = 3 := by simpa [is] using h
  subst e
  exact ⟨(RX3, TX3, 15), rfl, ⟨by decide, "SungAsleep$Reckoner", wt_75, Or.inl rfl⟩, by decide +kernel, (Or.inr ⟨rfl, rfl, rfl⟩)⟩
theorem flp_RX3_36f : ∀ c, is 3 c = true → ∃ r, vwCl[c]? = some r ∧ pm_fl RX3 36 r 11 ∧ pm_ft (r.2.1 11).2.2.1 = 3 ∧ ((r.2.1 11).2.2.2 = false ∨ ((r.2.1 11).2.2.2 = true ∧ "<init>" = "<init>" ∧ (r.2.1 11).1 = RX3)) := by
  intro c h
  have e : c = 3 := by simpa [is] using h
  subst e
  exact ⟨(RX3, TX3, 15), rfl, ⟨by decide, "SungAsleep$Reckoner", wt_76, Or.inl rfl⟩, by decide +kernel, (Or.inr ⟨rfl, rfl, rfl⟩)⟩
theorem flp_RX3_39f : ∀ c, is 3 c = true → ∃ r, vwCl[c]? = some r ∧ pm_fl RX3 39 r 12 ∧ pm_ft (r.2.1 12).2.2.1 = 3 ∧ ((r.2.1 12).2.2.2 = false ∨ ((r.2.1 12).2.2.2 = true ∧ "<init>" = "<init>" ∧ (r.2.1 12).1 = RX3)) := by
  intro c h
  have e : c = 3 := by simpa [is] using h
  subst e
  exact ⟨(RX3, TX3, 15), rfl, ⟨by decide, "SungAsleep$Reckoner", wt_77, Or.inl rfl⟩, by decide +kernel, (Or.inr ⟨rfl, rfl, rfl⟩)⟩
theorem flp_RX3_42f : ∀ c, is 3 c = true → ∃ r, vwCl[c]? = some r ∧ pm_fl RX3 42 r 13 ∧ pm_ft (r.2.1 13).2.2.1 = 3 ∧ ((r.2.1 13).2.2.2 = false ∨ ((r.2.1 13).2.2.2 = true ∧ "<init>" = "<init>" ∧ (r.2.1 13).1 = RX3)) := by
  intro c h
  have e : c = 3 := by simpa [is] using h
  subst e
  exact ⟨(RX3, TX3, 15), rfl, ⟨by decide, "SungAsleep$Reckoner", wt_79, Or.inl rfl⟩, by decide +kernel, (Or.inr ⟨rfl, rfl, rfl⟩)⟩
theorem sv_RX3_45_10 : pm_sv RX3 45 RX10 yX10_awakeSet 0 := Or.inl ⟨wt_670, wt_312, wt_313, wt_2, rfl, pl_X10_awakeSet⟩
theorem flp_RX3_51 : ∀ c, is 3 c = true → ∃ r, vwCl[c]? = some r ∧ pm_fl RX3 51 r 1 ∧ pm_ft (r.2.1 1).2.2.1 = 0 ∧ (r.2.1 1).2.2.2 = false := by
  intro c h
  have e : c = 3 := by simpa [is] using h
  subst e
  exact ⟨(RX3, TX3, 15), rfl, ⟨by decide, "SungAsleep$Reckoner", wt_66, Or.inl rfl⟩, by decide +kernel, rfl⟩
theorem pl_X10_aloneSet : pm_plain yX10_aloneSet 0 := ⟨by decide +kernel, by decide +kernel, by decide +kernel⟩
theorem sv_RX3_55_10 : pm_sv RX3 55 RX10 yX10_aloneSet 0 := Or.inl ⟨wt_671, wt_672, wt_673, wt_2, rfl, pl_X10_aloneSet⟩
theorem flp_RX3_58 : ∀ c, is 3 c = true → ∃ r, vwCl[c]? = some r ∧ pm_fl RX3 58 r 2 ∧ pm_ft (r.2.1 2).2.2.1 = 0 ∧ (r.2.1 2).2.2.2 = false := by
  intro c h
  have e : c = 3 := by simpa [is] using h
  subst e
  exact ⟨(RX3, TX3, 15), rfl, ⟨by decide, "SungAsleep$Reckoner", wt_67, Or.inl rfl⟩, by decide +kernel, rfl⟩
theorem pl_X3_note : pm_plain yX3_note 2 := ⟨by decide +kernel, by decide +kernel, by decide +kernel⟩
theorem sv_RX3_61_3 : pm_sv RX3 61 RX3 yX3_note 2 := Or.inl ⟨wt_675, wt_677, wp_16, wt_3, rfl, pl_X3_note⟩
theorem flg_RX3_58 : ∀ c, is 3 c = true → ∃ r, vwCl[c]? = some r ∧ pm_fl RX3 58 r 2 ∧ pm_ft (r.2.1 2).2.2.1 = 0 := by
  intro c h
  have e : c = 3 := by simpa [is] using h
  subst e
  exact ⟨(RX3, TX3, 15), rfl, ⟨by decide, "SungAsleep$Reckoner", wt_67, Or.inl rfl⟩, by decide +kernel⟩
theorem sv_RX3_65_10 : pm_sv RX3 65 RX10 yX10_at 1 := Or.inl ⟨wt_679, wt_299, wt_300, wt_2, rfl, pl_X10_at⟩
theorem flg_RX3_69 : ∀ c, pm_slp c = true → ∃ r, vwCl[c]? = some r ∧ pm_fl RX3 69 r 6 ∧ pm_ft (r.2.1 6).2.2.1 = 1 := by
  intro c h
  rcases pm_slp_of h with rfl | rfl | rfl | rfl | rfl | rfl
  · exact ⟨(RX0, TX0, 7), rfl, ⟨by decide, "SungAsleep$Sleeper", wt_367, Or.inl rfl⟩, by decide +kernel⟩
  · exact ⟨(RX1, TX1, 7), rfl, ⟨by decide, "SungAsleep$Sleeper", wt_367, Or.inl rfl⟩, by decide +kernel⟩
  · exact ⟨(RX2, TX2, 7), rfl, ⟨by decide, "SungAsleep$Sleeper", wt_367, Or.inl rfl⟩, by decide +kernel⟩
  · exact ⟨(RX4, TX4, 7), rfl, ⟨by decide, "SungAsleep$Sleeper", wt_367, Or.inl rfl⟩, by decide +kernel⟩
  · exact ⟨(RX6, TX6, 7), rfl, ⟨by decide, "SungAsleep$Sleeper", wt_367, Or.inl rfl⟩, by decide +kernel⟩
  · exact ⟨(RX9, TX9, 7), rfl, ⟨by decide, "SungAsleep$Sleeper", wt_367, Or.inl rfl⟩, by decide +kernel⟩
theorem sv_RX3_74_0 : pm_sv RX3 74 RX0 yX0_minutes 0 := Or.inr ⟨yX6_minutes, RX6, wt_680, wt_500, wt_501, wt_502, wt_13, by decide +kernel, by decide +kernel, by decide +kernel, Or.inr ⟨wt_498, _, _, _, wt_515⟩⟩
theorem sv_RX3_74_1 : pm_sv RX3 74 RX1 yX2_minutes 0 := Or.inr ⟨yX6_minutes, RX6, wt_680, wt_500, wt_505, wt_506, wt_14, by decide +kernel, by decide +kernel, by decide +kernel, Or.inr ⟨wt_498, _, _, _, wt_515⟩⟩
theorem sv_RX3_74_2 : pm_sv RX3 74 RX2 yX2_minutes 0 := Or.inr ⟨yX6_minutes, RX6, wt_680, wt_500, wt_509, wt_506, wt_14, by decide +kernel, by decide +kernel, by decide +kernel, Or.inr ⟨wt_498, _, _, _, wt_515⟩⟩
theorem sv_RX3_74_4 : pm_sv RX3 74 RX4 yX4_minutes 0 := Or.inr ⟨yX6_minutes, RX6, wt_680, wt_500, wt_510, wt_511, wt_15, by decide +kernel, by decide +kernel, by decide +kernel, Or.inr ⟨wt_498, _, _, _, wt_515⟩⟩
theorem sv_RX3_74_6 : pm_sv RX3 74 RX6 yX6_minutes 0 := Or.inl ⟨wt_680, wt_498, wt_499, wt_12, rfl, pl_X6_minutes⟩
theorem sv_RX3_74_9 : pm_sv RX3 74 RX9 yX6_minutes 0 := Or.inr ⟨yX6_minutes, RX6, wt_680, wt_500, wt_514, wt_498, wt_12, by decide +kernel, by decide +kernel, by decide +kernel, Or.inl rfl⟩
theorem flg_RX3_76 : ∀ c, pm_slp c = true → ∃ r, vwCl[c]? = some r ∧ pm_fl RX3 76 r 2 ∧ pm_ft (r.2.1 2).2.2.1 = 0 := by
  intro c h
  rcases pm_slp_of h with rfl | rfl | rfl | rfl | rfl | rfl
  · exact ⟨(RX0, TX0, 7), rfl, ⟨by decide, "SungAsleep$Sleeper", wt_356, Or.inl rfl⟩, by decide +kernel⟩
  · exact ⟨(RX1, TX1, 7), rfl, ⟨by decide, "SungAsleep$Sleeper", wt_356, Or.inl rfl⟩, by decide +kernel⟩
  · exact ⟨(RX2, TX2, 7), rfl, ⟨by decide, "SungAsleep$Sleeper", wt_356, Or.inl rfl⟩, by decide +kernel⟩
  · exact ⟨(RX4, TX4, 7), rfl, ⟨by decide, "SungAsleep$Sleeper", wt_356, Or.inl rfl⟩, by decide +kernel⟩
  · exact ⟨(RX6, TX6, 7), rfl, ⟨by decide, "SungAsleep$Sleeper", wt_356, Or.inl rfl⟩, by decide +kernel⟩
  · exact ⟨(RX9, TX9, 7), rfl, ⟨by decide, "SungAsleep$Sleeper", wt_356, Or.inl rfl⟩, by decide +kernel⟩
theorem pl_X3_reckon : pm_plain yX3_reckon 1 := ⟨by decide +kernel, by decide +kernel, by decide +kernel⟩
theorem sv_RX3_79_3 : pm_sv RX3 79 RX3 yX3_reckon 1 := Or.inl ⟨wt_681, wt_683, wp_17, wt_3, rfl, pl_X3_reckon⟩
theorem flg_RX3_9 : ∀ c, is 3 c = true → ∃ r, vwCl[c]? = some r ∧ pm_fl RX3 9 r 0 ∧ pm_ft (r.2.1 0).2.2.1 = 3 := by
  intro c h
  have e : c = 3 := by simpa [is] using h
  subst e
  exact ⟨(RX3, TX3, 15), rfl, ⟨by decide, "SungAsleep$Reckoner", wt_65, Or.inl rfl⟩, by decide +kernel⟩
theorem pl_X3_listSongs : pm_plain yX3_listSongs 0 := ⟨by decide +kernel, by decide +kernel, by decide +kernel⟩
theorem sv_RX3_83_3 : pm_sv RX3 83 RX3 yX3_listSongs 0 := Or.inl ⟨wt_685, wt_687, wp_18, wt_3, rfl, pl_X3_listSongs⟩
theorem flg_RX3_51 : ∀ c, is 3 c = true → ∃ r, vwCl[c]? = some r ∧ pm_fl RX3 51 r 1 ∧ pm_ft (r.2.1 1).2.2.1 = 0 := by
  intro c h
  have e : c = 3 := by simpa [is] using h
  subst e
  exact ⟨(RX3, TX3, 15), rfl, ⟨by decide, "SungAsleep$Reckoner", wt_66, Or.inl rfl⟩, by decide +kernel⟩
theorem pl_X3_reckonSet : pm_plain yX3_reckonSet 2 := ⟨by decide +kernel, by decide +kernel, by decide +kernel⟩
theorem sv_RX3_86_3 : pm_sv RX3 86 RX3 yX3_reckonSet 2 := Or.inl ⟨wt_700, wt_702, wp_21, wt_3, rfl, pl_X3_reckonSet⟩
theorem flp_RX3_90 : ∀ c, is 3 c = true → ∃ r, vwCl[c]? = some r ∧ pm_fl RX3 90 r 4 ∧ pm_ft (r.2.1 4).2.2.1 = 0 ∧ (r.2.1 4).2.2.2 = false := by
  intro c h
  have e : c = 3 := by simpa [is] using h
  subst e
  exact ⟨(RX3, TX3, 15), rfl, ⟨by decide, "SungAsleep$Reckoner", wt_69, Or.inl rfl⟩, by decide +kernel, rfl⟩
theorem ss_RX3_93 : pm_ss RX3 93 yJ6_numberOfTrailingZeros_0f7a4 1 := ⟨Or.inl wt_689, wt_621, wt_11, pl_J6_numberOfTrailingZeros_0f7a4⟩
theorem flg_RX3_18 : ∀ c, is 3 c = true → ∃ r, vwCl[c]? = some r ∧ pm_fl RX3 18 r 5 ∧ pm_ft (r.2.1 5).2.2.1 = 3 := by
  intro c h
  have e : c = 3 := by simpa [is] using h
  subst e
  exact ⟨(RX3, TX3, 15), rfl, ⟨by decide, "SungAsleep$Reckoner", wt_70, Or.inl rfl⟩, by decide +kernel⟩
theorem pl_X3_isSungTo : pm_plain yX3_isSungTo 1 := ⟨by decide +kernel, by decide +kernel, by decide +kernel⟩
theorem sv_RX3_105_3 : pm_sv RX3 105 RX3 yX3_isSungTo 1 := Or.inl ⟨wt_691, wt_693, wp_19, wt_3, rfl, pl_X3_isSungTo⟩
theorem flg_RX3_90 : ∀ c, is 3 c = true → ∃ r, vwCl[c]? = some r ∧ pm_fl RX3 90 r 4 ∧ pm_ft (r.2.1 4).2.2.1 = 0 := by
  intro c h
  have e : c = 3 := by simpa [is] using h
  subst e
  exact ⟨(RX3, TX3, 15), rfl, ⟨by decide, "SungAsleep$Reckoner", wt_69, Or.inl rfl⟩, by decide +kernel⟩
theorem flg_RX3_21 : ∀ c, is 3 c = true → ∃ r, vwCl[c]? = some r ∧ pm_fl RX3 21 r 6 ∧ pm_ft (r.2.1 6).2.2.1 = 3 := by
  intro c h
  have e : c = 3 := by simpa [is] using h
  subst e
  exact ⟨(RX3, TX3, 15), rfl, ⟨by decide, "SungAsleep$Reckoner", wt_71, Or.inl rfl⟩, by decide +kernel⟩
theorem pl_X3_ableFor : pm_plain yX3_ableFor 1 := ⟨by decide +kernel, by decide +kernel, by decide +kernel⟩
theorem sv_RX3_109_3 : pm_sv RX3 109 RX3 yX3_ableFor 1 := Or.inl ⟨wt_696, wt_698, wp_20, wt_3, rfl, pl_X3_ableFor⟩
theorem flg_RX3_15 : ∀ c, is 3 c = true → ∃ r, vwCl[c]? = some r ∧ pm_fl RX3 15 r 3 ∧ pm_ft (r.2.1 3).2.2.1 = 3 := by
  intro c h
  have e : c = 3 := by simpa [is] using h
  subst e
  exact ⟨(RX3, TX3, 15), rfl, ⟨by decide, "SungAsleep$Reckoner", wt_68, Or.inl rfl⟩, by decide +kernel⟩
theorem ss_RX3_112 : pm_ss RX3 112 yJ6_bitCount_0f7a4 1 := ⟨Or.inl wt_695, wt_319, wt_11, pl_J6_bitCount_0f7a4⟩
theorem ss_RX3_115 : pm_ss RX3 115 yX11_isOver 1 := ⟨Or.inr (by simp [pm_nest]), wt_316, wt_1, pl_X11_isOver⟩
theorem flg_RX3_24 : ∀ c, is 3 c = true → ∃ r, vwCl[c]? = some r ∧ pm_fl RX3 24 r 7 ∧ pm_ft (r.2.1 7).2.2.1 = 3 := by
  intro c h
  have e : c = 3 := by simpa [is] using h
  subst e
  exact ⟨(RX3, TX3, 15), rfl, ⟨by decide, "SungAsleep$Reckoner", wt_72, Or.inl rfl⟩, by decide +kernel⟩
theorem flg_RX3_27 : ∀ c, is 3 c = true → ∃ r, vwCl[c]? = some r ∧ pm_fl RX3 27 r 8 ∧ pm_ft (r.2.1 8).2.2.1 = 3 := by
  intro c h
  have e : c = 3 := by simpa [is] using h
  subst e
  exact ⟨(RX3, TX3, 15), rfl, ⟨by decide, "SungAsleep$Reckoner", wt_73, Or.inl rfl⟩, by decide +kernel⟩
theorem flg_RX3_30 : ∀ c, is 3 c = true → ∃ r, vwCl[c]? = some r ∧ pm_fl RX3 30 r 9 ∧ pm_ft (r.2.1 9).2.2.1 = 3 := by
  intro c h
  have e : c = 3 := by simpa [is] using h
  subst e
  exact ⟨(RX3, TX3, 15), rfl, ⟨by decide, "SungAsleep$Reckoner", wt_74, Or.inl rfl⟩, by decide +kernel⟩
theorem flg_RX3_33 : ∀ c, is 3 c = true → ∃ r, vwCl[c]? = some r ∧ pm_fl RX3 33 r 10 ∧ pm_ft (r.2.1 10).2.2.1 = 3 := by
  intro c h
  have e : c = 3 := by simpa [is] using h
  subst e
  exact ⟨(RX3, TX3, 15), rfl, ⟨by decide, "SungAsleep$Reckoner", wt_75, Or.inl rfl⟩, by decide +kernel⟩
theorem flg_RX3_36 : ∀ c, is 3 c = true → ∃ r, vwCl[c]? = some r ∧ pm_fl RX3 36 r 11 ∧ pm_ft (r.2.1 11).2.2.1 = 3 := by
  intro c h
  have e : c = 3 := by simpa [is] using h
  subst e
  exact ⟨(RX3, TX3, 15), rfl, ⟨by decide, "SungAsleep$Reckoner", wt_76, Or.inl rfl⟩, by decide +kernel⟩
theorem pl_X3_weigh : pm_plain yX3_weigh 2 := ⟨by decide +kernel, by decide +kernel, by decide +kernel⟩
theorem sv_RX3_119_3 : pm_sv RX3 119 RX3 yX3_weigh 2 := Or.inl ⟨wt_706, wt_708, wp_22, wt_3, rfl, pl_X3_weigh⟩
theorem flp_RX3_125 : ∀ c, is 3 c = true → ∃ r, vwCl[c]? = some r ∧ pm_fl RX3 125 r 14 ∧ pm_ft (r.2.1 14).2.2.1 = 0 ∧ (r.2.1 14).2.2.2 = false := by
  intro c h
  have e : c = 3 := by simpa [is] using h
  subst e
  exact ⟨(RX3, TX3, 15), rfl, ⟨by decide, "SungAsleep$Reckoner", wt_81, Or.inl rfl⟩, by decide +kernel, rfl⟩
theorem flg_RX3_125 : ∀ c, is 3 c = true → ∃ r, vwCl[c]? = some r ∧ pm_fl RX3 125 r 14 ∧ pm_ft (r.2.1 14).2.2.1 = 0 := by
  intro c h
  have e : c = 3 := by simpa [is] using h
  subst e
  exact ⟨(RX3, TX3, 15), rfl, ⟨by decide, "SungAsleep$Reckoner", wt_81, Or.inl rfl⟩, by decide +kernel⟩
theorem pl_X3_laySong : pm_plain yX3_laySong 2 := ⟨by decide +kernel, by decide +kernel, by decide +kernel⟩
theorem sv_RX3_128_3 : pm_sv RX3 128 RX3 yX3_laySong 2 := Or.inl ⟨wt_724, wt_726, wp_23, wt_3, rfl, pl_X3_laySong⟩
theorem flg_RX3_42 : ∀ c, is 3 c = true → ∃ r, vwCl[c]? = some r ∧ pm_fl RX3 42 r 13 ∧ pm_ft (r.2.1 13).2.2.1 = 3 := by
  intro c h
  have e : c = 3 := by simpa [is] using h
  subst e
  exact ⟨(RX3, TX3, 15), rfl, ⟨by decide, "SungAsleep$Reckoner", wt_79, Or.inl rfl⟩, by decide +kernel⟩
theorem pl_X3_isBest : pm_plain yX3_isBest 3 := ⟨by decide +kernel, by decide +kernel, by decide +kernel⟩
theorem sv_RX3_131_3 : pm_sv RX3 131 RX3 yX3_isBest 3 := Or.inl ⟨wt_728, wt_730, wp_24, wt_3, rfl, pl_X3_isBest⟩
theorem flg_RX3_39 : ∀ c, is 3 c = true → ∃ r, vwCl[c]? = some r ∧ pm_fl RX3 39 r 12 ∧ pm_ft (r.2.1 12).2.2.1 = 3 := by
  intro c h
  have e : c = 3 := by simpa [is] using h
  subst e
  exact ⟨(RX3, TX3, 15), rfl, ⟨by decide, "SungAsleep$Reckoner", wt_77, Or.inl rfl⟩, by decide +kernel⟩
theorem flp_RX7_9f : ∀ c, is 7 c = true → ∃ r, vwCl[c]? = some r ∧ pm_fl RX7 9 r 0 ∧ pm_ft (r.2.1 0).2.2.1 = 3 ∧ ((r.2.1 0).2.2.2 = false ∨ ((r.2.1 0).2.2.2 = true ∧ "<init>" = "<init>" ∧ (r.2.1 0).1 = RX7)) := by
  intro c h
  have e : c = 7 := by simpa [is] using h
  subst e
  exact ⟨(RX7, TX7, 4), rfl, ⟨by decide, "SungAsleep$Tape", wt_120, Or.inl rfl⟩, by decide +kernel, (Or.inr ⟨rfl, rfl, rfl⟩)⟩
theorem flg_RX7_15 : ∀ c, is 7 c = true → ∃ r, vwCl[c]? = some r ∧ pm_fl RX7 15 r 1 ∧ pm_ft (r.2.1 1).2.2.1 = 0 := by
  intro c h
  have e : c = 7 := by simpa [is] using h
  subst e
  exact ⟨(RX7, TX7, 4), rfl, ⟨by decide, "SungAsleep$Tape", wt_121, Or.inl rfl⟩, by decide +kernel⟩
theorem flg_RX7_9 : ∀ c, is 7 c = true → ∃ r, vwCl[c]? = some r ∧ pm_fl RX7 9 r 0 ∧ pm_ft (r.2.1 0).2.2.1 = 3 := by
  intro c h
  have e : c = 7 := by simpa [is] using h
  subst e
  exact ⟨(RX7, TX7, 4), rfl, ⟨by decide, "SungAsleep$Tape", wt_120, Or.inl rfl⟩, by decide +kernel⟩
theorem flp_RX7_15 : ∀ c, is 7 c = true → ∃ r, vwCl[c]? = some r ∧ pm_fl RX7 15 r 1 ∧ pm_ft (r.2.1 1).2.2.1 = 0 ∧ (r.2.1 1).2.2.2 = false := by
  intro c h
  have e : c = 7 := by simpa [is] using h
  subst e
  exact ⟨(RX7, TX7, 4), rfl, ⟨by decide, "SungAsleep$Tape", wt_121, Or.inl rfl⟩, by decide +kernel, rfl⟩
theorem flp_RX7_19 : ∀ c, is 7 c = true → ∃ r, vwCl[c]? = some r ∧ pm_fl RX7 19 r 2 ∧ pm_ft (r.2.1 2).2.2.1 = 0 ∧ (r.2.1 2).2.2.2 = false := by
  intro c h
  have e : c = 7 := by simpa [is] using h
  subst e
  exact ⟨(RX7, TX7, 4), rfl, ⟨by decide, "SungAsleep$Tape", wt_123, Or.inl rfl⟩, by decide +kernel, rfl⟩
theorem pl_X7_skipBlanks : pm_plain yX7_skipBlanks 0 := ⟨by decide +kernel, by decide +kernel, by decide +kernel⟩
theorem sv_RX7_22_7 : pm_sv RX7 22 RX7 yX7_skipBlanks 0 := Or.inl ⟨wt_205, wt_207, wp_0, wt_4, rfl, pl_X7_skipBlanks⟩
theorem flg_RX7_19 : ∀ c, is 7 c = true → ∃ r, vwCl[c]? = some r ∧ pm_fl RX7 19 r 2 ∧ pm_ft (r.2.1 2).2.2.1 = 0 := by
  intro c h
  have e : c = 7 := by simpa [is] using h
  subst e
  exact ⟨(RX7, TX7, 4), rfl, ⟨by decide, "SungAsleep$Tape", wt_123, Or.inl rfl⟩, by decide +kernel⟩
theorem pl_X7_wordHere : pm_plain yX7_wordHere 0 := ⟨by decide +kernel, by decide +kernel, by decide +kernel⟩
theorem sv_RX7_25_7 : pm_sv RX7 25 RX7 yX7_wordHere 0 := Or.inl ⟨wt_213, wt_215, wp_2, wt_4, rfl, pl_X7_wordHere⟩
theorem pl_X7_readsOwes : pm_plain yX7_readsOwes 1 := ⟨by decide +kernel, by decide +kernel, by decide +kernel⟩
theorem sv_RX7_29_7 : pm_sv RX7 29 RX7 yX7_readsOwes 1 := Or.inl ⟨wt_282, wt_284, wp_4, wt_4, rfl, pl_X7_readsOwes⟩
theorem pl_X7_readsAsleep : pm_plain yX7_readsAsleep 1 := ⟨by decide +kernel, by decide +kernel, by decide +kernel⟩
theorem sv_RX7_33_7 : pm_sv RX7 33 RX7 yX7_readsAsleep 1 := Or.inl ⟨wt_306, wt_308, wp_8, wt_4, rfl, pl_X7_readsAsleep⟩
theorem pl_X7_readsPerson : pm_plain yX7_readsPerson 2 := ⟨by decide +kernel, by decide +kernel, by decide +kernel⟩
theorem sv_RX7_36_7 : pm_sv RX7 36 RX7 yX7_readsPerson 2 := Or.inl ⟨wt_324, wt_326, wp_9, wt_4, rfl, pl_X7_readsPerson⟩
theorem flg_RX7_40 : ∀ c, is 10 c = true → ∃ r, vwCl[c]? = some r ∧ pm_fl RX7 40 r 2 ∧ pm_ft (r.2.1 2).2.2.1 = 0 := by
  intro c h
  have e : c = 10 := by simpa [is] using h
  subst e
  exact ⟨(RX10, TX10, 5), rfl, ⟨by decide, "SungAsleep$Valley", wt_42, Or.inl rfl⟩, by decide +kernel⟩
theorem pl_X7_pass : pm_plain yX7_pass 0 := ⟨by decide +kernel, by decide +kernel, by decide +kernel⟩
theorem sv_RX7_43_7 : pm_sv RX7 43 RX7 yX7_pass 0 := Or.inl ⟨wt_286, wt_288, wp_5, wt_4, rfl, pl_X7_pass⟩
theorem pl_X7_numberHere : pm_plain yX7_numberHere 2 := ⟨by decide +kernel, by decide +kernel, by decide +kernel⟩
theorem sv_RX7_46_7 : pm_sv RX7 46 RX7 yX7_numberHere 2 := Or.inl ⟨wt_290, wt_292, wp_6, wt_4, rfl, pl_X7_numberHere⟩
theorem ss_RX7_50 : pm_ss RX7 50 yX11_made 3 := ⟨Or.inr (by simp [pm_nest]), wt_329, wt_1, pl_X11_made⟩
theorem sv_RX7_54_10 : pm_sv RX7 54 RX10 yX10_join 1 := Or.inl ⟨wt_454, wt_455, wt_456, wt_2, rfl, pl_X10_join⟩
theorem pl_X7_readsVoice : pm_plain yX7_readsVoice 1 := ⟨by decide +kernel, by decide +kernel, by decide +kernel⟩
theorem sv_RX7_58_7 : pm_sv RX7 58 RX7 yX7_readsVoice 1 := Or.inl ⟨wt_458, wt_460, wp_10, wt_4, rfl, pl_X7_readsVoice⟩
theorem pl_X7_readsPurse : pm_plain yX7_readsPurse 1 := ⟨by decide +kernel, by decide +kernel, by decide +kernel⟩
theorem sv_RX7_62_7 : pm_sv RX7 62 RX7 yX7_readsPurse 1 := Or.inl ⟨wt_462, wt_464, wp_11, wt_4, rfl, pl_X7_readsPurse⟩
theorem pl_X7_readsSemicolon : pm_plain yX7_readsSemicolon 0 := ⟨by decide +kernel, by decide +kernel, by decide +kernel⟩
theorem sv_RX7_65_7 : pm_sv RX7 65 RX7 yX7_readsSemicolon 0 := Or.inl ⟨wt_302, wt_304, wp_7, wt_4, rfl, pl_X7_readsSemicolon⟩
theorem flp_RX7_69 : ∀ c, pm_slp c = true → ∃ r, vwCl[c]? = some r ∧ pm_fl RX7 69 r 2 ∧ pm_ft (r.2.1 2).2.2.1 = 0 ∧ (r.2.1 2).2.2.2 = false := by
  intro c h
  rcases pm_slp_of h with rfl | rfl | rfl | rfl | rfl | rfl
  · exact ⟨(RX0, TX0, 7), rfl, ⟨by decide, "SungAsleep$Sleeper", wt_357, Or.inl rfl⟩, by decide +kernel, rfl⟩
  · exact ⟨(RX1, TX1, 7), rfl, ⟨by decide, "SungAsleep$Sleeper", wt_357, Or.inl rfl⟩, by decide +kernel, rfl⟩
  · exact ⟨(RX2, TX2, 7), rfl, ⟨by decide, "SungAsleep$Sleeper", wt_357, Or.inl rfl⟩, by decide +kernel, rfl⟩
  · exact ⟨(RX4, TX4, 7), rfl, ⟨by decide, "SungAsleep$Sleeper", wt_357, Or.inl rfl⟩, by decide +kernel, rfl⟩
  · exact ⟨(RX6, TX6, 7), rfl, ⟨by decide, "SungAsleep$Sleeper", wt_357, Or.inl rfl⟩, by decide +kernel, rfl⟩
  · exact ⟨(RX9, TX9, 7), rfl, ⟨by decide, "SungAsleep$Sleeper", wt_357, Or.inl rfl⟩, by decide +kernel, rfl⟩
theorem flp_RX7_74 : ∀ c, pm_slp c = true → ∃ r, vwCl[c]? = some r ∧ pm_fl RX7 74 r 3 ∧ pm_ft (r.2.1 3).2.2.1 = 0 ∧ (r.2.1 3).2.2.2 = false := by
  intro c h
  rcases pm_slp_of h with rfl | rfl | rfl | rfl | rfl | rfl
  · exact ⟨(RX0, TX0, 7), rfl, ⟨by decide, "SungAsleep$Sleeper", wt_361, Or.inl rfl⟩, by decide +kernel, rfl⟩
  · exact ⟨(RX1, TX1, 7), rfl, ⟨by decide, "SungAsleep$Sleeper", wt_361, Or.inl rfl⟩, by decide +kernel, rfl⟩
  · exact ⟨(RX2, TX2, 7), rfl, ⟨by decide, "SungAsleep$Sleeper", wt_361, Or.inl rfl⟩, by decide +kernel, rfl⟩
  · exact ⟨(RX4, TX4, 7), rfl, ⟨by decide, "SungAsleep$Sleeper", wt_361, Or.inl rfl⟩, by decide +kernel, rfl⟩
  · exact ⟨(RX6, TX6, 7), rfl, ⟨by decide, "SungAsleep$Sleeper", wt_361, Or.inl rfl⟩, by decide +kernel, rfl⟩
  · exact ⟨(RX9, TX9, 7), rfl, ⟨by decide, "SungAsleep$Sleeper", wt_361, Or.inl rfl⟩, by decide +kernel, rfl⟩
theorem sv_RX7_77_10 : pm_sv RX7 77 RX10 yX10_setDebt 3 := Or.inl ⟨wt_294, wt_295, wt_296, wt_2, rfl, pl_X10_setDebt⟩
theorem sv_RX7_81_10 : pm_sv RX7 81 RX10 yX10_at 1 := Or.inl ⟨wt_310, wt_299, wt_300, wt_2, rfl, pl_X10_at⟩
theorem flg_RX7_85 : ∀ c, pm_slp c = true → ∃ r, vwCl[c]? = some r ∧ pm_fl RX7 85 r 6 ∧ pm_ft (r.2.1 6).2.2.1 = 1 := by
  intro c h
  rcases pm_slp_of h with rfl | rfl | rfl | rfl | rfl | rfl
  · exact ⟨(RX0, TX0, 7), rfl, ⟨by decide, "SungAsleep$Sleeper", wt_370, Or.inl rfl⟩, by decide +kernel⟩
  · exact ⟨(RX1, TX1, 7), rfl, ⟨by decide, "SungAsleep$Sleeper", wt_370, Or.inl rfl⟩, by decide +kernel⟩
  · exact ⟨(RX2, TX2, 7), rfl, ⟨by decide, "SungAsleep$Sleeper", wt_370, Or.inl rfl⟩, by decide +kernel⟩
  · exact ⟨(RX4, TX4, 7), rfl, ⟨by decide, "SungAsleep$Sleeper", wt_370, Or.inl rfl⟩, by decide +kernel⟩
  · exact ⟨(RX6, TX6, 7), rfl, ⟨by decide, "SungAsleep$Sleeper", wt_370, Or.inl rfl⟩, by decide +kernel⟩
  · exact ⟨(RX9, TX9, 7), rfl, ⟨by decide, "SungAsleep$Sleeper", wt_370, Or.inl rfl⟩, by decide +kernel⟩
theorem sv_RX7_89_10 : pm_sv RX7 89 RX10 yX10_awakeSet 0 := Or.inl ⟨wt_311, wt_312, wt_313, wt_2, rfl, pl_X10_awakeSet⟩
theorem ss_RX7_92 : pm_ss RX7 92 yX11_isOver 1 := ⟨Or.inr (by simp [pm_nest]), wt_316, wt_1, pl_X11_isOver⟩
theorem flp_RX7_85 : ∀ c, pm_slp c = true → ∃ r, vwCl[c]? = some r ∧ pm_fl RX7 85 r 6 ∧ pm_ft (r.2.1 6).2.2.1 = 1 ∧ (r.2.1 6).2.2.2 = false := by
  intro c h
  rcases pm_slp_of h with rfl | rfl | rfl | rfl | rfl | rfl
  · exact ⟨(RX0, TX0, 7), rfl, ⟨by decide, "SungAsleep$Sleeper", wt_370, Or.inl rfl⟩, by decide +kernel, rfl⟩
  · exact ⟨(RX1, TX1, 7), rfl, ⟨by decide, "SungAsleep$Sleeper", wt_370, Or.inl rfl⟩, by decide +kernel, rfl⟩
  · exact ⟨(RX2, TX2, 7), rfl, ⟨by decide, "SungAsleep$Sleeper", wt_370, Or.inl rfl⟩, by decide +kernel, rfl⟩
  · exact ⟨(RX4, TX4, 7), rfl, ⟨by decide, "SungAsleep$Sleeper", wt_370, Or.inl rfl⟩, by decide +kernel, rfl⟩
  · exact ⟨(RX6, TX6, 7), rfl, ⟨by decide, "SungAsleep$Sleeper", wt_370, Or.inl rfl⟩, by decide +kernel, rfl⟩
  · exact ⟨(RX9, TX9, 7), rfl, ⟨by decide, "SungAsleep$Sleeper", wt_370, Or.inl rfl⟩, by decide +kernel, rfl⟩
theorem pl_X7_byteAt : pm_plain yX7_byteAt 1 := ⟨by decide +kernel, by decide +kernel, by decide +kernel⟩
theorem sv_RX7_96_7 : pm_sv RX7 96 RX7 yX7_byteAt 1 := Or.inl ⟨wt_209, wt_211, wp_1, wt_4, rfl, pl_X7_byteAt⟩
theorem flg_RX7_100 : ∀ c, is 7 c = true → ∃ r, vwCl[c]? = some r ∧ pm_fl RX7 100 r 3 ∧ pm_ft (r.2.1 3).2.2.1 = 0 := by
  intro c h
  have e : c = 7 := by simpa [is] using h
  subst e
  exact ⟨(RX7, TX7, 4), rfl, ⟨by decide, "SungAsleep$Tape", wt_124, Or.inl rfl⟩, by decide +kernel⟩
theorem flp_RX7_100 : ∀ c, is 7 c = true → ∃ r, vwCl[c]? = some r ∧ pm_fl RX7 100 r 3 ∧ pm_ft (r.2.1 3).2.2.1 = 0 ∧ (r.2.1 3).2.2.2 = false := by
  intro c h
  have e : c = 7 := by simpa [is] using h
  subst e
  exact ⟨(RX7, TX7, 4), rfl, ⟨by decide, "SungAsleep$Tape", wt_124, Or.inl rfl⟩, by decide +kernel, rfl⟩
theorem pl_X7_nameOf : pm_plain yX7_nameOf 1 := ⟨by decide +kernel, by decide +kernel, by decide +kernel⟩
theorem ss_RX7_103 : pm_ss RX7 103 yX7_nameOf 1 := ⟨Or.inl wt_217, wt_218, wt_4, pl_X7_nameOf⟩
theorem pl_X7_isHere : pm_plain yX7_isHere 1 := ⟨by decide +kernel, by decide +kernel, by decide +kernel⟩
theorem sv_RX7_107_7 : pm_sv RX7 107 RX7 yX7_isHere 1 := Or.inl ⟨wt_230, wt_232, wp_3, wt_4, rfl, pl_X7_isHere⟩
theorem flp_RX12_7f : ∀ c, is 12 c = true → ∃ r, vwCl[c]? = some r ∧ pm_fl RX12 7 r 1 ∧ pm_ft (r.2.1 1).2.2.1 = 3 ∧ ((r.2.1 1).2.2.2 = false ∨ ((r.2.1 1).2.2.2 = true ∧ "<init>" = "<init>" ∧ (r.2.1 1).1 = RX12)) := by
  intro c h
  have e : c = 12 := by simpa [is] using h
  subst e
  exact ⟨(RX12, TX12, 53), rfl, ⟨by decide, "SungAsleepModel", wt_1010, Or.inl rfl⟩, by decide +kernel, (Or.inr ⟨rfl, rfl, rfl⟩)⟩
theorem flp_RX12_13f : ∀ c, is 12 c = true → ∃ r, vwCl[c]? = some r ∧ pm_fl RX12 13 r 2 ∧ pm_ft (r.2.1 2).2.2.1 = 3 ∧ ((r.2.1 2).2.2.2 = false ∨ ((r.2.1 2).2.2.2 = true ∧ "<init>" = "<init>" ∧ (r.2.1 2).1 = RX12)) := by
  intro c h
  have e : c = 12 := by simpa [is] using h
  subst e
  exact ⟨(RX12, TX12, 53), rfl, ⟨by decide, "SungAsleepModel", wt_1011, Or.inl rfl⟩, by decide +kernel, (Or.inr ⟨rfl, rfl, rfl⟩)⟩
theorem flp_RX12_16f : ∀ c, is 12 c = true → ∃ r, vwCl[c]? = some r ∧ pm_fl RX12 16 r 3 ∧ pm_ft (r.2.1 3).2.2.1 = 3 ∧ ((r.2.1 3).2.2.2 = false ∨ ((r.2.1 3).2.2.2 = true ∧ "<init>" = "<init>" ∧ (r.2.1 3).1 = RX12)) := by
  intro c h
  have e : c = 12 := by simpa [is] using h
  subst e
  exact ⟨(RX12, TX12, 53), rfl, ⟨by decide, "SungAsleepModel", wt_1012, Or.inl rfl⟩, by decide +kernel, (Or.inr ⟨rfl, rfl, rfl⟩)⟩
theorem flp_RX12_19f : ∀ c, is 12 c = true → ∃ r, vwCl[c]? = some r ∧ pm_fl RX12 19 r 4 ∧ pm_ft (r.2.1 4).2.2.1 = 3 ∧ ((r.2.1 4).2.2.2 = false ∨ ((r.2.1 4).2.2.2 = true ∧ "<init>" = "<init>" ∧ (r.2.1 4).1 = RX12)) := by
  intro c h
  have e : c = 12 := by simpa [is] using h
  subst e
  exact ⟨(RX12, TX12, 53), rfl, ⟨by decide, "SungAsleepModel", wt_1013, Or.inl rfl⟩, by decide +kernel, (Or.inr ⟨rfl, rfl, rfl⟩)⟩
theorem flp_RX12_22f : ∀ c, is 12 c = true → ∃ r, vwCl[c]? = some r ∧ pm_fl RX12 22 r 5 ∧ pm_ft (r.2.1 5).2.2.1 = 3 ∧ ((r.2.1 5).2.2.2 = false ∨ ((r.2.1 5).2.2.2 = true ∧ "<init>" = "<init>" ∧ (r.2.1 5).1 = RX12)) := by
  intro c h
  have e : c = 12 := by simpa [is] using h
  subst e
  exact ⟨(RX12, TX12, 53), rfl, ⟨by decide, "SungAsleepModel", wt_1014, Or.inl rfl⟩, by decide +kernel, (Or.inr ⟨rfl, rfl, rfl⟩)⟩
theorem flp_RX12_25f : ∀ c, is 12 c = true → ∃ r, vwCl[c]? = some r ∧ pm_fl RX12 25 r 6 ∧ pm_ft (r.2.1 6).2.2.1 = 3 ∧ ((r.2.1 6).2.2.2 = false ∨ ((r.2.1 6).2.2.2 = true ∧ "<init>" = "<init>" ∧ (r.2.1 6).1 = RX12)) := by
  intro c h
  have e : c = 12 := by simpa [is] using h
  subst e
  exact ⟨(RX12, TX12, 53), rfl, ⟨by decide, "SungAsleepModel", wt_1015, Or.inl rfl⟩, by decide +kernel, (Or.inr ⟨rfl, rfl, rfl⟩)⟩
theorem flp_RX12_28f : ∀ c, is 12 c = true → ∃ r, vwCl[c]? = some r ∧ pm_fl RX12 28 r 7 ∧ pm_ft (r.2.1 7).2.2.1 = 3 ∧ ((r.2.1 7).2.2.2 = false ∨ ((r.2.1 7).2.2.2 = true ∧ "<init>" = "<init>" ∧ (r.2.1 7).1 = RX12)) := by
  intro c h
  have e : c = 12 := by simpa [is] using h
  subst e
  exact ⟨(RX12, TX12, 53), rfl, ⟨by decide, "SungAsleepModel", wt_1016, Or.inl rfl⟩, by decide +kernel, (Or.inr ⟨rfl, rfl, rfl⟩)⟩
theorem flp_RX12_31 : ∀ c, is 12 c = true → ∃ r, vwCl[c]? = some r ∧ pm_fl RX12 31 r 10 ∧ pm_ft (r.2.1 10).2.2.1 = 0 ∧ (r.2.1 10).2.2.2 = false := by
  intro c h
  have e : c = 12 := by simpa [is] using h
  subst e
  exact ⟨(RX12, TX12, 53), rfl, ⟨by decide, "SungAsleepModel", wt_1019, Or.inl rfl⟩, by decide +kernel, rfl⟩
theorem flp_RX12_35f : ∀ c, is 12 c = true → ∃ r, vwCl[c]? = some r ∧ pm_fl RX12 35 r 11 ∧ pm_ft (r.2.1 11).2.2.1 = 3 ∧ ((r.2.1 11).2.2.2 = false ∨ ((r.2.1 11).2.2.2 = true ∧ "<init>" = "<init>" ∧ (r.2.1 11).1 = RX12)) := by
  intro c h
  have e : c = 12 := by simpa [is] using h
  subst e
  exact ⟨(RX12, TX12, 53), rfl, ⟨by decide, "SungAsleepModel", wt_1020, Or.inl rfl⟩, by decide +kernel, (Or.inr ⟨rfl, rfl, rfl⟩)⟩
theorem flp_RX12_38f : ∀ c, is 12 c = true → ∃ r, vwCl[c]? = some r ∧ pm_fl RX12 38 r 21 ∧ pm_ft (r.2.1 21).2.2.1 = 3 ∧ ((r.2.1 21).2.2.2 = false ∨ ((r.2.1 21).2.2.2 = true ∧ "<init>" = "<init>" ∧ (r.2.1 21).1 = RX12)) := by
  intro c h
  have e : c = 12 := by simpa [is] using h
  subst e
  exact ⟨(RX12, TX12, 53), rfl, ⟨by decide, "SungAsleepModel", wt_1030, Or.inl rfl⟩, by decide +kernel, (Or.inr ⟨rfl, rfl, rfl⟩)⟩
theorem flp_RX12_41f : ∀ c, is 12 c = true → ∃ r, vwCl[c]? = some r ∧ pm_fl RX12 41 r 22 ∧ pm_ft (r.2.1 22).2.2.1 = 3 ∧ ((r.2.1 22).2.2.2 = false ∨ ((r.2.1 22).2.2.2 = true ∧ "<init>" = "<init>" ∧ (r.2.1 22).1 = RX12)) := by
  intro c h
  have e : c = 12 := by simpa [is] using h
  subst e
  exact ⟨(RX12, TX12, 53), rfl, ⟨by decide, "SungAsleepModel", wt_1031, Or.inl rfl⟩, by decide +kernel, (Or.inr ⟨rfl, rfl, rfl⟩)⟩
theorem flp_RX12_44f : ∀ c, is 12 c = true → ∃ r, vwCl[c]? = some r ∧ pm_fl RX12 44 r 23 ∧ pm_ft (r.2.1 23).2.2.1 = 3 ∧ ((r.2.1 23).2.2.2 = false ∨ ((r.2.1 23).2.2.2 = true ∧ "<init>" = "<init>" ∧ (r.2.1 23).1 = RX12)) := by
  intro c h
  have e : c = 12 := by simpa [is] using h
  subst e
  exact ⟨(RX12, TX12, 53), rfl, ⟨by decide, "SungAsleepModel", wt_1032, Or.inl rfl⟩, by decide +kernel, (Or.inr ⟨rfl, rfl, rfl⟩)⟩
theorem flp_RX12_47f : ∀ c, is 12 c = true → ∃ r, vwCl[c]? = some r ∧ pm_fl RX12 47 r 24 ∧ pm_ft (r.2.1 24).2.2.1 = 3 ∧ ((r.2.1 24).2.2.2 = false ∨ ((r.2.1 24).2.2.2 = true ∧ "<init>" = "<init>" ∧ (r.2.1 24).1 = RX12)) := by
  intro c h
  have e : c = 12 := by simpa [is] using h
  subst e
  exact ⟨(RX12, TX12, 53), rfl, ⟨by decide, "SungAsleepModel", wt_1033, Or.inl rfl⟩, by decide +kernel, (Or.inr ⟨rfl, rfl, rfl⟩)⟩
theorem flp_RX12_50f : ∀ c, is 12 c = true → ∃ r, vwCl[c]? = some r ∧ pm_fl RX12 50 r 25 ∧ pm_ft (r.2.1 25).2.2.1 = 3 ∧ ((r.2.1 25).2.2.2 = false ∨ ((r.2.1 25).2.2.2 = true ∧ "<init>" = "<init>" ∧ (r.2.1 25).1 = RX12)) := by
  intro c h
  have e : c = 12 := by simpa [is] using h
  subst e
  exact ⟨(RX12, TX12, 53), rfl, ⟨by decide, "SungAsleepModel", wt_1034, Or.inl rfl⟩, by decide +kernel, (Or.inr ⟨rfl, rfl, rfl⟩)⟩
theorem flp_RX12_53f : ∀ c, is 12 c = true → ∃ r, vwCl[c]? = some r ∧ pm_fl RX12 53 r 26 ∧ pm_ft (r.2.1 26).2.2.1 = 3 ∧ ((r.2.1 26).2.2.2 = false ∨ ((r.2.1 26).2.2.2 = true ∧ "<init>" = "<init>" ∧ (r.2.1 26).1 = RX12)) := by
  intro c h
  have e : c = 12 := by simpa [is] using h
  subst e
  exact ⟨(RX12, TX12, 53), rfl, ⟨by decide, "SungAsleepModel", wt_1035, Or.inl rfl⟩, by decide +kernel, (Or.inr ⟨rfl, rfl, rfl⟩)⟩
theorem flp_RX12_56f : ∀ c, is 12 c = true → ∃ r, vwCl[c]? = some r ∧ pm_fl RX12 56 r 27 ∧ pm_ft (r.2.1 27).2.2.1 = 3 ∧ ((r.2.1 27).2.2.2 = false ∨ ((r.2.1 27).2.2.2 = true ∧ "<init>" = "<init>" ∧ (r.2.1 27).1 = RX12)) := by
  intro c h
  have e : c = 12 := by simpa [is] using h
  subst e
  exact ⟨(RX12, TX12, 53), rfl, ⟨by decide, "SungAsleepModel", wt_1036, Or.inl rfl⟩, by decide +kernel, (Or.inr ⟨rfl, rfl, rfl⟩)⟩
theorem flp_RX12_59f : ∀ c, is 12 c = true → ∃ r, vwCl[c]? = some r ∧ pm_fl RX12 59 r 28 ∧ pm_ft (r.2.1 28).2.2.1 = 3 ∧ ((r.2.1 28).2.2.2 = false ∨ ((r.2.1 28).2.2.2 = true ∧ "<init>" = "<init>" ∧ (r.2.1 28).1 = RX12)) := by
  intro c h
  have e : c = 12 := by simpa [is] using h
  subst e
  exact ⟨(RX12, TX12, 53), rfl, ⟨by decide, "SungAsleepModel", wt_1037, Or.inl rfl⟩, by decide +kernel, (Or.inr ⟨rfl, rfl, rfl⟩)⟩
theorem flp_RX12_62f : ∀ c, is 12 c = true → ∃ r, vwCl[c]? = some r ∧ pm_fl RX12 62 r 29 ∧ pm_ft (r.2.1 29).2.2.1 = 3 ∧ ((r.2.1 29).2.2.2 = false ∨ ((r.2.1 29).2.2.2 = true ∧ "<init>" = "<init>" ∧ (r.2.1 29).1 = RX12)) := by
  intro c h
  have e : c = 12 := by simpa [is] using h
  subst e
  exact ⟨(RX12, TX12, 53), rfl, ⟨by decide, "SungAsleepModel", wt_1038, Or.inl rfl⟩, by decide +kernel, (Or.inr ⟨rfl, rfl, rfl⟩)⟩
theorem flp_RX12_65f : ∀ c, is 12 c = true → ∃ r, vwCl[c]? = some r ∧ pm_fl RX12 65 r 30 ∧ pm_ft (r.2.1 30).2.2.1 = 3 ∧ ((r.2.1 30).2.2.2 = false ∨ ((r.2.1 30).2.2.2 = true ∧ "<init>" = "<init>" ∧ (r.2.1 30).1 = RX12)) := by
  intro c h
  have e : c = 12 := by simpa [is] using h
  subst e
  exact ⟨(RX12, TX12, 53), rfl, ⟨by decide, "SungAsleepModel", wt_1039, Or.inl rfl⟩, by decide +kernel, (Or.inr ⟨rfl, rfl, rfl⟩)⟩
theorem flp_RX12_68f : ∀ c, is 12 c = true → ∃ r, vwCl[c]? = some r ∧ pm_fl RX12 68 r 31 ∧ pm_ft (r.2.1 31).2.2.1 = 3 ∧ ((r.2.1 31).2.2.2 = false ∨ ((r.2.1 31).2.2.2 = true ∧ "<init>" = "<init>" ∧ (r.2.1 31).1 = RX12)) := by
  intro c h
  have e : c = 12 := by simpa [is] using h
  subst e
  exact ⟨(RX12, TX12, 53), rfl, ⟨by decide, "SungAsleepModel", wt_1040, Or.inl rfl⟩, by decide +kernel, (Or.inr ⟨rfl, rfl, rfl⟩)⟩
theorem flp_RX12_71f : ∀ c, is 12 c = true → ∃ r, vwCl[c]? = some r ∧ pm_fl RX12 71 r 32 ∧ pm_ft (r.2.1 32).2.2.1 = 3 ∧ ((r.2.1 32).2.2.2 = false ∨ ((r.2.1 32).2.2.2 = true ∧ "<init>" = "<init>" ∧ (r.2.1 32).1 = RX12)) := by
  intro c h
  have e : c = 12 := by simpa [is] using h
  subst e
  exact ⟨(RX12, TX12, 53), rfl, ⟨by decide, "SungAsleepModel", wt_1041, Or.inl rfl⟩, by decide +kernel, (Or.inr ⟨rfl, rfl, rfl⟩)⟩
theorem flp_RX12_74f : ∀ c, is 12 c = true → ∃ r, vwCl[c]? = some r ∧ pm_fl RX12 74 r 35 ∧ pm_ft (r.2.1 35).2.2.1 = 3 ∧ ((r.2.1 35).2.2.2 = false ∨ ((r.2.1 35).2.2.2 = true ∧ "<init>" = "<init>" ∧ (r.2.1 35).1 = RX12)) := by
  intro c h
  have e : c = 12 := by simpa [is] using h
  subst e
  exact ⟨(RX12, TX12, 53), rfl, ⟨by decide, "SungAsleepModel", wt_1044, Or.inl rfl⟩, by decide +kernel, (Or.inr ⟨rfl, rfl, rfl⟩)⟩
theorem flp_RX12_77f : ∀ c, is 12 c = true → ∃ r, vwCl[c]? = some r ∧ pm_fl RX12 77 r 37 ∧ pm_ft (r.2.1 37).2.2.1 = 3 ∧ ((r.2.1 37).2.2.2 = false ∨ ((r.2.1 37).2.2.2 = true ∧ "<init>" = "<init>" ∧ (r.2.1 37).1 = RX12)) := by
  intro c h
  have e : c = 12 := by simpa [is] using h
  subst e
  exact ⟨(RX12, TX12, 53), rfl, ⟨by decide, "SungAsleepModel", wt_1046, Or.inl rfl⟩, by decide +kernel, (Or.inr ⟨rfl, rfl, rfl⟩)⟩
theorem flp_RX12_80f : ∀ c, is 12 c = true → ∃ r, vwCl[c]? = some r ∧ pm_fl RX12 80 r 38 ∧ pm_ft (r.2.1 38).2.2.1 = 3 ∧ ((r.2.1 38).2.2.2 = false ∨ ((r.2.1 38).2.2.2 = true ∧ "<init>" = "<init>" ∧ (r.2.1 38).1 = RX12)) := by
  intro c h
  have e : c = 12 := by simpa [is] using h
  subst e
  exact ⟨(RX12, TX12, 53), rfl, ⟨by decide, "SungAsleepModel", wt_1047, Or.inl rfl⟩, by decide +kernel, (Or.inr ⟨rfl, rfl, rfl⟩)⟩
theorem flp_RX12_83f : ∀ c, is 12 c = true → ∃ r, vwCl[c]? = some r ∧ pm_fl RX12 83 r 39 ∧ pm_ft (r.2.1 39).2.2.1 = 3 ∧ ((r.2.1 39).2.2.2 = false ∨ ((r.2.1 39).2.2.2 = true ∧ "<init>" = "<init>" ∧ (r.2.1 39).1 = RX12)) := by
  intro c h
  have e : c = 12 := by simpa [is] using h
  subst e
  exact ⟨(RX12, TX12, 53), rfl, ⟨by decide, "SungAsleepModel", wt_1048, Or.inl rfl⟩, by decide +kernel, (Or.inr ⟨rfl, rfl, rfl⟩)⟩
theorem flp_RX12_87f : ∀ c, is 12 c = true → ∃ r, vwCl[c]? = some r ∧ pm_fl RX12 87 r 40 ∧ pm_ft (r.2.1 40).2.2.1 = 3 ∧ ((r.2.1 40).2.2.2 = false ∨ ((r.2.1 40).2.2.2 = true ∧ "<init>" = "<init>" ∧ (r.2.1 40).1 = RX12)) := by
  intro c h
  have e : c = 12 := by simpa [is] using h
  subst e
  exact ⟨(RX12, TX12, 53), rfl, ⟨by decide, "SungAsleepModel", wt_1049, Or.inl rfl⟩, by decide +kernel, (Or.inr ⟨rfl, rfl, rfl⟩)⟩
theorem flp_RX12_90f : ∀ c, is 12 c = true → ∃ r, vwCl[c]? = some r ∧ pm_fl RX12 90 r 41 ∧ pm_ft (r.2.1 41).2.2.1 = 3 ∧ ((r.2.1 41).2.2.2 = false ∨ ((r.2.1 41).2.2.2 = true ∧ "<init>" = "<init>" ∧ (r.2.1 41).1 = RX12)) := by
  intro c h
  have e : c = 12 := by simpa [is] using h
  subst e
  exact ⟨(RX12, TX12, 53), rfl, ⟨by decide, "SungAsleepModel", wt_1050, Or.inl rfl⟩, by decide +kernel, (Or.inr ⟨rfl, rfl, rfl⟩)⟩
theorem flp_RX12_93f : ∀ c, is 12 c = true → ∃ r, vwCl[c]? = some r ∧ pm_fl RX12 93 r 42 ∧ pm_ft (r.2.1 42).2.2.1 = 3 ∧ ((r.2.1 42).2.2.2 = false ∨ ((r.2.1 42).2.2.2 = true ∧ "<init>" = "<init>" ∧ (r.2.1 42).1 = RX12)) := by
  intro c h
  have e : c = 12 := by simpa [is] using h
  subst e
  exact ⟨(RX12, TX12, 53), rfl, ⟨by decide, "SungAsleepModel", wt_1051, Or.inl rfl⟩, by decide +kernel, (Or.inr ⟨rfl, rfl, rfl⟩)⟩
theorem flp_RX12_96f : ∀ c, is 12 c = true → ∃ r, vwCl[c]? = some r ∧ pm_fl RX12 96 r 46 ∧ pm_ft (r.2.1 46).2.2.1 = 3 ∧ ((r.2.1 46).2.2.2 = false ∨ ((r.2.1 46).2.2.2 = true ∧ "<init>" = "<init>" ∧ (r.2.1 46).1 = RX12)) := by
  intro c h
  have e : c = 12 := by simpa [is] using h
  subst e
  exact ⟨(RX12, TX12, 53), rfl, ⟨by decide, "SungAsleepModel", wt_1055, Or.inl rfl⟩, by decide +kernel, (Or.inr ⟨rfl, rfl, rfl⟩)⟩
theorem flp_RX12_99f : ∀ c, is 12 c = true → ∃ r, vwCl[c]? = some r ∧ pm_fl RX12 99 r 50 ∧ pm_ft (r.2.1 50).2.2.1 = 3 ∧ ((r.2.1 50).2.2.2 = false ∨ ((r.2.1 50).2.2.2 = true ∧ "<init>" = "<init>" ∧ (r.2.1 50).1 = RX12)) := by
  intro c h
  have e : c = 12 := by simpa [is] using h
  subst e
  exact ⟨(RX12, TX12, 53), rfl, ⟨by decide, "SungAsleepModel", wt_1059, Or.inl rfl⟩, by decide +kernel, (Or.inr ⟨rfl, rfl, rfl⟩)⟩
theorem flp_RX12_102f : ∀ c, is 12 c = true → ∃ r, vwCl[c]? = some r ∧ pm_fl RX12 102 r 52 ∧ pm_ft (r.2.1 52).2.2.1 = 3 ∧ ((r.2.1 52).2.2.2 = false ∨ ((r.2.1 52).2.2.2 = true ∧ "<init>" = "<init>" ∧ (r.2.1 52).1 = RX12)) := by
  intro c h
  have e : c = 12 := by simpa [is] using h
  subst e
  exact ⟨(RX12, TX12, 53), rfl, ⟨by decide, "SungAsleepModel", wt_1061, Or.inl rfl⟩, by decide +kernel, (Or.inr ⟨rfl, rfl, rfl⟩)⟩
theorem flg_RX12_105 : ∀ c, is 12 c = true → ∃ r, vwCl[c]? = some r ∧ pm_fl RX12 105 r 0 ∧ pm_ft (r.2.1 0).2.2.1 = 0 := by
  intro c h
  have e : c = 12 := by simpa [is] using h
  subst e
  exact ⟨(RX12, TX12, 53), rfl, ⟨by decide, "SungAsleepModel", wt_1009, Or.inl rfl⟩, by decide +kernel⟩
theorem pl_X12_in : pm_plain yX12_in 3 := ⟨by decide +kernel, by decide +kernel, by decide +kernel⟩
theorem ss_RX12_108 : pm_ss RX12 108 yX12_in 3 := ⟨Or.inl wt_1173, wt_1174, wt_6, pl_X12_in⟩
theorem flg_RX12_112 : ∀ c, is 12 c = true → ∃ r, vwCl[c]? = some r ∧ pm_fl RX12 112 r 12 ∧ pm_ft (r.2.1 12).2.2.1 = 0 := by
  intro c h
  have e : c = 12 := by simpa [is] using h
  subst e
  exact ⟨(RX12, TX12, 53), rfl, ⟨by decide, "SungAsleepModel", wt_1021, Or.inl rfl⟩, by decide +kernel⟩
theorem flg_RX12_35 : ∀ c, is 12 c = true → ∃ r, vwCl[c]? = some r ∧ pm_fl RX12 35 r 11 ∧ pm_ft (r.2.1 11).2.2.1 = 3 := by
  intro c h
  have e : c = 12 := by simpa [is] using h
  subst e
  exact ⟨(RX12, TX12, 53), rfl, ⟨by decide, "SungAsleepModel", wt_1020, Or.inl rfl⟩, by decide +kernel⟩
theorem flp_RX12_112 : ∀ c, is 12 c = true → ∃ r, vwCl[c]? = some r ∧ pm_fl RX12 112 r 12 ∧ pm_ft (r.2.1 12).2.2.1 = 0 ∧ (r.2.1 12).2.2.2 = false := by
  intro c h
  have e : c = 12 := by simpa [is] using h
  subst e
  exact ⟨(RX12, TX12, 53), rfl, ⟨by decide, "SungAsleepModel", wt_1021, Or.inl rfl⟩, by decide +kernel, rfl⟩
theorem flg_RX12_117 : ∀ c, is 12 c = true → ∃ r, vwCl[c]? = some r ∧ pm_fl RX12 117 r 15 ∧ pm_ft (r.2.1 15).2.2.1 = 0 := by
  intro c h
  have e : c = 12 := by simpa [is] using h
  subst e
  exact ⟨(RX12, TX12, 53), rfl, ⟨by decide, "SungAsleepModel", wt_1024, Or.inl rfl⟩, by decide +kernel⟩
theorem flp_RX12_120 : ∀ c, is 12 c = true → ∃ r, vwCl[c]? = some r ∧ pm_fl RX12 120 r 14 ∧ pm_ft (r.2.1 14).2.2.1 = 0 ∧ (r.2.1 14).2.2.2 = false := by
  intro c h
  have e : c = 12 := by simpa [is] using h
  subst e
  exact ⟨(RX12, TX12, 53), rfl, ⟨by decide, "SungAsleepModel", wt_1023, Or.inl rfl⟩, by decide +kernel, rfl⟩
theorem flg_RX12_120 : ∀ c, is 12 c = true → ∃ r, vwCl[c]? = some r ∧ pm_fl RX12 120 r 14 ∧ pm_ft (r.2.1 14).2.2.1 = 0 := by
  intro c h
  have e : c = 12 := by simpa [is] using h
  subst e
  exact ⟨(RX12, TX12, 53), rfl, ⟨by decide, "SungAsleepModel", wt_1023, Or.inl rfl⟩, by decide +kernel⟩
theorem pl_X12_byteAt : pm_plain yX12_byteAt 1 := ⟨by decide +kernel, by decide +kernel, by decide +kernel⟩
theorem sv_RX12_123_12 : pm_sv RX12 123 RX12 yX12_byteAt 1 := Or.inl ⟨wt_1185, wt_1187, wp_27, wt_6, rfl, pl_X12_byteAt⟩
theorem flp_RX12_117 : ∀ c, is 12 c = true → ∃ r, vwCl[c]? = some r ∧ pm_fl RX12 117 r 15 ∧ pm_ft (r.2.1 15).2.2.1 = 0 ∧ (r.2.1 15).2.2.2 = false := by
  intro c h
  have e : c = 12 := by simpa [is] using h
  subst e
  exact ⟨(RX12, TX12, 53), rfl, ⟨by decide, "SungAsleepModel", wt_1024, Or.inl rfl⟩, by decide +kernel, rfl⟩
theorem pl_X12_isLetter : pm_plain yX12_isLetter 1 := ⟨by decide +kernel, by decide +kernel, by decide +kernel⟩
theorem ss_RX12_127 : pm_ss RX12 127 yX12_isLetter 1 := ⟨Or.inl wt_1189, wt_1190, wt_6, pl_X12_isLetter⟩
theorem pl_X12_isDigit : pm_plain yX12_isDigit 1 := ⟨by decide +kernel, by decide +kernel, by decide +kernel⟩
theorem ss_RX12_131 : pm_ss RX12 131 yX12_isDigit 1 := ⟨Or.inl wt_1192, wt_1193, wt_6, pl_X12_isDigit⟩
theorem flp_RX12_134 : ∀ c, is 12 c = true → ∃ r, vwCl[c]? = some r ∧ pm_fl RX12 134 r 13 ∧ pm_ft (r.2.1 13).2.2.1 = 0 ∧ (r.2.1 13).2.2.2 = false := by
  intro c h
  have e : c = 12 := by simpa [is] using h
  subst e
  exact ⟨(RX12, TX12, 53), rfl, ⟨by decide, "SungAsleepModel", wt_1022, Or.inl rfl⟩, by decide +kernel, rfl⟩
theorem flp_RX12_137 : ∀ c, is 12 c = true → ∃ r, vwCl[c]? = some r ∧ pm_fl RX12 137 r 16 ∧ pm_ft (r.2.1 16).2.2.1 = 2 ∧ (r.2.1 16).2.2.2 = false := by
  intro c h
  have e : c = 12 := by simpa [is] using h
  subst e
  exact ⟨(RX12, TX12, 53), rfl, ⟨by decide, "SungAsleepModel", wt_1025, Or.inl rfl⟩, by decide +kernel, rfl⟩
theorem flg_RX12_134 : ∀ c, is 12 c = true → ∃ r, vwCl[c]? = some r ∧ pm_fl RX12 134 r 13 ∧ pm_ft (r.2.1 13).2.2.1 = 0 := by
  intro c h
  have e : c = 12 := by simpa [is] using h
  subst e
  exact ⟨(RX12, TX12, 53), rfl, ⟨by decide, "SungAsleepModel", wt_1022, Or.inl rfl⟩, by decide +kernel⟩
theorem flp_RX12_141 : ∀ c, is 12 c = true → ∃ r, vwCl[c]? = some r ∧ pm_fl RX12 141 r 17 ∧ pm_ft (r.2.1 17).2.2.1 = 0 ∧ (r.2.1 17).2.2.2 = false := by
  intro c h
  have e : c = 12 := by simpa [is] using h
  subst e
  exact ⟨(RX12, TX12, 53), rfl, ⟨by decide, "SungAsleepModel", wt_1026, Or.inl rfl⟩, by decide +kernel, rfl⟩
theorem flg_RX12_137 : ∀ c, is 12 c = true → ∃ r, vwCl[c]? = some r ∧ pm_fl RX12 137 r 16 ∧ pm_ft (r.2.1 16).2.2.1 = 2 := by
  intro c h
  have e : c = 12 := by simpa [is] using h
  subst e
  exact ⟨(RX12, TX12, 53), rfl, ⟨by decide, "SungAsleepModel", wt_1025, Or.inl rfl⟩, by decide +kernel⟩
theorem flg_RX12_141 : ∀ c, is 12 c = true → ∃ r, vwCl[c]? = some r ∧ pm_fl RX12 141 r 17 ∧ pm_ft (r.2.1 17).2.2.1 = 0 := by
  intro c h
  have e : c = 12 := by simpa [is] using h
  subst e
  exact ⟨(RX12, TX12, 53), rfl, ⟨by decide, "SungAsleepModel", wt_1026, Or.inl rfl⟩, by decide +kernel⟩
theorem pl_X12_isWord : pm_plain yX12_isWord 1 := ⟨by decide +kernel, by decide +kernel, by decide +kernel⟩
theorem sv_RX12_152_12 : pm_sv RX12 152 RX12 yX12_isWord 1 := Or.inl ⟨wt_1207, wt_1209, wp_30, wt_6, rfl, pl_X12_isWord⟩
theorem flg_RX12_166 : ∀ c, is 12 c = true → ∃ r, vwCl[c]? = some r ∧ pm_fl RX12 166 r 18 ∧ pm_ft (r.2.1 18).2.2.1 = 1 := by
  intro c h
  have e : c = 12 := by simpa [is] using h
  subst e
  exact ⟨(RX12, TX12, 53), rfl, ⟨by decide, "SungAsleepModel", wt_1027, Or.inl rfl⟩, by decide +kernel⟩
theorem flp_RX12_166 : ∀ c, is 12 c = true → ∃ r, vwCl[c]? = some r ∧ pm_fl RX12 166 r 18 ∧ pm_ft (r.2.1 18).2.2.1 = 1 ∧ (r.2.1 18).2.2.2 = false := by
  intro c h
  have e : c = 12 := by simpa [is] using h
  subst e
  exact ⟨(RX12, TX12, 53), rfl, ⟨by decide, "SungAsleepModel", wt_1027, Or.inl rfl⟩, by decide +kernel, rfl⟩
theorem pl_X12_advance : pm_plain yX12_advance 0 := ⟨by decide +kernel, by decide +kernel, by decide +kernel⟩
theorem sv_RX12_170_12 : pm_sv RX12 170 RX12 yX12_advance 0 := Or.inl ⟨wt_1181, wt_1183, wp_26, wt_6, rfl, pl_X12_advance⟩
theorem pl_X12_isMark : pm_plain yX12_isMark 1 := ⟨by decide +kernel, by decide +kernel, by decide +kernel⟩
theorem sv_RX12_173_12 : pm_sv RX12 173 RX12 yX12_isMark 1 := Or.inl ⟨wt_1234, wt_1236, wp_35, wt_6, rfl, pl_X12_isMark⟩
theorem flg_RX12_176 : ∀ c, is 12 c = true → ∃ r, vwCl[c]? = some r ∧ pm_fl RX12 176 r 19 ∧ pm_ft (r.2.1 19).2.2.1 = 0 := by
  intro c h
  have e : c = 12 := by simpa [is] using h
  subst e
  exact ⟨(RX12, TX12, 53), rfl, ⟨by decide, "SungAsleepModel", wt_1028, Or.inl rfl⟩, by decide +kernel⟩
theorem pl_X12_wantNumber : pm_plain yX12_wantNumber 2 := ⟨by decide +kernel, by decide +kernel, by decide +kernel⟩
theorem sv_RX12_179_12 : pm_sv RX12 179 RX12 yX12_wantNumber 2 := Or.inl ⟨wt_1220, wt_1222, wp_32, wt_6, rfl, pl_X12_wantNumber⟩
theorem pl_X12_takes : pm_plain yX12_takes 1 := ⟨by decide +kernel, by decide +kernel, by decide +kernel⟩
theorem sv_RX12_185_12 : pm_sv RX12 185 RX12 yX12_takes 1 := Or.inl ⟨wt_1225, wt_1227, wp_33, wt_6, rfl, pl_X12_takes⟩
theorem pl_X12_wantEnd : pm_plain yX12_wantEnd 0 := ⟨by decide +kernel, by decide +kernel, by decide +kernel⟩
theorem sv_RX12_190_12 : pm_sv RX12 190 RX12 yX12_wantEnd 0 := Or.inl ⟨wt_1230, wt_1232, wp_34, wt_6, rfl, pl_X12_wantEnd⟩
theorem flg_RX12_38 : ∀ c, is 12 c = true → ∃ r, vwCl[c]? = some r ∧ pm_fl RX12 38 r 21 ∧ pm_ft (r.2.1 21).2.2.1 = 3 := by
  intro c h
  have e : c = 12 := by simpa [is] using h
  subst e
  exact ⟨(RX12, TX12, 53), rfl, ⟨by decide, "SungAsleepModel", wt_1030, Or.inl rfl⟩, by decide +kernel⟩
theorem flg_RX12_41 : ∀ c, is 12 c = true → ∃ r, vwCl[c]? = some r ∧ pm_fl RX12 41 r 22 ∧ pm_ft (r.2.1 22).2.2.1 = 3 := by
  intro c h
  have e : c = 12 := by simpa [is] using h
  subst e
  exact ⟨(RX12, TX12, 53), rfl, ⟨by decide, "SungAsleepModel", wt_1031, Or.inl rfl⟩, by decide +kernel⟩
theorem flg_RX12_44 : ∀ c, is 12 c = true → ∃ r, vwCl[c]? = some r ∧ pm_fl RX12 44 r 23 ∧ pm_ft (r.2.1 23).2.2.1 = 3 := by
  intro c h
  have e : c = 12 := by simpa [is] using h
  subst e
  exact ⟨(RX12, TX12, 53), rfl, ⟨by decide, "SungAsleepModel", wt_1032, Or.inl rfl⟩, by decide +kernel⟩
theorem flg_RX12_47 : ∀ c, is 12 c = true → ∃ r, vwCl[c]? = some r ∧ pm_fl RX12 47 r 24 ∧ pm_ft (r.2.1 24).2.2.1 = 3 := by
  intro c h
  have e : c = 12 := by simpa [is] using h
  subst e
  exact ⟨(RX12, TX12, 53), rfl, ⟨by decide, "SungAsleepModel", wt_1033, Or.inl rfl⟩, by decide +kernel⟩
theorem flp_RX12_193 : ∀ c, is 12 c = true → ∃ r, vwCl[c]? = some r ∧ pm_fl RX12 193 r 20 ∧ pm_ft (r.2.1 20).2.2.1 = 0 ∧ (r.2.1 20).2.2.2 = false := by
  intro c h
  have e : c = 12 := by simpa [is] using h
  subst e
  exact ⟨(RX12, TX12, 53), rfl, ⟨by decide, "SungAsleepModel", wt_1029, Or.inl rfl⟩, by decide +kernel, rfl⟩
theorem flp_RX12_176 : ∀ c, is 12 c = true → ∃ r, vwCl[c]? = some r ∧ pm_fl RX12 176 r 19 ∧ pm_ft (r.2.1 19).2.2.1 = 0 ∧ (r.2.1 19).2.2.2 = false := by
  intro c h
  have e : c = 12 := by simpa [is] using h
  subst e
  exact ⟨(RX12, TX12, 53), rfl, ⟨by decide, "SungAsleepModel", wt_1028, Or.inl rfl⟩, by decide +kernel, rfl⟩
theorem flg_RX12_50 : ∀ c, is 12 c = true → ∃ r, vwCl[c]? = some r ∧ pm_fl RX12 50 r 25 ∧ pm_ft (r.2.1 25).2.2.1 = 3 := by
  intro c h
  have e : c = 12 := by simpa [is] using h
  subst e
  exact ⟨(RX12, TX12, 53), rfl, ⟨by decide, "SungAsleepModel", wt_1034, Or.inl rfl⟩, by decide +kernel⟩
theorem flg_RX12_193 : ∀ c, is 12 c = true → ∃ r, vwCl[c]? = some r ∧ pm_fl RX12 193 r 20 ∧ pm_ft (r.2.1 20).2.2.1 = 0 := by
  intro c h
  have e : c = 12 := by simpa [is] using h
  subst e
  exact ⟨(RX12, TX12, 53), rfl, ⟨by decide, "SungAsleepModel", wt_1029, Or.inl rfl⟩, by decide +kernel⟩
theorem pl_X12_has : pm_plain yX12_has 2 := ⟨by decide +kernel, by decide +kernel, by decide +kernel⟩
theorem ss_RX12_196 : pm_ss RX12 196 yX12_has 2 := ⟨Or.inl wt_1248, wt_1249, wt_6, pl_X12_has⟩
theorem pl_X12_ones : pm_plain yX12_ones 1 := ⟨by decide +kernel, by decide +kernel, by decide +kernel⟩
theorem ss_RX12_200 : pm_ss RX12 200 yX12_ones 1 := ⟨Or.inl wt_1251, wt_1252, wt_6, pl_X12_ones⟩
theorem pl_X12_kindHere : pm_plain yX12_kindHere 0 := ⟨by decide +kernel, by decide +kernel, by decide +kernel⟩
theorem sv_RX12_203_12 : pm_sv RX12 203 RX12 yX12_kindHere 0 := Or.inl ⟨wt_1202, wt_1204, wp_29, wt_6, rfl, pl_X12_kindHere⟩
theorem pl_X12_wantPerson : pm_plain yX12_wantPerson 1 := ⟨by decide +kernel, by decide +kernel, by decide +kernel⟩
theorem sv_RX12_207_12 : pm_sv RX12 207 RX12 yX12_wantPerson 1 := Or.inl ⟨wt_1216, wt_1218, wp_31, wt_6, rfl, pl_X12_wantPerson⟩
theorem pl_X12_wantOwes : pm_plain yX12_wantOwes 0 := ⟨by decide +kernel, by decide +kernel, by decide +kernel⟩
theorem sv_RX12_213_12 : pm_sv RX12 213 RX12 yX12_wantOwes 0 := Or.inl ⟨wt_1239, wt_1241, wp_36, wt_6, rfl, pl_X12_wantOwes⟩
theorem pl_X12_wantAsleep : pm_plain yX12_wantAsleep 0 := ⟨by decide +kernel, by decide +kernel, by decide +kernel⟩
theorem sv_RX12_218_12 : pm_sv RX12 218 RX12 yX12_wantAsleep 0 := Or.inl ⟨wt_1244, wt_1246, wp_37, wt_6, rfl, pl_X12_wantAsleep⟩
theorem pl_X12_wantClause : pm_plain yX12_wantClause 0 := ⟨by decide +kernel, by decide +kernel, by decide +kernel⟩
theorem sv_RX12_221_12 : pm_sv RX12 221 RX12 yX12_wantClause 0 := Or.inl ⟨wt_1198, wt_1200, wp_28, wt_6, rfl, pl_X12_wantClause⟩
theorem flp_RX12_105 : ∀ c, is 12 c = true → ∃ r, vwCl[c]? = some r ∧ pm_fl RX12 105 r 0 ∧ pm_ft (r.2.1 0).2.2.1 = 0 ∧ (r.2.1 0).2.2.2 = false := by
  intro c h
  have e : c = 12 := by simpa [is] using h
  subst e
  exact ⟨(RX12, TX12, 53), rfl, ⟨by decide, "SungAsleepModel", wt_1009, Or.inl rfl⟩, by decide +kernel, rfl⟩
theorem flp_RX12_224 : ∀ c, is 12 c = true → ∃ r, vwCl[c]? = some r ∧ pm_fl RX12 224 r 8 ∧ pm_ft (r.2.1 8).2.2.1 = 0 ∧ (r.2.1 8).2.2.2 = false := by
  intro c h
  have e : c = 12 := by simpa [is] using h
  subst e
  exact ⟨(RX12, TX12, 53), rfl, ⟨by decide, "SungAsleepModel", wt_1017, Or.inl rfl⟩, by decide +kernel, rfl⟩
theorem flp_RX12_227 : ∀ c, is 12 c = true → ∃ r, vwCl[c]? = some r ∧ pm_fl RX12 227 r 9 ∧ pm_ft (r.2.1 9).2.2.1 = 0 ∧ (r.2.1 9).2.2.2 = false := by
  intro c h
  have e : c = 12 := by simpa [is] using h
  subst e
  exact ⟨(RX12, TX12, 53), rfl, ⟨by decide, "SungAsleepModel", wt_1018, Or.inl rfl⟩, by decide +kernel, rfl⟩
theorem flg_RX12_7 : ∀ c, is 12 c = true → ∃ r, vwCl[c]? = some r ∧ pm_fl RX12 7 r 1 ∧ pm_ft (r.2.1 1).2.2.1 = 3 := by
  intro c h
  have e : c = 12 := by simpa [is] using h
  subst e
  exact ⟨(RX12, TX12, 53), rfl, ⟨by decide, "SungAsleepModel", wt_1010, Or.inl rfl⟩, by decide +kernel⟩
theorem flg_RX12_13 : ∀ c, is 12 c = true → ∃ r, vwCl[c]? = some r ∧ pm_fl RX12 13 r 2 ∧ pm_ft (r.2.1 2).2.2.1 = 3 := by
  intro c h
  have e : c = 12 := by simpa [is] using h
  subst e
  exact ⟨(RX12, TX12, 53), rfl, ⟨by decide, "SungAsleepModel", wt_1011, Or.inl rfl⟩, by decide +kernel⟩
theorem flg_RX12_16 : ∀ c, is 12 c = true → ∃ r, vwCl[c]? = some r ∧ pm_fl RX12 16 r 3 ∧ pm_ft (r.2.1 3).2.2.1 = 3 := by
  intro c h
  have e : c = 12 := by simpa [is] using h
  subst e
  exact ⟨(RX12, TX12, 53), rfl, ⟨by decide, "SungAsleepModel", wt_1012, Or.inl rfl⟩, by decide +kernel⟩
theorem flg_RX12_19 : ∀ c, is 12 c = true → ∃ r, vwCl[c]? = some r ∧ pm_fl RX12 19 r 4 ∧ pm_ft (r.2.1 4).2.2.1 = 3 := by
  intro c h
  have e : c = 12 := by simpa [is] using h
  subst e
  exact ⟨(RX12, TX12, 53), rfl, ⟨by decide, "SungAsleepModel", wt_1013, Or.inl rfl⟩, by decide +kernel⟩
theorem flg_RX12_22 : ∀ c, is 12 c = true → ∃ r, vwCl[c]? = some r ∧ pm_fl RX12 22 r 5 ∧ pm_ft (r.2.1 5).2.2.1 = 3 := by
  intro c h
  have e : c = 12 := by simpa [is] using h
  subst e
  exact ⟨(RX12, TX12, 53), rfl, ⟨by decide, "SungAsleepModel", wt_1014, Or.inl rfl⟩, by decide +kernel⟩
theorem flg_RX12_25 : ∀ c, is 12 c = true → ∃ r, vwCl[c]? = some r ∧ pm_fl RX12 25 r 6 ∧ pm_ft (r.2.1 6).2.2.1 = 3 := by
  intro c h
  have e : c = 12 := by simpa [is] using h
  subst e
  exact ⟨(RX12, TX12, 53), rfl, ⟨by decide, "SungAsleepModel", wt_1015, Or.inl rfl⟩, by decide +kernel⟩
theorem flg_RX12_28 : ∀ c, is 12 c = true → ∃ r, vwCl[c]? = some r ∧ pm_fl RX12 28 r 7 ∧ pm_ft (r.2.1 7).2.2.1 = 3 := by
  intro c h
  have e : c = 12 := by simpa [is] using h
  subst e
  exact ⟨(RX12, TX12, 53), rfl, ⟨by decide, "SungAsleepModel", wt_1016, Or.inl rfl⟩, by decide +kernel⟩
theorem flp_RX12_230 : ∀ c, is 12 c = true → ∃ r, vwCl[c]? = some r ∧ pm_fl RX12 230 r 36 ∧ pm_ft (r.2.1 36).2.2.1 = 0 ∧ (r.2.1 36).2.2.2 = false := by
  intro c h
  have e : c = 12 := by simpa [is] using h
  subst e
  exact ⟨(RX12, TX12, 53), rfl, ⟨by decide, "SungAsleepModel", wt_1045, Or.inl rfl⟩, by decide +kernel, rfl⟩
theorem pl_X12_isPerson : pm_plain yX12_isPerson 1 := ⟨by decide +kernel, by decide +kernel, by decide +kernel⟩
theorem sv_RX12_233_12 : pm_sv RX12 233 RX12 yX12_isPerson 1 := Or.inl ⟨wt_1262, wt_1264, wp_38, wt_6, rfl, pl_X12_isPerson⟩
theorem pl_X12_needs : pm_plain yX12_needs 1 := ⟨by decide +kernel, by decide +kernel, by decide +kernel⟩
theorem sv_RX12_236_12 : pm_sv RX12 236 RX12 yX12_needs 1 := Or.inl ⟨wt_1266, wt_1268, wp_39, wt_6, rfl, pl_X12_needs⟩
theorem flg_RX12_224 : ∀ c, is 12 c = true → ∃ r, vwCl[c]? = some r ∧ pm_fl RX12 224 r 8 ∧ pm_ft (r.2.1 8).2.2.1 = 0 := by
  intro c h
  have e : c = 12 := by simpa [is] using h
  subst e
  exact ⟨(RX12, TX12, 53), rfl, ⟨by decide, "SungAsleepModel", wt_1017, Or.inl rfl⟩, by decide +kernel⟩
theorem pl_X12_lengthOf : pm_plain yX12_lengthOf 1 := ⟨by decide +kernel, by decide +kernel, by decide +kernel⟩
theorem sv_RX12_240_12 : pm_sv RX12 240 RX12 yX12_lengthOf 1 := Or.inl ⟨wt_1303, wt_1305, wp_42, wt_6, rfl, pl_X12_lengthOf⟩
theorem pl_X12_isAsk : pm_plain yX12_isAsk 2 := ⟨by decide +kernel, by decide +kernel, by decide +kernel⟩
theorem sv_RX12_243_12 : pm_sv RX12 243 RX12 yX12_isAsk 2 := Or.inl ⟨wt_1295, wt_1297, wp_40, wt_6, rfl, pl_X12_isAsk⟩
theorem pl_X12_canBe : pm_plain yX12_canBe 3 := ⟨by decide +kernel, by decide +kernel, by decide +kernel⟩
theorem sv_RX12_246_12 : pm_sv RX12 246 RX12 yX12_canBe 3 := Or.inl ⟨wt_1299, wt_1301, wp_41, wt_6, rfl, pl_X12_canBe⟩
theorem pl_X12_owesMore : pm_plain yX12_owesMore 3 := ⟨by decide +kernel, by decide +kernel, by decide +kernel⟩
theorem sv_RX12_249_12 : pm_sv RX12 249 RX12 yX12_owesMore 3 := Or.inl ⟨wt_1311, wt_1313, wp_43, wt_6, rfl, pl_X12_owesMore⟩
theorem flg_RX12_227 : ∀ c, is 12 c = true → ∃ r, vwCl[c]? = some r ∧ pm_fl RX12 227 r 9 ∧ pm_ft (r.2.1 9).2.2.1 = 0 := by
  intro c h
  have e : c = 12 := by simpa [is] using h
  subst e
  exact ⟨(RX12, TX12, 53), rfl, ⟨by decide, "SungAsleepModel", wt_1018, Or.inl rfl⟩, by decide +kernel⟩
theorem pl_X12_only : pm_plain yX12_only 1 := ⟨by decide +kernel, by decide +kernel, by decide +kernel⟩
theorem sv_RX12_253_12 : pm_sv RX12 253 RX12 yX12_only 1 := Or.inl ⟨wt_1327, wt_1329, wp_44, wt_6, rfl, pl_X12_only⟩
theorem pl_X12_round : pm_plain yX12_round 3 := ⟨by decide +kernel, by decide +kernel, by decide +kernel⟩
theorem sv_RX12_256_12 : pm_sv RX12 256 RX12 yX12_round 3 := Or.inl ⟨wt_1343, wt_1345, wp_45, wt_6, rfl, pl_X12_round⟩
theorem flg_RX12_53 : ∀ c, is 12 c = true → ∃ r, vwCl[c]? = some r ∧ pm_fl RX12 53 r 26 ∧ pm_ft (r.2.1 26).2.2.1 = 3 := by
  intro c h
  have e : c = 12 := by simpa [is] using h
  subst e
  exact ⟨(RX12, TX12, 53), rfl, ⟨by decide, "SungAsleepModel", wt_1035, Or.inl rfl⟩, by decide +kernel⟩
theorem pl_X12_costOf : pm_plain yX12_costOf 2 := ⟨by decide +kernel, by decide +kernel, by decide +kernel⟩
theorem sv_RX12_261_12 : pm_sv RX12 261 RX12 yX12_costOf 2 := Or.inl ⟨wt_1364, wt_1366, wp_49, wt_6, rfl, pl_X12_costOf⟩
theorem flg_RX12_56 : ∀ c, is 12 c = true → ∃ r, vwCl[c]? = some r ∧ pm_fl RX12 56 r 27 ∧ pm_ft (r.2.1 27).2.2.1 = 3 := by
  intro c h
  have e : c = 12 := by simpa [is] using h
  subst e
  exact ⟨(RX12, TX12, 53), rfl, ⟨by decide, "SungAsleepModel", wt_1036, Or.inl rfl⟩, by decide +kernel⟩
theorem pl_X12_findLengths : pm_plain yX12_findLengths 0 := ⟨by decide +kernel, by decide +kernel, by decide +kernel⟩
theorem sv_RX12_264_12 : pm_sv RX12 264 RX12 yX12_findLengths 0 := Or.inl ⟨wt_1355, wt_1357, wp_47, wt_6, rfl, pl_X12_findLengths⟩
theorem pl_X12_fewest : pm_plain yX12_fewest 2 := ⟨by decide +kernel, by decide +kernel, by decide +kernel⟩
theorem sv_RX12_267_12 : pm_sv RX12 267 RX12 yX12_fewest 2 := Or.inl ⟨wt_1360, wt_1362, wp_48, wt_6, rfl, pl_X12_fewest⟩
theorem pl_X12_findLeast : pm_plain yX12_findLeast 2 := ⟨by decide +kernel, by decide +kernel, by decide +kernel⟩
theorem sv_RX12_270_12 : pm_sv RX12 270 RX12 yX12_findLeast 2 := Or.inl ⟨wt_1351, wt_1353, wp_46, wt_6, rfl, pl_X12_findLeast⟩
theorem pl_X12_told : pm_plain yX12_told 1 := ⟨by decide +kernel, by decide +kernel, by decide +kernel⟩
theorem ss_RX12_274 : pm_ss RX12 274 yX12_told 1 := ⟨Or.inl wt_1368, wt_1369, wt_6, pl_X12_told⟩
theorem flg_RX12_59 : ∀ c, is 12 c = true → ∃ r, vwCl[c]? = some r ∧ pm_fl RX12 59 r 28 ∧ pm_ft (r.2.1 28).2.2.1 = 3 := by
  intro c h
  have e : c = 12 := by simpa [is] using h
  subst e
  exact ⟨(RX12, TX12, 53), rfl, ⟨by decide, "SungAsleepModel", wt_1037, Or.inl rfl⟩, by decide +kernel⟩
theorem flg_RX12_62 : ∀ c, is 12 c = true → ∃ r, vwCl[c]? = some r ∧ pm_fl RX12 62 r 29 ∧ pm_ft (r.2.1 29).2.2.1 = 3 := by
  intro c h
  have e : c = 12 := by simpa [is] using h
  subst e
  exact ⟨(RX12, TX12, 53), rfl, ⟨by decide, "SungAsleepModel", wt_1038, Or.inl rfl⟩, by decide +kernel⟩
theorem flg_RX12_65 : ∀ c, is 12 c = true → ∃ r, vwCl[c]? = some r ∧ pm_fl RX12 65 r 30 ∧ pm_ft (r.2.1 30).2.2.1 = 3 := by
  intro c h
  have e : c = 12 := by simpa [is] using h
  subst e
  exact ⟨(RX12, TX12, 53), rfl, ⟨by decide, "SungAsleepModel", wt_1039, Or.inl rfl⟩, by decide +kernel⟩
theorem pl_X12_isBest : pm_plain yX12_isBest 3 := ⟨by decide +kernel, by decide +kernel, by decide +kernel⟩
theorem sv_RX12_277_12 : pm_sv RX12 277 RX12 yX12_isBest 3 := Or.inl ⟨wt_1395, wt_1397, wp_53, wt_6, rfl, pl_X12_isBest⟩
theorem pl_X12_findMore : pm_plain yX12_findMore 1 := ⟨by decide +kernel, by decide +kernel, by decide +kernel⟩
theorem sv_RX12_280_12 : pm_sv RX12 280 RX12 yX12_findMore 1 := Or.inl ⟨wt_1391, wt_1393, wp_52, wt_6, rfl, pl_X12_findMore⟩
theorem pl_X12_isFirst : pm_plain yX12_isFirst 3 := ⟨by decide +kernel, by decide +kernel, by decide +kernel⟩
theorem sv_RX12_283_12 : pm_sv RX12 283 RX12 yX12_isFirst 3 := Or.inl ⟨wt_1403, wt_1405, wp_55, wt_6, rfl, pl_X12_isFirst⟩
theorem flg_RX12_68 : ∀ c, is 12 c = true → ∃ r, vwCl[c]? = some r ∧ pm_fl RX12 68 r 31 ∧ pm_ft (r.2.1 31).2.2.1 = 3 := by
  intro c h
  have e : c = 12 := by simpa [is] using h
  subst e
  exact ⟨(RX12, TX12, 53), rfl, ⟨by decide, "SungAsleepModel", wt_1040, Or.inl rfl⟩, by decide +kernel⟩
theorem flg_RX12_286 : ∀ c, is 12 c = true → ∃ r, vwCl[c]? = some r ∧ pm_fl RX12 286 r 33 ∧ pm_ft (r.2.1 33).2.2.1 = 0 := by
  intro c h
  have e : c = 12 := by simpa [is] using h
  subst e
  exact ⟨(RX12, TX12, 53), rfl, ⟨by decide, "SungAsleepModel", wt_1042, Or.inl rfl⟩, by decide +kernel⟩
theorem flg_RX12_71 : ∀ c, is 12 c = true → ∃ r, vwCl[c]? = some r ∧ pm_fl RX12 71 r 32 ∧ pm_ft (r.2.1 32).2.2.1 = 3 := by
  intro c h
  have e : c = 12 := by simpa [is] using h
  subst e
  exact ⟨(RX12, TX12, 53), rfl, ⟨by decide, "SungAsleepModel", wt_1041, Or.inl rfl⟩, by decide +kernel⟩
theorem flp_RX12_286 : ∀ c, is 12 c = true → ∃ r, vwCl[c]? = some r ∧ pm_fl RX12 286 r 33 ∧ pm_ft (r.2.1 33).2.2.1 = 0 ∧ (r.2.1 33).2.2.2 = false := by
  intro c h
  have e : c = 12 := by simpa [is] using h
  subst e
  exact ⟨(RX12, TX12, 53), rfl, ⟨by decide, "SungAsleepModel", wt_1042, Or.inl rfl⟩, by decide +kernel, rfl⟩
theorem pl_X12_findAll : pm_plain yX12_findAll 0 := ⟨by decide +kernel, by decide +kernel, by decide +kernel⟩
theorem sv_RX12_289_12 : pm_sv RX12 289 RX12 yX12_findAll 0 := Or.inl ⟨wt_1387, wt_1389, wp_51, wt_6, rfl, pl_X12_findAll⟩
theorem pl_X12_noteFirst : pm_plain yX12_noteFirst 1 := ⟨by decide +kernel, by decide +kernel, by decide +kernel⟩
theorem sv_RX12_292_12 : pm_sv RX12 292 RX12 yX12_noteFirst 1 := Or.inl ⟨wt_1399, wt_1401, wp_54, wt_6, rfl, pl_X12_noteFirst⟩
theorem flp_RX12_295 : ∀ c, is 12 c = true → ∃ r, vwCl[c]? = some r ∧ pm_fl RX12 295 r 34 ∧ pm_ft (r.2.1 34).2.2.1 = 0 ∧ (r.2.1 34).2.2.2 = false := by
  intro c h
  have e : c = 12 := by simpa [is] using h
  subst e
  exact ⟨(RX12, TX12, 53), rfl, ⟨by decide, "SungAsleepModel", wt_1043, Or.inl rfl⟩, by decide +kernel, rfl⟩
theorem pl_X12_findPlan : pm_plain yX12_findPlan 0 := ⟨by decide +kernel, by decide +kernel, by decide +kernel⟩
theorem sv_RX12_298_12 : pm_sv RX12 298 RX12 yX12_findPlan 0 := Or.inl ⟨wt_1383, wt_1385, wp_50, wt_6, rfl, pl_X12_findPlan⟩
theorem flg_RX12_295 : ∀ c, is 12 c = true → ∃ r, vwCl[c]? = some r ∧ pm_fl RX12 295 r 34 ∧ pm_ft (r.2.1 34).2.2.1 = 0 := by
  intro c h
  have e : c = 12 := by simpa [is] using h
  subst e
  exact ⟨(RX12, TX12, 53), rfl, ⟨by decide, "SungAsleepModel", wt_1043, Or.inl rfl⟩, by decide +kernel⟩
theorem flg_RX12_31 : ∀ c, is 12 c = true → ∃ r, vwCl[c]? = some r ∧ pm_fl RX12 31 r 10 ∧ pm_ft (r.2.1 10).2.2.1 = 0 := by
  intro c h
  have e : c = 12 := by simpa [is] using h
  subst e
  exact ⟨(RX12, TX12, 53), rfl, ⟨by decide, "SungAsleepModel", wt_1019, Or.inl rfl⟩, by decide +kernel⟩
theorem flg_RX12_74 : ∀ c, is 12 c = true → ∃ r, vwCl[c]? = some r ∧ pm_fl RX12 74 r 35 ∧ pm_ft (r.2.1 35).2.2.1 = 3 := by
  intro c h
  have e : c = 12 := by simpa [is] using h
  subst e
  exact ⟨(RX12, TX12, 53), rfl, ⟨by decide, "SungAsleepModel", wt_1044, Or.inl rfl⟩, by decide +kernel⟩
theorem flg_RX12_230 : ∀ c, is 12 c = true → ∃ r, vwCl[c]? = some r ∧ pm_fl RX12 230 r 36 ∧ pm_ft (r.2.1 36).2.2.1 = 0 := by
  intro c h
  have e : c = 12 := by simpa [is] using h
  subst e
  exact ⟨(RX12, TX12, 53), rfl, ⟨by decide, "SungAsleepModel", wt_1045, Or.inl rfl⟩, by decide +kernel⟩
theorem pl_X12_isRow : pm_plain yX12_isRow 2 := ⟨by decide +kernel, by decide +kernel, by decide +kernel⟩
theorem sv_RX12_303_12 : pm_sv RX12 303 RX12 yX12_isRow 2 := Or.inl ⟨wt_1448, wt_1450, wp_56, wt_6, rfl, pl_X12_isRow⟩
theorem pl_X12_isShelf : pm_plain yX12_isShelf 1 := ⟨by decide +kernel, by decide +kernel, by decide +kernel⟩
theorem ss_RX12_306 : pm_ss RX12 306 yX12_isShelf 1 := ⟨Or.inl wt_1464, wt_1465, wt_6, pl_X12_isShelf⟩
theorem pl_X12_lacksSort : pm_plain yX12_lacksSort 2 := ⟨by decide +kernel, by decide +kernel, by decide +kernel⟩
theorem sv_RX12_309_12 : pm_sv RX12 309 RX12 yX12_lacksSort 2 := Or.inl ⟨wt_1467, wt_1469, wp_57, wt_6, rfl, pl_X12_lacksSort⟩
theorem flg_RX12_80 : ∀ c, is 12 c = true → ∃ r, vwCl[c]? = some r ∧ pm_fl RX12 80 r 38 ∧ pm_ft (r.2.1 38).2.2.1 = 3 := by
  intro c h
  have e : c = 12 := by simpa [is] using h
  subst e
  exact ⟨(RX12, TX12, 53), rfl, ⟨by decide, "SungAsleepModel", wt_1047, Or.inl rfl⟩, by decide +kernel⟩
theorem flg_RX12_83 : ∀ c, is 12 c = true → ∃ r, vwCl[c]? = some r ∧ pm_fl RX12 83 r 39 ∧ pm_ft (r.2.1 39).2.2.1 = 3 := by
  intro c h
  have e : c = 12 := by simpa [is] using h
  subst e
  exact ⟨(RX12, TX12, 53), rfl, ⟨by decide, "SungAsleepModel", wt_1048, Or.inl rfl⟩, by decide +kernel⟩
theorem flg_RX12_77 : ∀ c, is 12 c = true → ∃ r, vwCl[c]? = some r ∧ pm_fl RX12 77 r 37 ∧ pm_ft (r.2.1 37).2.2.1 = 3 := by
  intro c h
  have e : c = 12 := by simpa [is] using h
  subst e
  exact ⟨(RX12, TX12, 53), rfl, ⟨by decide, "SungAsleepModel", wt_1046, Or.inl rfl⟩, by decide +kernel⟩
theorem pl_X12_isHeld : pm_plain yX12_isHeld 2 := ⟨by decide +kernel, by decide +kernel, by decide +kernel⟩
theorem sv_RX12_314_12 : pm_sv RX12 314 RX12 yX12_isHeld 2 := Or.inl ⟨wt_1488, wt_1490, wp_58, wt_6, rfl, pl_X12_isHeld⟩
theorem flg_RX12_87 : ∀ c, is 12 c = true → ∃ r, vwCl[c]? = some r ∧ pm_fl RX12 87 r 40 ∧ pm_ft (r.2.1 40).2.2.1 = 3 := by
  intro c h
  have e : c = 12 := by simpa [is] using h
  subst e
  exact ⟨(RX12, TX12, 53), rfl, ⟨by decide, "SungAsleepModel", wt_1049, Or.inl rfl⟩, by decide +kernel⟩
theorem flg_RX12_90 : ∀ c, is 12 c = true → ∃ r, vwCl[c]? = some r ∧ pm_fl RX12 90 r 41 ∧ pm_ft (r.2.1 41).2.2.1 = 3 := by
  intro c h
  have e : c = 12 := by simpa [is] using h
  subst e
  exact ⟨(RX12, TX12, 53), rfl, ⟨by decide, "SungAsleepModel", wt_1050, Or.inl rfl⟩, by decide +kernel⟩
theorem flg_RX12_93 : ∀ c, is 12 c = true → ∃ r, vwCl[c]? = some r ∧ pm_fl RX12 93 r 42 ∧ pm_ft (r.2.1 42).2.2.1 = 3 := by
  intro c h
  have e : c = 12 := by simpa [is] using h
  subst e
  exact ⟨(RX12, TX12, 53), rfl, ⟨by decide, "SungAsleepModel", wt_1051, Or.inl rfl⟩, by decide +kernel⟩
theorem pl_X12_kindOn : pm_plain yX12_kindOn 1 := ⟨by decide +kernel, by decide +kernel, by decide +kernel⟩
theorem sv_RX12_317_12 : pm_sv RX12 317 RX12 yX12_kindOn 1 := Or.inl ⟨wt_1496, wt_1498, wp_59, wt_6, rfl, pl_X12_kindOn⟩
theorem pl_X12_isUnder : pm_plain yX12_isUnder 2 := ⟨by decide +kernel, by decide +kernel, by decide +kernel⟩
theorem ss_RX12_320 : pm_ss RX12 320 yX12_isUnder 2 := ⟨Or.inl wt_1500, wt_1501, wt_6, pl_X12_isUnder⟩
theorem flg_RX12_323 : ∀ c, is 12 c = true → ∃ r, vwCl[c]? = some r ∧ pm_fl RX12 323 r 47 ∧ pm_ft (r.2.1 47).2.2.1 = 0 := by
  intro c h
  have e : c = 12 := by simpa [is] using h
  subst e
  exact ⟨(RX12, TX12, 53), rfl, ⟨by decide, "SungAsleepModel", wt_1056, Or.inl rfl⟩, by decide +kernel⟩
theorem flg_RX12_96 : ∀ c, is 12 c = true → ∃ r, vwCl[c]? = some r ∧ pm_fl RX12 96 r 46 ∧ pm_ft (r.2.1 46).2.2.1 = 3 := by
  intro c h
  have e : c = 12 := by simpa [is] using h
  subst e
  exact ⟨(RX12, TX12, 53), rfl, ⟨by decide, "SungAsleepModel", wt_1055, Or.inl rfl⟩, by decide +kernel⟩
theorem flp_RX12_323 : ∀ c, is 12 c = true → ∃ r, vwCl[c]? = some r ∧ pm_fl RX12 323 r 47 ∧ pm_ft (r.2.1 47).2.2.1 = 0 ∧ (r.2.1 47).2.2.2 = false := by
  intro c h
  have e : c = 12 := by simpa [is] using h
  subst e
  exact ⟨(RX12, TX12, 53), rfl, ⟨by decide, "SungAsleepModel", wt_1056, Or.inl rfl⟩, by decide +kernel, rfl⟩
theorem pl_X12_ran : pm_plain yX12_ran 1 := ⟨by decide +kernel, by decide +kernel, by decide +kernel⟩
theorem sv_RX12_326_12 : pm_sv RX12 326 RX12 yX12_ran 1 := Or.inl ⟨wt_1515, wt_1517, wp_62, wt_6, rfl, pl_X12_ran⟩
theorem flg_RX12_329 : ∀ c, is 12 c = true → ∃ r, vwCl[c]? = some r ∧ pm_fl RX12 329 r 44 ∧ pm_ft (r.2.1 44).2.2.1 = 0 := by
  intro c h
  have e : c = 12 := by simpa [is] using h
  subst e
  exact ⟨(RX12, TX12, 53), rfl, ⟨by decide, "SungAsleepModel", wt_1053, Or.inl rfl⟩, by decide +kernel⟩
theorem pl_X12_plainSings : pm_plain yX12_plainSings 1 := ⟨by decide +kernel, by decide +kernel, by decide +kernel⟩
theorem sv_RX12_332_12 : pm_sv RX12 332 RX12 yX12_plainSings 1 := Or.inl ⟨wt_1519, wt_1521, wp_63, wt_6, rfl, pl_X12_plainSings⟩
theorem flg_RX12_335 : ∀ c, is 12 c = true → ∃ r, vwCl[c]? = some r ∧ pm_fl RX12 335 r 43 ∧ pm_ft (r.2.1 43).2.2.1 = 0 := by
  intro c h
  have e : c = 12 := by simpa [is] using h
  subst e
  exact ⟨(RX12, TX12, 53), rfl, ⟨by decide, "SungAsleepModel", wt_1052, Or.inl rfl⟩, by decide +kernel⟩
theorem pl_X12_oldSings : pm_plain yX12_oldSings 1 := ⟨by decide +kernel, by decide +kernel, by decide +kernel⟩
theorem sv_RX12_338_12 : pm_sv RX12 338 RX12 yX12_oldSings 1 := Or.inl ⟨wt_1511, wt_1513, wp_61, wt_6, rfl, pl_X12_oldSings⟩
theorem pl_X12_singsIt : pm_plain yX12_singsIt 1 := ⟨by decide +kernel, by decide +kernel, by decide +kernel⟩
theorem sv_RX12_341_12 : pm_sv RX12 341 RX12 yX12_singsIt 1 := Or.inl ⟨wt_1507, wt_1509, wp_60, wt_6, rfl, pl_X12_singsIt⟩
theorem pl_X12_plainNeeds : pm_plain yX12_plainNeeds 1 := ⟨by decide +kernel, by decide +kernel, by decide +kernel⟩
theorem sv_RX12_344_12 : pm_sv RX12 344 RX12 yX12_plainNeeds 1 := Or.inl ⟨wt_1527, wt_1529, wp_65, wt_6, rfl, pl_X12_plainNeeds⟩
theorem flg_RX12_347 : ∀ c, is 12 c = true → ∃ r, vwCl[c]? = some r ∧ pm_fl RX12 347 r 45 ∧ pm_ft (r.2.1 45).2.2.1 = 0 := by
  intro c h
  have e : c = 12 := by simpa [is] using h
  subst e
  exact ⟨(RX12, TX12, 53), rfl, ⟨by decide, "SungAsleepModel", wt_1054, Or.inl rfl⟩, by decide +kernel⟩
theorem flp_RX12_350 : ∀ c, is 12 c = true → ∃ r, vwCl[c]? = some r ∧ pm_fl RX12 350 r 48 ∧ pm_ft (r.2.1 48).2.2.1 = 1 ∧ (r.2.1 48).2.2.2 = false := by
  intro c h
  have e : c = 12 := by simpa [is] using h
  subst e
  exact ⟨(RX12, TX12, 53), rfl, ⟨by decide, "SungAsleepModel", wt_1057, Or.inl rfl⟩, by decide +kernel, rfl⟩
theorem pl_X12_plainShares : pm_plain yX12_plainShares 1 := ⟨by decide +kernel, by decide +kernel, by decide +kernel⟩
theorem sv_RX12_353_12 : pm_sv RX12 353 RX12 yX12_plainShares 1 := Or.inl ⟨wt_1535, wt_1537, wp_67, wt_6, rfl, pl_X12_plainShares⟩
theorem flg_RX12_350 : ∀ c, is 12 c = true → ∃ r, vwCl[c]? = some r ∧ pm_fl RX12 350 r 48 ∧ pm_ft (r.2.1 48).2.2.1 = 1 := by
  intro c h
  have e : c = 12 := by simpa [is] using h
  subst e
  exact ⟨(RX12, TX12, 53), rfl, ⟨by decide, "SungAsleepModel", wt_1057, Or.inl rfl⟩, by decide +kernel⟩
theorem pl_X12_needsIt : pm_plain yX12_needsIt 1 := ⟨by decide +kernel, by decide +kernel, by decide +kernel⟩
theorem sv_RX12_356_12 : pm_sv RX12 356 RX12 yX12_needsIt 1 := Or.inl ⟨wt_1523, wt_1525, wp_64, wt_6, rfl, pl_X12_needsIt⟩
theorem pl_X12_plainTells : pm_plain yX12_plainTells 1 := ⟨by decide +kernel, by decide +kernel, by decide +kernel⟩
theorem sv_RX12_359_12 : pm_sv RX12 359 RX12 yX12_plainTells 1 := Or.inl ⟨wt_1543, wt_1545, wp_69, wt_6, rfl, pl_X12_plainTells⟩
theorem pl_X12_sharesIt : pm_plain yX12_sharesIt 1 := ⟨by decide +kernel, by decide +kernel, by decide +kernel⟩
theorem sv_RX12_362_12 : pm_sv RX12 362 RX12 yX12_sharesIt 1 := Or.inl ⟨wt_1531, wt_1533, wp_66, wt_6, rfl, pl_X12_sharesIt⟩
theorem flp_RX12_335 : ∀ c, is 12 c = true → ∃ r, vwCl[c]? = some r ∧ pm_fl RX12 335 r 43 ∧ pm_ft (r.2.1 43).2.2.1 = 0 ∧ (r.2.1 43).2.2.2 = false := by
  intro c h
  have e : c = 12 := by simpa [is] using h
  subst e
  exact ⟨(RX12, TX12, 53), rfl, ⟨by decide, "SungAsleepModel", wt_1052, Or.inl rfl⟩, by decide +kernel, rfl⟩
theorem flp_RX12_329 : ∀ c, is 12 c = true → ∃ r, vwCl[c]? = some r ∧ pm_fl RX12 329 r 44 ∧ pm_ft (r.2.1 44).2.2.1 = 0 ∧ (r.2.1 44).2.2.2 = false := by
  intro c h
  have e : c = 12 := by simpa [is] using h
  subst e
  exact ⟨(RX12, TX12, 53), rfl, ⟨by decide, "SungAsleepModel", wt_1053, Or.inl rfl⟩, by decide +kernel, rfl⟩
theorem flp_RX12_347 : ∀ c, is 12 c = true → ∃ r, vwCl[c]? = some r ∧ pm_fl RX12 347 r 45 ∧ pm_ft (r.2.1 45).2.2.1 = 0 ∧ (r.2.1 45).2.2.2 = false := by
  intro c h
  have e : c = 12 := by simpa [is] using h
  subst e
  exact ⟨(RX12, TX12, 53), rfl, ⟨by decide, "SungAsleepModel", wt_1054, Or.inl rfl⟩, by decide +kernel, rfl⟩
theorem pl_X12_tellsIt : pm_plain yX12_tellsIt 1 := ⟨by decide +kernel, by decide +kernel, by decide +kernel⟩
theorem sv_RX12_365_12 : pm_sv RX12 365 RX12 yX12_tellsIt 1 := Or.inl ⟨wt_1539, wt_1541, wp_68, wt_6, rfl, pl_X12_tellsIt⟩
theorem flg_RX12_99 : ∀ c, is 12 c = true → ∃ r, vwCl[c]? = some r ∧ pm_fl RX12 99 r 50 ∧ pm_ft (r.2.1 50).2.2.1 = 3 := by
  intro c h
  have e : c = 12 := by simpa [is] using h
  subst e
  exact ⟨(RX12, TX12, 53), rfl, ⟨by decide, "SungAsleepModel", wt_1059, Or.inl rfl⟩, by decide +kernel⟩
theorem flg_RX12_368 : ∀ c, is 12 c = true → ∃ r, vwCl[c]? = some r ∧ pm_fl RX12 368 r 51 ∧ pm_ft (r.2.1 51).2.2.1 = 0 := by
  intro c h
  have e : c = 12 := by simpa [is] using h
  subst e
  exact ⟨(RX12, TX12, 53), rfl, ⟨by decide, "SungAsleepModel", wt_1060, Or.inl rfl⟩, by decide +kernel⟩
theorem flp_RX12_368 : ∀ c, is 12 c = true → ∃ r, vwCl[c]? = some r ∧ pm_fl RX12 368 r 51 ∧ pm_ft (r.2.1 51).2.2.1 = 0 ∧ (r.2.1 51).2.2.2 = false := by
  intro c h
  have e : c = 12 := by simpa [is] using h
  subst e
  exact ⟨(RX12, TX12, 53), rfl, ⟨by decide, "SungAsleepModel", wt_1060, Or.inl rfl⟩, by decide +kernel, rfl⟩
theorem flg_RX12_102 : ∀ c, is 12 c = true → ∃ r, vwCl[c]? = some r ∧ pm_fl RX12 102 r 52 ∧ pm_ft (r.2.1 52).2.2.1 = 3 := by
  intro c h
  have e : c = 12 := by simpa [is] using h
  subst e
  exact ⟨(RX12, TX12, 53), rfl, ⟨by decide, "SungAsleepModel", wt_1061, Or.inl rfl⟩, by decide +kernel⟩
theorem pl_X12_moveRow : pm_plain yX12_moveRow 3 := ⟨by decide +kernel, by decide +kernel, by decide +kernel⟩
theorem sv_RX12_371_12 : pm_sv RX12 371 RX12 yX12_moveRow 3 := Or.inl ⟨wt_1563, wt_1565, wp_71, wt_6, rfl, pl_X12_moveRow⟩
theorem pl_X12_moveAll : pm_plain yX12_moveAll 1 := ⟨by decide +kernel, by decide +kernel, by decide +kernel⟩
theorem sv_RX12_375_12 : pm_sv RX12 375 RX12 yX12_moveAll 1 := Or.inl ⟨wt_1559, wt_1561, wp_70, wt_6, rfl, pl_X12_moveAll⟩
theorem flp_RX12_379 : ∀ c, is 12 c = true → ∃ r, vwCl[c]? = some r ∧ pm_fl RX12 379 r 49 ∧ pm_ft (r.2.1 49).2.2.1 = 1 ∧ (r.2.1 49).2.2.2 = false := by
  intro c h
  have e : c = 12 := by simpa [is] using h
  subst e
  exact ⟨(RX12, TX12, 53), rfl, ⟨by decide, "SungAsleepModel", wt_1058, Or.inl rfl⟩, by decide +kernel, rfl⟩
theorem flg_RX12_379 : ∀ c, is 12 c = true → ∃ r, vwCl[c]? = some r ∧ pm_fl RX12 379 r 49 ∧ pm_ft (r.2.1 49).2.2.1 = 1 := by
  intro c h
  have e : c = 12 := by simpa [is] using h
  subst e
  exact ⟨(RX12, TX12, 53), rfl, ⟨by decide, "SungAsleepModel", wt_1058, Or.inl rfl⟩, by decide +kernel⟩
