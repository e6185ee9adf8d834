theorem lw_pure_holds : lw_pure := sorry
