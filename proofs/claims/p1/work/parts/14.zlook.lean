theorem xr_lklaw : xLk cL_law RL 370 373 := sorry
