/-! The checks, go on. -/
theorem bkM_X12_sign : bchkM bmeth bmjs 3704 = true := sorry
theorem bkH_X12_sign : bHead (bm_14 120) ∈ bw_G := sorry
theorem bkM_X12_signAt : bchkM bmeth bmjs 3705 = true := sorry
theorem bkH_X12_signAt : bHead (bm_14 121) ∈ bw_G := sorry
theorem bkM_X12_signOf : bchkM bmeth bmjs 3706 = true := sorry
theorem bkH_X12_signOf : bHead (bm_14 122) ∈ bw_G := sorry
theorem bkM_X12_single : bchkM bmeth bmjs 3707 = true := sorry
theorem bkH_X12_single : bHead (bm_14 123) ∈ bw_G := sorry
theorem bkM_X12_size : bchkM bmeth bmjs 3708 = true := sorry
theorem bkH_X12_size : bHead (bm_14 124) ∈ bw_G := sorry
theorem bkM_X12_slope : bchkM bmeth bmjs 3709 = true := sorry
theorem bkH_X12_slope : bHead (bm_14 125) ∈ bw_G := sorry
theorem bkM_X12_slopes : bchkM bmeth bmjs 3710 = true := sorry
theorem bkH_X12_slopes : bHead (bm_14 126) ∈ bw_G := sorry
theorem bkM_X12_solve : bchkM bmeth bmjs 3711 = true := sorry
theorem bkH_X12_solve : bHead (bm_14 127) ∈ bw_G := sorry
theorem bkM_X12_spans : bchkM bmeth bmjs 3712 = true := sorry
theorem bkH_X12_spans : bHead (bm_14 128) ∈ bw_G := sorry
theorem bkM_X12_spelledInto : bchkM bmeth bmjs 3713 = true := sorry
theorem bkH_X12_spelledInto : bHead (bm_14 129) ∈ bw_G := sorry
theorem bkM_X12_spells : bchkM bmeth bmjs 3714 = true := sorry
theorem bkH_X12_spells : bHead (bm_14 130) ∈ bw_G := sorry
theorem bkM_X12_subtract : bchkM bmeth bmjs 3715 = true := sorry
theorem bkH_X12_subtract : bHead (bm_14 131) ∈ bw_G := sorry
theorem bkM_X12_sum : bchkM bmeth bmjs 3716 = true := sorry
theorem bkH_X12_sum : bHead (bm_14 132) ∈ bw_G := sorry
theorem bkM_X12_sure : bchkM bmeth bmjs 3717 = true := sorry
theorem bkH_X12_sure : bHead (bm_14 133) ∈ bw_G := sorry
theorem bkM_X12_takes : bchkM bmeth bmjs 3718 = true := sorry
theorem bkH_X12_takes : bHead (bm_14 134) ∈ bw_G := sorry
theorem bkM_X12_tells : bchkM bmeth bmjs 3719 = true := sorry
theorem bkH_X12_tells : bHead (bm_14 135) ∈ bw_G := sorry
theorem bkM_X12_tellsOf : bchkM bmeth bmjs 3720 = true := sorry
theorem bkH_X12_tellsOf : bHead (bm_14 136) ∈ bw_G := sorry
theorem bkM_X12_ten : bchkM bmeth bmjs 3721 = true := sorry
theorem bkH_X12_ten : bHead (bm_14 137) ∈ bw_G := sorry
theorem bkM_X12_tens : bchkM bmeth bmjs 3722 = true := sorry
theorem bkH_X12_tens : bHead (bm_14 138) ∈ bw_G := sorry
theorem bkM_X12_thrown : bchkM bmeth bmjs 3723 = true := sorry
theorem bkH_X12_thrown : bHead (bm_14 139) ∈ bw_G := sorry
theorem bkM_X12_times : bchkM bmeth bmjs 3724 = true := sorry
theorem bkH_X12_times : bHead (bm_14 140) ∈ bw_G := sorry
theorem bkM_X12_told : bchkM bmeth bmjs 3725 = true := sorry
theorem bkH_X12_told : bHead (bm_14 141) ∈ bw_G := sorry
theorem bkM_X12_trims : bchkM bmeth bmjs 3726 = true := sorry
theorem bkH_X12_trims : bHead (bm_14 142) ∈ bw_G := sorry
theorem bkM_X12_turned : bchkM bmeth bmjs 3727 = true := sorry
theorem bkH_X12_turned : bHead (bm_14 143) ∈ bw_G := sorry
theorem bkM_X12_turns : bchkM bmeth bmjs 3728 = true := sorry
theorem bkH_X12_turns : bHead (bm_14 144) ∈ bw_G := sorry
theorem bkM_X12_type : bchkM bmeth bmjs 3729 = true := sorry
theorem bkH_X12_type : bHead (bm_14 145) ∈ bw_G := sorry
theorem bkM_X12_undo : bchkM bmeth bmjs 3730 = true := sorry
theorem bkH_X12_undo : bHead (bm_14 146) ∈ bw_G := sorry
theorem bkM_X12_unit : bchkM bmeth bmjs 3731 = true := sorry
theorem bkH_X12_unit : bHead (bm_14 147) ∈ bw_G := sorry
theorem bkM_X12_unsigned : bchkM bmeth bmjs 3732 = true := sorry
theorem bkH_X12_unsigned : bHead (bm_14 148) ∈ bw_G := sorry
theorem bkM_X12_value : bchkM bmeth bmjs 3733 = true := sorry
theorem bkH_X12_value : bHead (bm_14 149) ∈ bw_G := sorry
theorem bkM_X12_values : bchkM bmeth bmjs 3734 = true := sorry
theorem bkH_X12_values : bHead (bm_14 150) ∈ bw_G := sorry
theorem bkM_X12_whole : bchkM bmeth bmjs 3735 = true := sorry
theorem bkH_X12_whole : bHead (bm_14 151) ∈ bw_G := sorry
theorem bkM_X12_width : bchkM bmeth bmjs 3736 = true := sorry
theorem bkH_X12_width : bHead (bm_14 152) ∈ bw_G := sorry
theorem bkM_X12_writes : bchkM bmeth bmjs 3737 = true := sorry
theorem bkH_X12_writes : bHead (bm_14 153) ∈ bw_G := sorry
theorem bkM_X12_zeros : bchkM bmeth bmjs 3738 = true := sorry
theorem bkH_X12_zeros : bHead (bm_14 154) ∈ bw_G := sorry
theorem bkMA_14 : ∀ k, k < 155 → (bmjs (3584 + k)).1 ≠ 0 → bchkM bmeth bmjs (3584 + k) = true ∧ bHead (bm_14 k) ∈ bw_G := sorry
noncomputable def bm_15 (k : Nat) : bM := bmc_15.getD k bnoM
theorem bkD_L_add : bchk3 (bm_15 0) bk_L_add = true := sorry
theorem bkD_L_apply : bchk3 (bm_15 1) bk_L_apply = true := sorry
theorem bkD_L_area : bchk3 (bm_15 2) bk_L_area = true := sorry
