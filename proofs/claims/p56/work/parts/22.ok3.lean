-- rows: every deed of these methods is sound (written by wip/p56/gen20.py)
set_option maxRecDepth 100000 in
set_option maxHeartbeats 4000000 in
theorem ok_126 : nv_all 126 0 np_c126 := by
  unfold np_c126
  refine na_1 (q := 1) (⟨so_aload_n dX7_carryOut_0 rfl, up_aload _ _⟩) rfl ?_
  refine na_1 (q := 2) (⟨so_iconst dX7_carryOut_1 (by decide), up_cst _ _⟩) rfl ?_
  refine na_3 (q := 5) (one_c rfl rfl (sc_V dX7_carryOut_2 cw_X7_carryOut_X2_number rfl wd_699 wd_700 wd_701 (nv_rcO (ci := 1) rfl))) rfl ?_
  refine na_1 (q := 6) (⟨so_istore_n dX7_carryOut_5 rfl (by decide), up_istore _ _⟩) rfl ?_
  refine na_1 (q := 7) (⟨so_aload_n dX7_carryOut_6 rfl, up_aload _ _⟩) rfl ?_
  refine na_1 (q := 8) (⟨so_iconst dX7_carryOut_7 (by decide), up_cst _ _⟩) rfl ?_
  refine na_3 (q := 11) (one_c rfl rfl (sc_V dX7_carryOut_8 cw_X7_carryOut_X2_number rfl wd_699 wd_700 wd_701 (nv_rcO (ci := 1) rfl))) rfl ?_
  refine na_1 (q := 12) (⟨so_istore_n dX7_carryOut_11 rfl (by decide), up_istore _ _⟩) rfl ?_
  refine na_1 (q := 13) (⟨so_aload_n dX7_carryOut_12 rfl, up_aload _ _⟩) rfl ?_
  refine na_1 (q := 14) (⟨so_iconst dX7_carryOut_13 (by decide), up_cst _ _⟩) rfl ?_
  refine na_3 (q := 17) (one_c rfl rfl (sc_V dX7_carryOut_14 cw_X7_carryOut_X2_number rfl wd_699 wd_700 wd_701 (nv_rcO (ci := 1) rfl))) rfl ?_
  refine na_2 (q := 19) (⟨so_istore dX7_carryOut_17 (by decide), up_istore _ _⟩) rfl ?_
  refine na_3 (q := 22) (⟨so_gSW dX7_carryOut_19 wd_703, up_cst _ _⟩) rfl ?_
  refine na_1 (q := 23) (⟨so_aload_n dX7_carryOut_22 rfl, up_aload _ _⟩) rfl ?_
  refine na_3 (q := 26) (⟨so_getN kd_1 (k := 6) (by decide) dX7_carryOut_23 wd_235, up_get _ _ _⟩) rfl ?_
  refine na_3 (q := 29) (one_c rfl rfl (sc_U (owner := "java/lang/Enum") (x := ⟨"SpoonNavy$Form", "ordinal", "()I"⟩) dX7_carryOut_26 cw_X7_carryOut_Jx29ce0_ordinal_8abf5 rfl ⟨by decide, by decide, by decide +kernel⟩ wd_705 wd_706 wd_708 wd_709)) rfl ?_
  refine na_1 (q := 30) (⟨so_ldSW dX7_carryOut_29, up_sald _ _ _⟩) rfl ?_
  refine na_3 (q := 33) (⟨so_tsw dX7_carryOut_30 (by decide) (by decide) (by decide), up_tsw _ _ _⟩) rfl ?_
  refine na_n (q := 34) rfl ?_
  refine na_n (q := 35) rfl ?_
  refine na_n (q := 36) rfl ?_
  refine na_n (q := 37) rfl ?_
  refine na_n (q := 38) rfl ?_
  refine na_n (q := 39) rfl ?_
  refine na_n (q := 40) rfl ?_
  refine na_n (q := 41) rfl ?_
  refine na_n (q := 42) rfl ?_
  refine na_n (q := 43) rfl ?_
  refine na_n (q := 44) rfl ?_
  refine na_n (q := 45) rfl ?_
  refine na_n (q := 46) rfl ?_
  refine na_n (q := 47) rfl ?_
  refine na_n (q := 48) rfl ?_
  refine na_n (q := 49) rfl ?_
  refine na_n (q := 50) rfl ?_
  refine na_n (q := 51) rfl ?_
  refine na_n (q := 52) rfl ?_
  refine na_n (q := 53) rfl ?_
  refine na_n (q := 54) rfl ?_
  refine na_n (q := 55) rfl ?_
  refine na_n (q := 56) rfl ?_
  refine na_n (q := 57) rfl ?_
  refine na_n (q := 58) rfl ?_
  refine na_n (q := 59) rfl ?_
  refine na_n (q := 60) rfl ?_
  refine na_n (q := 61) rfl ?_
  refine na_n (q := 62) rfl ?_
  refine na_n (q := 63) rfl ?_
  refine na_n (q := 64) rfl ?_
  refine na_n (q := 65) rfl ?_
  refine na_n (q := 66) rfl ?_
  refine na_n (q := 67) rfl ?_
  refine na_n (q := 68) rfl ?_
  refine na_n (q := 69) rfl ?_
  refine na_n (q := 70) rfl ?_
  refine na_n (q := 71) rfl ?_
  refine na_n (q := 72) rfl ?_
  refine na_1 (q := 73) (⟨so_aload_n dX7_carryOut_72 rfl, up_aload _ _⟩) rfl ?_
  refine na_3 (q := 76) (⟨so_get kd_5 (k := 0) (by decide) dX7_carryOut_73 wd_253, up_get _ _ _⟩) rfl ?_
  refine na_1 (q := 77) (⟨so_iload_n dX7_carryOut_76 rfl, up_iload _ _⟩) rfl ?_
  refine na_1 (q := 78) (⟨so_iload_n dX7_carryOut_77 rfl, up_iload _ _⟩) rfl ?_
  refine na_2 (q := 80) (⟨so_iload dX7_carryOut_78, up_iload _ _⟩) rfl ?_
  refine na_1 (q := 81) (⟨so_aload_n dX7_carryOut_80 rfl, up_aload _ _⟩) rfl ?_
  refine na_1 (q := 82) (⟨so_iconst dX7_carryOut_81 (by decide), up_cst _ _⟩) rfl ?_
  refine na_3 (q := 85) (one_c rfl rfl (sc_V dX7_carryOut_82 cw_X7_carryOut_X2_number rfl wd_699 wd_700 wd_701 (nv_rcO (ci := 1) rfl))) rfl ?_
  refine na_1 (q := 86) (⟨so_aload_n dX7_carryOut_85 rfl, up_aload _ _⟩) rfl ?_
  refine na_1 (q := 87) (⟨so_iconst dX7_carryOut_86 (by decide), up_cst _ _⟩) rfl ?_
  refine na_3 (q := 90) (one_c rfl rfl (sc_V dX7_carryOut_87 cw_X7_carryOut_X2_number rfl wd_699 wd_700 wd_701 (nv_rcO (ci := 1) rfl))) rfl ?_
  refine na_3 (q := 93) (one_c rfl rfl (sc_V dX7_carryOut_90 cw_X7_carryOut_X4_place rfl wd_398 wd_399 wd_400 (nv_rcO (ci := 2) rfl))) rfl ?_
  refine na_1 (q := 94) (⟨so_reti dX7_carryOut_93 rfl, up_reti _⟩) rfl ?_
  refine na_1 (q := 95) (⟨so_aload_n dX7_carryOut_94 rfl, up_aload _ _⟩) rfl ?_
  refine na_3 (q := 98) (⟨so_get kd_5 (k := 0) (by decide) dX7_carryOut_95 wd_253, up_get _ _ _⟩) rfl ?_
  refine na_3 (q := 101) (one_c rfl rfl (sc_V dX7_carryOut_98 cw_X7_carryOut_X4_begin rfl wd_519 wd_520 wd_521 (nv_rcO (ci := 2) rfl))) rfl ?_
  refine na_1 (q := 102) (⟨so_reti dX7_carryOut_101 rfl, up_reti _⟩) rfl ?_
  refine na_1 (q := 103) (⟨so_aload_n dX7_carryOut_102 rfl, up_aload _ _⟩) rfl ?_
  refine na_3 (q := 106) (⟨so_get kd_5 (k := 0) (by decide) dX7_carryOut_103 wd_253, up_get _ _ _⟩) rfl ?_
  refine na_1 (q := 107) (⟨so_iload_n dX7_carryOut_106 rfl, up_iload _ _⟩) rfl ?_
  refine na_1 (q := 108) (⟨so_iload_n dX7_carryOut_107 rfl, up_iload _ _⟩) rfl ?_
  refine na_3 (q := 111) (one_c rfl rfl (sc_V dX7_carryOut_108 cw_X7_carryOut_X4_rotate rfl wd_549 wd_550 wd_551 (nv_rcO (ci := 2) rfl))) rfl ?_
  refine na_1 (q := 112) (⟨so_reti dX7_carryOut_111 rfl, up_reti _⟩) rfl ?_
  refine na_1 (q := 113) (⟨so_aload_n dX7_carryOut_112 rfl, up_aload _ _⟩) rfl ?_
  refine na_3 (q := 116) (⟨so_get kd_5 (k := 0) (by decide) dX7_carryOut_113 wd_253, up_get _ _ _⟩) rfl ?_
  refine na_1 (q := 117) (⟨so_iload_n dX7_carryOut_116 rfl, up_iload _ _⟩) rfl ?_
  refine na_1 (q := 118) (⟨so_iload_n dX7_carryOut_117 rfl, up_iload _ _⟩) rfl ?_
  refine na_1 (q := 119) (⟨so_iconst dX7_carryOut_118 (by decide), up_cst _ _⟩) rfl ?_
  refine na_3 (q := 122) (one_c rfl rfl (sc_V dX7_carryOut_119 cw_X7_carryOut_X4_move rfl wd_711 wd_712 wd_713 (nv_rcO (ci := 2) rfl))) rfl ?_
  refine na_1 (q := 123) (⟨so_reti dX7_carryOut_122 rfl, up_reti _⟩) rfl ?_
  refine na_1 (q := 124) (⟨so_aload_n dX7_carryOut_123 rfl, up_aload _ _⟩) rfl ?_
  refine na_3 (q := 127) (⟨so_get kd_5 (k := 0) (by decide) dX7_carryOut_124 wd_253, up_get _ _ _⟩) rfl ?_
  refine na_1 (q := 128) (⟨so_iload_n dX7_carryOut_127 rfl, up_iload _ _⟩) rfl ?_
  refine na_1 (q := 129) (⟨so_iload_n dX7_carryOut_128 rfl, up_iload _ _⟩) rfl ?_
  refine na_1 (q := 130) (⟨so_iconst dX7_carryOut_129 (by decide), up_cst _ _⟩) rfl ?_
  refine na_3 (q := 133) (one_c rfl rfl (sc_V dX7_carryOut_130 cw_X7_carryOut_X4_move rfl wd_711 wd_712 wd_713 (nv_rcO (ci := 2) rfl))) rfl ?_
  refine na_1 (q := 134) (⟨so_reti dX7_carryOut_133 rfl, up_reti _⟩) rfl ?_
  refine na_1 (q := 135) (⟨so_aload_n dX7_carryOut_134 rfl, up_aload _ _⟩) rfl ?_
  refine na_3 (q := 138) (⟨so_get kd_5 (k := 0) (by decide) dX7_carryOut_135 wd_253, up_get _ _ _⟩) rfl ?_
  refine na_1 (q := 139) (⟨so_iload_n dX7_carryOut_138 rfl, up_iload _ _⟩) rfl ?_
  refine na_1 (q := 140) (⟨so_iload_n dX7_carryOut_139 rfl, up_iload _ _⟩) rfl ?_
  refine na_2 (q := 142) (⟨so_iload dX7_carryOut_140, up_iload _ _⟩) rfl ?_
  refine na_3 (q := 145) (one_c rfl rfl (sc_V dX7_carryOut_142 cw_X7_carryOut_X4_shoot rfl wd_748 wd_749 wd_750 (nv_rcO (ci := 2) rfl))) rfl ?_
  refine na_1 (q := 146) (⟨so_reti dX7_carryOut_145 rfl, up_reti _⟩) rfl ?_
  refine na_1 (q := 147) (⟨so_aload_n dX7_carryOut_146 rfl, up_aload _ _⟩) rfl ?_
  refine na_3 (q := 150) (⟨so_get kd_5 (k := 0) (by decide) dX7_carryOut_147 wd_253, up_get _ _ _⟩) rfl ?_
  refine na_1 (q := 151) (⟨so_iload_n dX7_carryOut_150 rfl, up_iload _ _⟩) rfl ?_
  refine na_1 (q := 152) (⟨so_iload_n dX7_carryOut_151 rfl, up_iload _ _⟩) rfl ?_
  refine na_3 (q := 155) (one_c rfl rfl (sc_V dX7_carryOut_152 cw_X7_carryOut_X4_fill rfl wd_580 wd_581 wd_582 (nv_rcO (ci := 2) rfl))) rfl ?_
  refine na_1 (q := 156) (⟨so_reti dX7_carryOut_155 rfl, up_reti _⟩) rfl ?_
  refine na_1 (q := 157) (⟨so_aload_n dX7_carryOut_156 rfl, up_aload _ _⟩) rfl ?_
  refine na_3 (q := 160) (⟨so_get kd_5 (k := 0) (by decide) dX7_carryOut_157 wd_253, up_get _ _ _⟩) rfl ?_
  refine na_3 (q := 163) (one_c rfl rfl (sc_V dX7_carryOut_160 cw_X7_carryOut_X4_passTurn rfl wd_530 wd_531 wd_532 (nv_rcO (ci := 2) rfl))) rfl ?_
  refine na_1 (q := 164) (⟨so_reti dX7_carryOut_163 rfl, up_reti _⟩) rfl ?_
  exact na_z
set_option maxRecDepth 100000 in
set_option maxHeartbeats 4000000 in
theorem ok_127 : nv_all 127 0 np_c127 := by
  unfold np_c127
  refine na_1 (q := 1) (⟨so_aload_n dX7_existing_0 rfl, up_aload _ _⟩) rfl ?_
  refine na_3 (q := 4) (⟨so_get kd_5 (k := 0) (by decide) dX7_existing_1 wd_253, up_get _ _ _⟩) rfl ?_
  refine na_1 (q := 5) (⟨so_iload_n dX7_existing_4 rfl, up_iload _ _⟩) rfl ?_
  refine na_3 (q := 8) (one_c rfl rfl (sc_V dX7_existing_5 cw_X7_existing_X4_numbered rfl wd_867 wd_554 wd_555 (nv_rcO (ci := 2) rfl))) rfl ?_
  refine na_1 (q := 9) (⟨so_astore_n dX7_existing_8 rfl (by decide), up_astore _ _⟩) rfl ?_
  refine na_1 (q := 10) (⟨so_aload_n dX7_existing_9 rfl, up_aload _ _⟩) rfl ?_
  refine na_3 (q := 13) (⟨so_ifnonnull dX7_existing_10 (by decide), up_ifnonnull _ _⟩) rfl ?_
  refine na_3 (q := 16) (st_S rfl rfl (by decide) th_IndexOutOfBoundsException wd_450 (show (364, "there is no such spoon") ∈ nv_msgs by decide) dX7_existing_13 dX7_existing_16 (Or.inr ⟨dX7_existing_17, dX7_existing_20, dX7_existing_23⟩)) rfl ?_
  refine na_n (q := 17) rfl ?_
  refine na_n (q := 18) rfl ?_
  refine na_n (q := 19) rfl ?_
  refine na_n (q := 20) rfl ?_
  refine na_n (q := 21) rfl ?_
  refine na_n (q := 22) rfl ?_
  refine na_n (q := 23) rfl ?_
  refine na_n (q := 24) rfl ?_
  refine na_1 (q := 25) (⟨so_aload_n dX7_existing_24 rfl, up_aload _ _⟩) rfl ?_
  refine na_1 (q := 26) (⟨so_reta dX7_existing_25 rfl (Or.inl ⟨_, rfl⟩), up_reta⟩) rfl ?_
  exact na_z
set_option maxRecDepth 100000 in
set_option maxHeartbeats 4000000 in
theorem ok_128 : nv_all 128 0 np_c128 := by
  unfold np_c128
  refine na_1 (q := 1) (⟨so_aload_n dX7_existingAfloat_0 rfl, up_aload _ _⟩) rfl ?_
  refine na_1 (q := 2) (⟨so_iload_n dX7_existingAfloat_1 rfl, up_iload _ _⟩) rfl ?_
  refine na_3 (q := 5) (one_c rfl rfl (sc_V dX7_existingAfloat_2 cw_X7_existingAfloat_X7_existing rfl wd_863 wd_865 wd_18 (nv_rcO (ci := 5) rfl))) rfl ?_
  refine na_1 (q := 6) (⟨so_astore_n dX7_existingAfloat_5 rfl (by decide), up_astore _ _⟩) rfl ?_
  refine na_1 (q := 7) (⟨so_aload_n dX7_existingAfloat_6 rfl, up_aload _ _⟩) rfl ?_
  refine na_3 (q := 10) (one_c rfl rfl (sc_V dX7_existingAfloat_7 cw_X7_existingAfloat_X6_isAfloat rfl wd_869 wd_423 wd_424 (nv_rcO (ci := 4) rfl))) rfl ?_
  refine na_3 (q := 13) (⟨so_ifne dX7_existingAfloat_10 (by decide), up_ifne _ _⟩) rfl ?_
  refine na_3 (q := 16) (st_X rfl rfl (by decide) th_NoSuchElementException wd_780 (show (366, "the spoon is sunk") ∈ nv_msgs by decide) dX7_existingAfloat_13 dX7_existingAfloat_16 (Or.inr ⟨dX7_existingAfloat_17, dX7_existingAfloat_20, dX7_existingAfloat_23⟩)) rfl ?_
  refine na_n (q := 17) rfl ?_
  refine na_n (q := 18) rfl ?_
  refine na_n (q := 19) rfl ?_
  refine na_n (q := 20) rfl ?_
  refine na_n (q := 21) rfl ?_
  refine na_n (q := 22) rfl ?_
  refine na_n (q := 23) rfl ?_
  refine na_n (q := 24) rfl ?_
  refine na_1 (q := 25) (⟨so_aload_n dX7_existingAfloat_24 rfl, up_aload _ _⟩) rfl ?_
  refine na_1 (q := 26) (⟨so_reta dX7_existingAfloat_25 rfl (Or.inl ⟨_, rfl⟩), up_reta⟩) rfl ?_
  exact na_z
set_option maxRecDepth 100000 in
set_option maxHeartbeats 4000000 in
theorem ok_129 : nv_all 129 0 np_c129 := by
  unfold np_c129
  refine na_1 (q := 1) (⟨so_aload_n dX7_requireGoingOn_0 rfl, up_aload _ _⟩) rfl ?_
  refine na_3 (q := 4) (⟨so_get kd_5 (k := 0) (by decide) dX7_requireGoingOn_1 wd_253, up_get _ _ _⟩) rfl ?_
  refine na_3 (q := 7) (one_c rfl rfl (sc_V dX7_requireGoingOn_4 cw_X7_requireGoingOn_X4_isGoingOn rfl wd_939 wd_535 wd_536 (nv_rcO (ci := 2) rfl))) rfl ?_
  refine na_3 (q := 10) (⟨so_ifne dX7_requireGoingOn_7 (by decide), up_ifne _ _⟩) rfl ?_
  refine na_3 (q := 13) (st_S rfl rfl (by decide) th_IllegalStateException wd_479 (show (371, "the game is not going on") ∈ nv_msgs by decide) dX7_requireGoingOn_10 dX7_requireGoingOn_13 (Or.inr ⟨dX7_requireGoingOn_14, dX7_requireGoingOn_17, dX7_requireGoingOn_20⟩)) rfl ?_
  refine na_n (q := 14) rfl ?_
  refine na_n (q := 15) rfl ?_
  refine na_n (q := 16) rfl ?_
  refine na_n (q := 17) rfl ?_
  refine na_n (q := 18) rfl ?_
  refine na_n (q := 19) rfl ?_
  refine na_n (q := 20) rfl ?_
  refine na_n (q := 21) rfl ?_
  refine na_1 (q := 22) (⟨so_retv dX7_requireGoingOn_21 rfl, up_retv⟩) rfl ?_
  exact na_z
set_option maxRecDepth 100000 in
set_option maxHeartbeats 4000000 in
theorem ok_130 : nv_all 130 0 np_c130 := by
  unfold np_c130
  refine na_1 (q := 1) (⟨so_iload_n dX7_requireFleet_0 rfl, up_iload _ _⟩) rfl ?_
  refine na_3 (q := 4) (one_c rfl rfl (sc_S dX7_requireFleet_1 cw_X7_requireFleet_X7_isFleet wd_924 wd_403)) rfl ?_
  refine na_3 (q := 7) (⟨so_ifne dX7_requireFleet_4 (by decide), up_ifne _ _⟩) rfl ?_
  refine na_3 (q := 10) (st_S rfl rfl (by decide) th_IndexOutOfBoundsException wd_450 (show (377, "there is no such fleet") ∈ nv_msgs by decide) dX7_requireFleet_7 dX7_requireFleet_10 (Or.inr ⟨dX7_requireFleet_11, dX7_requireFleet_14, dX7_requireFleet_17⟩)) rfl ?_
  refine na_n (q := 11) rfl ?_
  refine na_n (q := 12) rfl ?_
  refine na_n (q := 13) rfl ?_
  refine na_n (q := 14) rfl ?_
  refine na_n (q := 15) rfl ?_
  refine na_n (q := 16) rfl ?_
  refine na_n (q := 17) rfl ?_
  refine na_n (q := 18) rfl ?_
  refine na_1 (q := 19) (⟨so_retv dX7_requireFleet_18 rfl, up_retv⟩) rfl ?_
  exact na_z
set_option maxRecDepth 100000 in
set_option maxHeartbeats 4000000 in
theorem ok_131 : nv_all 131 0 np_c131 := by
  unfold np_c131
  refine na_1 (q := 1) (⟨so_iload_n dX7_requireCell_0 rfl, up_iload _ _⟩) rfl ?_
  refine na_1 (q := 2) (⟨so_iload_n dX7_requireCell_1 rfl, up_iload _ _⟩) rfl ?_
  refine na_3 (q := 5) (one_c rfl rfl (sc_S dX7_requireCell_2 cw_X7_requireCell_X7_isOnTray wd_1104 wd_406)) rfl ?_
  refine na_3 (q := 8) (⟨so_ifne dX7_requireCell_5 (by decide), up_ifne _ _⟩) rfl ?_
  refine na_3 (q := 11) (st_S rfl rfl (by decide) th_IllegalArgumentException wd_463 (show (382, "a coordinate is out of range") ∈ nv_msgs by decide) dX7_requireCell_8 dX7_requireCell_11 (Or.inr ⟨dX7_requireCell_12, dX7_requireCell_15, dX7_requireCell_18⟩)) rfl ?_
  refine na_n (q := 12) rfl ?_
  refine na_n (q := 13) rfl ?_
  refine na_n (q := 14) rfl ?_
  refine na_n (q := 15) rfl ?_
  refine na_n (q := 16) rfl ?_
  refine na_n (q := 17) rfl ?_
  refine na_n (q := 18) rfl ?_
  refine na_n (q := 19) rfl ?_
  refine na_1 (q := 20) (⟨so_retv dX7_requireCell_19 rfl, up_retv⟩) rfl ?_
  exact na_z
set_option maxRecDepth 100000 in
set_option maxHeartbeats 4000000 in
theorem ok_132 : nv_all 132 0 np_c132 := by
  unfold np_c132
  refine na_1 (q := 1) (⟨so_iload_n dX7_isFleet_0 rfl, up_iload _ _⟩) rfl ?_
  refine na_3 (q := 4) (⟨so_ifeq dX7_isFleet_1 (by decide), up_ifeq _ _⟩) rfl ?_
  refine na_1 (q := 5) (⟨so_iload_n dX7_isFleet_4 rfl, up_iload _ _⟩) rfl ?_
  refine na_1 (q := 6) (⟨so_iconst dX7_isFleet_5 (by decide), up_cst _ _⟩) rfl ?_
  refine na_3 (q := 9) (⟨so_cne dX7_isFleet_6 (by decide), up_cne _ _⟩) rfl ?_
  refine na_1 (q := 10) (⟨so_iconst dX7_isFleet_9 (by decide), up_cst _ _⟩) rfl ?_
  refine na_3 (q := 13) (⟨so_goto dX7_isFleet_10 (by decide), up_goto _⟩) rfl ?_
  refine na_1 (q := 14) (⟨so_iconst dX7_isFleet_13 (by decide), up_cst _ _⟩) rfl ?_
  refine na_1 (q := 15) (⟨so_reti dX7_isFleet_14 rfl, up_reti _⟩) rfl ?_
  exact na_z
set_option maxRecDepth 100000 in
set_option maxHeartbeats 4000000 in
theorem ok_133 : nv_all 133 0 np_c133 := by
  unfold np_c133
  refine na_1 (q := 1) (⟨so_iload_n dX7_isOnTray_0 rfl, up_iload _ _⟩) rfl ?_
  refine na_3 (q := 4) (⟨so_iflt dX7_isOnTray_1 (by decide), up_iflt _ _⟩) rfl ?_
  refine na_1 (q := 5) (⟨so_iload_n dX7_isOnTray_4 rfl, up_iload _ _⟩) rfl ?_
  refine na_2 (q := 7) (⟨so_bipush dX7_isOnTray_5 (by decide), up_cst _ _⟩) rfl ?_
  refine na_3 (q := 10) (⟨so_cge dX7_isOnTray_7 (by decide), up_cge _ _⟩) rfl ?_
  refine na_1 (q := 11) (⟨so_iload_n dX7_isOnTray_10 rfl, up_iload _ _⟩) rfl ?_
  refine na_3 (q := 14) (⟨so_iflt dX7_isOnTray_11 (by decide), up_iflt _ _⟩) rfl ?_
  refine na_1 (q := 15) (⟨so_iload_n dX7_isOnTray_14 rfl, up_iload _ _⟩) rfl ?_
  refine na_2 (q := 17) (⟨so_bipush dX7_isOnTray_15 (by decide), up_cst _ _⟩) rfl ?_
  refine na_3 (q := 20) (⟨so_cge dX7_isOnTray_17 (by decide), up_cge _ _⟩) rfl ?_
  refine na_1 (q := 21) (⟨so_iconst dX7_isOnTray_20 (by decide), up_cst _ _⟩) rfl ?_
  refine na_3 (q := 24) (⟨so_goto dX7_isOnTray_21 (by decide), up_goto _⟩) rfl ?_
  refine na_1 (q := 25) (⟨so_iconst dX7_isOnTray_24 (by decide), up_cst _ _⟩) rfl ?_
  refine na_1 (q := 26) (⟨so_reti dX7_isOnTray_25 rfl, up_reti _⟩) rfl ?_
  exact na_z
set_option maxRecDepth 100000 in
set_option maxHeartbeats 4000000 in
theorem ok_134 : nv_all 134 0 np_c134 := by
  unfold np_c134
  refine na_1 (q := 1) (⟨so_iload_n dX7_isBearing_0 rfl, up_iload _ _⟩) rfl ?_
  refine na_3 (q := 4) (⟨so_iflt dX7_isBearing_1 (by decide), up_iflt _ _⟩) rfl ?_
  refine na_1 (q := 5) (⟨so_iload_n dX7_isBearing_4 rfl, up_iload _ _⟩) rfl ?_
  refine na_2 (q := 7) (⟨so_bipush dX7_isBearing_5 (by decide), up_cst _ _⟩) rfl ?_
  refine na_3 (q := 10) (⟨so_cge dX7_isBearing_7 (by decide), up_cge _ _⟩) rfl ?_
  refine na_1 (q := 11) (⟨so_iconst dX7_isBearing_10 (by decide), up_cst _ _⟩) rfl ?_
  refine na_3 (q := 14) (⟨so_goto dX7_isBearing_11 (by decide), up_goto _⟩) rfl ?_
  refine na_1 (q := 15) (⟨so_iconst dX7_isBearing_14 (by decide), up_cst _ _⟩) rfl ?_
  refine na_1 (q := 16) (⟨so_reti dX7_isBearing_15 rfl, up_reti _⟩) rfl ?_
  exact na_z
set_option maxRecDepth 100000 in
set_option maxHeartbeats 4000000 in
theorem ok_135 : nv_all 135 0 np_c135 := by
  unfold np_c135
  refine na_1 (q := 1) (⟨so_iload_n dX7_isCubeNumber_0 rfl, up_iload _ _⟩) rfl ?_
  refine na_1 (q := 2) (⟨so_iconst dX7_isCubeNumber_1 (by decide), up_cst _ _⟩) rfl ?_
  refine na_3 (q := 5) (⟨so_clt dX7_isCubeNumber_2 (by decide), up_clt _ _⟩) rfl ?_
  refine na_1 (q := 6) (⟨so_iload_n dX7_isCubeNumber_5 rfl, up_iload _ _⟩) rfl ?_
  refine na_2 (q := 8) (⟨so_bipush dX7_isCubeNumber_6 (by decide), up_cst _ _⟩) rfl ?_
  refine na_3 (q := 11) (⟨so_cgt dX7_isCubeNumber_8 (by decide), up_cgt _ _⟩) rfl ?_
  refine na_1 (q := 12) (⟨so_iconst dX7_isCubeNumber_11 (by decide), up_cst _ _⟩) rfl ?_
  refine na_3 (q := 15) (⟨so_goto dX7_isCubeNumber_12 (by decide), up_goto _⟩) rfl ?_
  refine na_1 (q := 16) (⟨so_iconst dX7_isCubeNumber_15 (by decide), up_cst _ _⟩) rfl ?_
  refine na_1 (q := 17) (⟨so_reti dX7_isCubeNumber_16 rfl, up_reti _⟩) rfl ?_
  exact na_z
set_option maxRecDepth 100000 in
set_option maxHeartbeats 4000000 in
theorem ok_136 : nv_all 136 0 np_c136 := by
  unfold np_c136
  refine na_1 (q := 1) (⟨so_iload_n dX7_stepX_0 rfl, up_iload _ _⟩) rfl ?_
  refine na_3 (q := 4) (⟨so_ifeq dX7_stepX_1 (by decide), up_ifeq _ _⟩) rfl ?_
  refine na_1 (q := 5) (⟨so_iload_n dX7_stepX_4 rfl, up_iload _ _⟩) rfl ?_
  refine na_1 (q := 6) (⟨so_iconst dX7_stepX_5 (by decide), up_cst _ _⟩) rfl ?_
  refine na_3 (q := 9) (⟨so_cne dX7_stepX_6 (by decide), up_cne _ _⟩) rfl ?_
  refine na_1 (q := 10) (⟨so_iconst dX7_stepX_9 (by decide), up_cst _ _⟩) rfl ?_
  refine na_1 (q := 11) (⟨so_reti dX7_stepX_10 rfl, up_reti _⟩) rfl ?_
  refine na_1 (q := 12) (⟨so_iload_n dX7_stepX_11 rfl, up_iload _ _⟩) rfl ?_
  refine na_1 (q := 13) (⟨so_iconst dX7_stepX_12 (by decide), up_cst _ _⟩) rfl ?_
  refine na_3 (q := 16) (⟨so_cge dX7_stepX_13 (by decide), up_cge _ _⟩) rfl ?_
  refine na_1 (q := 17) (⟨so_iconst dX7_stepX_16 (by decide), up_cst _ _⟩) rfl ?_
  refine na_3 (q := 20) (⟨so_goto dX7_stepX_17 (by decide), up_goto _⟩) rfl ?_
  refine na_1 (q := 21) (⟨so_iconst dX7_stepX_20 (by decide), up_cst _ _⟩) rfl ?_
  refine na_1 (q := 22) (⟨so_reti dX7_stepX_21 rfl, up_reti _⟩) rfl ?_
  exact na_z
set_option maxRecDepth 100000 in
set_option maxHeartbeats 4000000 in
theorem ok_137 : nv_all 137 0 np_c137 := by
  unfold np_c137
  refine na_1 (q := 1) (⟨so_iload_n dX7_stepY_0 rfl, up_iload _ _⟩) rfl ?_
  refine na_1 (q := 2) (⟨so_iconst dX7_stepY_1 (by decide), up_cst _ _⟩) rfl ?_
  refine na_3 (q := 5) (⟨so_ceq dX7_stepY_2 (by decide), up_ceq _ _⟩) rfl ?_
  refine na_1 (q := 6) (⟨so_iload_n dX7_stepY_5 rfl, up_iload _ _⟩) rfl ?_
  refine na_2 (q := 8) (⟨so_bipush dX7_stepY_6 (by decide), up_cst _ _⟩) rfl ?_
  refine na_3 (q := 11) (⟨so_cne dX7_stepY_8 (by decide), up_cne _ _⟩) rfl ?_
  refine na_1 (q := 12) (⟨so_iconst dX7_stepY_11 (by decide), up_cst _ _⟩) rfl ?_
  refine na_1 (q := 13) (⟨so_reti dX7_stepY_12 rfl, up_reti _⟩) rfl ?_
  refine na_1 (q := 14) (⟨so_iload_n dX7_stepY_13 rfl, up_iload _ _⟩) rfl ?_
  refine na_1 (q := 15) (⟨so_iconst dX7_stepY_14 (by decide), up_cst _ _⟩) rfl ?_
  refine na_3 (q := 18) (⟨so_cle dX7_stepY_15 (by decide), up_cle _ _⟩) rfl ?_
  refine na_1 (q := 19) (⟨so_iload_n dX7_stepY_18 rfl, up_iload _ _⟩) rfl ?_
  refine na_2 (q := 21) (⟨so_bipush dX7_stepY_19 (by decide), up_cst _ _⟩) rfl ?_
  refine na_3 (q := 24) (⟨so_cge dX7_stepY_21 (by decide), up_cge _ _⟩) rfl ?_
  refine na_1 (q := 25) (⟨so_iconst dX7_stepY_24 (by decide), up_cst _ _⟩) rfl ?_
  refine na_3 (q := 28) (⟨so_goto dX7_stepY_25 (by decide), up_goto _⟩) rfl ?_
  refine na_1 (q := 29) (⟨so_iconst dX7_stepY_28 (by decide), up_cst _ _⟩) rfl ?_
  refine na_1 (q := 30) (⟨so_reti dX7_stepY_29 rfl, up_reti _⟩) rfl ?_
  exact na_z
set_option maxRecDepth 100000 in
set_option maxHeartbeats 4000000 in
theorem ok_138 : nv_all 138 0 np_c138 := by
  unfold np_c138
  refine na_1 (q := 1) (⟨so_iload_n dX7_directionOf_0 rfl, up_iload _ _⟩) rfl ?_
  refine na_3 (q := 4) (⟨so_abs dX7_directionOf_1 wd_569 wd_570 wd_37 cd_abs (by decide), up_abs _⟩) rfl ?_
  refine na_1 (q := 5) (⟨so_istore_n dX7_directionOf_4 rfl (by decide), up_istore _ _⟩) rfl ?_
  refine na_1 (q := 6) (⟨so_iload_n dX7_directionOf_5 rfl, up_iload _ _⟩) rfl ?_
  refine na_3 (q := 9) (⟨so_abs dX7_directionOf_6 wd_569 wd_570 wd_37 cd_abs (by decide), up_abs _⟩) rfl ?_
  refine na_1 (q := 10) (⟨so_istore_n dX7_directionOf_9 rfl (by decide), up_istore _ _⟩) rfl ?_
  refine na_1 (q := 11) (⟨so_iload_n dX7_directionOf_10 rfl, up_iload _ _⟩) rfl ?_
  refine na_1 (q := 12) (⟨so_iconst dX7_directionOf_11 (by decide), up_cst _ _⟩) rfl ?_
  refine na_1 (q := 13) (⟨so_iload_n dX7_directionOf_12 rfl, up_iload _ _⟩) rfl ?_
  refine na_1 (q := 14) (⟨so_imul dX7_directionOf_13, up_i2 _ _⟩) rfl ?_
  refine na_3 (q := 17) (⟨so_clt dX7_directionOf_14 (by decide), up_clt _ _⟩) rfl ?_
  refine na_1 (q := 18) (⟨so_iload_n dX7_directionOf_17 rfl, up_iload _ _⟩) rfl ?_
  refine na_3 (q := 21) (⟨so_ifle dX7_directionOf_18 (by decide), up_ifle _ _⟩) rfl ?_
  refine na_1 (q := 22) (⟨so_iconst dX7_directionOf_21 (by decide), up_cst _ _⟩) rfl ?_
  refine na_3 (q := 25) (⟨so_goto dX7_directionOf_22 (by decide), up_goto _⟩) rfl ?_
  refine na_2 (q := 27) (⟨so_bipush dX7_directionOf_25 (by decide), up_cst _ _⟩) rfl ?_
  refine na_1 (q := 28) (⟨so_reti dX7_directionOf_27 rfl, up_reti _⟩) rfl ?_
  refine na_1 (q := 29) (⟨so_iload_n dX7_directionOf_28 rfl, up_iload _ _⟩) rfl ?_
  refine na_1 (q := 30) (⟨so_iconst dX7_directionOf_29 (by decide), up_cst _ _⟩) rfl ?_
  refine na_1 (q := 31) (⟨so_iload_n dX7_directionOf_30 rfl, up_iload _ _⟩) rfl ?_
  refine na_1 (q := 32) (⟨so_imul dX7_directionOf_31, up_i2 _ _⟩) rfl ?_
  refine na_3 (q := 35) (⟨so_clt dX7_directionOf_32 (by decide), up_clt _ _⟩) rfl ?_
  refine na_1 (q := 36) (⟨so_iload_n dX7_directionOf_35 rfl, up_iload _ _⟩) rfl ?_
  refine na_3 (q := 39) (⟨so_ifle dX7_directionOf_36 (by decide), up_ifle _ _⟩) rfl ?_
  refine na_1 (q := 40) (⟨so_iconst dX7_directionOf_39 (by decide), up_cst _ _⟩) rfl ?_
  refine na_3 (q := 43) (⟨so_goto dX7_directionOf_40 (by decide), up_goto _⟩) rfl ?_
  refine na_1 (q := 44) (⟨so_iconst dX7_directionOf_43 (by decide), up_cst _ _⟩) rfl ?_
  refine na_1 (q := 45) (⟨so_reti dX7_directionOf_44 rfl, up_reti _⟩) rfl ?_
  refine na_1 (q := 46) (⟨so_iload_n dX7_directionOf_45 rfl, up_iload _ _⟩) rfl ?_
  refine na_3 (q := 49) (⟨so_ifle dX7_directionOf_46 (by decide), up_ifle _ _⟩) rfl ?_
  refine na_1 (q := 50) (⟨so_iload_n dX7_directionOf_49 rfl, up_iload _ _⟩) rfl ?_
  refine na_3 (q := 53) (⟨so_ifle dX7_directionOf_50 (by decide), up_ifle _ _⟩) rfl ?_
  refine na_1 (q := 54) (⟨so_iconst dX7_directionOf_53 (by decide), up_cst _ _⟩) rfl ?_
  refine na_3 (q := 57) (⟨so_goto dX7_directionOf_54 (by decide), up_goto _⟩) rfl ?_
  refine na_1 (q := 58) (⟨so_iconst dX7_directionOf_57 (by decide), up_cst _ _⟩) rfl ?_
  refine na_1 (q := 59) (⟨so_reti dX7_directionOf_58 rfl, up_reti _⟩) rfl ?_
  refine na_1 (q := 60) (⟨so_iload_n dX7_directionOf_59 rfl, up_iload _ _⟩) rfl ?_
  refine na_3 (q := 63) (⟨so_ifle dX7_directionOf_60 (by decide), up_ifle _ _⟩) rfl ?_
  refine na_2 (q := 65) (⟨so_bipush dX7_directionOf_63 (by decide), up_cst _ _⟩) rfl ?_
  refine na_3 (q := 68) (⟨so_goto dX7_directionOf_65 (by decide), up_goto _⟩) rfl ?_
  refine na_1 (q := 69) (⟨so_iconst dX7_directionOf_68 (by decide), up_cst _ _⟩) rfl ?_
  refine na_1 (q := 70) (⟨so_reti dX7_directionOf_69 rfl, up_reti _⟩) rfl ?_
  exact na_z
set_option maxRecDepth 100000 in
set_option maxHeartbeats 4000000 in
theorem ok_139 : nv_all 139 0 np_c139 := by
  unfold np_c139
  refine na_1 (q := 1) (⟨so_iload_n dX7_stepsBetween_0 rfl, up_iload _ _⟩) rfl ?_
  refine na_1 (q := 2) (⟨so_iload_n dX7_stepsBetween_1 rfl, up_iload _ _⟩) rfl ?_
  refine na_1 (q := 3) (⟨so_isub dX7_stepsBetween_2, up_i2 _ _⟩) rfl ?_
  refine na_3 (q := 6) (⟨so_abs dX7_stepsBetween_3 wd_569 wd_570 wd_37 cd_abs (by decide), up_abs _⟩) rfl ?_
  refine na_1 (q := 7) (⟨so_istore_n dX7_stepsBetween_6 rfl (by decide), up_istore _ _⟩) rfl ?_
  refine na_1 (q := 8) (⟨so_iload_n dX7_stepsBetween_7 rfl, up_iload _ _⟩) rfl ?_
  refine na_2 (q := 10) (⟨so_bipush dX7_stepsBetween_8 (by decide), up_cst _ _⟩) rfl ?_
  refine na_1 (q := 11) (⟨so_iload_n dX7_stepsBetween_10 rfl, up_iload _ _⟩) rfl ?_
  refine na_1 (q := 12) (⟨so_isub dX7_stepsBetween_11, up_i2 _ _⟩) rfl ?_
  refine na_3 (q := 15) (⟨so_min dX7_stepsBetween_12 wd_572 wd_444 wd_37 cd_min (by decide), up_min _⟩) rfl ?_
  refine na_1 (q := 16) (⟨so_reti dX7_stepsBetween_15 rfl, up_reti _⟩) rfl ?_
  exact na_z
set_option maxRecDepth 100000 in
set_option maxHeartbeats 4000000 in
theorem ok_140 : nv_all 140 0 np_c140 := by
  unfold np_c140
  refine na_1 (q := 1) (⟨so_aload_n dL_cell_0 rfl, up_aload _ _⟩) rfl ?_
  refine na_1 (q := 2) (⟨so_scl dL_cell_1, up_scl _⟩) rfl ?_
  refine na_3 (q := 5) (⟨so_ifne dL_cell_2 (by decide), up_ifne _ _⟩) rfl ?_
  refine na_3 (q := 8) (⟨so_sipush dL_cell_5 (by decide), up_cst _ _⟩) rfl ?_
  refine na_1 (q := 9) (⟨so_iload_n dL_cell_8 rfl, up_iload _ _⟩) rfl ?_
  refine na_1 (q := 10) (⟨so_imul dL_cell_9, up_i2 _ _⟩) rfl ?_
  refine na_3 (q := 13) (⟨so_goto dL_cell_10 (by decide), up_goto _⟩) rfl ?_
  refine na_1 (q := 14) (⟨so_aload_n dL_cell_13 rfl, up_aload _ _⟩) rfl ?_
  refine na_1 (q := 15) (⟨so_iload_n dL_cell_14 rfl, up_iload _ _⟩) rfl ?_
  refine na_2 (q := 17) (⟨so_ldc dL_cell_15 wd_306, up_cst _ _⟩) rfl ?_
  refine na_1 (q := 18) (⟨so_iand dL_cell_17, up_i2 _ _⟩) rfl ?_
  refine na_1 (q := 19) (⟨so_aload_n dL_cell_18 rfl, up_aload _ _⟩) rfl ?_
  refine na_1 (q := 20) (⟨so_scl dL_cell_19, up_scl _⟩) rfl ?_
  refine na_1 (q := 21) (⟨so_irem dL_cell_20, up_irem _⟩) rfl ?_
  refine na_1 (q := 22) (⟨so_sci dL_cell_21, up_sci _⟩) rfl ?_
  refine na_1 (q := 23) (⟨so_reti dL_cell_22 rfl, up_reti _⟩) rfl ?_
  exact na_z
set_option maxRecDepth 100000 in
theorem sk_L_addSpoon_12 : ∀ q ∈ np_hls.getD 141 [], q.1 ≤ 12 → 12 < q.2.1 → nv_SK (np_M 141) 12 q.2.2.1 q.2.2.2.1 q.2.2.2.2 := by
  intro q hq h1 h2
  have hq : q ∈ ([(4, 17, "java/lang/IndexOutOfBoundsException", 22, 7), (4, 17, "java/lang/IllegalArgumentException", 27, 7), (4, 17, "java/lang/IllegalStateException", 32, 7), (4, 17, "java/lang/UnsupportedOperationException", 37, 7)] : List (Nat × Nat × String × Nat × Nat)) := hq
  simp only [List.mem_cons, List.not_mem_nil, or_false] at hq
  rcases hq with rfl | rfl | rfl | rfl
  · exact sk_at [] (4, 17, 20, 17) [(4, 17, 25, 19), (4, 17, 30, 21), (4, 17, 35, 23)] rfl (fun z hz => by cases hz) (by decide) (by decide) wd_310 wd_452 (by decide) (Or.inr ⟨dL_addSpoon_20, rfl⟩)
  · exact sk_at [(4, 17, 20, 17)] (4, 17, 25, 19) [(4, 17, 30, 21), (4, 17, 35, 23)] rfl (fun z hz => by
      simp only [List.mem_cons, List.not_mem_nil, or_false] at hz
      rcases hz with rfl
      · exact ⟨by decide, _, wd_310, by decide⟩) (by decide) (by decide) wd_390 wd_465 (by decide) (Or.inr ⟨dL_addSpoon_25, rfl⟩)
  · exact sk_at [(4, 17, 20, 17), (4, 17, 25, 19)] (4, 17, 30, 21) [(4, 17, 35, 23)] rfl (fun z hz => by
      simp only [List.mem_cons, List.not_mem_nil, or_false] at hz
      rcases hz with rfl | rfl
      · exact ⟨by decide, _, wd_310, by decide⟩
      · exact ⟨by decide, _, wd_390, by decide⟩) (by decide) (by decide) wd_391 wd_481 (by decide) (Or.inr ⟨dL_addSpoon_30, rfl⟩)
  · exact sk_at [(4, 17, 20, 17), (4, 17, 25, 19), (4, 17, 30, 21)] (4, 17, 35, 23) [] rfl (fun z hz => by
      simp only [List.mem_cons, List.not_mem_nil, or_false] at hz
      rcases hz with rfl | rfl | rfl
      · exact ⟨by decide, _, wd_310, by decide⟩
      · exact ⟨by decide, _, wd_390, by decide⟩
      · exact ⟨by decide, _, wd_391, by decide⟩) (by decide) (by decide) wd_392 wd_497 (by decide) (Or.inr ⟨dL_addSpoon_35, rfl⟩)
set_option maxRecDepth 100000 in
set_option maxHeartbeats 4000000 in
theorem ok_141 : nv_all 141 0 np_c141 := by
  unfold np_c141
  refine na_2 (q := 2) (⟨so_ldc dL_addSpoon_0 wd_393, up_cst _ _⟩) rfl ?_
  refine na_2 (q := 4) (⟨so_istore dL_addSpoon_2 (by decide), up_istore _ _⟩) rfl ?_
  refine na_1 (q := 5) (⟨so_aload_n dL_addSpoon_4 rfl, up_aload _ _⟩) rfl ?_
  refine na_1 (q := 6) (⟨so_iload_n dL_addSpoon_5 rfl, up_iload _ _⟩) rfl ?_
  refine na_1 (q := 7) (⟨so_iload_n dL_addSpoon_6 rfl, up_iload _ _⟩) rfl ?_
  refine na_1 (q := 8) (⟨so_iload_n dL_addSpoon_7 rfl, up_iload _ _⟩) rfl ?_
  refine na_2 (q := 10) (⟨so_iload dL_addSpoon_8, up_iload _ _⟩) rfl ?_
  refine na_2 (q := 12) (⟨so_iload dL_addSpoon_10, up_iload _ _⟩) rfl ?_
  refine na_3 (q := 15) (one_h (sc_V dL_addSpoon_12 cw_L_addSpoon_X7_addSpoon rfl wd_394 wd_395 wd_396 (nv_rcO (ci := 5) rfl)) (by decide) (by decide) sk_L_addSpoon_12) rfl ?_
  refine na_2 (q := 17) (⟨so_istore dL_addSpoon_15 (by decide), up_istore _ _⟩) rfl ?_
  refine na_3 (q := 20) (⟨so_goto dL_addSpoon_17 (by decide), up_goto _⟩) rfl ?_
  refine na_n (q := 21) rfl ?_
  refine na_n (q := 22) rfl ?_
  refine na_2 (q := 24) (⟨so_ldc dL_addSpoon_22 wd_393, up_cst _ _⟩) rfl ?_
  refine na_3 (q := 27) (⟨so_reti dL_addSpoon_24 rfl, up_reti _⟩) rfl ?_
  refine na_2 (q := 29) (⟨so_ldc dL_addSpoon_27 wd_393, up_cst _ _⟩) rfl ?_
  refine na_3 (q := 32) (⟨so_reti dL_addSpoon_29 rfl, up_reti _⟩) rfl ?_
  refine na_2 (q := 34) (⟨so_ldc dL_addSpoon_32 wd_393, up_cst _ _⟩) rfl ?_
  refine na_3 (q := 37) (⟨so_reti dL_addSpoon_34 rfl, up_reti _⟩) rfl ?_
  refine na_2 (q := 39) (⟨so_ldc dL_addSpoon_37 wd_393, up_cst _ _⟩) rfl ?_
  refine na_1 (q := 40) (⟨so_reti dL_addSpoon_39 rfl, up_reti _⟩) rfl ?_
  refine na_2 (q := 42) (⟨so_iload dL_addSpoon_40, up_iload _ _⟩) rfl ?_
  refine na_1 (q := 43) (⟨so_reti dL_addSpoon_42 rfl, up_reti _⟩) rfl ?_
  exact na_z
set_option maxRecDepth 100000 in
theorem sk_L_start_4 : ∀ q ∈ np_hls.getD 142 [], q.1 ≤ 4 → 4 < q.2.1 → nv_SK (np_M 142) 4 q.2.2.1 q.2.2.2.1 q.2.2.2.2 := by
  intro q hq h1 h2
  have hq : q ∈ ([(3, 8, "java/lang/IllegalStateException", 12, 2)] : List (Nat × Nat × String × Nat × Nat)) := hq
  simp only [List.mem_cons, List.not_mem_nil, or_false] at hq
  rcases hq with rfl
  · exact sk_at [] (3, 8, 11, 21) [] rfl (fun z hz => by cases hz) (by decide) (by decide) wd_391 wd_481 (by decide) (Or.inl ⟨2, dL_start_11, rfl, rfl⟩)
set_option maxRecDepth 100000 in
set_option maxHeartbeats 4000000 in
theorem ok_142 : nv_all 142 0 np_c142 := by
  unfold np_c142
  refine na_2 (q := 2) (⟨so_ldc dL_start_0 wd_393, up_cst _ _⟩) rfl ?_
  refine na_1 (q := 3) (⟨so_istore_n dL_start_2 rfl (by decide), up_istore _ _⟩) rfl ?_
  refine na_1 (q := 4) (⟨so_aload_n dL_start_3 rfl, up_aload _ _⟩) rfl ?_
  refine na_3 (q := 7) (one_h (sc_V dL_start_4 cw_L_start_X7_start rfl wd_515 wd_516 wd_517 (nv_rcO (ci := 5) rfl)) (by decide) (by decide) sk_L_start_4) rfl ?_
  refine na_1 (q := 8) (⟨so_istore_n dL_start_7 rfl (by decide), up_istore _ _⟩) rfl ?_
  refine na_3 (q := 11) (⟨so_goto dL_start_8 (by decide), up_goto _⟩) rfl ?_
  refine na_n (q := 12) rfl ?_
  refine na_2 (q := 14) (⟨so_ldc dL_start_12 wd_393, up_cst _ _⟩) rfl ?_
  refine na_1 (q := 15) (⟨so_reti dL_start_14 rfl, up_reti _⟩) rfl ?_
  refine na_1 (q := 16) (⟨so_iload_n dL_start_15 rfl, up_iload _ _⟩) rfl ?_
  refine na_1 (q := 17) (⟨so_reti dL_start_16 rfl, up_reti _⟩) rfl ?_
  exact na_z
set_option maxRecDepth 100000 in
theorem sk_L_endTurn_4 : ∀ q ∈ np_hls.getD 143 [], q.1 ≤ 4 → 4 < q.2.1 → nv_SK (np_M 143) 4 q.2.2.1 q.2.2.2.1 q.2.2.2.2 := by
  intro q hq h1 h2
  have hq : q ∈ ([(3, 8, "java/lang/IllegalStateException", 12, 2)] : List (Nat × Nat × String × Nat × Nat)) := hq
  simp only [List.mem_cons, List.not_mem_nil, or_false] at hq
  rcases hq with rfl
  · exact sk_at [] (3, 8, 11, 21) [] rfl (fun z hz => by cases hz) (by decide) (by decide) wd_391 wd_481 (by decide) (Or.inl ⟨2, dL_endTurn_11, rfl, rfl⟩)
set_option maxRecDepth 100000 in
set_option maxHeartbeats 4000000 in
theorem ok_143 : nv_all 143 0 np_c143 := by
  unfold np_c143
  refine na_2 (q := 2) (⟨so_ldc dL_endTurn_0 wd_393, up_cst _ _⟩) rfl ?_
  refine na_1 (q := 3) (⟨so_istore_n dL_endTurn_2 rfl (by decide), up_istore _ _⟩) rfl ?_
  refine na_1 (q := 4) (⟨so_aload_n dL_endTurn_3 rfl, up_aload _ _⟩) rfl ?_
  refine na_3 (q := 7) (one_h (sc_V dL_endTurn_4 cw_L_endTurn_X7_endTurn rfl wd_526 wd_527 wd_528 (nv_rcO (ci := 5) rfl)) (by decide) (by decide) sk_L_endTurn_4) rfl ?_
  refine na_1 (q := 8) (⟨so_istore_n dL_endTurn_7 rfl (by decide), up_istore _ _⟩) rfl ?_
  refine na_3 (q := 11) (⟨so_goto dL_endTurn_8 (by decide), up_goto _⟩) rfl ?_
  refine na_n (q := 12) rfl ?_
  refine na_2 (q := 14) (⟨so_ldc dL_endTurn_12 wd_393, up_cst _ _⟩) rfl ?_
  refine na_1 (q := 15) (⟨so_reti dL_endTurn_14 rfl, up_reti _⟩) rfl ?_
  refine na_1 (q := 16) (⟨so_iload_n dL_endTurn_15 rfl, up_iload _ _⟩) rfl ?_
  refine na_1 (q := 17) (⟨so_reti dL_endTurn_16 rfl, up_reti _⟩) rfl ?_
  exact na_z
set_option maxRecDepth 100000 in
theorem sk_L_winner_5 : ∀ q ∈ np_hls.getD 144 [], q.1 ≤ 5 → 5 < q.2.1 → nv_SK (np_M 144) 5 q.2.2.1 q.2.2.2.1 q.2.2.2.2 := by
  intro q hq h1 h2
  have hq : q ∈ ([(4, 9, "java/lang/IllegalStateException", 13, 2)] : List (Nat × Nat × String × Nat × Nat)) := hq
  simp only [List.mem_cons, List.not_mem_nil, or_false] at hq
  rcases hq with rfl
  · exact sk_at [] (4, 9, 12, 21) [] rfl (fun z hz => by cases hz) (by decide) (by decide) wd_391 wd_481 (by decide) (Or.inl ⟨2, dL_winner_12, rfl, rfl⟩)
set_option maxRecDepth 100000 in
set_option maxHeartbeats 4000000 in
theorem ok_144 : nv_all 144 0 np_c144 := by
  unfold np_c144
  refine na_3 (q := 3) (⟨so_sipush dL_winner_0 (by decide), up_cst _ _⟩) rfl ?_
  refine na_1 (q := 4) (⟨so_istore_n dL_winner_3 rfl (by decide), up_istore _ _⟩) rfl ?_
  refine na_1 (q := 5) (⟨so_aload_n dL_winner_4 rfl, up_aload _ _⟩) rfl ?_
  refine na_3 (q := 8) (one_h (sc_V dL_winner_5 cw_L_winner_X7_winner rfl wd_1001 wd_1002 wd_1003 (nv_rcO (ci := 5) rfl)) (by decide) (by decide) sk_L_winner_5) rfl ?_
  refine na_1 (q := 9) (⟨so_istore_n dL_winner_8 rfl (by decide), up_istore _ _⟩) rfl ?_
  refine na_3 (q := 12) (⟨so_goto dL_winner_9 (by decide), up_goto _⟩) rfl ?_
  refine na_n (q := 13) rfl ?_
  refine na_3 (q := 16) (⟨so_sipush dL_winner_13 (by decide), up_cst _ _⟩) rfl ?_
  refine na_1 (q := 17) (⟨so_reti dL_winner_16 rfl, up_reti _⟩) rfl ?_
  refine na_1 (q := 18) (⟨so_iload_n dL_winner_17 rfl, up_iload _ _⟩) rfl ?_
  refine na_1 (q := 19) (⟨so_reti dL_winner_18 rfl, up_reti _⟩) rfl ?_
  exact na_z
set_option maxRecDepth 100000 in
theorem sk_L_activeFleet_5 : ∀ q ∈ np_hls.getD 145 [], q.1 ≤ 5 → 5 < q.2.1 → nv_SK (np_M 145) 5 q.2.2.1 q.2.2.2.1 q.2.2.2.2 := by
  intro q hq h1 h2
  have hq : q ∈ ([(4, 9, "java/lang/IllegalStateException", 13, 2)] : List (Nat × Nat × String × Nat × Nat)) := hq
  simp only [List.mem_cons, List.not_mem_nil, or_false] at hq
  rcases hq with rfl
  · exact sk_at [] (4, 9, 12, 21) [] rfl (fun z hz => by cases hz) (by decide) (by decide) wd_391 wd_481 (by decide) (Or.inl ⟨2, dL_activeFleet_12, rfl, rfl⟩)
set_option maxRecDepth 100000 in
set_option maxHeartbeats 4000000 in
theorem ok_145 : nv_all 145 0 np_c145 := by
  unfold np_c145
  refine na_3 (q := 3) (⟨so_sipush dL_activeFleet_0 (by decide), up_cst _ _⟩) rfl ?_
  refine na_1 (q := 4) (⟨so_istore_n dL_activeFleet_3 rfl (by decide), up_istore _ _⟩) rfl ?_
  refine na_1 (q := 5) (⟨so_aload_n dL_activeFleet_4 rfl, up_aload _ _⟩) rfl ?_
  refine na_3 (q := 8) (one_h (sc_V dL_activeFleet_5 cw_L_activeFleet_X7_activeFleet rfl wd_931 wd_932 wd_933 (nv_rcO (ci := 5) rfl)) (by decide) (by decide) sk_L_activeFleet_5) rfl ?_
  refine na_1 (q := 9) (⟨so_istore_n dL_activeFleet_8 rfl (by decide), up_istore _ _⟩) rfl ?_
  refine na_3 (q := 12) (⟨so_goto dL_activeFleet_9 (by decide), up_goto _⟩) rfl ?_
  refine na_n (q := 13) rfl ?_
  refine na_3 (q := 16) (⟨so_sipush dL_activeFleet_13 (by decide), up_cst _ _⟩) rfl ?_
  refine na_1 (q := 17) (⟨so_reti dL_activeFleet_16 rfl, up_reti _⟩) rfl ?_
  refine na_1 (q := 18) (⟨so_iload_n dL_activeFleet_17 rfl, up_iload _ _⟩) rfl ?_
  refine na_1 (q := 19) (⟨so_reti dL_activeFleet_18 rfl, up_reti _⟩) rfl ?_
  exact na_z
set_option maxRecDepth 100000 in
theorem sk_L_actionsLeft_5 : ∀ q ∈ np_hls.getD 146 [], q.1 ≤ 5 → 5 < q.2.1 → nv_SK (np_M 146) 5 q.2.2.1 q.2.2.2.1 q.2.2.2.2 := by
  intro q hq h1 h2
  have hq : q ∈ ([(4, 9, "java/lang/IllegalStateException", 13, 2)] : List (Nat × Nat × String × Nat × Nat)) := hq
  simp only [List.mem_cons, List.not_mem_nil, or_false] at hq
  rcases hq with rfl
  · exact sk_at [] (4, 9, 12, 21) [] rfl (fun z hz => by cases hz) (by decide) (by decide) wd_391 wd_481 (by decide) (Or.inl ⟨2, dL_actionsLeft_12, rfl, rfl⟩)
set_option maxRecDepth 100000 in
set_option maxHeartbeats 4000000 in
theorem ok_146 : nv_all 146 0 np_c146 := by
  unfold np_c146
  refine na_3 (q := 3) (⟨so_sipush dL_actionsLeft_0 (by decide), up_cst _ _⟩) rfl ?_
  refine na_1 (q := 4) (⟨so_istore_n dL_actionsLeft_3 rfl (by decide), up_istore _ _⟩) rfl ?_
  refine na_1 (q := 5) (⟨so_aload_n dL_actionsLeft_4 rfl, up_aload _ _⟩) rfl ?_
  refine na_3 (q := 8) (one_h (sc_V dL_actionsLeft_5 cw_L_actionsLeft_X7_actionsLeft rfl wd_945 wd_946 wd_947 (nv_rcO (ci := 5) rfl)) (by decide) (by decide) sk_L_actionsLeft_5) rfl ?_
  refine na_1 (q := 9) (⟨so_istore_n dL_actionsLeft_8 rfl (by decide), up_istore _ _⟩) rfl ?_
  refine na_3 (q := 12) (⟨so_goto dL_actionsLeft_9 (by decide), up_goto _⟩) rfl ?_
  refine na_n (q := 13) rfl ?_
  refine na_3 (q := 16) (⟨so_sipush dL_actionsLeft_13 (by decide), up_cst _ _⟩) rfl ?_
  refine na_1 (q := 17) (⟨so_reti dL_actionsLeft_16 rfl, up_reti _⟩) rfl ?_
  refine na_1 (q := 18) (⟨so_iload_n dL_actionsLeft_17 rfl, up_iload _ _⟩) rfl ?_
  refine na_1 (q := 19) (⟨so_reti dL_actionsLeft_18 rfl, up_reti _⟩) rfl ?_
  exact na_z
set_option maxRecDepth 100000 in
theorem sk_L_turnTo_6 : ∀ q ∈ np_hls.getD 147 [], q.1 ≤ 6 → 6 < q.2.1 → nv_SK (np_M 147) 6 q.2.2.1 q.2.2.2.1 q.2.2.2.2 := by
  intro q hq h1 h2
  have hq : q ∈ ([(3, 10, "java/lang/IndexOutOfBoundsException", 15, 4), (3, 10, "java/lang/IllegalArgumentException", 20, 4), (3, 10, "java/lang/IllegalStateException", 25, 4), (3, 10, "java/lang/UnsupportedOperationException", 30, 4)] : List (Nat × Nat × String × Nat × Nat)) := hq
  simp only [List.mem_cons, List.not_mem_nil, or_false] at hq
  rcases hq with rfl | rfl | rfl | rfl
  · exact sk_at [] (3, 10, 13, 17) [(3, 10, 18, 19), (3, 10, 23, 21), (3, 10, 28, 23)] rfl (fun z hz => by cases hz) (by decide) (by decide) wd_310 wd_452 (by decide) (Or.inr ⟨dL_turnTo_13, rfl⟩)
  · exact sk_at [(3, 10, 13, 17)] (3, 10, 18, 19) [(3, 10, 23, 21), (3, 10, 28, 23)] rfl (fun z hz => by
      simp only [List.mem_cons, List.not_mem_nil, or_false] at hz
      rcases hz with rfl
      · exact ⟨by decide, _, wd_310, by decide⟩) (by decide) (by decide) wd_390 wd_465 (by decide) (Or.inr ⟨dL_turnTo_18, rfl⟩)
  · exact sk_at [(3, 10, 13, 17), (3, 10, 18, 19)] (3, 10, 23, 21) [(3, 10, 28, 23)] rfl (fun z hz => by
      simp only [List.mem_cons, List.not_mem_nil, or_false] at hz
      rcases hz with rfl | rfl
      · exact ⟨by decide, _, wd_310, by decide⟩
      · exact ⟨by decide, _, wd_390, by decide⟩) (by decide) (by decide) wd_391 wd_481 (by decide) (Or.inr ⟨dL_turnTo_23, rfl⟩)
  · exact sk_at [(3, 10, 13, 17), (3, 10, 18, 19), (3, 10, 23, 21)] (3, 10, 28, 23) [] rfl (fun z hz => by
      simp only [List.mem_cons, List.not_mem_nil, or_false] at hz
      rcases hz with rfl | rfl | rfl
      · exact ⟨by decide, _, wd_310, by decide⟩
      · exact ⟨by decide, _, wd_390, by decide⟩
      · exact ⟨by decide, _, wd_391, by decide⟩) (by decide) (by decide) wd_392 wd_497 (by decide) (Or.inr ⟨dL_turnTo_28, rfl⟩)
set_option maxRecDepth 100000 in
set_option maxHeartbeats 4000000 in
theorem ok_147 : nv_all 147 0 np_c147 := by
  unfold np_c147
  refine na_2 (q := 2) (⟨so_ldc dL_turnTo_0 wd_393, up_cst _ _⟩) rfl ?_
  refine na_1 (q := 3) (⟨so_istore_n dL_turnTo_2 rfl (by decide), up_istore _ _⟩) rfl ?_
  refine na_1 (q := 4) (⟨so_aload_n dL_turnTo_3 rfl, up_aload _ _⟩) rfl ?_
  refine na_1 (q := 5) (⟨so_iload_n dL_turnTo_4 rfl, up_iload _ _⟩) rfl ?_
  refine na_1 (q := 6) (⟨so_iload_n dL_turnTo_5 rfl, up_iload _ _⟩) rfl ?_
  refine na_3 (q := 9) (one_h (sc_V dL_turnTo_6 cw_L_turnTo_X7_turnTo rfl wd_545 wd_546 wd_547 (nv_rcO (ci := 5) rfl)) (by decide) (by decide) sk_L_turnTo_6) rfl ?_
  refine na_1 (q := 10) (⟨so_istore_n dL_turnTo_9 rfl (by decide), up_istore _ _⟩) rfl ?_
  refine na_3 (q := 13) (⟨so_goto dL_turnTo_10 (by decide), up_goto _⟩) rfl ?_
  refine na_n (q := 14) rfl ?_
  refine na_n (q := 15) rfl ?_
  refine na_2 (q := 17) (⟨so_ldc dL_turnTo_15 wd_393, up_cst _ _⟩) rfl ?_
  refine na_3 (q := 20) (⟨so_reti dL_turnTo_17 rfl, up_reti _⟩) rfl ?_
  refine na_2 (q := 22) (⟨so_ldc dL_turnTo_20 wd_393, up_cst _ _⟩) rfl ?_
  refine na_3 (q := 25) (⟨so_reti dL_turnTo_22 rfl, up_reti _⟩) rfl ?_
  refine na_2 (q := 27) (⟨so_ldc dL_turnTo_25 wd_393, up_cst _ _⟩) rfl ?_
  refine na_3 (q := 30) (⟨so_reti dL_turnTo_27 rfl, up_reti _⟩) rfl ?_
  refine na_2 (q := 32) (⟨so_ldc dL_turnTo_30 wd_393, up_cst _ _⟩) rfl ?_
  refine na_1 (q := 33) (⟨so_reti dL_turnTo_32 rfl, up_reti _⟩) rfl ?_
  refine na_1 (q := 34) (⟨so_iload_n dL_turnTo_33 rfl, up_iload _ _⟩) rfl ?_
  refine na_1 (q := 35) (⟨so_reti dL_turnTo_34 rfl, up_reti _⟩) rfl ?_
  exact na_z
set_option maxRecDepth 100000 in
theorem sk_L_sail_8 : ∀ q ∈ np_hls.getD 148 [], q.1 ≤ 8 → 8 < q.2.1 → nv_SK (np_M 148) 8 q.2.2.1 q.2.2.2.1 q.2.2.2.2 := by
  intro q hq h1 h2
  have hq : q ∈ ([(4, 13, "java/lang/IndexOutOfBoundsException", 18, 5), (4, 13, "java/lang/IllegalArgumentException", 23, 5), (4, 13, "java/lang/IllegalStateException", 28, 5), (4, 13, "java/lang/UnsupportedOperationException", 33, 5)] : List (Nat × Nat × String × Nat × Nat)) := hq
  simp only [List.mem_cons, List.not_mem_nil, or_false] at hq
  rcases hq with rfl | rfl | rfl | rfl
  · exact sk_at [] (4, 13, 16, 17) [(4, 13, 21, 19), (4, 13, 26, 21), (4, 13, 31, 23)] rfl (fun z hz => by cases hz) (by decide) (by decide) wd_310 wd_452 (by decide) (Or.inr ⟨dL_sail_16, rfl⟩)
  · exact sk_at [(4, 13, 16, 17)] (4, 13, 21, 19) [(4, 13, 26, 21), (4, 13, 31, 23)] rfl (fun z hz => by
      simp only [List.mem_cons, List.not_mem_nil, or_false] at hz
      rcases hz with rfl
      · exact ⟨by decide, _, wd_310, by decide⟩) (by decide) (by decide) wd_390 wd_465 (by decide) (Or.inr ⟨dL_sail_21, rfl⟩)
  · exact sk_at [(4, 13, 16, 17), (4, 13, 21, 19)] (4, 13, 26, 21) [(4, 13, 31, 23)] rfl (fun z hz => by
      simp only [List.mem_cons, List.not_mem_nil, or_false] at hz
      rcases hz with rfl | rfl
      · exact ⟨by decide, _, wd_310, by decide⟩
      · exact ⟨by decide, _, wd_390, by decide⟩) (by decide) (by decide) wd_391 wd_481 (by decide) (Or.inr ⟨dL_sail_26, rfl⟩)
  · exact sk_at [(4, 13, 16, 17), (4, 13, 21, 19), (4, 13, 26, 21)] (4, 13, 31, 23) [] rfl (fun z hz => by
      simp only [List.mem_cons, List.not_mem_nil, or_false] at hz
      rcases hz with rfl | rfl | rfl
      · exact ⟨by decide, _, wd_310, by decide⟩
      · exact ⟨by decide, _, wd_390, by decide⟩
      · exact ⟨by decide, _, wd_391, by decide⟩) (by decide) (by decide) wd_392 wd_497 (by decide) (Or.inr ⟨dL_sail_31, rfl⟩)
set_option maxRecDepth 100000 in
set_option maxHeartbeats 4000000 in
theorem ok_148 : nv_all 148 0 np_c148 := by
  unfold np_c148
  refine na_2 (q := 2) (⟨so_ldc dL_sail_0 wd_393, up_cst _ _⟩) rfl ?_
  refine na_2 (q := 4) (⟨so_istore dL_sail_2 (by decide), up_istore _ _⟩) rfl ?_
  refine na_1 (q := 5) (⟨so_aload_n dL_sail_4 rfl, up_aload _ _⟩) rfl ?_
  refine na_1 (q := 6) (⟨so_iload_n dL_sail_5 rfl, up_iload _ _⟩) rfl ?_
  refine na_1 (q := 7) (⟨so_iload_n dL_sail_6 rfl, up_iload _ _⟩) rfl ?_
  refine na_1 (q := 8) (⟨so_iload_n dL_sail_7 rfl, up_iload _ _⟩) rfl ?_
  refine na_3 (q := 11) (one_h (sc_V dL_sail_8 cw_L_sail_X7_sail rfl wd_848 wd_849 wd_850 (nv_rcO (ci := 5) rfl)) (by decide) (by decide) sk_L_sail_8) rfl ?_
  refine na_2 (q := 13) (⟨so_istore dL_sail_11 (by decide), up_istore _ _⟩) rfl ?_
  refine na_3 (q := 16) (⟨so_goto dL_sail_13 (by decide), up_goto _⟩) rfl ?_
  refine na_n (q := 17) rfl ?_
  refine na_n (q := 18) rfl ?_
  refine na_2 (q := 20) (⟨so_ldc dL_sail_18 wd_393, up_cst _ _⟩) rfl ?_
  refine na_3 (q := 23) (⟨so_reti dL_sail_20 rfl, up_reti _⟩) rfl ?_
  refine na_2 (q := 25) (⟨so_ldc dL_sail_23 wd_393, up_cst _ _⟩) rfl ?_
  refine na_3 (q := 28) (⟨so_reti dL_sail_25 rfl, up_reti _⟩) rfl ?_
  refine na_2 (q := 30) (⟨so_ldc dL_sail_28 wd_393, up_cst _ _⟩) rfl ?_
  refine na_3 (q := 33) (⟨so_reti dL_sail_30 rfl, up_reti _⟩) rfl ?_
  refine na_2 (q := 35) (⟨so_ldc dL_sail_33 wd_393, up_cst _ _⟩) rfl ?_
  refine na_1 (q := 36) (⟨so_reti dL_sail_35 rfl, up_reti _⟩) rfl ?_
  refine na_2 (q := 38) (⟨so_iload dL_sail_36, up_iload _ _⟩) rfl ?_
  refine na_1 (q := 39) (⟨so_reti dL_sail_38 rfl, up_reti _⟩) rfl ?_
  exact na_z
set_option maxRecDepth 100000 in
theorem sk_L_fire_8 : ∀ q ∈ np_hls.getD 149 [], q.1 ≤ 8 → 8 < q.2.1 → nv_SK (np_M 149) 8 q.2.2.1 q.2.2.2.1 q.2.2.2.2 := by
  intro q hq h1 h2
  have hq : q ∈ ([(4, 13, "java/lang/IndexOutOfBoundsException", 18, 5), (4, 13, "java/lang/IllegalArgumentException", 23, 5), (4, 13, "java/lang/IllegalStateException", 28, 5), (4, 13, "java/lang/UnsupportedOperationException", 33, 5)] : List (Nat × Nat × String × Nat × Nat)) := hq
  simp only [List.mem_cons, List.not_mem_nil, or_false] at hq
  rcases hq with rfl | rfl | rfl | rfl
  · exact sk_at [] (4, 13, 16, 17) [(4, 13, 21, 19), (4, 13, 26, 21), (4, 13, 31, 23)] rfl (fun z hz => by cases hz) (by decide) (by decide) wd_310 wd_452 (by decide) (Or.inr ⟨dL_fire_16, rfl⟩)
  · exact sk_at [(4, 13, 16, 17)] (4, 13, 21, 19) [(4, 13, 26, 21), (4, 13, 31, 23)] rfl (fun z hz => by
      simp only [List.mem_cons, List.not_mem_nil, or_false] at hz
      rcases hz with rfl
      · exact ⟨by decide, _, wd_310, by decide⟩) (by decide) (by decide) wd_390 wd_465 (by decide) (Or.inr ⟨dL_fire_21, rfl⟩)
  · exact sk_at [(4, 13, 16, 17), (4, 13, 21, 19)] (4, 13, 26, 21) [(4, 13, 31, 23)] rfl (fun z hz => by
      simp only [List.mem_cons, List.not_mem_nil, or_false] at hz
      rcases hz with rfl | rfl
      · exact ⟨by decide, _, wd_310, by decide⟩
      · exact ⟨by decide, _, wd_390, by decide⟩) (by decide) (by decide) wd_391 wd_481 (by decide) (Or.inr ⟨dL_fire_26, rfl⟩)
  · exact sk_at [(4, 13, 16, 17), (4, 13, 21, 19), (4, 13, 26, 21)] (4, 13, 31, 23) [] rfl (fun z hz => by
      simp only [List.mem_cons, List.not_mem_nil, or_false] at hz
      rcases hz with rfl | rfl | rfl
      · exact ⟨by decide, _, wd_310, by decide⟩
      · exact ⟨by decide, _, wd_390, by decide⟩
      · exact ⟨by decide, _, wd_391, by decide⟩) (by decide) (by decide) wd_392 wd_497 (by decide) (Or.inr ⟨dL_fire_31, rfl⟩)
set_option maxRecDepth 100000 in
set_option maxHeartbeats 4000000 in
theorem ok_149 : nv_all 149 0 np_c149 := by
  unfold np_c149
  refine na_2 (q := 2) (⟨so_ldc dL_fire_0 wd_393, up_cst _ _⟩) rfl ?_
  refine na_2 (q := 4) (⟨so_istore dL_fire_2 (by decide), up_istore _ _⟩) rfl ?_
  refine na_1 (q := 5) (⟨so_aload_n dL_fire_4 rfl, up_aload _ _⟩) rfl ?_
  refine na_1 (q := 6) (⟨so_iload_n dL_fire_5 rfl, up_iload _ _⟩) rfl ?_
  refine na_1 (q := 7) (⟨so_iload_n dL_fire_6 rfl, up_iload _ _⟩) rfl ?_
  refine na_1 (q := 8) (⟨so_iload_n dL_fire_7 rfl, up_iload _ _⟩) rfl ?_
  refine na_3 (q := 11) (one_h (sc_V dL_fire_8 cw_L_fire_X7_fire rfl wd_882 wd_883 wd_884 (nv_rcO (ci := 5) rfl)) (by decide) (by decide) sk_L_fire_8) rfl ?_
  refine na_2 (q := 13) (⟨so_istore dL_fire_11 (by decide), up_istore _ _⟩) rfl ?_
  refine na_3 (q := 16) (⟨so_goto dL_fire_13 (by decide), up_goto _⟩) rfl ?_
  refine na_n (q := 17) rfl ?_
  refine na_n (q := 18) rfl ?_
  refine na_2 (q := 20) (⟨so_ldc dL_fire_18 wd_393, up_cst _ _⟩) rfl ?_
  refine na_3 (q := 23) (⟨so_reti dL_fire_20 rfl, up_reti _⟩) rfl ?_
  refine na_2 (q := 25) (⟨so_ldc dL_fire_23 wd_393, up_cst _ _⟩) rfl ?_
  refine na_3 (q := 28) (⟨so_reti dL_fire_25 rfl, up_reti _⟩) rfl ?_
  refine na_2 (q := 30) (⟨so_ldc dL_fire_28 wd_393, up_cst _ _⟩) rfl ?_
  refine na_3 (q := 33) (⟨so_reti dL_fire_30 rfl, up_reti _⟩) rfl ?_
  refine na_2 (q := 35) (⟨so_ldc dL_fire_33 wd_393, up_cst _ _⟩) rfl ?_
  refine na_1 (q := 36) (⟨so_reti dL_fire_35 rfl, up_reti _⟩) rfl ?_
  refine na_2 (q := 38) (⟨so_iload dL_fire_36, up_iload _ _⟩) rfl ?_
  refine na_1 (q := 39) (⟨so_reti dL_fire_38 rfl, up_reti _⟩) rfl ?_
  exact na_z
set_option maxRecDepth 100000 in
theorem sk_L_load_6 : ∀ q ∈ np_hls.getD 150 [], q.1 ≤ 6 → 6 < q.2.1 → nv_SK (np_M 150) 6 q.2.2.1 q.2.2.2.1 q.2.2.2.2 := by
  intro q hq h1 h2
  have hq : q ∈ ([(3, 10, "java/lang/IndexOutOfBoundsException", 15, 4), (3, 10, "java/lang/IllegalArgumentException", 20, 4), (3, 10, "java/lang/IllegalStateException", 25, 4), (3, 10, "java/lang/UnsupportedOperationException", 30, 4)] : List (Nat × Nat × String × Nat × Nat)) := hq
  simp only [List.mem_cons, List.not_mem_nil, or_false] at hq
  rcases hq with rfl | rfl | rfl | rfl
  · exact sk_at [] (3, 10, 13, 17) [(3, 10, 18, 19), (3, 10, 23, 21), (3, 10, 28, 23)] rfl (fun z hz => by cases hz) (by decide) (by decide) wd_310 wd_452 (by decide) (Or.inr ⟨dL_load_13, rfl⟩)
  · exact sk_at [(3, 10, 13, 17)] (3, 10, 18, 19) [(3, 10, 23, 21), (3, 10, 28, 23)] rfl (fun z hz => by
      simp only [List.mem_cons, List.not_mem_nil, or_false] at hz
      rcases hz with rfl
      · exact ⟨by decide, _, wd_310, by decide⟩) (by decide) (by decide) wd_390 wd_465 (by decide) (Or.inr ⟨dL_load_18, rfl⟩)
  · exact sk_at [(3, 10, 13, 17), (3, 10, 18, 19)] (3, 10, 23, 21) [(3, 10, 28, 23)] rfl (fun z hz => by
      simp only [List.mem_cons, List.not_mem_nil, or_false] at hz
      rcases hz with rfl | rfl
      · exact ⟨by decide, _, wd_310, by decide⟩
      · exact ⟨by decide, _, wd_390, by decide⟩) (by decide) (by decide) wd_391 wd_481 (by decide) (Or.inr ⟨dL_load_23, rfl⟩)
  · exact sk_at [(3, 10, 13, 17), (3, 10, 18, 19), (3, 10, 23, 21)] (3, 10, 28, 23) [] rfl (fun z hz => by
      simp only [List.mem_cons, List.not_mem_nil, or_false] at hz
      rcases hz with rfl | rfl | rfl
      · exact ⟨by decide, _, wd_310, by decide⟩
      · exact ⟨by decide, _, wd_390, by decide⟩
      · exact ⟨by decide, _, wd_391, by decide⟩) (by decide) (by decide) wd_392 wd_497 (by decide) (Or.inr ⟨dL_load_28, rfl⟩)
set_option maxRecDepth 100000 in
set_option maxHeartbeats 4000000 in
theorem ok_150 : nv_all 150 0 np_c150 := by
  unfold np_c150
  refine na_2 (q := 2) (⟨so_ldc dL_load_0 wd_393, up_cst _ _⟩) rfl ?_
  refine na_1 (q := 3) (⟨so_istore_n dL_load_2 rfl (by decide), up_istore _ _⟩) rfl ?_
  refine na_1 (q := 4) (⟨so_aload_n dL_load_3 rfl, up_aload _ _⟩) rfl ?_
  refine na_1 (q := 5) (⟨so_iload_n dL_load_4 rfl, up_iload _ _⟩) rfl ?_
  refine na_1 (q := 6) (⟨so_iload_n dL_load_5 rfl, up_iload _ _⟩) rfl ?_
  refine na_3 (q := 9) (one_h (sc_V dL_load_6 cw_L_load_X7_load rfl wd_576 wd_577 wd_578 (nv_rcO (ci := 5) rfl)) (by decide) (by decide) sk_L_load_6) rfl ?_
  refine na_1 (q := 10) (⟨so_istore_n dL_load_9 rfl (by decide), up_istore _ _⟩) rfl ?_
  refine na_3 (q := 13) (⟨so_goto dL_load_10 (by decide), up_goto _⟩) rfl ?_
  refine na_n (q := 14) rfl ?_
  refine na_n (q := 15) rfl ?_
  refine na_2 (q := 17) (⟨so_ldc dL_load_15 wd_393, up_cst _ _⟩) rfl ?_
  refine na_3 (q := 20) (⟨so_reti dL_load_17 rfl, up_reti _⟩) rfl ?_
  refine na_2 (q := 22) (⟨so_ldc dL_load_20 wd_393, up_cst _ _⟩) rfl ?_
  refine na_3 (q := 25) (⟨so_reti dL_load_22 rfl, up_reti _⟩) rfl ?_
  refine na_2 (q := 27) (⟨so_ldc dL_load_25 wd_393, up_cst _ _⟩) rfl ?_
  refine na_3 (q := 30) (⟨so_reti dL_load_27 rfl, up_reti _⟩) rfl ?_
  refine na_2 (q := 32) (⟨so_ldc dL_load_30 wd_393, up_cst _ _⟩) rfl ?_
  refine na_1 (q := 33) (⟨so_reti dL_load_32 rfl, up_reti _⟩) rfl ?_
  refine na_1 (q := 34) (⟨so_iload_n dL_load_33 rfl, up_iload _ _⟩) rfl ?_
  refine na_1 (q := 35) (⟨so_reti dL_load_34 rfl, up_reti _⟩) rfl ?_
  exact na_z
set_option maxRecDepth 100000 in
theorem sk_L_xOf_6 : ∀ q ∈ np_hls.getD 151 [], q.1 ≤ 6 → 6 < q.2.1 → nv_SK (np_M 151) 6 q.2.2.1 q.2.2.2.1 q.2.2.2.2 := by
  intro q hq h1 h2
  have hq : q ∈ ([(4, 10, "java/lang/IndexOutOfBoundsException", 14, 3), (4, 10, "java/util/NoSuchElementException", 19, 3)] : List (Nat × Nat × String × Nat × Nat)) := hq
  simp only [List.mem_cons, List.not_mem_nil, or_false] at hq
  rcases hq with rfl | rfl
  · exact sk_at [] (4, 10, 13, 17) [(4, 10, 18, 59)] rfl (fun z hz => by cases hz) (by decide) (by decide) wd_310 wd_452 (by decide) (Or.inl ⟨3, dL_xOf_13, rfl, rfl⟩)
  · exact sk_at [(4, 10, 13, 17)] (4, 10, 18, 59) [] rfl (fun z hz => by
      simp only [List.mem_cons, List.not_mem_nil, or_false] at hz
      rcases hz with rfl
      · exact ⟨by decide, _, wd_310, by decide⟩) (by decide) (by decide) wd_775 wd_782 (by decide) (Or.inl ⟨3, dL_xOf_18, rfl, rfl⟩)
set_option maxRecDepth 100000 in
set_option maxHeartbeats 4000000 in
theorem ok_151 : nv_all 151 0 np_c151 := by
  unfold np_c151
  refine na_3 (q := 3) (⟨so_sipush dL_xOf_0 (by decide), up_cst _ _⟩) rfl ?_
  refine na_1 (q := 4) (⟨so_istore_n dL_xOf_3 rfl (by decide), up_istore _ _⟩) rfl ?_
  refine na_1 (q := 5) (⟨so_aload_n dL_xOf_4 rfl, up_aload _ _⟩) rfl ?_
  refine na_1 (q := 6) (⟨so_iload_n dL_xOf_5 rfl, up_iload _ _⟩) rfl ?_
  refine na_3 (q := 9) (one_h (sc_V dL_xOf_6 cw_L_xOf_X7_xOf rfl wd_855 wd_856 wd_857 (nv_rcO (ci := 5) rfl)) (by decide) (by decide) sk_L_xOf_6) rfl ?_
  refine na_1 (q := 10) (⟨so_istore_n dL_xOf_9 rfl (by decide), up_istore _ _⟩) rfl ?_
  refine na_3 (q := 13) (⟨so_goto dL_xOf_10 (by decide), up_goto _⟩) rfl ?_
  refine na_n (q := 14) rfl ?_
  refine na_3 (q := 17) (⟨so_sipush dL_xOf_14 (by decide), up_cst _ _⟩) rfl ?_
  refine na_2 (q := 19) (⟨so_reti dL_xOf_17 rfl, up_reti _⟩) rfl ?_
  refine na_3 (q := 22) (⟨so_sipush dL_xOf_19 (by decide), up_cst _ _⟩) rfl ?_
  refine na_1 (q := 23) (⟨so_reti dL_xOf_22 rfl, up_reti _⟩) rfl ?_
  refine na_1 (q := 24) (⟨so_iload_n dL_xOf_23 rfl, up_iload _ _⟩) rfl ?_
  refine na_1 (q := 25) (⟨so_reti dL_xOf_24 rfl, up_reti _⟩) rfl ?_
  exact na_z
set_option maxRecDepth 100000 in
theorem sk_L_yOf_6 : ∀ q ∈ np_hls.getD 152 [], q.1 ≤ 6 → 6 < q.2.1 → nv_SK (np_M 152) 6 q.2.2.1 q.2.2.2.1 q.2.2.2.2 := by
  intro q hq h1 h2
  have hq : q ∈ ([(4, 10, "java/lang/IndexOutOfBoundsException", 14, 3), (4, 10, "java/util/NoSuchElementException", 19, 3)] : List (Nat × Nat × String × Nat × Nat)) := hq
  simp only [List.mem_cons, List.not_mem_nil, or_false] at hq
  rcases hq with rfl | rfl
  · exact sk_at [] (4, 10, 13, 17) [(4, 10, 18, 59)] rfl (fun z hz => by cases hz) (by decide) (by decide) wd_310 wd_452 (by decide) (Or.inl ⟨3, dL_yOf_13, rfl, rfl⟩)
  · exact sk_at [(4, 10, 13, 17)] (4, 10, 18, 59) [] rfl (fun z hz => by
      simp only [List.mem_cons, List.not_mem_nil, or_false] at hz
      rcases hz with rfl
      · exact ⟨by decide, _, wd_310, by decide⟩) (by decide) (by decide) wd_775 wd_782 (by decide) (Or.inl ⟨3, dL_yOf_18, rfl, rfl⟩)
set_option maxRecDepth 100000 in
set_option maxHeartbeats 4000000 in
theorem ok_152 : nv_all 152 0 np_c152 := by
  unfold np_c152
  refine na_3 (q := 3) (⟨so_sipush dL_yOf_0 (by decide), up_cst _ _⟩) rfl ?_
  refine na_1 (q := 4) (⟨so_istore_n dL_yOf_3 rfl (by decide), up_istore _ _⟩) rfl ?_
  refine na_1 (q := 5) (⟨so_aload_n dL_yOf_4 rfl, up_aload _ _⟩) rfl ?_
  refine na_1 (q := 6) (⟨so_iload_n dL_yOf_5 rfl, up_iload _ _⟩) rfl ?_
  refine na_3 (q := 9) (one_h (sc_V dL_yOf_6 cw_L_yOf_X7_yOf rfl wd_875 wd_876 wd_877 (nv_rcO (ci := 5) rfl)) (by decide) (by decide) sk_L_yOf_6) rfl ?_
  refine na_1 (q := 10) (⟨so_istore_n dL_yOf_9 rfl (by decide), up_istore _ _⟩) rfl ?_
  refine na_3 (q := 13) (⟨so_goto dL_yOf_10 (by decide), up_goto _⟩) rfl ?_
  refine na_n (q := 14) rfl ?_
  refine na_3 (q := 17) (⟨so_sipush dL_yOf_14 (by decide), up_cst _ _⟩) rfl ?_
  refine na_2 (q := 19) (⟨so_reti dL_yOf_17 rfl, up_reti _⟩) rfl ?_
  refine na_3 (q := 22) (⟨so_sipush dL_yOf_19 (by decide), up_cst _ _⟩) rfl ?_
  refine na_1 (q := 23) (⟨so_reti dL_yOf_22 rfl, up_reti _⟩) rfl ?_
  refine na_1 (q := 24) (⟨so_iload_n dL_yOf_23 rfl, up_iload _ _⟩) rfl ?_
  refine na_1 (q := 25) (⟨so_reti dL_yOf_24 rfl, up_reti _⟩) rfl ?_
  exact na_z
set_option maxRecDepth 100000 in
theorem sk_L_spoonAt_7 : ∀ q ∈ np_hls.getD 153 [], q.1 ≤ 7 → 7 < q.2.1 → nv_SK (np_M 153) 7 q.2.2.1 q.2.2.2.1 q.2.2.2.2 := by
  intro q hq h1 h2
  have hq : q ∈ ([(4, 11, "java/lang/IllegalArgumentException", 16, 4), (4, 11, "java/util/NoSuchElementException", 22, 4)] : List (Nat × Nat × String × Nat × Nat)) := hq
  simp only [List.mem_cons, List.not_mem_nil, or_false] at hq
  rcases hq with rfl | rfl
  · exact sk_at [] (4, 11, 14, 19) [(4, 11, 20, 59)] rfl (fun z hz => by cases hz) (by decide) (by decide) wd_390 wd_465 (by decide) (Or.inr ⟨dL_spoonAt_14, rfl⟩)
  · exact sk_at [(4, 11, 14, 19)] (4, 11, 20, 59) [] rfl (fun z hz => by
      simp only [List.mem_cons, List.not_mem_nil, or_false] at hz
      rcases hz with rfl
      · exact ⟨by decide, _, wd_390, by decide⟩) (by decide) (by decide) wd_775 wd_782 (by decide) (Or.inr ⟨dL_spoonAt_20, rfl⟩)
set_option maxRecDepth 100000 in
set_option maxHeartbeats 4000000 in
theorem ok_153 : nv_all 153 0 np_c153 := by
  unfold np_c153
  refine na_3 (q := 3) (⟨so_sipush dL_spoonAt_0 (by decide), up_cst _ _⟩) rfl ?_
  refine na_1 (q := 4) (⟨so_istore_n dL_spoonAt_3 rfl (by decide), up_istore _ _⟩) rfl ?_
  refine na_1 (q := 5) (⟨so_aload_n dL_spoonAt_4 rfl, up_aload _ _⟩) rfl ?_
  refine na_1 (q := 6) (⟨so_iload_n dL_spoonAt_5 rfl, up_iload _ _⟩) rfl ?_
  refine na_1 (q := 7) (⟨so_iload_n dL_spoonAt_6 rfl, up_iload _ _⟩) rfl ?_
  refine na_3 (q := 10) (one_h (sc_V dL_spoonAt_7 cw_L_spoonAt_X7_spoonAt rfl wd_1114 wd_1115 wd_1116 (nv_rcO (ci := 5) rfl)) (by decide) (by decide) sk_L_spoonAt_7) rfl ?_
  refine na_1 (q := 11) (⟨so_istore_n dL_spoonAt_10 rfl (by decide), up_istore _ _⟩) rfl ?_
  refine na_3 (q := 14) (⟨so_goto dL_spoonAt_11 (by decide), up_goto _⟩) rfl ?_
  refine na_n (q := 15) rfl ?_
  refine na_n (q := 16) rfl ?_
  refine na_3 (q := 19) (⟨so_sipush dL_spoonAt_16 (by decide), up_cst _ _⟩) rfl ?_
  refine na_3 (q := 22) (⟨so_reti dL_spoonAt_19 rfl, up_reti _⟩) rfl ?_
  refine na_3 (q := 25) (⟨so_sipush dL_spoonAt_22 (by decide), up_cst _ _⟩) rfl ?_
  refine na_1 (q := 26) (⟨so_reti dL_spoonAt_25 rfl, up_reti _⟩) rfl ?_
  refine na_1 (q := 27) (⟨so_iload_n dL_spoonAt_26 rfl, up_iload _ _⟩) rfl ?_
  refine na_1 (q := 28) (⟨so_reti dL_spoonAt_27 rfl, up_reti _⟩) rfl ?_
  exact na_z
set_option maxRecDepth 100000 in
theorem sk_L_knownX_6 : ∀ q ∈ np_hls.getD 154 [], q.1 ≤ 6 → 6 < q.2.1 → nv_SK (np_M 154) 6 q.2.2.1 q.2.2.2.1 q.2.2.2.2 := by
  intro q hq h1 h2
  have hq : q ∈ ([(4, 10, "java/lang/IndexOutOfBoundsException", 14, 3), (4, 10, "java/util/NoSuchElementException", 19, 3)] : List (Nat × Nat × String × Nat × Nat)) := hq
  simp only [List.mem_cons, List.not_mem_nil, or_false] at hq
  rcases hq with rfl | rfl
  · exact sk_at [] (4, 10, 13, 17) [(4, 10, 18, 59)] rfl (fun z hz => by cases hz) (by decide) (by decide) wd_310 wd_452 (by decide) (Or.inl ⟨3, dL_knownX_13, rfl, rfl⟩)
  · exact sk_at [(4, 10, 13, 17)] (4, 10, 18, 59) [] rfl (fun z hz => by
      simp only [List.mem_cons, List.not_mem_nil, or_false] at hz
      rcases hz with rfl
      · exact ⟨by decide, _, wd_310, by decide⟩) (by decide) (by decide) wd_775 wd_782 (by decide) (Or.inl ⟨3, dL_knownX_18, rfl, rfl⟩)
set_option maxRecDepth 100000 in
set_option maxHeartbeats 4000000 in
theorem ok_154 : nv_all 154 0 np_c154 := by
  unfold np_c154
  refine na_3 (q := 3) (⟨so_sipush dL_knownX_0 (by decide), up_cst _ _⟩) rfl ?_
  refine na_1 (q := 4) (⟨so_istore_n dL_knownX_3 rfl (by decide), up_istore _ _⟩) rfl ?_
  refine na_1 (q := 5) (⟨so_aload_n dL_knownX_4 rfl, up_aload _ _⟩) rfl ?_
  refine na_1 (q := 6) (⟨so_iload_n dL_knownX_5 rfl, up_iload _ _⟩) rfl ?_
  refine na_3 (q := 9) (one_h (sc_V dL_knownX_6 cw_L_knownX_X7_knownX rfl wd_973 wd_974 wd_975 (nv_rcO (ci := 5) rfl)) (by decide) (by decide) sk_L_knownX_6) rfl ?_
  refine na_1 (q := 10) (⟨so_istore_n dL_knownX_9 rfl (by decide), up_istore _ _⟩) rfl ?_
  refine na_3 (q := 13) (⟨so_goto dL_knownX_10 (by decide), up_goto _⟩) rfl ?_
  refine na_n (q := 14) rfl ?_
  refine na_3 (q := 17) (⟨so_sipush dL_knownX_14 (by decide), up_cst _ _⟩) rfl ?_
  refine na_2 (q := 19) (⟨so_reti dL_knownX_17 rfl, up_reti _⟩) rfl ?_
  refine na_3 (q := 22) (⟨so_sipush dL_knownX_19 (by decide), up_cst _ _⟩) rfl ?_
  refine na_1 (q := 23) (⟨so_reti dL_knownX_22 rfl, up_reti _⟩) rfl ?_
  refine na_1 (q := 24) (⟨so_iload_n dL_knownX_23 rfl, up_iload _ _⟩) rfl ?_
  refine na_1 (q := 25) (⟨so_reti dL_knownX_24 rfl, up_reti _⟩) rfl ?_
  exact na_z
set_option maxRecDepth 100000 in
theorem sk_L_knownY_6 : ∀ q ∈ np_hls.getD 155 [], q.1 ≤ 6 → 6 < q.2.1 → nv_SK (np_M 155) 6 q.2.2.1 q.2.2.2.1 q.2.2.2.2 := by
  intro q hq h1 h2
  have hq : q ∈ ([(4, 10, "java/lang/IndexOutOfBoundsException", 14, 3), (4, 10, "java/util/NoSuchElementException", 19, 3)] : List (Nat × Nat × String × Nat × Nat)) := hq
  simp only [List.mem_cons, List.not_mem_nil, or_false] at hq
  rcases hq with rfl | rfl
  · exact sk_at [] (4, 10, 13, 17) [(4, 10, 18, 59)] rfl (fun z hz => by cases hz) (by decide) (by decide) wd_310 wd_452 (by decide) (Or.inl ⟨3, dL_knownY_13, rfl, rfl⟩)
  · exact sk_at [(4, 10, 13, 17)] (4, 10, 18, 59) [] rfl (fun z hz => by
      simp only [List.mem_cons, List.not_mem_nil, or_false] at hz
      rcases hz with rfl
      · exact ⟨by decide, _, wd_310, by decide⟩) (by decide) (by decide) wd_775 wd_782 (by decide) (Or.inl ⟨3, dL_knownY_18, rfl, rfl⟩)
set_option maxRecDepth 100000 in
set_option maxHeartbeats 4000000 in
theorem ok_155 : nv_all 155 0 np_c155 := by
  unfold np_c155
  refine na_3 (q := 3) (⟨so_sipush dL_knownY_0 (by decide), up_cst _ _⟩) rfl ?_
  refine na_1 (q := 4) (⟨so_istore_n dL_knownY_3 rfl (by decide), up_istore _ _⟩) rfl ?_
  refine na_1 (q := 5) (⟨so_aload_n dL_knownY_4 rfl, up_aload _ _⟩) rfl ?_
  refine na_1 (q := 6) (⟨so_iload_n dL_knownY_5 rfl, up_iload _ _⟩) rfl ?_
  refine na_3 (q := 9) (one_h (sc_V dL_knownY_6 cw_L_knownY_X7_knownY rfl wd_980 wd_981 wd_982 (nv_rcO (ci := 5) rfl)) (by decide) (by decide) sk_L_knownY_6) rfl ?_
  refine na_1 (q := 10) (⟨so_istore_n dL_knownY_9 rfl (by decide), up_istore _ _⟩) rfl ?_
  refine na_3 (q := 13) (⟨so_goto dL_knownY_10 (by decide), up_goto _⟩) rfl ?_
  refine na_n (q := 14) rfl ?_
  refine na_3 (q := 17) (⟨so_sipush dL_knownY_14 (by decide), up_cst _ _⟩) rfl ?_
  refine na_2 (q := 19) (⟨so_reti dL_knownY_17 rfl, up_reti _⟩) rfl ?_
  refine na_3 (q := 22) (⟨so_sipush dL_knownY_19 (by decide), up_cst _ _⟩) rfl ?_
  refine na_1 (q := 23) (⟨so_reti dL_knownY_22 rfl, up_reti _⟩) rfl ?_
  refine na_1 (q := 24) (⟨so_iload_n dL_knownY_23 rfl, up_iload _ _⟩) rfl ?_
  refine na_1 (q := 25) (⟨so_reti dL_knownY_24 rfl, up_reti _⟩) rfl ?_
  exact na_z
set_option maxRecDepth 100000 in
theorem sk_L_spoonAtRank_6 : ∀ q ∈ np_hls.getD 156 [], q.1 ≤ 6 → 6 < q.2.1 → nv_SK (np_M 156) 6 q.2.2.1 q.2.2.2.1 q.2.2.2.2 := by
  intro q hq h1 h2
  have hq : q ∈ ([(4, 10, "java/util/NoSuchElementException", 14, 3)] : List (Nat × Nat × String × Nat × Nat)) := hq
  simp only [List.mem_cons, List.not_mem_nil, or_false] at hq
  rcases hq with rfl
  · exact sk_at [] (4, 10, 13, 59) [] rfl (fun z hz => by cases hz) (by decide) (by decide) wd_775 wd_782 (by decide) (Or.inl ⟨3, dL_spoonAtRank_13, rfl, rfl⟩)
set_option maxRecDepth 100000 in
set_option maxHeartbeats 4000000 in
theorem ok_156 : nv_all 156 0 np_c156 := by
  unfold np_c156
  refine na_3 (q := 3) (⟨so_sipush dL_spoonAtRank_0 (by decide), up_cst _ _⟩) rfl ?_
  refine na_1 (q := 4) (⟨so_istore_n dL_spoonAtRank_3 rfl (by decide), up_istore _ _⟩) rfl ?_
  refine na_1 (q := 5) (⟨so_aload_n dL_spoonAtRank_4 rfl, up_aload _ _⟩) rfl ?_
  refine na_1 (q := 6) (⟨so_iload_n dL_spoonAtRank_5 rfl, up_iload _ _⟩) rfl ?_
  refine na_3 (q := 9) (one_h (sc_V dL_spoonAtRank_6 cw_L_spoonAtRank_X7_spoonAtRank rfl wd_1127 wd_1128 wd_1129 (nv_rcO (ci := 5) rfl)) (by decide) (by decide) sk_L_spoonAtRank_6) rfl ?_
  refine na_1 (q := 10) (⟨so_istore_n dL_spoonAtRank_9 rfl (by decide), up_istore _ _⟩) rfl ?_
  refine na_3 (q := 13) (⟨so_goto dL_spoonAtRank_10 (by decide), up_goto _⟩) rfl ?_
  refine na_n (q := 14) rfl ?_
  refine na_3 (q := 17) (⟨so_sipush dL_spoonAtRank_14 (by decide), up_cst _ _⟩) rfl ?_
  refine na_1 (q := 18) (⟨so_reti dL_spoonAtRank_17 rfl, up_reti _⟩) rfl ?_
  refine na_1 (q := 19) (⟨so_iload_n dL_spoonAtRank_18 rfl, up_iload _ _⟩) rfl ?_
  refine na_1 (q := 20) (⟨so_reti dL_spoonAtRank_19 rfl, up_reti _⟩) rfl ?_
  exact na_z
set_option maxRecDepth 100000 in
theorem sk_L_distance_7 : ∀ q ∈ np_hls.getD 157 [], q.1 ≤ 7 → 7 < q.2.1 → nv_SK (np_M 157) 7 q.2.2.1 q.2.2.2.1 q.2.2.2.2 := by
  intro q hq h1 h2
  have hq : q ∈ ([(4, 11, "java/lang/IndexOutOfBoundsException", 16, 4), (4, 11, "java/util/NoSuchElementException", 22, 4)] : List (Nat × Nat × String × Nat × Nat)) := hq
  simp only [List.mem_cons, List.not_mem_nil, or_false] at hq
  rcases hq with rfl | rfl
  · exact sk_at [] (4, 11, 14, 17) [(4, 11, 20, 59)] rfl (fun z hz => by cases hz) (by decide) (by decide) wd_310 wd_452 (by decide) (Or.inr ⟨dL_distance_14, rfl⟩)
  · exact sk_at [(4, 11, 14, 17)] (4, 11, 20, 59) [] rfl (fun z hz => by
      simp only [List.mem_cons, List.not_mem_nil, or_false] at hz
      rcases hz with rfl
      · exact ⟨by decide, _, wd_310, by decide⟩) (by decide) (by decide) wd_775 wd_782 (by decide) (Or.inr ⟨dL_distance_20, rfl⟩)
set_option maxRecDepth 100000 in
set_option maxHeartbeats 4000000 in
theorem ok_157 : nv_all 157 0 np_c157 := by
  unfold np_c157
  refine na_3 (q := 3) (⟨so_sipush dL_distance_0 (by decide), up_cst _ _⟩) rfl ?_
  refine na_1 (q := 4) (⟨so_istore_n dL_distance_3 rfl (by decide), up_istore _ _⟩) rfl ?_
  refine na_1 (q := 5) (⟨so_aload_n dL_distance_4 rfl, up_aload _ _⟩) rfl ?_
  refine na_1 (q := 6) (⟨so_iload_n dL_distance_5 rfl, up_iload _ _⟩) rfl ?_
  refine na_1 (q := 7) (⟨so_iload_n dL_distance_6 rfl, up_iload _ _⟩) rfl ?_
  refine na_3 (q := 10) (one_h (sc_V dL_distance_7 cw_L_distance_X7_distance rfl wd_1182 wd_1183 wd_1184 (nv_rcO (ci := 5) rfl)) (by decide) (by decide) sk_L_distance_7) rfl ?_
  refine na_1 (q := 11) (⟨so_istore_n dL_distance_10 rfl (by decide), up_istore _ _⟩) rfl ?_
  refine na_3 (q := 14) (⟨so_goto dL_distance_11 (by decide), up_goto _⟩) rfl ?_
  refine na_n (q := 15) rfl ?_
  refine na_n (q := 16) rfl ?_
  refine na_3 (q := 19) (⟨so_sipush dL_distance_16 (by decide), up_cst _ _⟩) rfl ?_
  refine na_3 (q := 22) (⟨so_reti dL_distance_19 rfl, up_reti _⟩) rfl ?_
  refine na_3 (q := 25) (⟨so_sipush dL_distance_22 (by decide), up_cst _ _⟩) rfl ?_
  refine na_1 (q := 26) (⟨so_reti dL_distance_25 rfl, up_reti _⟩) rfl ?_
  refine na_1 (q := 27) (⟨so_iload_n dL_distance_26 rfl, up_iload _ _⟩) rfl ?_
  refine na_1 (q := 28) (⟨so_reti dL_distance_27 rfl, up_reti _⟩) rfl ?_
  exact na_z
set_option maxRecDepth 100000 in
theorem sk_L_directionTo_9 : ∀ q ∈ np_hls.getD 158 [], q.1 ≤ 9 → 9 < q.2.1 → nv_SK (np_M 158) 9 q.2.2.1 q.2.2.2.1 q.2.2.2.2 := by
  intro q hq h1 h2
  have hq : q ∈ ([(5, 14, "java/lang/IndexOutOfBoundsException", 19, 5), (5, 14, "java/lang/IllegalArgumentException", 25, 5), (5, 14, "java/util/NoSuchElementException", 31, 5)] : List (Nat × Nat × String × Nat × Nat)) := hq
  simp only [List.mem_cons, List.not_mem_nil, or_false] at hq
  rcases hq with rfl | rfl | rfl
  · exact sk_at [] (5, 14, 17, 17) [(5, 14, 23, 19), (5, 14, 29, 59)] rfl (fun z hz => by cases hz) (by decide) (by decide) wd_310 wd_452 (by decide) (Or.inr ⟨dL_directionTo_17, rfl⟩)
  · exact sk_at [(5, 14, 17, 17)] (5, 14, 23, 19) [(5, 14, 29, 59)] rfl (fun z hz => by
      simp only [List.mem_cons, List.not_mem_nil, or_false] at hz
      rcases hz with rfl
      · exact ⟨by decide, _, wd_310, by decide⟩) (by decide) (by decide) wd_390 wd_465 (by decide) (Or.inr ⟨dL_directionTo_23, rfl⟩)
  · exact sk_at [(5, 14, 17, 17), (5, 14, 23, 19)] (5, 14, 29, 59) [] rfl (fun z hz => by
      simp only [List.mem_cons, List.not_mem_nil, or_false] at hz
      rcases hz with rfl | rfl
      · exact ⟨by decide, _, wd_310, by decide⟩
      · exact ⟨by decide, _, wd_390, by decide⟩) (by decide) (by decide) wd_775 wd_782 (by decide) (Or.inr ⟨dL_directionTo_29, rfl⟩)
set_option maxRecDepth 100000 in
set_option maxHeartbeats 4000000 in
theorem ok_158 : nv_all 158 0 np_c158 := by
  unfold np_c158
  refine na_3 (q := 3) (⟨so_sipush dL_directionTo_0 (by decide), up_cst _ _⟩) rfl ?_
  refine na_2 (q := 5) (⟨so_istore dL_directionTo_3 (by decide), up_istore _ _⟩) rfl ?_
  refine na_1 (q := 6) (⟨so_aload_n dL_directionTo_5 rfl, up_aload _ _⟩) rfl ?_
  refine na_1 (q := 7) (⟨so_iload_n dL_directionTo_6 rfl, up_iload _ _⟩) rfl ?_
  refine na_1 (q := 8) (⟨so_iload_n dL_directionTo_7 rfl, up_iload _ _⟩) rfl ?_
  refine na_1 (q := 9) (⟨so_iload_n dL_directionTo_8 rfl, up_iload _ _⟩) rfl ?_
  refine na_3 (q := 12) (one_h (sc_V dL_directionTo_9 cw_L_directionTo_X7_directionTo rfl wd_1167 wd_1168 wd_1169 (nv_rcO (ci := 5) rfl)) (by decide) (by decide) sk_L_directionTo_9) rfl ?_
  refine na_2 (q := 14) (⟨so_istore dL_directionTo_12 (by decide), up_istore _ _⟩) rfl ?_
  refine na_3 (q := 17) (⟨so_goto dL_directionTo_14 (by decide), up_goto _⟩) rfl ?_
  refine na_n (q := 18) rfl ?_
  refine na_n (q := 19) rfl ?_
  refine na_3 (q := 22) (⟨so_sipush dL_directionTo_19 (by decide), up_cst _ _⟩) rfl ?_
  refine na_3 (q := 25) (⟨so_reti dL_directionTo_22 rfl, up_reti _⟩) rfl ?_
  refine na_3 (q := 28) (⟨so_sipush dL_directionTo_25 (by decide), up_cst _ _⟩) rfl ?_
  refine na_3 (q := 31) (⟨so_reti dL_directionTo_28 rfl, up_reti _⟩) rfl ?_
  refine na_3 (q := 34) (⟨so_sipush dL_directionTo_31 (by decide), up_cst _ _⟩) rfl ?_
  refine na_1 (q := 35) (⟨so_reti dL_directionTo_34 rfl, up_reti _⟩) rfl ?_
  refine na_2 (q := 37) (⟨so_iload dL_directionTo_35, up_iload _ _⟩) rfl ?_
  refine na_1 (q := 38) (⟨so_reti dL_directionTo_37 rfl, up_reti _⟩) rfl ?_
  exact na_z
set_option maxRecDepth 100000 in
theorem sk_L_cellsAhead_6 : ∀ q ∈ np_hls.getD 159 [], q.1 ≤ 6 → 6 < q.2.1 → nv_SK (np_M 159) 6 q.2.2.1 q.2.2.2.1 q.2.2.2.2 := by
  intro q hq h1 h2
  have hq : q ∈ ([(4, 10, "java/lang/IndexOutOfBoundsException", 14, 3), (4, 10, "java/util/NoSuchElementException", 19, 3)] : List (Nat × Nat × String × Nat × Nat)) := hq
  simp only [List.mem_cons, List.not_mem_nil, or_false] at hq
  rcases hq with rfl | rfl
  · exact sk_at [] (4, 10, 13, 17) [(4, 10, 18, 59)] rfl (fun z hz => by cases hz) (by decide) (by decide) wd_310 wd_452 (by decide) (Or.inl ⟨3, dL_cellsAhead_13, rfl, rfl⟩)
  · exact sk_at [(4, 10, 13, 17)] (4, 10, 18, 59) [] rfl (fun z hz => by
      simp only [List.mem_cons, List.not_mem_nil, or_false] at hz
      rcases hz with rfl
      · exact ⟨by decide, _, wd_310, by decide⟩) (by decide) (by decide) wd_775 wd_782 (by decide) (Or.inl ⟨3, dL_cellsAhead_18, rfl, rfl⟩)
set_option maxRecDepth 100000 in
set_option maxHeartbeats 4000000 in
theorem ok_159 : nv_all 159 0 np_c159 := by
  unfold np_c159
  refine na_3 (q := 3) (⟨so_sipush dL_cellsAhead_0 (by decide), up_cst _ _⟩) rfl ?_
  refine na_1 (q := 4) (⟨so_istore_n dL_cellsAhead_3 rfl (by decide), up_istore _ _⟩) rfl ?_
  refine na_1 (q := 5) (⟨so_aload_n dL_cellsAhead_4 rfl, up_aload _ _⟩) rfl ?_
  refine na_1 (q := 6) (⟨so_iload_n dL_cellsAhead_5 rfl, up_iload _ _⟩) rfl ?_
  refine na_3 (q := 9) (one_h (sc_V dL_cellsAhead_6 cw_L_cellsAhead_X7_cellsAhead rfl wd_1159 wd_1160 wd_1161 (nv_rcO (ci := 5) rfl)) (by decide) (by decide) sk_L_cellsAhead_6) rfl ?_
  refine na_1 (q := 10) (⟨so_istore_n dL_cellsAhead_9 rfl (by decide), up_istore _ _⟩) rfl ?_
  refine na_3 (q := 13) (⟨so_goto dL_cellsAhead_10 (by decide), up_goto _⟩) rfl ?_
  refine na_n (q := 14) rfl ?_
  refine na_3 (q := 17) (⟨so_sipush dL_cellsAhead_14 (by decide), up_cst _ _⟩) rfl ?_
  refine na_2 (q := 19) (⟨so_reti dL_cellsAhead_17 rfl, up_reti _⟩) rfl ?_
  refine na_3 (q := 22) (⟨so_sipush dL_cellsAhead_19 (by decide), up_cst _ _⟩) rfl ?_
  refine na_1 (q := 23) (⟨so_reti dL_cellsAhead_22 rfl, up_reti _⟩) rfl ?_
  refine na_1 (q := 24) (⟨so_iload_n dL_cellsAhead_23 rfl, up_iload _ _⟩) rfl ?_
  refine na_1 (q := 25) (⟨so_reti dL_cellsAhead_24 rfl, up_reti _⟩) rfl ?_
  exact na_z
set_option maxRecDepth 100000 in
theorem sk_L_hitShare_4 : ∀ q ∈ np_hls.getD 160 [], q.1 ≤ 4 → 4 < q.2.1 → nv_SK (np_M 160) 4 q.2.2.1 q.2.2.2.1 q.2.2.2.2 := by
  intro q hq h1 h2
  have hq : q ∈ ([(3, 8, "java/lang/ArithmeticException", 12, 2)] : List (Nat × Nat × String × Nat × Nat)) := hq
  simp only [List.mem_cons, List.not_mem_nil, or_false] at hq
  rcases hq with rfl
  · exact sk_at [] (3, 8, 11, 94) [] rfl (fun z hz => by cases hz) (by decide) (by decide) wd_1033 wd_1045 (by decide) (Or.inl ⟨2, dL_hitShare_11, rfl, rfl⟩)
set_option maxRecDepth 100000 in
set_option maxHeartbeats 4000000 in
theorem ok_160 : nv_all 160 0 np_c160 := by
  unfold np_c160
  refine na_2 (q := 2) (⟨so_ldcf dL_hitShare_0 wd_1058, up_cst _ _⟩) rfl ?_
  refine na_1 (q := 3) (⟨so_fstore_n dL_hitShare_2 rfl (by decide), up_fstore _ _⟩) rfl ?_
  refine na_1 (q := 4) (⟨so_aload_n dL_hitShare_3 rfl, up_aload _ _⟩) rfl ?_
  refine na_3 (q := 7) (one_h (sc_V dL_hitShare_4 cw_L_hitShare_X7_hitShare rfl wd_1059 wd_1060 wd_1061 (nv_rcO (ci := 5) rfl)) (by decide) (by decide) sk_L_hitShare_4) rfl ?_
  refine na_1 (q := 8) (⟨so_fstore_n dL_hitShare_7 rfl (by decide), up_fstore _ _⟩) rfl ?_
  refine na_3 (q := 11) (⟨so_goto dL_hitShare_8 (by decide), up_goto _⟩) rfl ?_
  refine na_n (q := 12) rfl ?_
  refine na_2 (q := 14) (⟨so_ldcf dL_hitShare_12 wd_1058, up_cst _ _⟩) rfl ?_
  refine na_1 (q := 15) (⟨so_retf dL_hitShare_14 rfl, up_retf⟩) rfl ?_
  refine na_1 (q := 16) (⟨so_fload_n dL_hitShare_15 rfl, up_fload _ _⟩) rfl ?_
  refine na_1 (q := 17) (⟨so_retf dL_hitShare_16 rfl, up_retf⟩) rfl ?_
  exact na_z
set_option maxRecDepth 100000 in
theorem sk_L_meanCubes_6 : ∀ q ∈ np_hls.getD 161 [], q.1 ≤ 6 → 6 < q.2.1 → nv_SK (np_M 161) 6 q.2.2.1 q.2.2.2.1 q.2.2.2.2 := by
  intro q hq h1 h2
  have hq : q ∈ ([(4, 10, "java/lang/IndexOutOfBoundsException", 15, 4), (4, 10, "java/lang/ArithmeticException", 21, 4)] : List (Nat × Nat × String × Nat × Nat)) := hq
  simp only [List.mem_cons, List.not_mem_nil, or_false] at hq
  rcases hq with rfl | rfl
  · exact sk_at [] (4, 10, 13, 17) [(4, 10, 19, 94)] rfl (fun z hz => by cases hz) (by decide) (by decide) wd_310 wd_452 (by decide) (Or.inr ⟨dL_meanCubes_13, rfl⟩)
  · exact sk_at [(4, 10, 13, 17)] (4, 10, 19, 94) [] rfl (fun z hz => by
      simp only [List.mem_cons, List.not_mem_nil, or_false] at hz
      rcases hz with rfl
      · exact ⟨by decide, _, wd_310, by decide⟩) (by decide) (by decide) wd_1033 wd_1045 (by decide) (Or.inr ⟨dL_meanCubes_19, rfl⟩)
set_option maxRecDepth 100000 in
set_option maxHeartbeats 4000000 in
theorem ok_161 : nv_all 161 0 np_c161 := by
  unfold np_c161
  refine na_3 (q := 3) (⟨so_ldc2d dL_meanCubes_0 wd_1047, up_cst _ _⟩) rfl ?_
  refine na_1 (q := 4) (⟨so_dstore_n dL_meanCubes_3 rfl (by decide), up_dstore _ _⟩) rfl ?_
  refine na_1 (q := 5) (⟨so_aload_n dL_meanCubes_4 rfl, up_aload _ _⟩) rfl ?_
  refine na_1 (q := 6) (⟨so_iload_n dL_meanCubes_5 rfl, up_iload _ _⟩) rfl ?_
  refine na_3 (q := 9) (one_h (sc_V dL_meanCubes_6 cw_L_meanCubes_X7_meanCubes rfl wd_1048 wd_1049 wd_1050 (nv_rcO (ci := 5) rfl)) (by decide) (by decide) sk_L_meanCubes_6) rfl ?_
  refine na_1 (q := 10) (⟨so_dstore_n dL_meanCubes_9 rfl (by decide), up_dstore _ _⟩) rfl ?_
  refine na_3 (q := 13) (⟨so_goto dL_meanCubes_10 (by decide), up_goto _⟩) rfl ?_
  refine na_n (q := 14) rfl ?_
  refine na_n (q := 15) rfl ?_
  refine na_3 (q := 18) (⟨so_ldc2d dL_meanCubes_15 wd_1047, up_cst _ _⟩) rfl ?_
  refine na_3 (q := 21) (⟨so_retd dL_meanCubes_18 rfl, up_retd⟩) rfl ?_
  refine na_3 (q := 24) (⟨so_ldc2d dL_meanCubes_21 wd_1047, up_cst _ _⟩) rfl ?_
  refine na_1 (q := 25) (⟨so_retd dL_meanCubes_24 rfl, up_retd⟩) rfl ?_
  refine na_1 (q := 26) (⟨so_dload_n dL_meanCubes_25 rfl, up_dload _ _⟩) rfl ?_
  refine na_1 (q := 27) (⟨so_retd dL_meanCubes_26 rfl, up_retd⟩) rfl ?_
  exact na_z
set_option maxRecDepth 100000 in
theorem sk_L_run_4 : ∀ q ∈ np_hls.getD 162 [], q.1 ≤ 4 → 4 < q.2.1 → nv_SK (np_M 162) 4 q.2.2.1 q.2.2.2.1 q.2.2.2.2 := by
  intro q hq h1 h2
  have hq : q ∈ ([(3, 8, "java/lang/IllegalArgumentException", 12, 2), (3, 8, "java/lang/IllegalStateException", 16, 2)] : List (Nat × Nat × String × Nat × Nat)) := hq
  simp only [List.mem_cons, List.not_mem_nil, or_false] at hq
  rcases hq with rfl | rfl
  · exact sk_at [] (3, 8, 11, 19) [(3, 8, 15, 21)] rfl (fun z hz => by cases hz) (by decide) (by decide) wd_390 wd_465 (by decide) (Or.inl ⟨2, dL_run_11, rfl, rfl⟩)
  · exact sk_at [(3, 8, 11, 19)] (3, 8, 15, 21) [] rfl (fun z hz => by
      simp only [List.mem_cons, List.not_mem_nil, or_false] at hz
      rcases hz with rfl
      · exact ⟨by decide, _, wd_390, by decide⟩) (by decide) (by decide) wd_391 wd_481 (by decide) (Or.inl ⟨2, dL_run_15, rfl, rfl⟩)
set_option maxRecDepth 100000 in
set_option maxHeartbeats 4000000 in
theorem ok_162 : nv_all 162 0 np_c162 := by
  unfold np_c162
  refine na_2 (q := 2) (⟨so_ldc dL_run_0 wd_393, up_cst _ _⟩) rfl ?_
  refine na_1 (q := 3) (⟨so_istore_n dL_run_2 rfl (by decide), up_istore _ _⟩) rfl ?_
  refine na_1 (q := 4) (⟨so_aload_n dL_run_3 rfl, up_aload _ _⟩) rfl ?_
  refine na_3 (q := 7) (one_h (sc_V dL_run_4 cw_L_run_X7_run rfl wd_587 wd_588 wd_589 (nv_rcO (ci := 5) rfl)) (by decide) (by decide) sk_L_run_4) rfl ?_
  refine na_1 (q := 8) (⟨so_istore_n dL_run_7 rfl (by decide), up_istore _ _⟩) rfl ?_
  refine na_3 (q := 11) (⟨so_goto dL_run_8 (by decide), up_goto _⟩) rfl ?_
  refine na_n (q := 12) rfl ?_
  refine na_2 (q := 14) (⟨so_ldc dL_run_12 wd_393, up_cst _ _⟩) rfl ?_
  refine na_2 (q := 16) (⟨so_reti dL_run_14 rfl, up_reti _⟩) rfl ?_
  refine na_2 (q := 18) (⟨so_ldc dL_run_16 wd_393, up_cst _ _⟩) rfl ?_
  refine na_1 (q := 19) (⟨so_reti dL_run_18 rfl, up_reti _⟩) rfl ?_
  refine na_1 (q := 20) (⟨so_iload_n dL_run_19 rfl, up_iload _ _⟩) rfl ?_
  refine na_1 (q := 21) (⟨so_reti dL_run_20 rfl, up_reti _⟩) rfl ?_
  exact na_z
set_option maxRecDepth 100000 in
theorem sk_L_failedCommand_5 : ∀ q ∈ np_hls.getD 163 [], q.1 ≤ 5 → 5 < q.2.1 → nv_SK (np_M 163) 5 q.2.2.1 q.2.2.2.1 q.2.2.2.2 := by
  intro q hq h1 h2
  have hq : q ∈ ([(4, 9, "java/util/NoSuchElementException", 13, 2)] : List (Nat × Nat × String × Nat × Nat)) := hq
  simp only [List.mem_cons, List.not_mem_nil, or_false] at hq
  rcases hq with rfl
  · exact sk_at [] (4, 9, 12, 59) [] rfl (fun z hz => by cases hz) (by decide) (by decide) wd_775 wd_782 (by decide) (Or.inl ⟨2, dL_failedCommand_12, rfl, rfl⟩)
set_option maxRecDepth 100000 in
set_option maxHeartbeats 4000000 in
theorem ok_163 : nv_all 163 0 np_c163 := by
  unfold np_c163
  refine na_3 (q := 3) (⟨so_sipush dL_failedCommand_0 (by decide), up_cst _ _⟩) rfl ?_
  refine na_1 (q := 4) (⟨so_istore_n dL_failedCommand_3 rfl (by decide), up_istore _ _⟩) rfl ?_
  refine na_1 (q := 5) (⟨so_aload_n dL_failedCommand_4 rfl, up_aload _ _⟩) rfl ?_
  refine na_3 (q := 8) (one_h (sc_V dL_failedCommand_5 cw_L_failedCommand_X7_failedCommand rfl wd_776 wd_777 wd_778 (nv_rcO (ci := 5) rfl)) (by decide) (by decide) sk_L_failedCommand_5) rfl ?_
  refine na_1 (q := 9) (⟨so_istore_n dL_failedCommand_8 rfl (by decide), up_istore _ _⟩) rfl ?_
  refine na_3 (q := 12) (⟨so_goto dL_failedCommand_9 (by decide), up_goto _⟩) rfl ?_
  refine na_n (q := 13) rfl ?_
  refine na_3 (q := 16) (⟨so_sipush dL_failedCommand_13 (by decide), up_cst _ _⟩) rfl ?_
  refine na_1 (q := 17) (⟨so_reti dL_failedCommand_16 rfl, up_reti _⟩) rfl ?_
  refine na_1 (q := 18) (⟨so_iload_n dL_failedCommand_17 rfl, up_iload _ _⟩) rfl ?_
  refine na_1 (q := 19) (⟨so_reti dL_failedCommand_18 rfl, up_reti _⟩) rfl ?_
  exact na_z
set_option maxRecDepth 100000 in
theorem sk_L_undo_4 : ∀ q ∈ np_hls.getD 164 [], q.1 ≤ 4 → 4 < q.2.1 → nv_SK (np_M 164) 4 q.2.2.1 q.2.2.2.1 q.2.2.2.2 := by
  intro q hq h1 h2
  have hq : q ∈ ([(3, 8, "java/lang/IllegalStateException", 12, 2)] : List (Nat × Nat × String × Nat × Nat)) := hq
  simp only [List.mem_cons, List.not_mem_nil, or_false] at hq
  rcases hq with rfl
  · exact sk_at [] (3, 8, 11, 21) [] rfl (fun z hz => by cases hz) (by decide) (by decide) wd_391 wd_481 (by decide) (Or.inl ⟨2, dL_undo_11, rfl, rfl⟩)
set_option maxRecDepth 100000 in
set_option maxHeartbeats 4000000 in
theorem ok_164 : nv_all 164 0 np_c164 := by
  unfold np_c164
  refine na_2 (q := 2) (⟨so_ldc dL_undo_0 wd_393, up_cst _ _⟩) rfl ?_
  refine na_1 (q := 3) (⟨so_istore_n dL_undo_2 rfl (by decide), up_istore _ _⟩) rfl ?_
  refine na_1 (q := 4) (⟨so_aload_n dL_undo_3 rfl, up_aload _ _⟩) rfl ?_
  refine na_3 (q := 7) (one_h (sc_V dL_undo_4 cw_L_undo_X7_undo rfl wd_799 wd_800 wd_801 (nv_rcO (ci := 5) rfl)) (by decide) (by decide) sk_L_undo_4) rfl ?_
  refine na_1 (q := 8) (⟨so_istore_n dL_undo_7 rfl (by decide), up_istore _ _⟩) rfl ?_
  refine na_3 (q := 11) (⟨so_goto dL_undo_8 (by decide), up_goto _⟩) rfl ?_
  refine na_n (q := 12) rfl ?_
  refine na_2 (q := 14) (⟨so_ldc dL_undo_12 wd_393, up_cst _ _⟩) rfl ?_
  refine na_1 (q := 15) (⟨so_reti dL_undo_14 rfl, up_reti _⟩) rfl ?_
  refine na_1 (q := 16) (⟨so_iload_n dL_undo_15 rfl, up_iload _ _⟩) rfl ?_
  refine na_1 (q := 17) (⟨so_reti dL_undo_16 rfl, up_reti _⟩) rfl ?_
  exact na_z
set_option maxRecDepth 100000 in
theorem sk_L_restore_4 : ∀ q ∈ np_hls.getD 165 [], q.1 ≤ 4 → 4 < q.2.1 → nv_SK (np_M 165) 4 q.2.2.1 q.2.2.2.1 q.2.2.2.2 := by
  intro q hq h1 h2
  have hq : q ∈ ([(3, 8, "java/lang/IllegalStateException", 12, 2)] : List (Nat × Nat × String × Nat × Nat)) := hq
  simp only [List.mem_cons, List.not_mem_nil, or_false] at hq
  rcases hq with rfl
  · exact sk_at [] (3, 8, 11, 21) [] rfl (fun z hz => by cases hz) (by decide) (by decide) wd_391 wd_481 (by decide) (Or.inl ⟨2, dL_restore_11, rfl, rfl⟩)
set_option maxRecDepth 100000 in
set_option maxHeartbeats 4000000 in
theorem ok_165 : nv_all 165 0 np_c165 := by
  unfold np_c165
  refine na_2 (q := 2) (⟨so_ldc dL_restore_0 wd_393, up_cst _ _⟩) rfl ?_
  refine na_1 (q := 3) (⟨so_istore_n dL_restore_2 rfl (by decide), up_istore _ _⟩) rfl ?_
  refine na_1 (q := 4) (⟨so_aload_n dL_restore_3 rfl, up_aload _ _⟩) rfl ?_
  refine na_3 (q := 7) (one_h (sc_V dL_restore_4 cw_L_restore_X7_restore rfl wd_811 wd_812 wd_813 (nv_rcO (ci := 5) rfl)) (by decide) (by decide) sk_L_restore_4) rfl ?_
  refine na_1 (q := 8) (⟨so_istore_n dL_restore_7 rfl (by decide), up_istore _ _⟩) rfl ?_
  refine na_3 (q := 11) (⟨so_goto dL_restore_8 (by decide), up_goto _⟩) rfl ?_
  refine na_n (q := 12) rfl ?_
  refine na_2 (q := 14) (⟨so_ldc dL_restore_12 wd_393, up_cst _ _⟩) rfl ?_
  refine na_1 (q := 15) (⟨so_reti dL_restore_14 rfl, up_reti _⟩) rfl ?_
  refine na_1 (q := 16) (⟨so_iload_n dL_restore_15 rfl, up_iload _ _⟩) rfl ?_
  refine na_1 (q := 17) (⟨so_reti dL_restore_16 rfl, up_reti _⟩) rfl ?_
  exact na_z
set_option maxRecDepth 100000 in
theorem sk_L_put_2 : ∀ q ∈ np_hls.getD 166 [], q.1 ≤ 2 → 2 < q.2.1 → nv_SK (np_M 166) 2 q.2.2.1 q.2.2.2.1 q.2.2.2.2 := by
  intro q hq h1 h2
  have hq : q ∈ ([(0, 6, "java/lang/IllegalStateException", 10, 2)] : List (Nat × Nat × String × Nat × Nat)) := hq
  simp only [List.mem_cons, List.not_mem_nil, or_false] at hq
  rcases hq with rfl
  · exact sk_at [] (0, 6, 9, 21) [] rfl (fun z hz => by cases hz) (by decide) (by decide) wd_391 wd_481 (by decide) (Or.inl ⟨2, dL_put_9, rfl, rfl⟩)
set_option maxRecDepth 100000 in
set_option maxHeartbeats 4000000 in
theorem ok_166 : nv_all 166 0 np_c166 := by
  unfold np_c166
  refine na_1 (q := 1) (⟨so_aload_n dL_put_0 rfl, up_aload _ _⟩) rfl ?_
  refine na_1 (q := 2) (⟨so_iload_n dL_put_1 rfl, up_iload _ _⟩) rfl ?_
  refine na_3 (q := 5) (one_h (sc_V dL_put_2 cw_L_put_X7_append rfl wd_828 wd_829 wd_830 (nv_rcO (ci := 5) rfl)) (by decide) (by decide) sk_L_put_2) rfl ?_
  refine na_1 (q := 6) (⟨so_pop dL_put_5, up_pop _⟩) rfl ?_
  refine na_3 (q := 9) (⟨so_goto dL_put_6 (by decide), up_goto _⟩) rfl ?_
  refine na_n (q := 10) rfl ?_
  refine na_1 (q := 11) (⟨so_iconst dL_put_10 (by decide), up_cst _ _⟩) rfl ?_
  refine na_1 (q := 12) (⟨so_reti dL_put_11 rfl, up_reti _⟩) rfl ?_
  refine na_1 (q := 13) (⟨so_iconst dL_put_12 (by decide), up_cst _ _⟩) rfl ?_
  refine na_1 (q := 14) (⟨so_reti dL_put_13 rfl, up_reti _⟩) rfl ?_
  exact na_z
set_option maxRecDepth 100000 in
set_option maxHeartbeats 4000000 in
theorem ok_167 : nv_all 167 0 np_c167 := by
  unfold np_c167
  refine na_1 (q := 1) (⟨so_iconst dL_write_0 (by decide), up_cst _ _⟩) rfl ?_
  refine na_1 (q := 2) (⟨so_istore_n dL_write_1 rfl (by decide), up_istore _ _⟩) rfl ?_
  refine na_1 (q := 3) (⟨so_iload_n dL_write_2 rfl, up_iload _ _⟩) rfl ?_
  refine na_1 (q := 4) (⟨so_aload_n dL_write_3 rfl, up_aload _ _⟩) rfl ?_
  refine na_3 (q := 7) (one_c rfl rfl (sc_V dL_write_4 cw_L_write_J0_length_8abf5 rfl wd_823 wd_610 wd_611 nv_rcS)) rfl ?_
  refine na_3 (q := 10) (⟨so_cge dL_write_7 (by decide), up_cge _ _⟩) rfl ?_
  refine na_1 (q := 11) (⟨so_aload_n dL_write_10 rfl, up_aload _ _⟩) rfl ?_
  refine na_1 (q := 12) (⟨so_aload_n dL_write_11 rfl, up_aload _ _⟩) rfl ?_
  refine na_1 (q := 13) (⟨so_iload_n dL_write_12 rfl, up_iload _ _⟩) rfl ?_
  refine na_3 (q := 16) (one_c rfl rfl (sc_V dL_write_13 cw_L_write_J0_charAt_5068e rfl wd_824 wd_620 wd_621 nv_rcS)) rfl ?_
  refine na_3 (q := 19) (one_c rfl rfl (sc_SX dL_write_16 (by decide) hd_L_put wd_22 ⟨by decide, by decide, by decide +kernel⟩ (by decide) (by decide) wd_825 wd_826)) rfl ?_
  refine na_1 (q := 20) (⟨so_pop dL_write_19, up_pop _⟩) rfl ?_
  refine na_3 (q := 23) (⟨so_iinc dL_write_20 (by decide) (by decide), up_iinc _ _ _⟩) rfl ?_
  refine na_3 (q := 26) (⟨so_goto dL_write_23 (by decide), up_goto _⟩) rfl ?_
  refine na_1 (q := 27) (⟨so_aload_n dL_write_26 rfl, up_aload _ _⟩) rfl ?_
  refine na_1 (q := 28) (⟨so_reta dL_write_27 rfl (Or.inl ⟨_, rfl⟩), up_reta⟩) rfl ?_
  exact na_z
set_option maxRecDepth 100000 in
set_option maxHeartbeats 4000000 in
theorem ok_168 : nv_all 168 0 np_c168 := by
  unfold np_c168
  refine na_1 (q := 1) (⟨so_iload_n dL_act_0 rfl, up_iload _ _⟩) rfl ?_
  refine na_1 (q := 2) (⟨so_iconst dL_act_1 (by decide), up_cst _ _⟩) rfl ?_
  refine na_1 (q := 3) (⟨so_ishr dL_act_2, up_i2 _ _⟩) rfl ?_
  refine na_2 (q := 5) (⟨so_ldc dL_act_3 wd_306, up_cst _ _⟩) rfl ?_
  refine na_1 (q := 6) (⟨so_iand dL_act_5, up_i2 _ _⟩) rfl ?_
  refine na_1 (q := 7) (⟨so_istore_n dL_act_6 rfl (by decide), up_istore _ _⟩) rfl ?_
  refine na_1 (q := 8) (⟨so_iload_n dL_act_7 rfl, up_iload _ _⟩) rfl ?_
  refine na_2 (q := 10) (⟨so_bipush dL_act_8 (by decide), up_cst _ _⟩) rfl ?_
  refine na_1 (q := 11) (⟨so_irem dL_act_10, up_irem _⟩) rfl ?_
  refine na_1 (q := 12) (⟨so_istore_n dL_act_11 rfl (by decide), up_istore _ _⟩) rfl ?_
  refine na_1 (q := 13) (⟨so_iload_n dL_act_12 rfl, up_iload _ _⟩) rfl ?_
  refine na_1 (q := 14) (⟨so_iconst dL_act_13 (by decide), up_cst _ _⟩) rfl ?_
  refine na_1 (q := 15) (⟨so_ishr dL_act_14, up_i2 _ _⟩) rfl ?_
  refine na_2 (q := 17) (⟨so_bipush dL_act_15 (by decide), up_cst _ _⟩) rfl ?_
  refine na_1 (q := 18) (⟨so_irem dL_act_17, up_irem _⟩) rfl ?_
  refine na_2 (q := 20) (⟨so_istore dL_act_18 (by decide), up_istore _ _⟩) rfl ?_
  refine na_1 (q := 21) (⟨so_iload_n dL_act_20 rfl, up_iload _ _⟩) rfl ?_
  refine na_2 (q := 23) (⟨so_bipush dL_act_21 (by decide), up_cst _ _⟩) rfl ?_
  refine na_1 (q := 24) (⟨so_iand dL_act_23, up_i2 _ _⟩) rfl ?_
  refine na_3 (q := 27) (⟨so_tsw dL_act_24 (by decide) (by decide) (by decide), up_tsw _ _ _⟩) rfl ?_
  refine na_n (q := 28) rfl ?_
  refine na_n (q := 29) rfl ?_
  refine na_n (q := 30) rfl ?_
  refine na_n (q := 31) rfl ?_
  refine na_n (q := 32) rfl ?_
  refine na_n (q := 33) rfl ?_
  refine na_n (q := 34) rfl ?_
  refine na_n (q := 35) rfl ?_
  refine na_n (q := 36) rfl ?_
  refine na_n (q := 37) rfl ?_
  refine na_n (q := 38) rfl ?_
  refine na_n (q := 39) rfl ?_
  refine na_n (q := 40) rfl ?_
  refine na_n (q := 41) rfl ?_
  refine na_n (q := 42) rfl ?_
  refine na_n (q := 43) rfl ?_
  refine na_n (q := 44) rfl ?_
  refine na_n (q := 45) rfl ?_
  refine na_n (q := 46) rfl ?_
  refine na_n (q := 47) rfl ?_
  refine na_n (q := 48) rfl ?_
  refine na_n (q := 49) rfl ?_
  refine na_n (q := 50) rfl ?_
  refine na_n (q := 51) rfl ?_
  refine na_n (q := 52) rfl ?_
  refine na_n (q := 53) rfl ?_
  refine na_n (q := 54) rfl ?_
  refine na_n (q := 55) rfl ?_
  refine na_n (q := 56) rfl ?_
  refine na_n (q := 57) rfl ?_
  refine na_n (q := 58) rfl ?_
  refine na_n (q := 59) rfl ?_
  refine na_n (q := 60) rfl ?_
  refine na_n (q := 61) rfl ?_
  refine na_n (q := 62) rfl ?_
  refine na_n (q := 63) rfl ?_
  refine na_n (q := 64) rfl ?_
  refine na_n (q := 65) rfl ?_
  refine na_n (q := 66) rfl ?_
  refine na_n (q := 67) rfl ?_
  refine na_n (q := 68) rfl ?_
  refine na_n (q := 69) rfl ?_
  refine na_n (q := 70) rfl ?_
  refine na_n (q := 71) rfl ?_
  refine na_n (q := 72) rfl ?_
  refine na_n (q := 73) rfl ?_
  refine na_n (q := 74) rfl ?_
  refine na_n (q := 75) rfl ?_
  refine na_n (q := 76) rfl ?_
  refine na_n (q := 77) rfl ?_
  refine na_n (q := 78) rfl ?_
  refine na_n (q := 79) rfl ?_
  refine na_n (q := 80) rfl ?_
  refine na_n (q := 81) rfl ?_
  refine na_n (q := 82) rfl ?_
  refine na_n (q := 83) rfl ?_
  refine na_n (q := 84) rfl ?_
  refine na_n (q := 85) rfl ?_
  refine na_n (q := 86) rfl ?_
  refine na_n (q := 87) rfl ?_
  refine na_n (q := 88) rfl ?_
  refine na_n (q := 89) rfl ?_
  refine na_n (q := 90) rfl ?_
  refine na_n (q := 91) rfl ?_
  refine na_n (q := 92) rfl ?_
  refine na_n (q := 93) rfl ?_
  refine na_n (q := 94) rfl ?_
  refine na_n (q := 95) rfl ?_
  refine na_n (q := 96) rfl ?_
  refine na_n (q := 97) rfl ?_
  refine na_n (q := 98) rfl ?_
  refine na_n (q := 99) rfl ?_
  refine na_n (q := 100) rfl ?_
  refine na_1 (q := 101) (⟨so_iload_n dL_act_100 rfl, up_iload _ _⟩) rfl ?_
  refine na_2 (q := 103) (⟨so_bipush dL_act_101 (by decide), up_cst _ _⟩) rfl ?_
  refine na_1 (q := 104) (⟨so_iand dL_act_103, up_i2 _ _⟩) rfl ?_
  refine na_3 (q := 107) (⟨so_ifne dL_act_104 (by decide), up_ifne _ _⟩) rfl ?_
  refine na_1 (q := 108) (⟨so_aload_n dL_act_107 rfl, up_aload _ _⟩) rfl ?_
  refine na_3 (q := 111) (one_c rfl rfl (sc_SX dL_act_108 (by decide) hd_L_start wd_22 ⟨by decide, by decide, by decide +kernel⟩ (by decide) (by decide) wd_512 wd_513)) rfl ?_
  refine na_3 (q := 114) (⟨so_goto dL_act_111 (by decide), up_goto _⟩) rfl ?_
  refine na_1 (q := 115) (⟨so_aload_n dL_act_114 rfl, up_aload _ _⟩) rfl ?_
  refine na_1 (q := 116) (⟨so_iload_n dL_act_115 rfl, up_iload _ _⟩) rfl ?_
  refine na_1 (q := 117) (⟨so_iconst dL_act_116 (by decide), up_cst _ _⟩) rfl ?_
  refine na_1 (q := 118) (⟨so_irem dL_act_117, up_irem _⟩) rfl ?_
  refine na_1 (q := 119) (⟨so_iload_n dL_act_118 rfl, up_iload _ _⟩) rfl ?_
  refine na_1 (q := 120) (⟨so_iconst dL_act_119 (by decide), up_cst _ _⟩) rfl ?_
  refine na_1 (q := 121) (⟨so_ishr dL_act_120, up_i2 _ _⟩) rfl ?_
  refine na_2 (q := 123) (⟨so_bipush dL_act_121 (by decide), up_cst _ _⟩) rfl ?_
  refine na_1 (q := 124) (⟨so_irem dL_act_123, up_irem _⟩) rfl ?_
  refine na_1 (q := 125) (⟨so_iload_n dL_act_124 rfl, up_iload _ _⟩) rfl ?_
  refine na_1 (q := 126) (⟨so_iconst dL_act_125 (by decide), up_cst _ _⟩) rfl ?_
  refine na_1 (q := 127) (⟨so_ishr dL_act_126, up_i2 _ _⟩) rfl ?_
  refine na_2 (q := 129) (⟨so_bipush dL_act_127 (by decide), up_cst _ _⟩) rfl ?_
  refine na_1 (q := 130) (⟨so_irem dL_act_129, up_irem _⟩) rfl ?_
  refine na_1 (q := 131) (⟨so_iload_n dL_act_130 rfl, up_iload _ _⟩) rfl ?_
  refine na_2 (q := 133) (⟨so_bipush dL_act_131 (by decide), up_cst _ _⟩) rfl ?_
  refine na_1 (q := 134) (⟨so_ishr dL_act_133, up_i2 _ _⟩) rfl ?_
  refine na_2 (q := 136) (⟨so_bipush dL_act_134 (by decide), up_cst _ _⟩) rfl ?_
  refine na_1 (q := 137) (⟨so_irem dL_act_136, up_irem _⟩) rfl ?_
  refine na_1 (q := 138) (⟨so_iload_n dL_act_137 rfl, up_iload _ _⟩) rfl ?_
  refine na_2 (q := 140) (⟨so_bipush dL_act_138 (by decide), up_cst _ _⟩) rfl ?_
  refine na_1 (q := 141) (⟨so_ishr dL_act_140, up_i2 _ _⟩) rfl ?_
  refine na_2 (q := 143) (⟨so_bipush dL_act_141 (by decide), up_cst _ _⟩) rfl ?_
  refine na_1 (q := 144) (⟨so_irem dL_act_143, up_irem _⟩) rfl ?_
  refine na_3 (q := 147) (one_c rfl rfl (sc_SX dL_act_144 (by decide) hd_L_addSpoon wd_22 ⟨by decide, by decide, by decide +kernel⟩ (by decide) (by decide) wd_307 wd_308)) rfl ?_
  refine na_1 (q := 148) (⟨so_reti dL_act_147 rfl, up_reti _⟩) rfl ?_
  refine na_1 (q := 149) (⟨so_aload_n dL_act_148 rfl, up_aload _ _⟩) rfl ?_
  refine na_3 (q := 152) (one_c rfl rfl (sc_SX dL_act_149 (by decide) hd_L_endTurn wd_22 ⟨by decide, by decide, by decide +kernel⟩ (by decide) (by decide) wd_523 wd_524)) rfl ?_
  refine na_1 (q := 153) (⟨so_reti dL_act_152 rfl, up_reti _⟩) rfl ?_
  refine na_1 (q := 154) (⟨so_aload_n dL_act_153 rfl, up_aload _ _⟩) rfl ?_
  refine na_1 (q := 155) (⟨so_iload_n dL_act_154 rfl, up_iload _ _⟩) rfl ?_
  refine na_1 (q := 156) (⟨so_iload_n dL_act_155 rfl, up_iload _ _⟩) rfl ?_
  refine na_1 (q := 157) (⟨so_iconst dL_act_156 (by decide), up_cst _ _⟩) rfl ?_
  refine na_1 (q := 158) (⟨so_ishr dL_act_157, up_i2 _ _⟩) rfl ?_
  refine na_2 (q := 160) (⟨so_bipush dL_act_158 (by decide), up_cst _ _⟩) rfl ?_
  refine na_1 (q := 161) (⟨so_irem dL_act_160, up_irem _⟩) rfl ?_
  refine na_3 (q := 164) (one_c rfl rfl (sc_SX dL_act_161 (by decide) hd_L_turnTo wd_22 ⟨by decide, by decide, by decide +kernel⟩ (by decide) (by decide) wd_542 wd_543)) rfl ?_
  refine na_1 (q := 165) (⟨so_reti dL_act_164 rfl, up_reti _⟩) rfl ?_
  refine na_1 (q := 166) (⟨so_aload_n dL_act_165 rfl, up_aload _ _⟩) rfl ?_
  refine na_1 (q := 167) (⟨so_iload_n dL_act_166 rfl, up_iload _ _⟩) rfl ?_
  refine na_1 (q := 168) (⟨so_iload_n dL_act_167 rfl, up_iload _ _⟩) rfl ?_
  refine na_1 (q := 169) (⟨so_iconst dL_act_168 (by decide), up_cst _ _⟩) rfl ?_
  refine na_1 (q := 170) (⟨so_ishr dL_act_169, up_i2 _ _⟩) rfl ?_
  refine na_1 (q := 171) (⟨so_iconst dL_act_170 (by decide), up_cst _ _⟩) rfl ?_
  refine na_1 (q := 172) (⟨so_irem dL_act_171, up_irem _⟩) rfl ?_
  refine na_1 (q := 173) (⟨so_iload_n dL_act_172 rfl, up_iload _ _⟩) rfl ?_
  refine na_2 (q := 175) (⟨so_bipush dL_act_173 (by decide), up_cst _ _⟩) rfl ?_
  refine na_1 (q := 176) (⟨so_iand dL_act_175, up_i2 _ _⟩) rfl ?_
  refine na_3 (q := 179) (⟨so_ifne dL_act_176 (by decide), up_ifne _ _⟩) rfl ?_
  refine na_1 (q := 180) (⟨so_iconst dL_act_179 (by decide), up_cst _ _⟩) rfl ?_
  refine na_3 (q := 183) (⟨so_goto dL_act_180 (by decide), up_goto _⟩) rfl ?_
  refine na_1 (q := 184) (⟨so_iconst dL_act_183 (by decide), up_cst _ _⟩) rfl ?_
  refine na_3 (q := 187) (one_c rfl rfl (sc_SX dL_act_184 (by decide) hd_L_sail wd_22 ⟨by decide, by decide, by decide +kernel⟩ (by decide) (by decide) wd_845 wd_846)) rfl ?_
  refine na_1 (q := 188) (⟨so_reti dL_act_187 rfl, up_reti _⟩) rfl ?_
  refine na_1 (q := 189) (⟨so_aload_n dL_act_188 rfl, up_aload _ _⟩) rfl ?_
  refine na_1 (q := 190) (⟨so_iload_n dL_act_189 rfl, up_iload _ _⟩) rfl ?_
  refine na_1 (q := 191) (⟨so_iconst dL_act_190 (by decide), up_cst _ _⟩) rfl ?_
  refine na_1 (q := 192) (⟨so_aload_n dL_act_191 rfl, up_aload _ _⟩) rfl ?_
  refine na_2 (q := 194) (⟨so_iload dL_act_192, up_iload _ _⟩) rfl ?_
  refine na_3 (q := 197) (one_c rfl rfl (sc_SX dL_act_194 (by decide) hd_L_xOf wd_22 ⟨by decide, by decide, by decide +kernel⟩ (by decide) (by decide) wd_852 wd_853)) rfl ?_
  refine na_3 (q := 200) (⟨so_max dL_act_197 wd_871 wd_678 wd_37 cd_max (by decide), up_max _⟩) rfl ?_
  refine na_1 (q := 201) (⟨so_iconst dL_act_200 (by decide), up_cst _ _⟩) rfl ?_
  refine na_1 (q := 202) (⟨so_aload_n dL_act_201 rfl, up_aload _ _⟩) rfl ?_
  refine na_2 (q := 204) (⟨so_iload dL_act_202, up_iload _ _⟩) rfl ?_
  refine na_3 (q := 207) (one_c rfl rfl (sc_SX dL_act_204 (by decide) hd_L_yOf wd_22 ⟨by decide, by decide, by decide +kernel⟩ (by decide) (by decide) wd_872 wd_873)) rfl ?_
  refine na_3 (q := 210) (⟨so_max dL_act_207 wd_871 wd_678 wd_37 cd_max (by decide), up_max _⟩) rfl ?_
  refine na_3 (q := 213) (one_c rfl rfl (sc_SX dL_act_210 (by decide) hd_L_fire wd_22 ⟨by decide, by decide, by decide +kernel⟩ (by decide) (by decide) wd_879 wd_880)) rfl ?_
  refine na_1 (q := 214) (⟨so_reti dL_act_213 rfl, up_reti _⟩) rfl ?_
  refine na_1 (q := 215) (⟨so_aload_n dL_act_214 rfl, up_aload _ _⟩) rfl ?_
  refine na_1 (q := 216) (⟨so_iload_n dL_act_215 rfl, up_iload _ _⟩) rfl ?_
  refine na_1 (q := 217) (⟨so_iload_n dL_act_216 rfl, up_iload _ _⟩) rfl ?_
  refine na_1 (q := 218) (⟨so_iconst dL_act_217 (by decide), up_cst _ _⟩) rfl ?_
  refine na_1 (q := 219) (⟨so_ishr dL_act_218, up_i2 _ _⟩) rfl ?_
  refine na_2 (q := 221) (⟨so_bipush dL_act_219 (by decide), up_cst _ _⟩) rfl ?_
  refine na_1 (q := 222) (⟨so_irem dL_act_221, up_irem _⟩) rfl ?_
  refine na_3 (q := 225) (one_c rfl rfl (sc_SX dL_act_222 (by decide) hd_L_load wd_22 ⟨by decide, by decide, by decide +kernel⟩ (by decide) (by decide) wd_573 wd_574)) rfl ?_
  refine na_1 (q := 226) (⟨so_reti dL_act_225 rfl, up_reti _⟩) rfl ?_
  refine na_1 (q := 227) (⟨so_aload_n dL_act_226 rfl, up_aload _ _⟩) rfl ?_
  refine na_3 (q := 230) (⟨so_gTEXTS dL_act_227 wd_886, up_cst _ _⟩) rfl ?_
  refine na_1 (q := 231) (⟨so_iload_n dL_act_230 rfl, up_iload _ _⟩) rfl ?_
  refine na_3 (q := 234) (⟨so_gTEXTS dL_act_231 wd_886, up_cst _ _⟩) rfl ?_
  refine na_1 (q := 235) (⟨so_lTEXTS dL_act_234, up_slen _ _ _⟩) rfl ?_
  refine na_1 (q := 236) (⟨so_irem dL_act_235, up_irem _⟩) rfl ?_
  refine na_1 (q := 237) (⟨so_ldTEXTS dL_act_236, up_sald _ _ _⟩) rfl ?_
  refine na_3 (q := 240) (one_c rfl rfl (sc_S dL_act_237 cw_L_act_L_write wd_820 wd_821)) rfl ?_
  refine na_3 (q := 243) (one_c rfl rfl (sc_SX dL_act_240 (by decide) hd_L_run wd_22 ⟨by decide, by decide, by decide +kernel⟩ (by decide) (by decide) wd_584 wd_585)) rfl ?_
  refine na_1 (q := 244) (⟨so_reti dL_act_243 rfl, up_reti _⟩) rfl ?_
  refine na_1 (q := 245) (⟨so_iload_n dL_act_244 rfl, up_iload _ _⟩) rfl ?_
  refine na_1 (q := 246) (⟨so_iconst dL_act_245 (by decide), up_cst _ _⟩) rfl ?_
  refine na_1 (q := 247) (⟨so_iand dL_act_246, up_i2 _ _⟩) rfl ?_
  refine na_3 (q := 250) (⟨so_ifne dL_act_247 (by decide), up_ifne _ _⟩) rfl ?_
  refine na_1 (q := 251) (⟨so_aload_n dL_act_250 rfl, up_aload _ _⟩) rfl ?_
  refine na_3 (q := 254) (one_c rfl rfl (sc_V dL_act_251 cw_L_act_X7_save rfl wd_287 wd_288 wd_289 (nv_rcO (ci := 5) rfl))) rfl ?_
  refine na_3 (q := 257) (⟨so_goto dL_act_254 (by decide), up_goto _⟩) rfl ?_
  refine na_1 (q := 258) (⟨so_iload_n dL_act_257 rfl, up_iload _ _⟩) rfl ?_
  refine na_1 (q := 259) (⟨so_iconst dL_act_258 (by decide), up_cst _ _⟩) rfl ?_
  refine na_1 (q := 260) (⟨so_iand dL_act_259, up_i2 _ _⟩) rfl ?_
  refine na_1 (q := 261) (⟨so_iconst dL_act_260 (by decide), up_cst _ _⟩) rfl ?_
  refine na_3 (q := 264) (⟨so_cne dL_act_261 (by decide), up_cne _ _⟩) rfl ?_
  refine na_1 (q := 265) (⟨so_aload_n dL_act_264 rfl, up_aload _ _⟩) rfl ?_
  refine na_3 (q := 268) (one_c rfl rfl (sc_SX dL_act_265 (by decide) hd_L_restore wd_22 ⟨by decide, by decide, by decide +kernel⟩ (by decide) (by decide) wd_808 wd_809)) rfl ?_
  refine na_3 (q := 271) (⟨so_goto dL_act_268 (by decide), up_goto _⟩) rfl ?_
  refine na_1 (q := 272) (⟨so_aload_n dL_act_271 rfl, up_aload _ _⟩) rfl ?_
  refine na_3 (q := 275) (one_c rfl rfl (sc_SX dL_act_272 (by decide) hd_L_undo wd_22 ⟨by decide, by decide, by decide +kernel⟩ (by decide) (by decide) wd_796 wd_797)) rfl ?_
  refine na_1 (q := 276) (⟨so_reti dL_act_275 rfl, up_reti _⟩) rfl ?_
  exact na_z
set_option maxRecDepth 100000 in
set_option maxHeartbeats 4000000 in
theorem ok_169 : nv_all 169 0 np_c169 := by
  unfold np_c169
  refine na_3 (q := 3) (⟨so_ldc2 dL_digest_0 wd_891, up_cst _ _⟩) rfl ?_
  refine na_1 (q := 4) (⟨so_aload_n dL_digest_3 rfl, up_aload _ _⟩) rfl ?_
  refine na_3 (q := 7) (one_c rfl rfl (sc_V dL_digest_4 cw_L_digest_X7_turnCount rfl wd_892 wd_893 wd_894 (nv_rcO (ci := 5) rfl))) rfl ?_
  refine na_1 (q := 8) (⟨so_i2l dL_digest_7, up_i2l _⟩) rfl ?_
  refine na_1 (q := 9) (⟨so_lmul dL_digest_8, up_l2 _ _⟩) rfl ?_
  refine na_3 (q := 12) (⟨so_ldc2 dL_digest_9 wd_896, up_cst _ _⟩) rfl ?_
  refine na_1 (q := 13) (⟨so_aload_n dL_digest_12 rfl, up_aload _ _⟩) rfl ?_
  refine na_3 (q := 16) (one_c rfl rfl (sc_V dL_digest_13 cw_L_digest_X7_shotCount rfl wd_897 wd_898 wd_899 (nv_rcO (ci := 5) rfl))) rfl ?_
  refine na_1 (q := 17) (⟨so_i2l dL_digest_16, up_i2l _⟩) rfl ?_
  refine na_1 (q := 18) (⟨so_lmul dL_digest_17, up_l2 _ _⟩) rfl ?_
  refine na_1 (q := 19) (⟨so_ladd dL_digest_18, up_l2 _ _⟩) rfl ?_
  refine na_3 (q := 22) (⟨so_ldc2 dL_digest_19 wd_901, up_cst _ _⟩) rfl ?_
  refine na_1 (q := 23) (⟨so_aload_n dL_digest_22 rfl, up_aload _ _⟩) rfl ?_
  refine na_3 (q := 26) (one_c rfl rfl (sc_V dL_digest_23 cw_L_digest_X7_hitCount rfl wd_902 wd_903 wd_904 (nv_rcO (ci := 5) rfl))) rfl ?_
  refine na_1 (q := 27) (⟨so_i2l dL_digest_26, up_i2l _⟩) rfl ?_
  refine na_1 (q := 28) (⟨so_lmul dL_digest_27, up_l2 _ _⟩) rfl ?_
  refine na_1 (q := 29) (⟨so_ladd dL_digest_28, up_l2 _ _⟩) rfl ?_
  refine na_3 (q := 32) (⟨so_ldc2 dL_digest_29 wd_906, up_cst _ _⟩) rfl ?_
  refine na_1 (q := 33) (⟨so_aload_n dL_digest_32 rfl, up_aload _ _⟩) rfl ?_
  refine na_3 (q := 36) (one_c rfl rfl (sc_V dL_digest_33 cw_L_digest_X7_cellsSailed rfl wd_907 wd_908 wd_909 (nv_rcO (ci := 5) rfl))) rfl ?_
  refine na_1 (q := 37) (⟨so_lmul dL_digest_36, up_l2 _ _⟩) rfl ?_
  refine na_1 (q := 38) (⟨so_ladd dL_digest_37, up_l2 _ _⟩) rfl ?_
  refine na_3 (q := 41) (⟨so_ldc2 dL_digest_38 wd_911, up_cst _ _⟩) rfl ?_
  refine na_1 (q := 42) (⟨so_aload_n dL_digest_41 rfl, up_aload _ _⟩) rfl ?_
  refine na_3 (q := 45) (one_c rfl rfl (sc_V dL_digest_42 cw_L_digest_X7_secretCount rfl wd_912 wd_913 wd_914 (nv_rcO (ci := 5) rfl))) rfl ?_
  refine na_1 (q := 46) (⟨so_i2l dL_digest_45, up_i2l _⟩) rfl ?_
  refine na_1 (q := 47) (⟨so_lmul dL_digest_46, up_l2 _ _⟩) rfl ?_
  refine na_1 (q := 48) (⟨so_ladd dL_digest_47, up_l2 _ _⟩) rfl ?_
  refine na_3 (q := 51) (⟨so_ldc2 dL_digest_48 wd_916, up_cst _ _⟩) rfl ?_
  refine na_1 (q := 52) (⟨so_aload_n dL_digest_51 rfl, up_aload _ _⟩) rfl ?_
  refine na_1 (q := 53) (⟨so_iconst dL_digest_52 (by decide), up_cst _ _⟩) rfl ?_
  refine na_3 (q := 56) (one_c rfl rfl (sc_V dL_digest_53 cw_L_digest_X7_potOf rfl wd_917 wd_918 wd_919 (nv_rcO (ci := 5) rfl))) rfl ?_
  refine na_1 (q := 57) (⟨so_i2l dL_digest_56, up_i2l _⟩) rfl ?_
  refine na_1 (q := 58) (⟨so_lmul dL_digest_57, up_l2 _ _⟩) rfl ?_
  refine na_1 (q := 59) (⟨so_ladd dL_digest_58, up_l2 _ _⟩) rfl ?_
  refine na_3 (q := 62) (⟨so_ldc2 dL_digest_59 wd_927, up_cst _ _⟩) rfl ?_
  refine na_1 (q := 63) (⟨so_aload_n dL_digest_62 rfl, up_aload _ _⟩) rfl ?_
  refine na_1 (q := 64) (⟨so_iconst dL_digest_63 (by decide), up_cst _ _⟩) rfl ?_
  refine na_3 (q := 67) (one_c rfl rfl (sc_V dL_digest_64 cw_L_digest_X7_potOf rfl wd_917 wd_918 wd_919 (nv_rcO (ci := 5) rfl))) rfl ?_
  refine na_1 (q := 68) (⟨so_i2l dL_digest_67, up_i2l _⟩) rfl ?_
  refine na_1 (q := 69) (⟨so_lmul dL_digest_68, up_l2 _ _⟩) rfl ?_
  refine na_1 (q := 70) (⟨so_ladd dL_digest_69, up_l2 _ _⟩) rfl ?_
  refine na_1 (q := 71) (⟨so_aload_n dL_digest_70 rfl, up_aload _ _⟩) rfl ?_
  refine na_3 (q := 74) (one_c rfl rfl (sc_SX dL_digest_71 (by decide) hd_L_activeFleet wd_22 ⟨by decide, by decide, by decide +kernel⟩ (by decide) (by decide) wd_928 wd_929)) rfl ?_
  refine na_1 (q := 75) (⟨so_i2l dL_digest_74, up_i2l _⟩) rfl ?_
  refine na_1 (q := 76) (⟨so_ladd dL_digest_75, up_l2 _ _⟩) rfl ?_
  refine na_1 (q := 77) (⟨so_lstore_n dL_digest_76 rfl (by decide), up_lstore _ _⟩) rfl ?_
  refine na_3 (q := 80) (⟨so_ldc2 dL_digest_77 wd_941, up_cst _ _⟩) rfl ?_
  refine na_3 (q := 83) (⟨so_ldc2 dL_digest_80 wd_941, up_cst _ _⟩) rfl ?_
  refine na_1 (q := 84) (⟨so_lload_n dL_digest_83 rfl, up_lload _ _⟩) rfl ?_
  refine na_1 (q := 85) (⟨so_lmul dL_digest_84, up_l2 _ _⟩) rfl ?_
  refine na_1 (q := 86) (⟨so_aload_n dL_digest_85 rfl, up_aload _ _⟩) rfl ?_
  refine na_3 (q := 89) (one_c rfl rfl (sc_SX dL_digest_86 (by decide) hd_L_actionsLeft wd_22 ⟨by decide, by decide, by decide +kernel⟩ (by decide) (by decide) wd_942 wd_943)) rfl ?_
  refine na_1 (q := 90) (⟨so_i2l dL_digest_89, up_i2l _⟩) rfl ?_
  refine na_1 (q := 91) (⟨so_ladd dL_digest_90, up_l2 _ _⟩) rfl ?_
  refine na_1 (q := 92) (⟨so_lmul dL_digest_91, up_l2 _ _⟩) rfl ?_
  refine na_1 (q := 93) (⟨so_aload_n dL_digest_92 rfl, up_aload _ _⟩) rfl ?_
  refine na_3 (q := 96) (one_c rfl rfl (sc_V dL_digest_93 cw_L_digest_X7_isStarted rfl wd_949 wd_950 wd_951 (nv_rcO (ci := 5) rfl))) rfl ?_
  refine na_3 (q := 99) (⟨so_ifeq dL_digest_96 (by decide), up_ifeq _ _⟩) rfl ?_
  refine na_1 (q := 100) (⟨so_iconst dL_digest_99 (by decide), up_cst _ _⟩) rfl ?_
  refine na_3 (q := 103) (⟨so_goto dL_digest_100 (by decide), up_goto _⟩) rfl ?_
  refine na_1 (q := 104) (⟨so_iconst dL_digest_103 (by decide), up_cst _ _⟩) rfl ?_
  refine na_1 (q := 105) (⟨so_i2l dL_digest_104, up_i2l _⟩) rfl ?_
  refine na_1 (q := 106) (⟨so_ladd dL_digest_105, up_l2 _ _⟩) rfl ?_
  refine na_1 (q := 107) (⟨so_aload_n dL_digest_106 rfl, up_aload _ _⟩) rfl ?_
  refine na_3 (q := 110) (one_c rfl rfl (sc_V dL_digest_107 cw_L_digest_X7_isFinished rfl wd_953 wd_954 wd_955 (nv_rcO (ci := 5) rfl))) rfl ?_
  refine na_3 (q := 113) (⟨so_ifeq dL_digest_110 (by decide), up_ifeq _ _⟩) rfl ?_
  refine na_1 (q := 114) (⟨so_iconst dL_digest_113 (by decide), up_cst _ _⟩) rfl ?_
  refine na_3 (q := 117) (⟨so_goto dL_digest_114 (by decide), up_goto _⟩) rfl ?_
  refine na_1 (q := 118) (⟨so_iconst dL_digest_117 (by decide), up_cst _ _⟩) rfl ?_
  refine na_1 (q := 119) (⟨so_i2l dL_digest_118, up_i2l _⟩) rfl ?_
  refine na_1 (q := 120) (⟨so_ladd dL_digest_119, up_l2 _ _⟩) rfl ?_
  refine na_1 (q := 121) (⟨so_lstore_n dL_digest_120 rfl (by decide), up_lstore _ _⟩) rfl ?_
  refine na_1 (q := 122) (⟨so_iconst dL_digest_121 (by decide), up_cst _ _⟩) rfl ?_
  refine na_1 (q := 123) (⟨so_istore_n dL_digest_122 rfl (by decide), up_istore _ _⟩) rfl ?_
  refine na_1 (q := 124) (⟨so_iload_n dL_digest_123 rfl, up_iload _ _⟩) rfl ?_
  refine na_1 (q := 125) (⟨so_aload_n dL_digest_124 rfl, up_aload _ _⟩) rfl ?_
  refine na_3 (q := 128) (one_c rfl rfl (sc_V dL_digest_125 cw_L_digest_X7_spoonCount rfl wd_958 wd_959 wd_960 (nv_rcO (ci := 5) rfl))) rfl ?_
  refine na_3 (q := 131) (⟨so_cge dL_digest_128 (by decide), up_cge _ _⟩) rfl ?_
  refine na_3 (q := 134) (⟨so_ldc2 dL_digest_131 wd_941, up_cst _ _⟩) rfl ?_
  refine na_3 (q := 137) (⟨so_ldc2 dL_digest_134 wd_941, up_cst _ _⟩) rfl ?_
  refine na_3 (q := 140) (⟨so_ldc2 dL_digest_137 wd_941, up_cst _ _⟩) rfl ?_
  refine na_3 (q := 143) (⟨so_ldc2 dL_digest_140 wd_941, up_cst _ _⟩) rfl ?_
  refine na_1 (q := 144) (⟨so_lload_n dL_digest_143 rfl, up_lload _ _⟩) rfl ?_
  refine na_1 (q := 145) (⟨so_lmul dL_digest_144, up_l2 _ _⟩) rfl ?_
  refine na_1 (q := 146) (⟨so_aload_n dL_digest_145 rfl, up_aload _ _⟩) rfl ?_
  refine na_1 (q := 147) (⟨so_iload_n dL_digest_146 rfl, up_iload _ _⟩) rfl ?_
  refine na_3 (q := 150) (one_c rfl rfl (sc_SX dL_digest_147 (by decide) hd_L_xOf wd_22 ⟨by decide, by decide, by decide +kernel⟩ (by decide) (by decide) wd_852 wd_853)) rfl ?_
  refine na_1 (q := 151) (⟨so_i2l dL_digest_150, up_i2l _⟩) rfl ?_
  refine na_1 (q := 152) (⟨so_ladd dL_digest_151, up_l2 _ _⟩) rfl ?_
  refine na_1 (q := 153) (⟨so_lmul dL_digest_152, up_l2 _ _⟩) rfl ?_
  refine na_1 (q := 154) (⟨so_aload_n dL_digest_153 rfl, up_aload _ _⟩) rfl ?_
  refine na_1 (q := 155) (⟨so_iload_n dL_digest_154 rfl, up_iload _ _⟩) rfl ?_
  refine na_3 (q := 158) (one_c rfl rfl (sc_SX dL_digest_155 (by decide) hd_L_yOf wd_22 ⟨by decide, by decide, by decide +kernel⟩ (by decide) (by decide) wd_872 wd_873)) rfl ?_
  refine na_1 (q := 159) (⟨so_i2l dL_digest_158, up_i2l _⟩) rfl ?_
  refine na_1 (q := 160) (⟨so_ladd dL_digest_159, up_l2 _ _⟩) rfl ?_
  refine na_1 (q := 161) (⟨so_lmul dL_digest_160, up_l2 _ _⟩) rfl ?_
  refine na_1 (q := 162) (⟨so_aload_n dL_digest_161 rfl, up_aload _ _⟩) rfl ?_
  refine na_1 (q := 163) (⟨so_iload_n dL_digest_162 rfl, up_iload _ _⟩) rfl ?_
  refine na_3 (q := 166) (one_c rfl rfl (sc_V dL_digest_163 cw_L_digest_X7_bearingOf rfl wd_962 wd_963 wd_964 (nv_rcO (ci := 5) rfl))) rfl ?_
  refine na_1 (q := 167) (⟨so_i2l dL_digest_166, up_i2l _⟩) rfl ?_
  refine na_1 (q := 168) (⟨so_ladd dL_digest_167, up_l2 _ _⟩) rfl ?_
  refine na_1 (q := 169) (⟨so_lmul dL_digest_168, up_l2 _ _⟩) rfl ?_
  refine na_1 (q := 170) (⟨so_aload_n dL_digest_169 rfl, up_aload _ _⟩) rfl ?_
  refine na_1 (q := 171) (⟨so_iload_n dL_digest_170 rfl, up_iload _ _⟩) rfl ?_
  refine na_3 (q := 174) (one_c rfl rfl (sc_V dL_digest_171 cw_L_digest_X7_cubesOf rfl wd_966 wd_967 wd_968 (nv_rcO (ci := 5) rfl))) rfl ?_
  refine na_1 (q := 175) (⟨so_i2l dL_digest_174, up_i2l _⟩) rfl ?_
  refine na_1 (q := 176) (⟨so_ladd dL_digest_175, up_l2 _ _⟩) rfl ?_
  refine na_1 (q := 177) (⟨so_lstore_n dL_digest_176 rfl (by decide), up_lstore _ _⟩) rfl ?_
  refine na_3 (q := 180) (⟨so_ldc2 dL_digest_177 wd_941, up_cst _ _⟩) rfl ?_
  refine na_3 (q := 183) (⟨so_ldc2 dL_digest_180 wd_941, up_cst _ _⟩) rfl ?_
  refine na_3 (q := 186) (⟨so_ldc2 dL_digest_183 wd_941, up_cst _ _⟩) rfl ?_
  refine na_3 (q := 189) (⟨so_ldc2 dL_digest_186 wd_941, up_cst _ _⟩) rfl ?_
  refine na_1 (q := 190) (⟨so_lload_n dL_digest_189 rfl, up_lload _ _⟩) rfl ?_
  refine na_1 (q := 191) (⟨so_lmul dL_digest_190, up_l2 _ _⟩) rfl ?_
  refine na_1 (q := 192) (⟨so_aload_n dL_digest_191 rfl, up_aload _ _⟩) rfl ?_
  refine na_1 (q := 193) (⟨so_iload_n dL_digest_192 rfl, up_iload _ _⟩) rfl ?_
  refine na_3 (q := 196) (one_c rfl rfl (sc_SX dL_digest_193 (by decide) hd_L_knownX wd_22 ⟨by decide, by decide, by decide +kernel⟩ (by decide) (by decide) wd_970 wd_971)) rfl ?_
  refine na_1 (q := 197) (⟨so_i2l dL_digest_196, up_i2l _⟩) rfl ?_
  refine na_1 (q := 198) (⟨so_ladd dL_digest_197, up_l2 _ _⟩) rfl ?_
  refine na_1 (q := 199) (⟨so_lmul dL_digest_198, up_l2 _ _⟩) rfl ?_
  refine na_1 (q := 200) (⟨so_aload_n dL_digest_199 rfl, up_aload _ _⟩) rfl ?_
  refine na_1 (q := 201) (⟨so_iload_n dL_digest_200 rfl, up_iload _ _⟩) rfl ?_
  refine na_3 (q := 204) (one_c rfl rfl (sc_SX dL_digest_201 (by decide) hd_L_knownY wd_22 ⟨by decide, by decide, by decide +kernel⟩ (by decide) (by decide) wd_977 wd_978)) rfl ?_
  refine na_1 (q := 205) (⟨so_i2l dL_digest_204, up_i2l _⟩) rfl ?_
  refine na_1 (q := 206) (⟨so_ladd dL_digest_205, up_l2 _ _⟩) rfl ?_
  refine na_1 (q := 207) (⟨so_lmul dL_digest_206, up_l2 _ _⟩) rfl ?_
  refine na_1 (q := 208) (⟨so_aload_n dL_digest_207 rfl, up_aload _ _⟩) rfl ?_
  refine na_1 (q := 209) (⟨so_iload_n dL_digest_208 rfl, up_iload _ _⟩) rfl ?_
  refine na_3 (q := 212) (one_c rfl rfl (sc_V dL_digest_209 cw_L_digest_X7_hullOf rfl wd_984 wd_985 wd_986 (nv_rcO (ci := 5) rfl))) rfl ?_
  refine na_1 (q := 213) (⟨so_i2l dL_digest_212, up_i2l _⟩) rfl ?_
  refine na_1 (q := 214) (⟨so_ladd dL_digest_213, up_l2 _ _⟩) rfl ?_
  refine na_1 (q := 215) (⟨so_lmul dL_digest_214, up_l2 _ _⟩) rfl ?_
  refine na_1 (q := 216) (⟨so_aload_n dL_digest_215 rfl, up_aload _ _⟩) rfl ?_
  refine na_1 (q := 217) (⟨so_iload_n dL_digest_216 rfl, up_iload _ _⟩) rfl ?_
  refine na_3 (q := 220) (one_c rfl rfl (sc_V dL_digest_217 cw_L_digest_X7_fleetOf rfl wd_988 wd_989 wd_990 (nv_rcO (ci := 5) rfl))) rfl ?_
  refine na_1 (q := 221) (⟨so_i2l dL_digest_220, up_i2l _⟩) rfl ?_
  refine na_1 (q := 222) (⟨so_ladd dL_digest_221, up_l2 _ _⟩) rfl ?_
  refine na_1 (q := 223) (⟨so_lstore_n dL_digest_222 rfl (by decide), up_lstore _ _⟩) rfl ?_
  refine na_3 (q := 226) (⟨so_iinc dL_digest_223 (by decide) (by decide), up_iinc _ _ _⟩) rfl ?_
  refine na_3 (q := 229) (⟨so_goto dL_digest_226 (by decide), up_goto _⟩) rfl ?_
  refine na_1 (q := 230) (⟨so_lload_n dL_digest_229 rfl, up_lload _ _⟩) rfl ?_
  refine na_1 (q := 231) (⟨so_retl dL_digest_230 rfl, up_retl⟩) rfl ?_
  exact na_z
set_option maxRecDepth 100000 in
set_option maxHeartbeats 4000000 in
theorem ok_170 : nv_all 170 0 np_c170 := by
  unfold np_c170
  refine na_1 (q := 1) (⟨so_iload_n dL_far_0 rfl, up_iload _ _⟩) rfl ?_
  refine na_1 (q := 2) (⟨so_iload_n dL_far_1 rfl, up_iload _ _⟩) rfl ?_
  refine na_3 (q := 5) (⟨so_cle dL_far_2 (by decide), up_cle _ _⟩) rfl ?_
  refine na_1 (q := 6) (⟨so_iload_n dL_far_5 rfl, up_iload _ _⟩) rfl ?_
  refine na_1 (q := 7) (⟨so_iload_n dL_far_6 rfl, up_iload _ _⟩) rfl ?_
  refine na_1 (q := 8) (⟨so_isub dL_far_7, up_i2 _ _⟩) rfl ?_
  refine na_3 (q := 11) (⟨so_goto dL_far_8 (by decide), up_goto _⟩) rfl ?_
  refine na_1 (q := 12) (⟨so_iload_n dL_far_11 rfl, up_iload _ _⟩) rfl ?_
  refine na_1 (q := 13) (⟨so_iload_n dL_far_12 rfl, up_iload _ _⟩) rfl ?_
  refine na_1 (q := 14) (⟨so_isub dL_far_13, up_i2 _ _⟩) rfl ?_
  refine na_1 (q := 15) (⟨so_reti dL_far_14 rfl, up_reti _⟩) rfl ?_
  exact na_z
set_option maxRecDepth 100000 in
set_option maxHeartbeats 4000000 in
theorem ok_171 : nv_all 171 0 np_c171 := by
  unfold np_c171
  refine na_1 (q := 1) (⟨so_aload_n dL_isGame_0 rfl, up_aload _ _⟩) rfl ?_
  refine na_3 (q := 4) (one_c rfl rfl (sc_V dL_isGame_1 cw_L_isGame_X7_isStarted rfl wd_949 wd_950 wd_951 (nv_rcO (ci := 5) rfl))) rfl ?_
  refine na_3 (q := 7) (⟨so_ifeq dL_isGame_4 (by decide), up_ifeq _ _⟩) rfl ?_
  refine na_1 (q := 8) (⟨so_aload_n dL_isGame_7 rfl, up_aload _ _⟩) rfl ?_
  refine na_3 (q := 11) (one_c rfl rfl (sc_V dL_isGame_8 cw_L_isGame_X7_isFinished rfl wd_953 wd_954 wd_955 (nv_rcO (ci := 5) rfl))) rfl ?_
  refine na_3 (q := 14) (⟨so_ifne dL_isGame_11 (by decide), up_ifne _ _⟩) rfl ?_
  refine na_1 (q := 15) (⟨so_iconst dL_isGame_14 (by decide), up_cst _ _⟩) rfl ?_
  refine na_3 (q := 18) (⟨so_goto dL_isGame_15 (by decide), up_goto _⟩) rfl ?_
  refine na_1 (q := 19) (⟨so_iconst dL_isGame_18 (by decide), up_cst _ _⟩) rfl ?_
  refine na_1 (q := 20) (⟨so_istore_n dL_isGame_19 rfl (by decide), up_istore _ _⟩) rfl ?_
  refine na_1 (q := 21) (⟨so_aload_n dL_isGame_20 rfl, up_aload _ _⟩) rfl ?_
  refine na_3 (q := 24) (one_c rfl rfl (sc_SX dL_isGame_21 (by decide) hd_L_activeFleet wd_22 ⟨by decide, by decide, by decide +kernel⟩ (by decide) (by decide) wd_928 wd_929)) rfl ?_
  refine na_3 (q := 27) (⟨so_sipush dL_isGame_24 (by decide), up_cst _ _⟩) rfl ?_
  refine na_3 (q := 30) (⟨so_ceq dL_isGame_27 (by decide), up_ceq _ _⟩) rfl ?_
  refine na_1 (q := 31) (⟨so_iconst dL_isGame_30 (by decide), up_cst _ _⟩) rfl ?_
  refine na_3 (q := 34) (⟨so_goto dL_isGame_31 (by decide), up_goto _⟩) rfl ?_
  refine na_1 (q := 35) (⟨so_iconst dL_isGame_34 (by decide), up_cst _ _⟩) rfl ?_
  refine na_1 (q := 36) (⟨so_iload_n dL_isGame_35 rfl, up_iload _ _⟩) rfl ?_
  refine na_3 (q := 39) (⟨so_cne dL_isGame_36 (by decide), up_cne _ _⟩) rfl ?_
  refine na_1 (q := 40) (⟨so_aload_n dL_isGame_39 rfl, up_aload _ _⟩) rfl ?_
  refine na_3 (q := 43) (one_c rfl rfl (sc_SX dL_isGame_40 (by decide) hd_L_actionsLeft wd_22 ⟨by decide, by decide, by decide +kernel⟩ (by decide) (by decide) wd_942 wd_943)) rfl ?_
  refine na_3 (q := 46) (⟨so_sipush dL_isGame_43 (by decide), up_cst _ _⟩) rfl ?_
  refine na_3 (q := 49) (⟨so_ceq dL_isGame_46 (by decide), up_ceq _ _⟩) rfl ?_
  refine na_1 (q := 50) (⟨so_iconst dL_isGame_49 (by decide), up_cst _ _⟩) rfl ?_
  refine na_3 (q := 53) (⟨so_goto dL_isGame_50 (by decide), up_goto _⟩) rfl ?_
  refine na_1 (q := 54) (⟨so_iconst dL_isGame_53 (by decide), up_cst _ _⟩) rfl ?_
  refine na_1 (q := 55) (⟨so_iload_n dL_isGame_54 rfl, up_iload _ _⟩) rfl ?_
  refine na_3 (q := 58) (⟨so_cne dL_isGame_55 (by decide), up_cne _ _⟩) rfl ?_
  refine na_1 (q := 59) (⟨so_aload_n dL_isGame_58 rfl, up_aload _ _⟩) rfl ?_
  refine na_3 (q := 62) (one_c rfl rfl (sc_SX dL_isGame_59 (by decide) hd_L_actionsLeft wd_22 ⟨by decide, by decide, by decide +kernel⟩ (by decide) (by decide) wd_942 wd_943)) rfl ?_
  refine na_1 (q := 63) (⟨so_iconst dL_isGame_62 (by decide), up_cst _ _⟩) rfl ?_
  refine na_3 (q := 66) (⟨so_cgt dL_isGame_63 (by decide), up_cgt _ _⟩) rfl ?_
  refine na_1 (q := 67) (⟨so_aload_n dL_isGame_66 rfl, up_aload _ _⟩) rfl ?_
  refine na_3 (q := 70) (one_c rfl rfl (sc_SX dL_isGame_67 (by decide) hd_L_winner wd_22 ⟨by decide, by decide, by decide +kernel⟩ (by decide) (by decide) wd_998 wd_999)) rfl ?_
  refine na_3 (q := 73) (⟨so_sipush dL_isGame_70 (by decide), up_cst _ _⟩) rfl ?_
  refine na_3 (q := 76) (⟨so_ceq dL_isGame_73 (by decide), up_ceq _ _⟩) rfl ?_
  refine na_1 (q := 77) (⟨so_iconst dL_isGame_76 (by decide), up_cst _ _⟩) rfl ?_
  refine na_3 (q := 80) (⟨so_goto dL_isGame_77 (by decide), up_goto _⟩) rfl ?_
  refine na_1 (q := 81) (⟨so_iconst dL_isGame_80 (by decide), up_cst _ _⟩) rfl ?_
  refine na_1 (q := 82) (⟨so_aload_n dL_isGame_81 rfl, up_aload _ _⟩) rfl ?_
  refine na_3 (q := 85) (one_c rfl rfl (sc_V dL_isGame_82 cw_L_isGame_X7_isFinished rfl wd_953 wd_954 wd_955 (nv_rcO (ci := 5) rfl))) rfl ?_
  refine na_3 (q := 88) (⟨so_cne dL_isGame_85 (by decide), up_cne _ _⟩) rfl ?_
  refine na_1 (q := 89) (⟨so_aload_n dL_isGame_88 rfl, up_aload _ _⟩) rfl ?_
  refine na_3 (q := 92) (one_c rfl rfl (sc_V dL_isGame_89 cw_L_isGame_X7_isFinished rfl wd_953 wd_954 wd_955 (nv_rcO (ci := 5) rfl))) rfl ?_
  refine na_3 (q := 95) (⟨so_ifeq dL_isGame_92 (by decide), up_ifeq _ _⟩) rfl ?_
  refine na_1 (q := 96) (⟨so_aload_n dL_isGame_95 rfl, up_aload _ _⟩) rfl ?_
  refine na_1 (q := 97) (⟨so_aload_n dL_isGame_96 rfl, up_aload _ _⟩) rfl ?_
  refine na_3 (q := 100) (one_c rfl rfl (sc_SX dL_isGame_97 (by decide) hd_L_winner wd_22 ⟨by decide, by decide, by decide +kernel⟩ (by decide) (by decide) wd_998 wd_999)) rfl ?_
  refine na_3 (q := 103) (one_c rfl rfl (sc_V dL_isGame_100 cw_L_isGame_X7_floating rfl wd_1006 wd_1007 wd_1008 (nv_rcO (ci := 5) rfl))) rfl ?_
  refine na_3 (q := 106) (⟨so_ifle dL_isGame_103 (by decide), up_ifle _ _⟩) rfl ?_
  refine na_1 (q := 107) (⟨so_aload_n dL_isGame_106 rfl, up_aload _ _⟩) rfl ?_
  refine na_1 (q := 108) (⟨so_iconst dL_isGame_107 (by decide), up_cst _ _⟩) rfl ?_
  refine na_1 (q := 109) (⟨so_aload_n dL_isGame_108 rfl, up_aload _ _⟩) rfl ?_
  refine na_3 (q := 112) (one_c rfl rfl (sc_SX dL_isGame_109 (by decide) hd_L_winner wd_22 ⟨by decide, by decide, by decide +kernel⟩ (by decide) (by decide) wd_998 wd_999)) rfl ?_
  refine na_1 (q := 113) (⟨so_isub dL_isGame_112, up_i2 _ _⟩) rfl ?_
  refine na_3 (q := 116) (one_c rfl rfl (sc_V dL_isGame_113 cw_L_isGame_X7_floating rfl wd_1006 wd_1007 wd_1008 (nv_rcO (ci := 5) rfl))) rfl ?_
  refine na_3 (q := 119) (⟨so_ifne dL_isGame_116 (by decide), up_ifne _ _⟩) rfl ?_
  refine na_1 (q := 120) (⟨so_iconst dL_isGame_119 (by decide), up_cst _ _⟩) rfl ?_
  refine na_3 (q := 123) (⟨so_goto dL_isGame_120 (by decide), up_goto _⟩) rfl ?_
  refine na_1 (q := 124) (⟨so_iconst dL_isGame_123 (by decide), up_cst _ _⟩) rfl ?_
  refine na_1 (q := 125) (⟨so_istore_n dL_isGame_124 rfl (by decide), up_istore _ _⟩) rfl ?_
  refine na_1 (q := 126) (⟨so_iconst dL_isGame_125 (by decide), up_cst _ _⟩) rfl ?_
  refine na_1 (q := 127) (⟨so_istore_n dL_isGame_126 rfl (by decide), up_istore _ _⟩) rfl ?_
  refine na_1 (q := 128) (⟨so_iload_n dL_isGame_127 rfl, up_iload _ _⟩) rfl ?_
  refine na_3 (q := 131) (⟨so_ifeq dL_isGame_128 (by decide), up_ifeq _ _⟩) rfl ?_
  refine na_1 (q := 132) (⟨so_iload_n dL_isGame_131 rfl, up_iload _ _⟩) rfl ?_
  refine na_1 (q := 133) (⟨so_iconst dL_isGame_132 (by decide), up_cst _ _⟩) rfl ?_
  refine na_3 (q := 136) (⟨so_cge dL_isGame_133 (by decide), up_cge _ _⟩) rfl ?_
  refine na_1 (q := 137) (⟨so_iconst dL_isGame_136 (by decide), up_cst _ _⟩) rfl ?_
  refine na_2 (q := 139) (⟨so_istore dL_isGame_137 (by decide), up_istore _ _⟩) rfl ?_
  refine na_1 (q := 140) (⟨so_iconst dL_isGame_139 (by decide), up_cst _ _⟩) rfl ?_
  refine na_2 (q := 142) (⟨so_istore dL_isGame_140 (by decide), up_istore _ _⟩) rfl ?_
  refine na_1 (q := 143) (⟨so_iconst dL_isGame_142 (by decide), up_cst _ _⟩) rfl ?_
  refine na_2 (q := 145) (⟨so_istore dL_isGame_143 (by decide), up_istore _ _⟩) rfl ?_
  refine na_2 (q := 147) (⟨so_iload dL_isGame_145, up_iload _ _⟩) rfl ?_
  refine na_1 (q := 148) (⟨so_aload_n dL_isGame_147 rfl, up_aload _ _⟩) rfl ?_
  refine na_3 (q := 151) (one_c rfl rfl (sc_V dL_isGame_148 cw_L_isGame_X7_spoonCount rfl wd_958 wd_959 wd_960 (nv_rcO (ci := 5) rfl))) rfl ?_
  refine na_3 (q := 154) (⟨so_cge dL_isGame_151 (by decide), up_cge _ _⟩) rfl ?_
  refine na_1 (q := 155) (⟨so_aload_n dL_isGame_154 rfl, up_aload _ _⟩) rfl ?_
  refine na_2 (q := 157) (⟨so_iload dL_isGame_155, up_iload _ _⟩) rfl ?_
  refine na_3 (q := 160) (one_c rfl rfl (sc_V dL_isGame_157 cw_L_isGame_X7_fleetOf rfl wd_988 wd_989 wd_990 (nv_rcO (ci := 5) rfl))) rfl ?_
  refine na_1 (q := 161) (⟨so_iload_n dL_isGame_160 rfl, up_iload _ _⟩) rfl ?_
  refine na_3 (q := 164) (⟨so_cne dL_isGame_161 (by decide), up_cne _ _⟩) rfl ?_
  refine na_1 (q := 165) (⟨so_iconst dL_isGame_164 (by decide), up_cst _ _⟩) rfl ?_
  refine na_3 (q := 168) (⟨so_goto dL_isGame_165 (by decide), up_goto _⟩) rfl ?_
  refine na_1 (q := 169) (⟨so_iconst dL_isGame_168 (by decide), up_cst _ _⟩) rfl ?_
  refine na_2 (q := 171) (⟨so_istore dL_isGame_169 (by decide), up_istore _ _⟩) rfl ?_
  refine na_2 (q := 173) (⟨so_iload dL_isGame_171, up_iload _ _⟩) rfl ?_
  refine na_2 (q := 175) (⟨so_iload dL_isGame_173, up_iload _ _⟩) rfl ?_
  refine na_3 (q := 178) (⟨so_ifeq dL_isGame_175 (by decide), up_ifeq _ _⟩) rfl ?_
  refine na_1 (q := 179) (⟨so_aload_n dL_isGame_178 rfl, up_aload _ _⟩) rfl ?_
  refine na_2 (q := 181) (⟨so_iload dL_isGame_179, up_iload _ _⟩) rfl ?_
  refine na_3 (q := 184) (one_c rfl rfl (sc_V dL_isGame_181 cw_L_isGame_X7_cubesOf rfl wd_966 wd_967 wd_968 (nv_rcO (ci := 5) rfl))) rfl ?_
  refine na_3 (q := 187) (⟨so_goto dL_isGame_184 (by decide), up_goto _⟩) rfl ?_
  refine na_1 (q := 188) (⟨so_iconst dL_isGame_187 (by decide), up_cst _ _⟩) rfl ?_
  refine na_1 (q := 189) (⟨so_iadd dL_isGame_188, up_i2 _ _⟩) rfl ?_
  refine na_2 (q := 191) (⟨so_istore dL_isGame_189 (by decide), up_istore _ _⟩) rfl ?_
  refine na_2 (q := 193) (⟨so_iload dL_isGame_191, up_iload _ _⟩) rfl ?_
  refine na_2 (q := 195) (⟨so_iload dL_isGame_193, up_iload _ _⟩) rfl ?_
  refine na_3 (q := 198) (⟨so_ifeq dL_isGame_195 (by decide), up_ifeq _ _⟩) rfl ?_
  refine na_1 (q := 199) (⟨so_aload_n dL_isGame_198 rfl, up_aload _ _⟩) rfl ?_
  refine na_2 (q := 201) (⟨so_iload dL_isGame_199, up_iload _ _⟩) rfl ?_
  refine na_3 (q := 204) (one_c rfl rfl (sc_V dL_isGame_201 cw_L_isGame_X7_isSunk rfl wd_1010 wd_1011 wd_1012 (nv_rcO (ci := 5) rfl))) rfl ?_
  refine na_3 (q := 207) (⟨so_ifne dL_isGame_204 (by decide), up_ifne _ _⟩) rfl ?_
  refine na_1 (q := 208) (⟨so_iconst dL_isGame_207 (by decide), up_cst _ _⟩) rfl ?_
  refine na_3 (q := 211) (⟨so_goto dL_isGame_208 (by decide), up_goto _⟩) rfl ?_
  refine na_1 (q := 212) (⟨so_iconst dL_isGame_211 (by decide), up_cst _ _⟩) rfl ?_
  refine na_1 (q := 213) (⟨so_iadd dL_isGame_212, up_i2 _ _⟩) rfl ?_
  refine na_2 (q := 215) (⟨so_istore dL_isGame_213 (by decide), up_istore _ _⟩) rfl ?_
  refine na_3 (q := 218) (⟨so_iinc dL_isGame_215 (by decide) (by decide), up_iinc _ _ _⟩) rfl ?_
  refine na_3 (q := 221) (⟨so_goto dL_isGame_218 (by decide), up_goto _⟩) rfl ?_
  refine na_1 (q := 222) (⟨so_aload_n dL_isGame_221 rfl, up_aload _ _⟩) rfl ?_
  refine na_1 (q := 223) (⟨so_iload_n dL_isGame_222 rfl, up_iload _ _⟩) rfl ?_
  refine na_3 (q := 226) (one_c rfl rfl (sc_V dL_isGame_223 cw_L_isGame_X7_fleetCubes rfl wd_1014 wd_1015 wd_1016 (nv_rcO (ci := 5) rfl))) rfl ?_
  refine na_2 (q := 228) (⟨so_iload dL_isGame_226, up_iload _ _⟩) rfl ?_
  refine na_3 (q := 231) (⟨so_cne dL_isGame_228 (by decide), up_cne _ _⟩) rfl ?_
  refine na_1 (q := 232) (⟨so_aload_n dL_isGame_231 rfl, up_aload _ _⟩) rfl ?_
  refine na_1 (q := 233) (⟨so_iload_n dL_isGame_232 rfl, up_iload _ _⟩) rfl ?_
  refine na_3 (q := 236) (one_c rfl rfl (sc_V dL_isGame_233 cw_L_isGame_X7_fleetCubesByAccount rfl wd_1022 wd_1023 wd_1024 (nv_rcO (ci := 5) rfl))) rfl ?_
  refine na_2 (q := 238) (⟨so_iload dL_isGame_236, up_iload _ _⟩) rfl ?_
  refine na_3 (q := 241) (⟨so_cne dL_isGame_238 (by decide), up_cne _ _⟩) rfl ?_
  refine na_1 (q := 242) (⟨so_aload_n dL_isGame_241 rfl, up_aload _ _⟩) rfl ?_
  refine na_1 (q := 243) (⟨so_iload_n dL_isGame_242 rfl, up_iload _ _⟩) rfl ?_
  refine na_3 (q := 246) (one_c rfl rfl (sc_V dL_isGame_243 cw_L_isGame_X7_floating rfl wd_1006 wd_1007 wd_1008 (nv_rcO (ci := 5) rfl))) rfl ?_
  refine na_2 (q := 248) (⟨so_iload dL_isGame_246, up_iload _ _⟩) rfl ?_
  refine na_3 (q := 251) (⟨so_cne dL_isGame_248 (by decide), up_cne _ _⟩) rfl ?_
  refine na_1 (q := 252) (⟨so_aload_n dL_isGame_251 rfl, up_aload _ _⟩) rfl ?_
  refine na_1 (q := 253) (⟨so_iload_n dL_isGame_252 rfl, up_iload _ _⟩) rfl ?_
  refine na_3 (q := 256) (one_c rfl rfl (sc_V dL_isGame_253 cw_L_isGame_X7_potOf rfl wd_917 wd_918 wd_919 (nv_rcO (ci := 5) rfl))) rfl ?_
  refine na_3 (q := 259) (⟨so_iflt dL_isGame_256 (by decide), up_iflt _ _⟩) rfl ?_
  refine na_1 (q := 260) (⟨so_aload_n dL_isGame_259 rfl, up_aload _ _⟩) rfl ?_
  refine na_1 (q := 261) (⟨so_iload_n dL_isGame_260 rfl, up_iload _ _⟩) rfl ?_
  refine na_3 (q := 264) (one_c rfl rfl (sc_V dL_isGame_261 cw_L_isGame_X7_potOf rfl wd_917 wd_918 wd_919 (nv_rcO (ci := 5) rfl))) rfl ?_
  refine na_2 (q := 266) (⟨so_bipush dL_isGame_264 (by decide), up_cst _ _⟩) rfl ?_
  refine na_3 (q := 269) (⟨so_cgt dL_isGame_266 (by decide), up_cgt _ _⟩) rfl ?_
  refine na_1 (q := 270) (⟨so_aload_n dL_isGame_269 rfl, up_aload _ _⟩) rfl ?_
  refine na_1 (q := 271) (⟨so_iload_n dL_isGame_270 rfl, up_iload _ _⟩) rfl ?_
  refine na_3 (q := 274) (one_c rfl rfl (sc_SX dL_isGame_271 (by decide) hd_L_meanCubes wd_22 ⟨by decide, by decide, by decide +kernel⟩ (by decide) (by decide) wd_1030 wd_1031)) rfl ?_
  refine na_2 (q := 276) (⟨so_iload dL_isGame_274, up_iload _ _⟩) rfl ?_
  refine na_3 (q := 279) (⟨so_ifne dL_isGame_276 (by decide), up_ifne _ _⟩) rfl ?_
  refine na_3 (q := 282) (⟨so_ldc2d dL_isGame_279 wd_1047, up_cst _ _⟩) rfl ?_
  refine na_3 (q := 285) (⟨so_goto dL_isGame_282 (by decide), up_goto _⟩) rfl ?_
  refine na_2 (q := 287) (⟨so_iload dL_isGame_285, up_iload _ _⟩) rfl ?_
  refine na_1 (q := 288) (⟨so_i2d dL_isGame_287, up_i2d _⟩) rfl ?_
  refine na_2 (q := 290) (⟨so_iload dL_isGame_288, up_iload _ _⟩) rfl ?_
  refine na_1 (q := 291) (⟨so_i2d dL_isGame_290, up_i2d _⟩) rfl ?_
  refine na_1 (q := 292) (⟨so_ddiv dL_isGame_291, up_ddiv _⟩) rfl ?_
  refine na_1 (q := 293) (⟨so_dcmp dL_isGame_292, up_dcmp _ _⟩) rfl ?_
  refine na_3 (q := 296) (⟨so_ifne dL_isGame_293 (by decide), up_ifne _ _⟩) rfl ?_
  refine na_1 (q := 297) (⟨so_iconst dL_isGame_296 (by decide), up_cst _ _⟩) rfl ?_
  refine na_3 (q := 300) (⟨so_goto dL_isGame_297 (by decide), up_goto _⟩) rfl ?_
  refine na_1 (q := 301) (⟨so_iconst dL_isGame_300 (by decide), up_cst _ _⟩) rfl ?_
  refine na_1 (q := 302) (⟨so_istore_n dL_isGame_301 rfl (by decide), up_istore _ _⟩) rfl ?_
  refine na_3 (q := 305) (⟨so_iinc dL_isGame_302 (by decide) (by decide), up_iinc _ _ _⟩) rfl ?_
  refine na_3 (q := 308) (⟨so_goto dL_isGame_305 (by decide), up_goto _⟩) rfl ?_
  refine na_1 (q := 309) (⟨so_iload_n dL_isGame_308 rfl, up_iload _ _⟩) rfl ?_
  refine na_3 (q := 312) (⟨so_ifeq dL_isGame_309 (by decide), up_ifeq _ _⟩) rfl ?_
  refine na_1 (q := 313) (⟨so_aload_n dL_isGame_312 rfl, up_aload _ _⟩) rfl ?_
  refine na_3 (q := 316) (one_c rfl rfl (sc_SX dL_isGame_313 (by decide) hd_L_hitShare wd_22 ⟨by decide, by decide, by decide +kernel⟩ (by decide) (by decide) wd_1055 wd_1056)) rfl ?_
  refine na_1 (q := 317) (⟨so_aload_n dL_isGame_316 rfl, up_aload _ _⟩) rfl ?_
  refine na_3 (q := 320) (one_c rfl rfl (sc_V dL_isGame_317 cw_L_isGame_X7_shotCount rfl wd_897 wd_898 wd_899 (nv_rcO (ci := 5) rfl))) rfl ?_
  refine na_3 (q := 323) (⟨so_ifne dL_isGame_320 (by decide), up_ifne _ _⟩) rfl ?_
  refine na_2 (q := 325) (⟨so_ldcf dL_isGame_323 wd_1058, up_cst _ _⟩) rfl ?_
  refine na_3 (q := 328) (⟨so_goto dL_isGame_325 (by decide), up_goto _⟩) rfl ?_
  refine na_1 (q := 329) (⟨so_aload_n dL_isGame_328 rfl, up_aload _ _⟩) rfl ?_
  refine na_3 (q := 332) (one_c rfl rfl (sc_V dL_isGame_329 cw_L_isGame_X7_hitCount rfl wd_902 wd_903 wd_904 (nv_rcO (ci := 5) rfl))) rfl ?_
  refine na_1 (q := 333) (⟨so_i2f dL_isGame_332, up_i2f _⟩) rfl ?_
  refine na_1 (q := 334) (⟨so_aload_n dL_isGame_333 rfl, up_aload _ _⟩) rfl ?_
  refine na_3 (q := 337) (one_c rfl rfl (sc_V dL_isGame_334 cw_L_isGame_X7_shotCount rfl wd_897 wd_898 wd_899 (nv_rcO (ci := 5) rfl))) rfl ?_
  refine na_1 (q := 338) (⟨so_i2f dL_isGame_337, up_i2f _⟩) rfl ?_
  refine na_1 (q := 339) (⟨so_fdiv dL_isGame_338, up_fdiv _⟩) rfl ?_
  refine na_1 (q := 340) (⟨so_fcmp dL_isGame_339, up_fcmp _ _⟩) rfl ?_
  refine na_3 (q := 343) (⟨so_ifne dL_isGame_340 (by decide), up_ifne _ _⟩) rfl ?_
  refine na_1 (q := 344) (⟨so_aload_n dL_isGame_343 rfl, up_aload _ _⟩) rfl ?_
  refine na_3 (q := 347) (one_c rfl rfl (sc_V dL_isGame_344 cw_L_isGame_X7_isConsistent rfl wd_1064 wd_1065 wd_1066 (nv_rcO (ci := 5) rfl))) rfl ?_
  refine na_3 (q := 350) (⟨so_ifeq dL_isGame_347 (by decide), up_ifeq _ _⟩) rfl ?_
  refine na_1 (q := 351) (⟨so_iconst dL_isGame_350 (by decide), up_cst _ _⟩) rfl ?_
  refine na_3 (q := 354) (⟨so_goto dL_isGame_351 (by decide), up_goto _⟩) rfl ?_
  refine na_1 (q := 355) (⟨so_iconst dL_isGame_354 (by decide), up_cst _ _⟩) rfl ?_
  refine na_1 (q := 356) (⟨so_reti dL_isGame_355 rfl, up_reti _⟩) rfl ?_
  exact na_z
set_option maxRecDepth 100000 in
set_option maxHeartbeats 4000000 in
theorem ok_172 : nv_all 172 0 np_c172 := by
  unfold np_c172
  refine na_1 (q := 1) (⟨so_aload_n dL_isSpoon_0 rfl, up_aload _ _⟩) rfl ?_
  refine na_1 (q := 2) (⟨so_iload_n dL_isSpoon_1 rfl, up_iload _ _⟩) rfl ?_
  refine na_3 (q := 5) (one_c rfl rfl (sc_V dL_isSpoon_2 cw_L_isSpoon_X7_isSunk rfl wd_1010 wd_1011 wd_1012 (nv_rcO (ci := 5) rfl))) rfl ?_
  refine na_1 (q := 6) (⟨so_istore_n dL_isSpoon_5 rfl (by decide), up_istore _ _⟩) rfl ?_
  refine na_1 (q := 7) (⟨so_aload_n dL_isSpoon_6 rfl, up_aload _ _⟩) rfl ?_
  refine na_1 (q := 8) (⟨so_iload_n dL_isSpoon_7 rfl, up_iload _ _⟩) rfl ?_
  refine na_3 (q := 11) (one_c rfl rfl (sc_SX dL_isSpoon_8 (by decide) hd_L_xOf wd_22 ⟨by decide, by decide, by decide +kernel⟩ (by decide) (by decide) wd_852 wd_853)) rfl ?_
  refine na_1 (q := 12) (⟨so_istore_n dL_isSpoon_11 rfl (by decide), up_istore _ _⟩) rfl ?_
  refine na_1 (q := 13) (⟨so_aload_n dL_isSpoon_12 rfl, up_aload _ _⟩) rfl ?_
  refine na_1 (q := 14) (⟨so_iload_n dL_isSpoon_13 rfl, up_iload _ _⟩) rfl ?_
  refine na_3 (q := 17) (one_c rfl rfl (sc_SX dL_isSpoon_14 (by decide) hd_L_yOf wd_22 ⟨by decide, by decide, by decide +kernel⟩ (by decide) (by decide) wd_872 wd_873)) rfl ?_
  refine na_2 (q := 19) (⟨so_istore dL_isSpoon_17 (by decide), up_istore _ _⟩) rfl ?_
  refine na_1 (q := 20) (⟨so_iload_n dL_isSpoon_19 rfl, up_iload _ _⟩) rfl ?_
  refine na_3 (q := 23) (⟨so_ifeq dL_isSpoon_20 (by decide), up_ifeq _ _⟩) rfl ?_
  refine na_1 (q := 24) (⟨so_iload_n dL_isSpoon_23 rfl, up_iload _ _⟩) rfl ?_
  refine na_3 (q := 27) (⟨so_sipush dL_isSpoon_24 (by decide), up_cst _ _⟩) rfl ?_
  refine na_3 (q := 30) (⟨so_cne dL_isSpoon_27 (by decide), up_cne _ _⟩) rfl ?_
  refine na_2 (q := 32) (⟨so_iload dL_isSpoon_30, up_iload _ _⟩) rfl ?_
  refine na_3 (q := 35) (⟨so_sipush dL_isSpoon_32 (by decide), up_cst _ _⟩) rfl ?_
  refine na_3 (q := 38) (⟨so_cne dL_isSpoon_35 (by decide), up_cne _ _⟩) rfl ?_
  refine na_1 (q := 39) (⟨so_aload_n dL_isSpoon_38 rfl, up_aload _ _⟩) rfl ?_
  refine na_1 (q := 40) (⟨so_iload_n dL_isSpoon_39 rfl, up_iload _ _⟩) rfl ?_
  refine na_3 (q := 43) (one_c rfl rfl (sc_V dL_isSpoon_40 cw_L_isSpoon_X7_hullOf rfl wd_984 wd_985 wd_986 (nv_rcO (ci := 5) rfl))) rfl ?_
  refine na_3 (q := 46) (⟨so_ifne dL_isSpoon_43 (by decide), up_ifne _ _⟩) rfl ?_
  refine na_1 (q := 47) (⟨so_aload_n dL_isSpoon_46 rfl, up_aload _ _⟩) rfl ?_
  refine na_1 (q := 48) (⟨so_iload_n dL_isSpoon_47 rfl, up_iload _ _⟩) rfl ?_
  refine na_3 (q := 51) (one_c rfl rfl (sc_V dL_isSpoon_48 cw_L_isSpoon_X7_cubesOf rfl wd_966 wd_967 wd_968 (nv_rcO (ci := 5) rfl))) rfl ?_
  refine na_3 (q := 54) (⟨so_ifne dL_isSpoon_51 (by decide), up_ifne _ _⟩) rfl ?_
  refine na_1 (q := 55) (⟨so_aload_n dL_isSpoon_54 rfl, up_aload _ _⟩) rfl ?_
  refine na_1 (q := 56) (⟨so_iload_n dL_isSpoon_55 rfl, up_iload _ _⟩) rfl ?_
  refine na_3 (q := 59) (one_c rfl rfl (sc_SX dL_isSpoon_56 (by decide) hd_L_knownX wd_22 ⟨by decide, by decide, by decide +kernel⟩ (by decide) (by decide) wd_970 wd_971)) rfl ?_
  refine na_3 (q := 62) (⟨so_sipush dL_isSpoon_59 (by decide), up_cst _ _⟩) rfl ?_
  refine na_3 (q := 65) (⟨so_cne dL_isSpoon_62 (by decide), up_cne _ _⟩) rfl ?_
  refine na_1 (q := 66) (⟨so_aload_n dL_isSpoon_65 rfl, up_aload _ _⟩) rfl ?_
  refine na_1 (q := 67) (⟨so_iload_n dL_isSpoon_66 rfl, up_iload _ _⟩) rfl ?_
  refine na_3 (q := 70) (one_c rfl rfl (sc_V dL_isSpoon_67 cw_L_isSpoon_X7_isHidden rfl wd_1147 wd_1148 wd_1149 (nv_rcO (ci := 5) rfl))) rfl ?_
  refine na_3 (q := 73) (⟨so_ifne dL_isSpoon_70 (by decide), up_ifne _ _⟩) rfl ?_
  refine na_1 (q := 74) (⟨so_aload_n dL_isSpoon_73 rfl, up_aload _ _⟩) rfl ?_
  refine na_1 (q := 75) (⟨so_iload_n dL_isSpoon_74 rfl, up_iload _ _⟩) rfl ?_
  refine na_3 (q := 78) (one_c rfl rfl (sc_V dL_isSpoon_75 cw_L_isSpoon_X7_targetCount rfl wd_1151 wd_1152 wd_1153 (nv_rcO (ci := 5) rfl))) rfl ?_
  refine na_3 (q := 81) (⟨so_ifne dL_isSpoon_78 (by decide), up_ifne _ _⟩) rfl ?_
  refine na_1 (q := 82) (⟨so_aload_n dL_isSpoon_81 rfl, up_aload _ _⟩) rfl ?_
  refine na_1 (q := 83) (⟨so_iload_n dL_isSpoon_82 rfl, up_iload _ _⟩) rfl ?_
  refine na_3 (q := 86) (one_c rfl rfl (sc_SX dL_isSpoon_83 (by decide) hd_L_cellsAhead wd_22 ⟨by decide, by decide, by decide +kernel⟩ (by decide) (by decide) wd_1156 wd_1157)) rfl ?_
  refine na_3 (q := 89) (⟨so_sipush dL_isSpoon_86 (by decide), up_cst _ _⟩) rfl ?_
  refine na_3 (q := 92) (⟨so_cne dL_isSpoon_89 (by decide), up_cne _ _⟩) rfl ?_
  refine na_1 (q := 93) (⟨so_iconst dL_isSpoon_92 (by decide), up_cst _ _⟩) rfl ?_
  refine na_3 (q := 96) (⟨so_goto dL_isSpoon_93 (by decide), up_goto _⟩) rfl ?_
  refine na_1 (q := 97) (⟨so_iconst dL_isSpoon_96 (by decide), up_cst _ _⟩) rfl ?_
  refine na_1 (q := 98) (⟨so_reti dL_isSpoon_97 rfl, up_reti _⟩) rfl ?_
  refine na_1 (q := 99) (⟨so_iconst dL_isSpoon_98 (by decide), up_cst _ _⟩) rfl ?_
  refine na_2 (q := 101) (⟨so_istore dL_isSpoon_99 (by decide), up_istore _ _⟩) rfl ?_
  refine na_1 (q := 102) (⟨so_aload_n dL_isSpoon_101 rfl, up_aload _ _⟩) rfl ?_
  refine na_1 (q := 103) (⟨so_iload_n dL_isSpoon_102 rfl, up_iload _ _⟩) rfl ?_
  refine na_2 (q := 105) (⟨so_iload dL_isSpoon_103, up_iload _ _⟩) rfl ?_
  refine na_3 (q := 108) (one_c rfl rfl (sc_SX dL_isSpoon_105 (by decide) hd_L_spoonAt wd_22 ⟨by decide, by decide, by decide +kernel⟩ (by decide) (by decide) wd_1111 wd_1112)) rfl ?_
  refine na_1 (q := 109) (⟨so_iload_n dL_isSpoon_108 rfl, up_iload _ _⟩) rfl ?_
  refine na_3 (q := 112) (⟨so_cne dL_isSpoon_109 (by decide), up_cne _ _⟩) rfl ?_
  refine na_1 (q := 113) (⟨so_aload_n dL_isSpoon_112 rfl, up_aload _ _⟩) rfl ?_
  refine na_1 (q := 114) (⟨so_iload_n dL_isSpoon_113 rfl, up_iload _ _⟩) rfl ?_
  refine na_3 (q := 117) (one_c rfl rfl (sc_V dL_isSpoon_114 cw_L_isSpoon_X7_hullOf rfl wd_984 wd_985 wd_986 (nv_rcO (ci := 5) rfl))) rfl ?_
  refine na_3 (q := 120) (⟨so_ifle dL_isSpoon_117 (by decide), up_ifle _ _⟩) rfl ?_
  refine na_1 (q := 121) (⟨so_aload_n dL_isSpoon_120 rfl, up_aload _ _⟩) rfl ?_
  refine na_1 (q := 122) (⟨so_iload_n dL_isSpoon_121 rfl, up_iload _ _⟩) rfl ?_
  refine na_3 (q := 125) (one_c rfl rfl (sc_V dL_isSpoon_122 cw_L_isSpoon_X7_isHidden rfl wd_1147 wd_1148 wd_1149 (nv_rcO (ci := 5) rfl))) rfl ?_
  refine na_1 (q := 126) (⟨so_aload_n dL_isSpoon_125 rfl, up_aload _ _⟩) rfl ?_
  refine na_1 (q := 127) (⟨so_iload_n dL_isSpoon_126 rfl, up_iload _ _⟩) rfl ?_
  refine na_3 (q := 130) (one_c rfl rfl (sc_SX dL_isSpoon_127 (by decide) hd_L_knownX wd_22 ⟨by decide, by decide, by decide +kernel⟩ (by decide) (by decide) wd_970 wd_971)) rfl ?_
  refine na_1 (q := 131) (⟨so_iload_n dL_isSpoon_130 rfl, up_iload _ _⟩) rfl ?_
  refine na_3 (q := 134) (⟨so_cne dL_isSpoon_131 (by decide), up_cne _ _⟩) rfl ?_
  refine na_1 (q := 135) (⟨so_aload_n dL_isSpoon_134 rfl, up_aload _ _⟩) rfl ?_
  refine na_1 (q := 136) (⟨so_iload_n dL_isSpoon_135 rfl, up_iload _ _⟩) rfl ?_
  refine na_3 (q := 139) (one_c rfl rfl (sc_SX dL_isSpoon_136 (by decide) hd_L_knownY wd_22 ⟨by decide, by decide, by decide +kernel⟩ (by decide) (by decide) wd_977 wd_978)) rfl ?_
  refine na_2 (q := 141) (⟨so_iload dL_isSpoon_139, up_iload _ _⟩) rfl ?_
  refine na_3 (q := 144) (⟨so_ceq dL_isSpoon_141 (by decide), up_ceq _ _⟩) rfl ?_
  refine na_1 (q := 145) (⟨so_iconst dL_isSpoon_144 (by decide), up_cst _ _⟩) rfl ?_
  refine na_3 (q := 148) (⟨so_goto dL_isSpoon_145 (by decide), up_goto _⟩) rfl ?_
  refine na_1 (q := 149) (⟨so_iconst dL_isSpoon_148 (by decide), up_cst _ _⟩) rfl ?_
  refine na_3 (q := 152) (⟨so_cne dL_isSpoon_149 (by decide), up_cne _ _⟩) rfl ?_
  refine na_1 (q := 153) (⟨so_aload_n dL_isSpoon_152 rfl, up_aload _ _⟩) rfl ?_
  refine na_1 (q := 154) (⟨so_iload_n dL_isSpoon_153 rfl, up_iload _ _⟩) rfl ?_
  refine na_1 (q := 155) (⟨so_iload_n dL_isSpoon_154 rfl, up_iload _ _⟩) rfl ?_
  refine na_2 (q := 157) (⟨so_iload dL_isSpoon_155, up_iload _ _⟩) rfl ?_
  refine na_3 (q := 160) (one_c rfl rfl (sc_SX dL_isSpoon_157 (by decide) hd_L_directionTo wd_22 ⟨by decide, by decide, by decide +kernel⟩ (by decide) (by decide) wd_1164 wd_1165)) rfl ?_
  refine na_3 (q := 163) (⟨so_sipush dL_isSpoon_160 (by decide), up_cst _ _⟩) rfl ?_
  refine na_3 (q := 166) (⟨so_cne dL_isSpoon_163 (by decide), up_cne _ _⟩) rfl ?_
  refine na_1 (q := 167) (⟨so_aload_n dL_isSpoon_166 rfl, up_aload _ _⟩) rfl ?_
  refine na_1 (q := 168) (⟨so_iload_n dL_isSpoon_167 rfl, up_iload _ _⟩) rfl ?_
  refine na_1 (q := 169) (⟨so_iload_n dL_isSpoon_168 rfl, up_iload _ _⟩) rfl ?_
  refine na_2 (q := 171) (⟨so_iload dL_isSpoon_169, up_iload _ _⟩) rfl ?_
  refine na_3 (q := 174) (one_c rfl rfl (sc_V dL_isSpoon_171 cw_L_isSpoon_X7_isInReach rfl wd_1174 wd_1175 wd_1176 (nv_rcO (ci := 5) rfl))) rfl ?_
  refine na_3 (q := 177) (⟨so_ifne dL_isSpoon_174 (by decide), up_ifne _ _⟩) rfl ?_
  refine na_1 (q := 178) (⟨so_aload_n dL_isSpoon_177 rfl, up_aload _ _⟩) rfl ?_
  refine na_1 (q := 179) (⟨so_iload_n dL_isSpoon_178 rfl, up_iload _ _⟩) rfl ?_
  refine na_1 (q := 180) (⟨so_iload_n dL_isSpoon_179 rfl, up_iload _ _⟩) rfl ?_
  refine na_3 (q := 183) (one_c rfl rfl (sc_SX dL_isSpoon_180 (by decide) hd_L_distance wd_22 ⟨by decide, by decide, by decide +kernel⟩ (by decide) (by decide) wd_1179 wd_1180)) rfl ?_
  refine na_3 (q := 186) (⟨so_ifne dL_isSpoon_183 (by decide), up_ifne _ _⟩) rfl ?_
  refine na_1 (q := 187) (⟨so_iconst dL_isSpoon_186 (by decide), up_cst _ _⟩) rfl ?_
  refine na_3 (q := 190) (⟨so_goto dL_isSpoon_187 (by decide), up_goto _⟩) rfl ?_
  refine na_1 (q := 191) (⟨so_iconst dL_isSpoon_190 (by decide), up_cst _ _⟩) rfl ?_
  refine na_2 (q := 193) (⟨so_istore dL_isSpoon_191 (by decide), up_istore _ _⟩) rfl ?_
  refine na_1 (q := 194) (⟨so_iconst dL_isSpoon_193 (by decide), up_cst _ _⟩) rfl ?_
  refine na_2 (q := 196) (⟨so_istore dL_isSpoon_194 (by decide), up_istore _ _⟩) rfl ?_
  refine na_2 (q := 198) (⟨so_iload dL_isSpoon_196, up_iload _ _⟩) rfl ?_
  refine na_3 (q := 201) (⟨so_ifeq dL_isSpoon_198 (by decide), up_ifeq _ _⟩) rfl ?_
  refine na_2 (q := 203) (⟨so_iload dL_isSpoon_201, up_iload _ _⟩) rfl ?_
  refine na_1 (q := 204) (⟨so_aload_n dL_isSpoon_203 rfl, up_aload _ _⟩) rfl ?_
  refine na_3 (q := 207) (one_c rfl rfl (sc_V dL_isSpoon_204 cw_L_isSpoon_X7_spoonCount rfl wd_958 wd_959 wd_960 (nv_rcO (ci := 5) rfl))) rfl ?_
  refine na_3 (q := 210) (⟨so_cge dL_isSpoon_207 (by decide), up_cge _ _⟩) rfl ?_
  refine na_1 (q := 211) (⟨so_aload_n dL_isSpoon_210 rfl, up_aload _ _⟩) rfl ?_
  refine na_1 (q := 212) (⟨so_iload_n dL_isSpoon_211 rfl, up_iload _ _⟩) rfl ?_
  refine na_2 (q := 214) (⟨so_iload dL_isSpoon_212, up_iload _ _⟩) rfl ?_
  refine na_3 (q := 217) (one_c rfl rfl (sc_SX dL_isSpoon_214 (by decide) hd_L_distance wd_22 ⟨by decide, by decide, by decide +kernel⟩ (by decide) (by decide) wd_1179 wd_1180)) rfl ?_
  refine na_2 (q := 219) (⟨so_istore dL_isSpoon_217 (by decide), up_istore _ _⟩) rfl ?_
  refine na_2 (q := 221) (⟨so_iload dL_isSpoon_219, up_iload _ _⟩) rfl ?_
  refine na_3 (q := 224) (⟨so_ifle dL_isSpoon_221 (by decide), up_ifle _ _⟩) rfl ?_
  refine na_1 (q := 225) (⟨so_aload_n dL_isSpoon_224 rfl, up_aload _ _⟩) rfl ?_
  refine na_1 (q := 226) (⟨so_iload_n dL_isSpoon_225 rfl, up_iload _ _⟩) rfl ?_
  refine na_1 (q := 227) (⟨so_aload_n dL_isSpoon_226 rfl, up_aload _ _⟩) rfl ?_
  refine na_2 (q := 229) (⟨so_iload dL_isSpoon_227, up_iload _ _⟩) rfl ?_
  refine na_3 (q := 232) (one_c rfl rfl (sc_V dL_isSpoon_229 cw_L_isSpoon_X7_xOf rfl wd_855 wd_856 wd_857 (nv_rcO (ci := 5) rfl))) rfl ?_
  refine na_1 (q := 233) (⟨so_aload_n dL_isSpoon_232 rfl, up_aload _ _⟩) rfl ?_
  refine na_2 (q := 235) (⟨so_iload dL_isSpoon_233, up_iload _ _⟩) rfl ?_
  refine na_3 (q := 238) (one_c rfl rfl (sc_V dL_isSpoon_235 cw_L_isSpoon_X7_yOf rfl wd_875 wd_876 wd_877 (nv_rcO (ci := 5) rfl))) rfl ?_
  refine na_3 (q := 241) (one_c rfl rfl (sc_V dL_isSpoon_238 cw_L_isSpoon_X7_isInReach rfl wd_1174 wd_1175 wd_1176 (nv_rcO (ci := 5) rfl))) rfl ?_
  refine na_3 (q := 244) (⟨so_ifeq dL_isSpoon_241 (by decide), up_ifeq _ _⟩) rfl ?_
  refine na_1 (q := 245) (⟨so_iconst dL_isSpoon_244 (by decide), up_cst _ _⟩) rfl ?_
  refine na_3 (q := 248) (⟨so_goto dL_isSpoon_245 (by decide), up_goto _⟩) rfl ?_
  refine na_1 (q := 249) (⟨so_iconst dL_isSpoon_248 (by decide), up_cst _ _⟩) rfl ?_
  refine na_2 (q := 251) (⟨so_istore dL_isSpoon_249 (by decide), up_istore _ _⟩) rfl ?_
  refine na_2 (q := 253) (⟨so_iload dL_isSpoon_251, up_iload _ _⟩) rfl ?_
  refine na_2 (q := 255) (⟨so_iload dL_isSpoon_253, up_iload _ _⟩) rfl ?_
  refine na_3 (q := 258) (⟨so_ifeq dL_isSpoon_255 (by decide), up_ifeq _ _⟩) rfl ?_
  refine na_1 (q := 259) (⟨so_aload_n dL_isSpoon_258 rfl, up_aload _ _⟩) rfl ?_
  refine na_2 (q := 261) (⟨so_iload dL_isSpoon_259, up_iload _ _⟩) rfl ?_
  refine na_3 (q := 264) (one_c rfl rfl (sc_V dL_isSpoon_261 cw_L_isSpoon_X7_fleetOf rfl wd_988 wd_989 wd_990 (nv_rcO (ci := 5) rfl))) rfl ?_
  refine na_1 (q := 265) (⟨so_aload_n dL_isSpoon_264 rfl, up_aload _ _⟩) rfl ?_
  refine na_1 (q := 266) (⟨so_iload_n dL_isSpoon_265 rfl, up_iload _ _⟩) rfl ?_
  refine na_3 (q := 269) (one_c rfl rfl (sc_V dL_isSpoon_266 cw_L_isSpoon_X7_fleetOf rfl wd_988 wd_989 wd_990 (nv_rcO (ci := 5) rfl))) rfl ?_
  refine na_3 (q := 272) (⟨so_ceq dL_isSpoon_269 (by decide), up_ceq _ _⟩) rfl ?_
  refine na_1 (q := 273) (⟨so_iconst dL_isSpoon_272 (by decide), up_cst _ _⟩) rfl ?_
  refine na_3 (q := 276) (⟨so_goto dL_isSpoon_273 (by decide), up_goto _⟩) rfl ?_
  refine na_1 (q := 277) (⟨so_iconst dL_isSpoon_276 (by decide), up_cst _ _⟩) rfl ?_
  refine na_1 (q := 278) (⟨so_iadd dL_isSpoon_277, up_i2 _ _⟩) rfl ?_
  refine na_2 (q := 280) (⟨so_istore dL_isSpoon_278 (by decide), up_istore _ _⟩) rfl ?_
  refine na_2 (q := 282) (⟨so_iload dL_isSpoon_280, up_iload _ _⟩) rfl ?_
  refine na_3 (q := 285) (⟨so_sipush dL_isSpoon_282 (by decide), up_cst _ _⟩) rfl ?_
  refine na_3 (q := 288) (⟨so_cne dL_isSpoon_285 (by decide), up_cne _ _⟩) rfl ?_
  refine na_1 (q := 289) (⟨so_iconst dL_isSpoon_288 (by decide), up_cst _ _⟩) rfl ?_
  refine na_3 (q := 292) (⟨so_goto dL_isSpoon_289 (by decide), up_goto _⟩) rfl ?_
  refine na_1 (q := 293) (⟨so_iconst dL_isSpoon_292 (by decide), up_cst _ _⟩) rfl ?_
  refine na_1 (q := 294) (⟨so_aload_n dL_isSpoon_293 rfl, up_aload _ _⟩) rfl ?_
  refine na_2 (q := 296) (⟨so_iload dL_isSpoon_294, up_iload _ _⟩) rfl ?_
  refine na_3 (q := 299) (one_c rfl rfl (sc_V dL_isSpoon_296 cw_L_isSpoon_X7_isSunk rfl wd_1010 wd_1011 wd_1012 (nv_rcO (ci := 5) rfl))) rfl ?_
  refine na_3 (q := 302) (⟨so_cne dL_isSpoon_299 (by decide), up_cne _ _⟩) rfl ?_
  refine na_2 (q := 304) (⟨so_iload dL_isSpoon_302, up_iload _ _⟩) rfl ?_
  refine na_3 (q := 307) (⟨so_sipush dL_isSpoon_304 (by decide), up_cst _ _⟩) rfl ?_
  refine na_3 (q := 310) (⟨so_ceq dL_isSpoon_307 (by decide), up_ceq _ _⟩) rfl ?_
  refine na_2 (q := 312) (⟨so_iload dL_isSpoon_310, up_iload _ _⟩) rfl ?_
  refine na_1 (q := 313) (⟨so_iload_n dL_isSpoon_312 rfl, up_iload _ _⟩) rfl ?_
  refine na_1 (q := 314) (⟨so_aload_n dL_isSpoon_313 rfl, up_aload _ _⟩) rfl ?_
  refine na_2 (q := 316) (⟨so_iload dL_isSpoon_314, up_iload _ _⟩) rfl ?_
  refine na_3 (q := 319) (one_c rfl rfl (sc_V dL_isSpoon_316 cw_L_isSpoon_X7_xOf rfl wd_855 wd_856 wd_857 (nv_rcO (ci := 5) rfl))) rfl ?_
  refine na_3 (q := 322) (one_c rfl rfl (sc_S dL_isSpoon_319 cw_L_isSpoon_L_far wd_1188 wd_1189)) rfl ?_
  refine na_2 (q := 324) (⟨so_iload dL_isSpoon_322, up_iload _ _⟩) rfl ?_
  refine na_1 (q := 325) (⟨so_aload_n dL_isSpoon_324 rfl, up_aload _ _⟩) rfl ?_
  refine na_2 (q := 327) (⟨so_iload dL_isSpoon_325, up_iload _ _⟩) rfl ?_
  refine na_3 (q := 330) (one_c rfl rfl (sc_V dL_isSpoon_327 cw_L_isSpoon_X7_yOf rfl wd_875 wd_876 wd_877 (nv_rcO (ci := 5) rfl))) rfl ?_
  refine na_3 (q := 333) (one_c rfl rfl (sc_S dL_isSpoon_330 cw_L_isSpoon_L_far wd_1188 wd_1189)) rfl ?_
  refine na_3 (q := 336) (⟨so_max dL_isSpoon_333 wd_871 wd_678 wd_37 cd_max (by decide), up_max _⟩) rfl ?_
  refine na_3 (q := 339) (⟨so_cne dL_isSpoon_336 (by decide), up_cne _ _⟩) rfl ?_
  refine na_2 (q := 341) (⟨so_iload dL_isSpoon_339, up_iload _ _⟩) rfl ?_
  refine na_3 (q := 344) (⟨so_ifeq dL_isSpoon_341 (by decide), up_ifeq _ _⟩) rfl ?_
  refine na_2 (q := 346) (⟨so_iload dL_isSpoon_344, up_iload _ _⟩) rfl ?_
  refine na_1 (q := 347) (⟨so_aload_n dL_isSpoon_346 rfl, up_aload _ _⟩) rfl ?_
  refine na_1 (q := 348) (⟨so_iload_n dL_isSpoon_347 rfl, up_iload _ _⟩) rfl ?_
  refine na_3 (q := 351) (one_c rfl rfl (sc_V dL_isSpoon_348 cw_L_isSpoon_X7_cubesOf rfl wd_966 wd_967 wd_968 (nv_rcO (ci := 5) rfl))) rfl ?_
  refine na_3 (q := 354) (⟨so_cgt dL_isSpoon_351 (by decide), up_cgt _ _⟩) rfl ?_
  refine na_1 (q := 355) (⟨so_iconst dL_isSpoon_354 (by decide), up_cst _ _⟩) rfl ?_
  refine na_3 (q := 358) (⟨so_goto dL_isSpoon_355 (by decide), up_goto _⟩) rfl ?_
  refine na_1 (q := 359) (⟨so_iconst dL_isSpoon_358 (by decide), up_cst _ _⟩) rfl ?_
  refine na_2 (q := 361) (⟨so_istore dL_isSpoon_359 (by decide), up_istore _ _⟩) rfl ?_
  refine na_3 (q := 364) (⟨so_iinc dL_isSpoon_361 (by decide) (by decide), up_iinc _ _ _⟩) rfl ?_
  refine na_3 (q := 367) (⟨so_goto dL_isSpoon_364 (by decide), up_goto _⟩) rfl ?_
  refine na_2 (q := 369) (⟨so_iload dL_isSpoon_367, up_iload _ _⟩) rfl ?_
  refine na_3 (q := 372) (⟨so_ifeq dL_isSpoon_369 (by decide), up_ifeq _ _⟩) rfl ?_
  refine na_1 (q := 373) (⟨so_aload_n dL_isSpoon_372 rfl, up_aload _ _⟩) rfl ?_
  refine na_1 (q := 374) (⟨so_iload_n dL_isSpoon_373 rfl, up_iload _ _⟩) rfl ?_
  refine na_3 (q := 377) (one_c rfl rfl (sc_V dL_isSpoon_374 cw_L_isSpoon_X7_targetCount rfl wd_1151 wd_1152 wd_1153 (nv_rcO (ci := 5) rfl))) rfl ?_
  refine na_2 (q := 379) (⟨so_iload dL_isSpoon_377, up_iload _ _⟩) rfl ?_
  refine na_3 (q := 382) (⟨so_cne dL_isSpoon_379 (by decide), up_cne _ _⟩) rfl ?_
  refine na_1 (q := 383) (⟨so_aload_n dL_isSpoon_382 rfl, up_aload _ _⟩) rfl ?_
  refine na_1 (q := 384) (⟨so_iload_n dL_isSpoon_383 rfl, up_iload _ _⟩) rfl ?_
  refine na_3 (q := 387) (one_c rfl rfl (sc_V dL_isSpoon_384 cw_L_isSpoon_X7_targetCountByCells rfl wd_1191 wd_1192 wd_1193 (nv_rcO (ci := 5) rfl))) rfl ?_
  refine na_2 (q := 389) (⟨so_iload dL_isSpoon_387, up_iload _ _⟩) rfl ?_
  refine na_3 (q := 392) (⟨so_cne dL_isSpoon_389 (by decide), up_cne _ _⟩) rfl ?_
  refine na_1 (q := 393) (⟨so_aload_n dL_isSpoon_392 rfl, up_aload _ _⟩) rfl ?_
  refine na_1 (q := 394) (⟨so_iload_n dL_isSpoon_393 rfl, up_iload _ _⟩) rfl ?_
  refine na_3 (q := 397) (one_c rfl rfl (sc_S dL_isSpoon_394 cw_L_isSpoon_L_areDirections wd_1196 wd_1197)) rfl ?_
  refine na_3 (q := 400) (⟨so_ifeq dL_isSpoon_397 (by decide), up_ifeq _ _⟩) rfl ?_
  refine na_1 (q := 401) (⟨so_iconst dL_isSpoon_400 (by decide), up_cst _ _⟩) rfl ?_
  refine na_3 (q := 404) (⟨so_goto dL_isSpoon_401 (by decide), up_goto _⟩) rfl ?_
  refine na_1 (q := 405) (⟨so_iconst dL_isSpoon_404 (by decide), up_cst _ _⟩) rfl ?_
  refine na_1 (q := 406) (⟨so_reti dL_isSpoon_405 rfl, up_reti _⟩) rfl ?_
  exact na_z
