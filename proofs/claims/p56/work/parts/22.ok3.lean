-- rows: every deed of these methods is sound (written by wip/p56/gen20.py)
theorem hl_126 : np_hls.getD 126 [] = [] := rfl
set_option maxRecDepth 100000 in
set_option maxHeartbeats 4000000 in
theorem ok_126 : nv_all np_M126 126 0 np_c126 := by
  unfold np_c126
  refine na_1 (q := 1) (one_d (so_aload_n (M := np_M126) (pc := 0) dX7_carryOut_0 rfl) (up_aload _ _)) rfl ?_
  refine na_1 (q := 2) (one_d (so_iconst (M := np_M126) (pc := 1) dX7_carryOut_1 (by decide)) (up_cst _ _)) rfl ?_
  refine na_3 (q := 5) (one_c rfl mq_22 hl_126 rfl (sc_V (M := np_M126) (pc := 2) dX7_carryOut_2 cw_X7_carryOut_X2_number rfl wd_699 wd_700 wd_701 (nv_rcO (ci := 1) rfl))) rfl ?_
  refine na_1 (q := 6) (one_d (so_istore_n (M := np_M126) (pc := 5) dX7_carryOut_5 rfl (by decide)) (up_istore _ _)) rfl ?_
  refine na_1 (q := 7) (one_d (so_aload_n (M := np_M126) (pc := 6) dX7_carryOut_6 rfl) (up_aload _ _)) rfl ?_
  refine na_1 (q := 8) (one_d (so_iconst (M := np_M126) (pc := 7) dX7_carryOut_7 (by decide)) (up_cst _ _)) rfl ?_
  refine na_3 (q := 11) (one_c rfl mq_22 hl_126 rfl (sc_V (M := np_M126) (pc := 8) dX7_carryOut_8 cw_X7_carryOut_X2_number rfl wd_699 wd_700 wd_701 (nv_rcO (ci := 1) rfl))) rfl ?_
  refine na_1 (q := 12) (one_d (so_istore_n (M := np_M126) (pc := 11) dX7_carryOut_11 rfl (by decide)) (up_istore _ _)) rfl ?_
  refine na_1 (q := 13) (one_d (so_aload_n (M := np_M126) (pc := 12) dX7_carryOut_12 rfl) (up_aload _ _)) rfl ?_
  refine na_1 (q := 14) (one_d (so_iconst (M := np_M126) (pc := 13) dX7_carryOut_13 (by decide)) (up_cst _ _)) rfl ?_
  refine na_3 (q := 17) (one_c rfl mq_22 hl_126 rfl (sc_V (M := np_M126) (pc := 14) dX7_carryOut_14 cw_X7_carryOut_X2_number rfl wd_699 wd_700 wd_701 (nv_rcO (ci := 1) rfl))) rfl ?_
  refine na_2 (q := 19) (one_d (so_istore (M := np_M126) (pc := 17) dX7_carryOut_17 (by decide)) (up_istore _ _)) rfl ?_
  refine na_3 (q := 22) (one_d (so_gSW (M := np_M126) (pc := 19) dX7_carryOut_19 wd_703) (up_cst _ _)) rfl ?_
  refine na_1 (q := 23) (one_d (so_aload_n (M := np_M126) (pc := 22) dX7_carryOut_22 rfl) (up_aload _ _)) rfl ?_
  refine na_3 (q := 26) (one_d (so_getN (M := np_M126) (pc := 23) kd_1 (k := 6) (by decide) dX7_carryOut_23 wd_235) (up_get _ _ _)) rfl ?_
  refine na_3 (q := 29) (one_c rfl mq_7 hl_126 rfl (sc_U (M := np_M126) (pc := 26) (owner := "java/lang/Enum") (x := ⟨"SpoonNavy$Form", "ordinal", "()I"⟩) dX7_carryOut_26 cw_X7_carryOut_Jx29ce0_ordinal_8abf5 rfl ⟨by decide, by decide, by decide +kernel⟩ wd_705 wd_706 wd_708 wd_709)) rfl ?_
  refine na_1 (q := 30) (one_d (so_ldSW (M := np_M126) (pc := 29) dX7_carryOut_29) (up_sald _ _ _)) rfl ?_
  refine na_3 (q := 33) (one_d (so_tsw (M := np_M126) (pc := 30) dX7_carryOut_30 (by decide) (by decide) (by decide)) (up_tsw _ _ _)) rfl ?_
  refine na_n (q := 34) rfl ?_
  refine na_n (q := 35) rfl ?_
  refine na_n (q := 36) rfl ?_
  refine na_n (q := 37) rfl ?_
  refine na_n (q := 38) rfl ?_
  refine na_n (q := 39) rfl ?_
  refine na_n (q := 40) rfl ?_
  refine na_n (q := 41) rfl ?_
  refine na_n (q := 42) rfl ?_
  refine na_n (q := 43) rfl ?_
  refine na_n (q := 44) rfl ?_
  refine na_n (q := 45) rfl ?_
  refine na_n (q := 46) rfl ?_
  refine na_n (q := 47) rfl ?_
  refine na_n (q := 48) rfl ?_
  refine na_n (q := 49) rfl ?_
  refine na_n (q := 50) rfl ?_
  refine na_n (q := 51) rfl ?_
  refine na_n (q := 52) rfl ?_
  refine na_n (q := 53) rfl ?_
  refine na_n (q := 54) rfl ?_
  refine na_n (q := 55) rfl ?_
  refine na_n (q := 56) rfl ?_
  refine na_n (q := 57) rfl ?_
  refine na_n (q := 58) rfl ?_
  refine na_n (q := 59) rfl ?_
  refine na_n (q := 60) rfl ?_
  refine na_n (q := 61) rfl ?_
  refine na_n (q := 62) rfl ?_
  refine na_n (q := 63) rfl ?_
  refine na_n (q := 64) rfl ?_
  refine na_n (q := 65) rfl ?_
  refine na_n (q := 66) rfl ?_
  refine na_n (q := 67) rfl ?_
  refine na_n (q := 68) rfl ?_
  refine na_n (q := 69) rfl ?_
  refine na_n (q := 70) rfl ?_
  refine na_n (q := 71) rfl ?_
  refine na_n (q := 72) rfl ?_
  refine na_1 (q := 73) (one_d (so_aload_n (M := np_M126) (pc := 72) dX7_carryOut_72 rfl) (up_aload _ _)) rfl ?_
  refine na_3 (q := 76) (one_d (so_get (M := np_M126) (pc := 73) kd_5 (k := 0) (by decide) dX7_carryOut_73 wd_253) (up_get _ _ _)) rfl ?_
  refine na_1 (q := 77) (one_d (so_iload_n (M := np_M126) (pc := 76) dX7_carryOut_76 rfl) (up_iload _ _)) rfl ?_
  refine na_1 (q := 78) (one_d (so_iload_n (M := np_M126) (pc := 77) dX7_carryOut_77 rfl) (up_iload _ _)) rfl ?_
  refine na_2 (q := 80) (one_d (so_iload (M := np_M126) (pc := 78) dX7_carryOut_78) (up_iload _ _)) rfl ?_
  refine na_1 (q := 81) (one_d (so_aload_n (M := np_M126) (pc := 80) dX7_carryOut_80 rfl) (up_aload _ _)) rfl ?_
  refine na_1 (q := 82) (one_d (so_iconst (M := np_M126) (pc := 81) dX7_carryOut_81 (by decide)) (up_cst _ _)) rfl ?_
  refine na_3 (q := 85) (one_c rfl mq_22 hl_126 rfl (sc_V (M := np_M126) (pc := 82) dX7_carryOut_82 cw_X7_carryOut_X2_number rfl wd_699 wd_700 wd_701 (nv_rcO (ci := 1) rfl))) rfl ?_
  refine na_1 (q := 86) (one_d (so_aload_n (M := np_M126) (pc := 85) dX7_carryOut_85 rfl) (up_aload _ _)) rfl ?_
  refine na_1 (q := 87) (one_d (so_iconst (M := np_M126) (pc := 86) dX7_carryOut_86 (by decide)) (up_cst _ _)) rfl ?_
  refine na_3 (q := 90) (one_c rfl mq_22 hl_126 rfl (sc_V (M := np_M126) (pc := 87) dX7_carryOut_87 cw_X7_carryOut_X2_number rfl wd_699 wd_700 wd_701 (nv_rcO (ci := 1) rfl))) rfl ?_
  refine na_3 (q := 93) (one_c rfl mq_44 hl_126 rfl (sc_V (M := np_M126) (pc := 90) dX7_carryOut_90 cw_X7_carryOut_X4_place rfl wd_398 wd_399 wd_400 (nv_rcO (ci := 2) rfl))) rfl ?_
  refine na_1 (q := 94) (one_d (so_reti (M := np_M126) (pc := 93) dX7_carryOut_93 rfl) (up_reti _)) rfl ?_
  refine na_1 (q := 95) (one_d (so_aload_n (M := np_M126) (pc := 94) dX7_carryOut_94 rfl) (up_aload _ _)) rfl ?_
  refine na_3 (q := 98) (one_d (so_get (M := np_M126) (pc := 95) kd_5 (k := 0) (by decide) dX7_carryOut_95 wd_253) (up_get _ _ _)) rfl ?_
  refine na_3 (q := 101) (one_c rfl mq_45 hl_126 rfl (sc_V (M := np_M126) (pc := 98) dX7_carryOut_98 cw_X7_carryOut_X4_begin rfl wd_519 wd_520 wd_521 (nv_rcO (ci := 2) rfl))) rfl ?_
  refine na_1 (q := 102) (one_d (so_reti (M := np_M126) (pc := 101) dX7_carryOut_101 rfl) (up_reti _)) rfl ?_
  refine na_1 (q := 103) (one_d (so_aload_n (M := np_M126) (pc := 102) dX7_carryOut_102 rfl) (up_aload _ _)) rfl ?_
  refine na_3 (q := 106) (one_d (so_get (M := np_M126) (pc := 103) kd_5 (k := 0) (by decide) dX7_carryOut_103 wd_253) (up_get _ _ _)) rfl ?_
  refine na_1 (q := 107) (one_d (so_iload_n (M := np_M126) (pc := 106) dX7_carryOut_106 rfl) (up_iload _ _)) rfl ?_
  refine na_1 (q := 108) (one_d (so_iload_n (M := np_M126) (pc := 107) dX7_carryOut_107 rfl) (up_iload _ _)) rfl ?_
  refine na_3 (q := 111) (one_c rfl mq_47 hl_126 rfl (sc_V (M := np_M126) (pc := 108) dX7_carryOut_108 cw_X7_carryOut_X4_rotate rfl wd_549 wd_550 wd_551 (nv_rcO (ci := 2) rfl))) rfl ?_
  refine na_1 (q := 112) (one_d (so_reti (M := np_M126) (pc := 111) dX7_carryOut_111 rfl) (up_reti _)) rfl ?_
  refine na_1 (q := 113) (one_d (so_aload_n (M := np_M126) (pc := 112) dX7_carryOut_112 rfl) (up_aload _ _)) rfl ?_
  refine na_3 (q := 116) (one_d (so_get (M := np_M126) (pc := 113) kd_5 (k := 0) (by decide) dX7_carryOut_113 wd_253) (up_get _ _ _)) rfl ?_
  refine na_1 (q := 117) (one_d (so_iload_n (M := np_M126) (pc := 116) dX7_carryOut_116 rfl) (up_iload _ _)) rfl ?_
  refine na_1 (q := 118) (one_d (so_iload_n (M := np_M126) (pc := 117) dX7_carryOut_117 rfl) (up_iload _ _)) rfl ?_
  refine na_1 (q := 119) (one_d (so_iconst (M := np_M126) (pc := 118) dX7_carryOut_118 (by decide)) (up_cst _ _)) rfl ?_
  refine na_3 (q := 122) (one_c rfl mq_48 hl_126 rfl (sc_V (M := np_M126) (pc := 119) dX7_carryOut_119 cw_X7_carryOut_X4_move rfl wd_711 wd_712 wd_713 (nv_rcO (ci := 2) rfl))) rfl ?_
  refine na_1 (q := 123) (one_d (so_reti (M := np_M126) (pc := 122) dX7_carryOut_122 rfl) (up_reti _)) rfl ?_
  refine na_1 (q := 124) (one_d (so_aload_n (M := np_M126) (pc := 123) dX7_carryOut_123 rfl) (up_aload _ _)) rfl ?_
  refine na_3 (q := 127) (one_d (so_get (M := np_M126) (pc := 124) kd_5 (k := 0) (by decide) dX7_carryOut_124 wd_253) (up_get _ _ _)) rfl ?_
  refine na_1 (q := 128) (one_d (so_iload_n (M := np_M126) (pc := 127) dX7_carryOut_127 rfl) (up_iload _ _)) rfl ?_
  refine na_1 (q := 129) (one_d (so_iload_n (M := np_M126) (pc := 128) dX7_carryOut_128 rfl) (up_iload _ _)) rfl ?_
  refine na_1 (q := 130) (one_d (so_iconst (M := np_M126) (pc := 129) dX7_carryOut_129 (by decide)) (up_cst _ _)) rfl ?_
  refine na_3 (q := 133) (one_c rfl mq_48 hl_126 rfl (sc_V (M := np_M126) (pc := 130) dX7_carryOut_130 cw_X7_carryOut_X4_move rfl wd_711 wd_712 wd_713 (nv_rcO (ci := 2) rfl))) rfl ?_
  refine na_1 (q := 134) (one_d (so_reti (M := np_M126) (pc := 133) dX7_carryOut_133 rfl) (up_reti _)) rfl ?_
  refine na_1 (q := 135) (one_d (so_aload_n (M := np_M126) (pc := 134) dX7_carryOut_134 rfl) (up_aload _ _)) rfl ?_
  refine na_3 (q := 138) (one_d (so_get (M := np_M126) (pc := 135) kd_5 (k := 0) (by decide) dX7_carryOut_135 wd_253) (up_get _ _ _)) rfl ?_
  refine na_1 (q := 139) (one_d (so_iload_n (M := np_M126) (pc := 138) dX7_carryOut_138 rfl) (up_iload _ _)) rfl ?_
  refine na_1 (q := 140) (one_d (so_iload_n (M := np_M126) (pc := 139) dX7_carryOut_139 rfl) (up_iload _ _)) rfl ?_
  refine na_2 (q := 142) (one_d (so_iload (M := np_M126) (pc := 140) dX7_carryOut_140) (up_iload _ _)) rfl ?_
  refine na_3 (q := 145) (one_c rfl mq_52 hl_126 rfl (sc_V (M := np_M126) (pc := 142) dX7_carryOut_142 cw_X7_carryOut_X4_shoot rfl wd_748 wd_749 wd_750 (nv_rcO (ci := 2) rfl))) rfl ?_
  refine na_1 (q := 146) (one_d (so_reti (M := np_M126) (pc := 145) dX7_carryOut_145 rfl) (up_reti _)) rfl ?_
  refine na_1 (q := 147) (one_d (so_aload_n (M := np_M126) (pc := 146) dX7_carryOut_146 rfl) (up_aload _ _)) rfl ?_
  refine na_3 (q := 150) (one_d (so_get (M := np_M126) (pc := 147) kd_5 (k := 0) (by decide) dX7_carryOut_147 wd_253) (up_get _ _ _)) rfl ?_
  refine na_1 (q := 151) (one_d (so_iload_n (M := np_M126) (pc := 150) dX7_carryOut_150 rfl) (up_iload _ _)) rfl ?_
  refine na_1 (q := 152) (one_d (so_iload_n (M := np_M126) (pc := 151) dX7_carryOut_151 rfl) (up_iload _ _)) rfl ?_
  refine na_3 (q := 155) (one_c rfl mq_54 hl_126 rfl (sc_V (M := np_M126) (pc := 152) dX7_carryOut_152 cw_X7_carryOut_X4_fill rfl wd_580 wd_581 wd_582 (nv_rcO (ci := 2) rfl))) rfl ?_
  refine na_1 (q := 156) (one_d (so_reti (M := np_M126) (pc := 155) dX7_carryOut_155 rfl) (up_reti _)) rfl ?_
  refine na_1 (q := 157) (one_d (so_aload_n (M := np_M126) (pc := 156) dX7_carryOut_156 rfl) (up_aload _ _)) rfl ?_
  refine na_3 (q := 160) (one_d (so_get (M := np_M126) (pc := 157) kd_5 (k := 0) (by decide) dX7_carryOut_157 wd_253) (up_get _ _ _)) rfl ?_
  refine na_3 (q := 163) (one_c rfl mq_46 hl_126 rfl (sc_V (M := np_M126) (pc := 160) dX7_carryOut_160 cw_X7_carryOut_X4_passTurn rfl wd_530 wd_531 wd_532 (nv_rcO (ci := 2) rfl))) rfl ?_
  refine na_1 (q := 164) (one_d (so_reti (M := np_M126) (pc := 163) dX7_carryOut_163 rfl) (up_reti _)) rfl ?_
  exact na_z
theorem hl_127 : np_hls.getD 127 [] = [] := rfl
set_option maxRecDepth 100000 in
set_option maxHeartbeats 4000000 in
theorem ok_127 : nv_all np_M127 127 0 np_c127 := by
  unfold np_c127
  refine na_1 (q := 1) (one_d (so_aload_n (M := np_M127) (pc := 0) dX7_existing_0 rfl) (up_aload _ _)) rfl ?_
  refine na_3 (q := 4) (one_d (so_get (M := np_M127) (pc := 1) kd_5 (k := 0) (by decide) dX7_existing_1 wd_253) (up_get _ _ _)) rfl ?_
  refine na_1 (q := 5) (one_d (so_iload_n (M := np_M127) (pc := 4) dX7_existing_4 rfl) (up_iload _ _)) rfl ?_
  refine na_3 (q := 8) (one_c rfl mq_28 hl_127 rfl (sc_V (M := np_M127) (pc := 5) dX7_existing_5 cw_X7_existing_X4_numbered rfl wd_867 wd_554 wd_555 (nv_rcO (ci := 2) rfl))) rfl ?_
  refine na_1 (q := 9) (one_d (so_astore_n (M := np_M127) (pc := 8) dX7_existing_8 rfl (by decide)) (up_astore _ _)) rfl ?_
  refine na_1 (q := 10) (one_d (so_aload_n (M := np_M127) (pc := 9) dX7_existing_9 rfl) (up_aload _ _)) rfl ?_
  refine na_3 (q := 13) (one_d (so_ifnonnull (M := np_M127) (pc := 10) dX7_existing_10 (by decide)) (up_ifnonnull _ _)) rfl ?_
  refine na_3 (q := 16) (st_S (M := np_M127) (pc := 13) rfl rfl (by decide) th_IndexOutOfBoundsException wd_450 (show (364, "there is no such spoon") ∈ nv_msgs by decide) dX7_existing_13 dX7_existing_16 (Or.inr ⟨dX7_existing_17, dX7_existing_20, dX7_existing_23⟩)) rfl ?_
  refine na_n (q := 17) rfl ?_
  refine na_n (q := 18) rfl ?_
  refine na_n (q := 19) rfl ?_
  refine na_n (q := 20) rfl ?_
  refine na_n (q := 21) rfl ?_
  refine na_n (q := 22) rfl ?_
  refine na_n (q := 23) rfl ?_
  refine na_n (q := 24) rfl ?_
  refine na_1 (q := 25) (one_d (so_aload_n (M := np_M127) (pc := 24) dX7_existing_24 rfl) (up_aload _ _)) rfl ?_
  refine na_1 (q := 26) (one_d (so_reta (M := np_M127) (pc := 25) dX7_existing_25 rfl (Or.inl ⟨_, rfl⟩)) (up_reta)) rfl ?_
  exact na_z
theorem hl_128 : np_hls.getD 128 [] = [] := rfl
set_option maxRecDepth 100000 in
set_option maxHeartbeats 4000000 in
theorem ok_128 : nv_all np_M128 128 0 np_c128 := by
  unfold np_c128
  refine na_1 (q := 1) (one_d (so_aload_n (M := np_M128) (pc := 0) dX7_existingAfloat_0 rfl) (up_aload _ _)) rfl ?_
  refine na_1 (q := 2) (one_d (so_iload_n (M := np_M128) (pc := 1) dX7_existingAfloat_1 rfl) (up_iload _ _)) rfl ?_
  refine na_3 (q := 5) (one_c rfl mq_127 hl_128 rfl (sc_V (M := np_M128) (pc := 2) dX7_existingAfloat_2 cw_X7_existingAfloat_X7_existing rfl wd_863 wd_865 wd_18 (nv_rcO (ci := 5) rfl))) rfl ?_
  refine na_1 (q := 6) (one_d (so_astore_n (M := np_M128) (pc := 5) dX7_existingAfloat_5 rfl (by decide)) (up_astore _ _)) rfl ?_
  refine na_1 (q := 7) (one_d (so_aload_n (M := np_M128) (pc := 6) dX7_existingAfloat_6 rfl) (up_aload _ _)) rfl ?_
  refine na_3 (q := 10) (one_c rfl mq_62 hl_128 rfl (sc_V (M := np_M128) (pc := 7) dX7_existingAfloat_7 cw_X7_existingAfloat_X6_isAfloat rfl wd_869 wd_423 wd_424 (nv_rcO (ci := 4) rfl))) rfl ?_
  refine na_3 (q := 13) (one_d (so_ifne (M := np_M128) (pc := 10) dX7_existingAfloat_10 (by decide)) (up_ifne _ _)) rfl ?_
  refine na_3 (q := 16) (st_X (M := np_M128) (pc := 13) rfl rfl (by decide) th_NoSuchElementException wd_780 (show (366, "the spoon is sunk") ∈ nv_msgs by decide) dX7_existingAfloat_13 dX7_existingAfloat_16 (Or.inr ⟨dX7_existingAfloat_17, dX7_existingAfloat_20, dX7_existingAfloat_23⟩)) rfl ?_
  refine na_n (q := 17) rfl ?_
  refine na_n (q := 18) rfl ?_
  refine na_n (q := 19) rfl ?_
  refine na_n (q := 20) rfl ?_
  refine na_n (q := 21) rfl ?_
  refine na_n (q := 22) rfl ?_
  refine na_n (q := 23) rfl ?_
  refine na_n (q := 24) rfl ?_
  refine na_1 (q := 25) (one_d (so_aload_n (M := np_M128) (pc := 24) dX7_existingAfloat_24 rfl) (up_aload _ _)) rfl ?_
  refine na_1 (q := 26) (one_d (so_reta (M := np_M128) (pc := 25) dX7_existingAfloat_25 rfl (Or.inl ⟨_, rfl⟩)) (up_reta)) rfl ?_
  exact na_z
theorem hl_129 : np_hls.getD 129 [] = [] := rfl
set_option maxRecDepth 100000 in
set_option maxHeartbeats 4000000 in
theorem ok_129 : nv_all np_M129 129 0 np_c129 := by
  unfold np_c129
  refine na_1 (q := 1) (one_d (so_aload_n (M := np_M129) (pc := 0) dX7_requireGoingOn_0 rfl) (up_aload _ _)) rfl ?_
  refine na_3 (q := 4) (one_d (so_get (M := np_M129) (pc := 1) kd_5 (k := 0) (by decide) dX7_requireGoingOn_1 wd_253) (up_get _ _ _)) rfl ?_
  refine na_3 (q := 7) (one_c rfl mq_31 hl_129 rfl (sc_V (M := np_M129) (pc := 4) dX7_requireGoingOn_4 cw_X7_requireGoingOn_X4_isGoingOn rfl wd_939 wd_535 wd_536 (nv_rcO (ci := 2) rfl))) rfl ?_
  refine na_3 (q := 10) (one_d (so_ifne (M := np_M129) (pc := 7) dX7_requireGoingOn_7 (by decide)) (up_ifne _ _)) rfl ?_
  refine na_3 (q := 13) (st_S (M := np_M129) (pc := 10) rfl rfl (by decide) th_IllegalStateException wd_479 (show (371, "the game is not going on") ∈ nv_msgs by decide) dX7_requireGoingOn_10 dX7_requireGoingOn_13 (Or.inr ⟨dX7_requireGoingOn_14, dX7_requireGoingOn_17, dX7_requireGoingOn_20⟩)) rfl ?_
  refine na_n (q := 14) rfl ?_
  refine na_n (q := 15) rfl ?_
  refine na_n (q := 16) rfl ?_
  refine na_n (q := 17) rfl ?_
  refine na_n (q := 18) rfl ?_
  refine na_n (q := 19) rfl ?_
  refine na_n (q := 20) rfl ?_
  refine na_n (q := 21) rfl ?_
  refine na_1 (q := 22) (one_d (so_retv (M := np_M129) (pc := 21) dX7_requireGoingOn_21 rfl) (up_retv)) rfl ?_
  exact na_z
theorem hl_130 : np_hls.getD 130 [] = [] := rfl
set_option maxRecDepth 100000 in
set_option maxHeartbeats 4000000 in
theorem ok_130 : nv_all np_M130 130 0 np_c130 := by
  unfold np_c130
  refine na_1 (q := 1) (one_d (so_iload_n (M := np_M130) (pc := 0) dX7_requireFleet_0 rfl) (up_iload _ _)) rfl ?_
  refine na_3 (q := 4) (one_c rfl mq_132 hl_130 rfl (sc_S (M := np_M130) (pc := 1) dX7_requireFleet_1 cw_X7_requireFleet_X7_isFleet wd_924 wd_403)) rfl ?_
  refine na_3 (q := 7) (one_d (so_ifne (M := np_M130) (pc := 4) dX7_requireFleet_4 (by decide)) (up_ifne _ _)) rfl ?_
  refine na_3 (q := 10) (st_S (M := np_M130) (pc := 7) rfl rfl (by decide) th_IndexOutOfBoundsException wd_450 (show (377, "there is no such fleet") ∈ nv_msgs by decide) dX7_requireFleet_7 dX7_requireFleet_10 (Or.inr ⟨dX7_requireFleet_11, dX7_requireFleet_14, dX7_requireFleet_17⟩)) rfl ?_
  refine na_n (q := 11) rfl ?_
  refine na_n (q := 12) rfl ?_
  refine na_n (q := 13) rfl ?_
  refine na_n (q := 14) rfl ?_
  refine na_n (q := 15) rfl ?_
  refine na_n (q := 16) rfl ?_
  refine na_n (q := 17) rfl ?_
  refine na_n (q := 18) rfl ?_
  refine na_1 (q := 19) (one_d (so_retv (M := np_M130) (pc := 18) dX7_requireFleet_18 rfl) (up_retv)) rfl ?_
  exact na_z
theorem hl_131 : np_hls.getD 131 [] = [] := rfl
set_option maxRecDepth 100000 in
set_option maxHeartbeats 4000000 in
theorem ok_131 : nv_all np_M131 131 0 np_c131 := by
  unfold np_c131
  refine na_1 (q := 1) (one_d (so_iload_n (M := np_M131) (pc := 0) dX7_requireCell_0 rfl) (up_iload _ _)) rfl ?_
  refine na_1 (q := 2) (one_d (so_iload_n (M := np_M131) (pc := 1) dX7_requireCell_1 rfl) (up_iload _ _)) rfl ?_
  refine na_3 (q := 5) (one_c rfl mq_133 hl_131 rfl (sc_S (M := np_M131) (pc := 2) dX7_requireCell_2 cw_X7_requireCell_X7_isOnTray wd_1104 wd_406)) rfl ?_
  refine na_3 (q := 8) (one_d (so_ifne (M := np_M131) (pc := 5) dX7_requireCell_5 (by decide)) (up_ifne _ _)) rfl ?_
  refine na_3 (q := 11) (st_S (M := np_M131) (pc := 8) rfl rfl (by decide) th_IllegalArgumentException wd_463 (show (382, "a coordinate is out of range") ∈ nv_msgs by decide) dX7_requireCell_8 dX7_requireCell_11 (Or.inr ⟨dX7_requireCell_12, dX7_requireCell_15, dX7_requireCell_18⟩)) rfl ?_
  refine na_n (q := 12) rfl ?_
  refine na_n (q := 13) rfl ?_
  refine na_n (q := 14) rfl ?_
  refine na_n (q := 15) rfl ?_
  refine na_n (q := 16) rfl ?_
  refine na_n (q := 17) rfl ?_
  refine na_n (q := 18) rfl ?_
  refine na_n (q := 19) rfl ?_
  refine na_1 (q := 20) (one_d (so_retv (M := np_M131) (pc := 19) dX7_requireCell_19 rfl) (up_retv)) rfl ?_
  exact na_z
theorem hl_132 : np_hls.getD 132 [] = [] := rfl
set_option maxRecDepth 100000 in
set_option maxHeartbeats 4000000 in
theorem ok_132 : nv_all np_M132 132 0 np_c132 := by
  unfold np_c132
  refine na_1 (q := 1) (one_d (so_iload_n (M := np_M132) (pc := 0) dX7_isFleet_0 rfl) (up_iload _ _)) rfl ?_
  refine na_3 (q := 4) (one_d (so_ifeq (M := np_M132) (pc := 1) dX7_isFleet_1 (by decide)) (up_ifeq _ _)) rfl ?_
  refine na_1 (q := 5) (one_d (so_iload_n (M := np_M132) (pc := 4) dX7_isFleet_4 rfl) (up_iload _ _)) rfl ?_
  refine na_1 (q := 6) (one_d (so_iconst (M := np_M132) (pc := 5) dX7_isFleet_5 (by decide)) (up_cst _ _)) rfl ?_
  refine na_3 (q := 9) (one_d (so_cne (M := np_M132) (pc := 6) dX7_isFleet_6 (by decide)) (up_cne _ _)) rfl ?_
  refine na_1 (q := 10) (one_d (so_iconst (M := np_M132) (pc := 9) dX7_isFleet_9 (by decide)) (up_cst _ _)) rfl ?_
  refine na_3 (q := 13) (one_d (so_goto (M := np_M132) (pc := 10) dX7_isFleet_10 (by decide)) (up_goto _)) rfl ?_
  refine na_1 (q := 14) (one_d (so_iconst (M := np_M132) (pc := 13) dX7_isFleet_13 (by decide)) (up_cst _ _)) rfl ?_
  refine na_1 (q := 15) (one_d (so_reti (M := np_M132) (pc := 14) dX7_isFleet_14 rfl) (up_reti _)) rfl ?_
  exact na_z
theorem hl_133 : np_hls.getD 133 [] = [] := rfl
set_option maxRecDepth 100000 in
set_option maxHeartbeats 4000000 in
theorem ok_133 : nv_all np_M133 133 0 np_c133 := by
  unfold np_c133
  refine na_1 (q := 1) (one_d (so_iload_n (M := np_M133) (pc := 0) dX7_isOnTray_0 rfl) (up_iload _ _)) rfl ?_
  refine na_3 (q := 4) (one_d (so_iflt (M := np_M133) (pc := 1) dX7_isOnTray_1 (by decide)) (up_iflt _ _)) rfl ?_
  refine na_1 (q := 5) (one_d (so_iload_n (M := np_M133) (pc := 4) dX7_isOnTray_4 rfl) (up_iload _ _)) rfl ?_
  refine na_2 (q := 7) (one_d (so_bipush (M := np_M133) (pc := 5) dX7_isOnTray_5 (by decide)) (up_cst _ _)) rfl ?_
  refine na_3 (q := 10) (one_d (so_cge (M := np_M133) (pc := 7) dX7_isOnTray_7 (by decide)) (up_cge _ _)) rfl ?_
  refine na_1 (q := 11) (one_d (so_iload_n (M := np_M133) (pc := 10) dX7_isOnTray_10 rfl) (up_iload _ _)) rfl ?_
  refine na_3 (q := 14) (one_d (so_iflt (M := np_M133) (pc := 11) dX7_isOnTray_11 (by decide)) (up_iflt _ _)) rfl ?_
  refine na_1 (q := 15) (one_d (so_iload_n (M := np_M133) (pc := 14) dX7_isOnTray_14 rfl) (up_iload _ _)) rfl ?_
  refine na_2 (q := 17) (one_d (so_bipush (M := np_M133) (pc := 15) dX7_isOnTray_15 (by decide)) (up_cst _ _)) rfl ?_
  refine na_3 (q := 20) (one_d (so_cge (M := np_M133) (pc := 17) dX7_isOnTray_17 (by decide)) (up_cge _ _)) rfl ?_
  refine na_1 (q := 21) (one_d (so_iconst (M := np_M133) (pc := 20) dX7_isOnTray_20 (by decide)) (up_cst _ _)) rfl ?_
  refine na_3 (q := 24) (one_d (so_goto (M := np_M133) (pc := 21) dX7_isOnTray_21 (by decide)) (up_goto _)) rfl ?_
  refine na_1 (q := 25) (one_d (so_iconst (M := np_M133) (pc := 24) dX7_isOnTray_24 (by decide)) (up_cst _ _)) rfl ?_
  refine na_1 (q := 26) (one_d (so_reti (M := np_M133) (pc := 25) dX7_isOnTray_25 rfl) (up_reti _)) rfl ?_
  exact na_z
theorem hl_134 : np_hls.getD 134 [] = [] := rfl
set_option maxRecDepth 100000 in
set_option maxHeartbeats 4000000 in
theorem ok_134 : nv_all np_M134 134 0 np_c134 := by
  unfold np_c134
  refine na_1 (q := 1) (one_d (so_iload_n (M := np_M134) (pc := 0) dX7_isBearing_0 rfl) (up_iload _ _)) rfl ?_
  refine na_3 (q := 4) (one_d (so_iflt (M := np_M134) (pc := 1) dX7_isBearing_1 (by decide)) (up_iflt _ _)) rfl ?_
  refine na_1 (q := 5) (one_d (so_iload_n (M := np_M134) (pc := 4) dX7_isBearing_4 rfl) (up_iload _ _)) rfl ?_
  refine na_2 (q := 7) (one_d (so_bipush (M := np_M134) (pc := 5) dX7_isBearing_5 (by decide)) (up_cst _ _)) rfl ?_
  refine na_3 (q := 10) (one_d (so_cge (M := np_M134) (pc := 7) dX7_isBearing_7 (by decide)) (up_cge _ _)) rfl ?_
  refine na_1 (q := 11) (one_d (so_iconst (M := np_M134) (pc := 10) dX7_isBearing_10 (by decide)) (up_cst _ _)) rfl ?_
  refine na_3 (q := 14) (one_d (so_goto (M := np_M134) (pc := 11) dX7_isBearing_11 (by decide)) (up_goto _)) rfl ?_
  refine na_1 (q := 15) (one_d (so_iconst (M := np_M134) (pc := 14) dX7_isBearing_14 (by decide)) (up_cst _ _)) rfl ?_
  refine na_1 (q := 16) (one_d (so_reti (M := np_M134) (pc := 15) dX7_isBearing_15 rfl) (up_reti _)) rfl ?_
  exact na_z
theorem hl_135 : np_hls.getD 135 [] = [] := rfl
set_option maxRecDepth 100000 in
set_option maxHeartbeats 4000000 in
theorem ok_135 : nv_all np_M135 135 0 np_c135 := by
  unfold np_c135
  refine na_1 (q := 1) (one_d (so_iload_n (M := np_M135) (pc := 0) dX7_isCubeNumber_0 rfl) (up_iload _ _)) rfl ?_
  refine na_1 (q := 2) (one_d (so_iconst (M := np_M135) (pc := 1) dX7_isCubeNumber_1 (by decide)) (up_cst _ _)) rfl ?_
  refine na_3 (q := 5) (one_d (so_clt (M := np_M135) (pc := 2) dX7_isCubeNumber_2 (by decide)) (up_clt _ _)) rfl ?_
  refine na_1 (q := 6) (one_d (so_iload_n (M := np_M135) (pc := 5) dX7_isCubeNumber_5 rfl) (up_iload _ _)) rfl ?_
  refine na_2 (q := 8) (one_d (so_bipush (M := np_M135) (pc := 6) dX7_isCubeNumber_6 (by decide)) (up_cst _ _)) rfl ?_
  refine na_3 (q := 11) (one_d (so_cgt (M := np_M135) (pc := 8) dX7_isCubeNumber_8 (by decide)) (up_cgt _ _)) rfl ?_
  refine na_1 (q := 12) (one_d (so_iconst (M := np_M135) (pc := 11) dX7_isCubeNumber_11 (by decide)) (up_cst _ _)) rfl ?_
  refine na_3 (q := 15) (one_d (so_goto (M := np_M135) (pc := 12) dX7_isCubeNumber_12 (by decide)) (up_goto _)) rfl ?_
  refine na_1 (q := 16) (one_d (so_iconst (M := np_M135) (pc := 15) dX7_isCubeNumber_15 (by decide)) (up_cst _ _)) rfl ?_
  refine na_1 (q := 17) (one_d (so_reti (M := np_M135) (pc := 16) dX7_isCubeNumber_16 rfl) (up_reti _)) rfl ?_
  exact na_z
theorem hl_136 : np_hls.getD 136 [] = [] := rfl
set_option maxRecDepth 100000 in
set_option maxHeartbeats 4000000 in
theorem ok_136 : nv_all np_M136 136 0 np_c136 := by
  unfold np_c136
  refine na_1 (q := 1) (one_d (so_iload_n (M := np_M136) (pc := 0) dX7_stepX_0 rfl) (up_iload _ _)) rfl ?_
  refine na_3 (q := 4) (one_d (so_ifeq (M := np_M136) (pc := 1) dX7_stepX_1 (by decide)) (up_ifeq _ _)) rfl ?_
  refine na_1 (q := 5) (one_d (so_iload_n (M := np_M136) (pc := 4) dX7_stepX_4 rfl) (up_iload _ _)) rfl ?_
  refine na_1 (q := 6) (one_d (so_iconst (M := np_M136) (pc := 5) dX7_stepX_5 (by decide)) (up_cst _ _)) rfl ?_
  refine na_3 (q := 9) (one_d (so_cne (M := np_M136) (pc := 6) dX7_stepX_6 (by decide)) (up_cne _ _)) rfl ?_
  refine na_1 (q := 10) (one_d (so_iconst (M := np_M136) (pc := 9) dX7_stepX_9 (by decide)) (up_cst _ _)) rfl ?_
  refine na_1 (q := 11) (one_d (so_reti (M := np_M136) (pc := 10) dX7_stepX_10 rfl) (up_reti _)) rfl ?_
  refine na_1 (q := 12) (one_d (so_iload_n (M := np_M136) (pc := 11) dX7_stepX_11 rfl) (up_iload _ _)) rfl ?_
  refine na_1 (q := 13) (one_d (so_iconst (M := np_M136) (pc := 12) dX7_stepX_12 (by decide)) (up_cst _ _)) rfl ?_
  refine na_3 (q := 16) (one_d (so_cge (M := np_M136) (pc := 13) dX7_stepX_13 (by decide)) (up_cge _ _)) rfl ?_
  refine na_1 (q := 17) (one_d (so_iconst (M := np_M136) (pc := 16) dX7_stepX_16 (by decide)) (up_cst _ _)) rfl ?_
  refine na_3 (q := 20) (one_d (so_goto (M := np_M136) (pc := 17) dX7_stepX_17 (by decide)) (up_goto _)) rfl ?_
  refine na_1 (q := 21) (one_d (so_iconst (M := np_M136) (pc := 20) dX7_stepX_20 (by decide)) (up_cst _ _)) rfl ?_
  refine na_1 (q := 22) (one_d (so_reti (M := np_M136) (pc := 21) dX7_stepX_21 rfl) (up_reti _)) rfl ?_
  exact na_z
theorem hl_137 : np_hls.getD 137 [] = [] := rfl
set_option maxRecDepth 100000 in
set_option maxHeartbeats 4000000 in
theorem ok_137 : nv_all np_M137 137 0 np_c137 := by
  unfold np_c137
  refine na_1 (q := 1) (one_d (so_iload_n (M := np_M137) (pc := 0) dX7_stepY_0 rfl) (up_iload _ _)) rfl ?_
  refine na_1 (q := 2) (one_d (so_iconst (M := np_M137) (pc := 1) dX7_stepY_1 (by decide)) (up_cst _ _)) rfl ?_
  refine na_3 (q := 5) (one_d (so_ceq (M := np_M137) (pc := 2) dX7_stepY_2 (by decide)) (up_ceq _ _)) rfl ?_
  refine na_1 (q := 6) (one_d (so_iload_n (M := np_M137) (pc := 5) dX7_stepY_5 rfl) (up_iload _ _)) rfl ?_
  refine na_2 (q := 8) (one_d (so_bipush (M := np_M137) (pc := 6) dX7_stepY_6 (by decide)) (up_cst _ _)) rfl ?_
  refine na_3 (q := 11) (one_d (so_cne (M := np_M137) (pc := 8) dX7_stepY_8 (by decide)) (up_cne _ _)) rfl ?_
  refine na_1 (q := 12) (one_d (so_iconst (M := np_M137) (pc := 11) dX7_stepY_11 (by decide)) (up_cst _ _)) rfl ?_
  refine na_1 (q := 13) (one_d (so_reti (M := np_M137) (pc := 12) dX7_stepY_12 rfl) (up_reti _)) rfl ?_
  refine na_1 (q := 14) (one_d (so_iload_n (M := np_M137) (pc := 13) dX7_stepY_13 rfl) (up_iload _ _)) rfl ?_
  refine na_1 (q := 15) (one_d (so_iconst (M := np_M137) (pc := 14) dX7_stepY_14 (by decide)) (up_cst _ _)) rfl ?_
  refine na_3 (q := 18) (one_d (so_cle (M := np_M137) (pc := 15) dX7_stepY_15 (by decide)) (up_cle _ _)) rfl ?_
  refine na_1 (q := 19) (one_d (so_iload_n (M := np_M137) (pc := 18) dX7_stepY_18 rfl) (up_iload _ _)) rfl ?_
  refine na_2 (q := 21) (one_d (so_bipush (M := np_M137) (pc := 19) dX7_stepY_19 (by decide)) (up_cst _ _)) rfl ?_
  refine na_3 (q := 24) (one_d (so_cge (M := np_M137) (pc := 21) dX7_stepY_21 (by decide)) (up_cge _ _)) rfl ?_
  refine na_1 (q := 25) (one_d (so_iconst (M := np_M137) (pc := 24) dX7_stepY_24 (by decide)) (up_cst _ _)) rfl ?_
  refine na_3 (q := 28) (one_d (so_goto (M := np_M137) (pc := 25) dX7_stepY_25 (by decide)) (up_goto _)) rfl ?_
  refine na_1 (q := 29) (one_d (so_iconst (M := np_M137) (pc := 28) dX7_stepY_28 (by decide)) (up_cst _ _)) rfl ?_
  refine na_1 (q := 30) (one_d (so_reti (M := np_M137) (pc := 29) dX7_stepY_29 rfl) (up_reti _)) rfl ?_
  exact na_z
theorem hl_138 : np_hls.getD 138 [] = [] := rfl
set_option maxRecDepth 100000 in
set_option maxHeartbeats 4000000 in
theorem ok_138 : nv_all np_M138 138 0 np_c138 := by
  unfold np_c138
  refine na_1 (q := 1) (one_d (so_iload_n (M := np_M138) (pc := 0) dX7_directionOf_0 rfl) (up_iload _ _)) rfl ?_
  refine na_3 (q := 4) (one_d (so_abs (M := np_M138) (pc := 1) dX7_directionOf_1 wd_569 wd_570 wd_37 cd_abs (by decide)) (up_abs _)) rfl ?_
  refine na_1 (q := 5) (one_d (so_istore_n (M := np_M138) (pc := 4) dX7_directionOf_4 rfl (by decide)) (up_istore _ _)) rfl ?_
  refine na_1 (q := 6) (one_d (so_iload_n (M := np_M138) (pc := 5) dX7_directionOf_5 rfl) (up_iload _ _)) rfl ?_
  refine na_3 (q := 9) (one_d (so_abs (M := np_M138) (pc := 6) dX7_directionOf_6 wd_569 wd_570 wd_37 cd_abs (by decide)) (up_abs _)) rfl ?_
  refine na_1 (q := 10) (one_d (so_istore_n (M := np_M138) (pc := 9) dX7_directionOf_9 rfl (by decide)) (up_istore _ _)) rfl ?_
  refine na_1 (q := 11) (one_d (so_iload_n (M := np_M138) (pc := 10) dX7_directionOf_10 rfl) (up_iload _ _)) rfl ?_
  refine na_1 (q := 12) (one_d (so_iconst (M := np_M138) (pc := 11) dX7_directionOf_11 (by decide)) (up_cst _ _)) rfl ?_
  refine na_1 (q := 13) (one_d (so_iload_n (M := np_M138) (pc := 12) dX7_directionOf_12 rfl) (up_iload _ _)) rfl ?_
  refine na_1 (q := 14) (one_d (so_imul (M := np_M138) (pc := 13) dX7_directionOf_13) (up_i2 _ _)) rfl ?_
  refine na_3 (q := 17) (one_d (so_clt (M := np_M138) (pc := 14) dX7_directionOf_14 (by decide)) (up_clt _ _)) rfl ?_
  refine na_1 (q := 18) (one_d (so_iload_n (M := np_M138) (pc := 17) dX7_directionOf_17 rfl) (up_iload _ _)) rfl ?_
  refine na_3 (q := 21) (one_d (so_ifle (M := np_M138) (pc := 18) dX7_directionOf_18 (by decide)) (up_ifle _ _)) rfl ?_
  refine na_1 (q := 22) (one_d (so_iconst (M := np_M138) (pc := 21) dX7_directionOf_21 (by decide)) (up_cst _ _)) rfl ?_
  refine na_3 (q := 25) (one_d (so_goto (M := np_M138) (pc := 22) dX7_directionOf_22 (by decide)) (up_goto _)) rfl ?_
  refine na_2 (q := 27) (one_d (so_bipush (M := np_M138) (pc := 25) dX7_directionOf_25 (by decide)) (up_cst _ _)) rfl ?_
  refine na_1 (q := 28) (one_d (so_reti (M := np_M138) (pc := 27) dX7_directionOf_27 rfl) (up_reti _)) rfl ?_
  refine na_1 (q := 29) (one_d (so_iload_n (M := np_M138) (pc := 28) dX7_directionOf_28 rfl) (up_iload _ _)) rfl ?_
  refine na_1 (q := 30) (one_d (so_iconst (M := np_M138) (pc := 29) dX7_directionOf_29 (by decide)) (up_cst _ _)) rfl ?_
  refine na_1 (q := 31) (one_d (so_iload_n (M := np_M138) (pc := 30) dX7_directionOf_30 rfl) (up_iload _ _)) rfl ?_
  refine na_1 (q := 32) (one_d (so_imul (M := np_M138) (pc := 31) dX7_directionOf_31) (up_i2 _ _)) rfl ?_
  refine na_3 (q := 35) (one_d (so_clt (M := np_M138) (pc := 32) dX7_directionOf_32 (by decide)) (up_clt _ _)) rfl ?_
  refine na_1 (q := 36) (one_d (so_iload_n (M := np_M138) (pc := 35) dX7_directionOf_35 rfl) (up_iload _ _)) rfl ?_
  refine na_3 (q := 39) (one_d (so_ifle (M := np_M138) (pc := 36) dX7_directionOf_36 (by decide)) (up_ifle _ _)) rfl ?_
  refine na_1 (q := 40) (one_d (so_iconst (M := np_M138) (pc := 39) dX7_directionOf_39 (by decide)) (up_cst _ _)) rfl ?_
  refine na_3 (q := 43) (one_d (so_goto (M := np_M138) (pc := 40) dX7_directionOf_40 (by decide)) (up_goto _)) rfl ?_
  refine na_1 (q := 44) (one_d (so_iconst (M := np_M138) (pc := 43) dX7_directionOf_43 (by decide)) (up_cst _ _)) rfl ?_
  refine na_1 (q := 45) (one_d (so_reti (M := np_M138) (pc := 44) dX7_directionOf_44 rfl) (up_reti _)) rfl ?_
  refine na_1 (q := 46) (one_d (so_iload_n (M := np_M138) (pc := 45) dX7_directionOf_45 rfl) (up_iload _ _)) rfl ?_
  refine na_3 (q := 49) (one_d (so_ifle (M := np_M138) (pc := 46) dX7_directionOf_46 (by decide)) (up_ifle _ _)) rfl ?_
  refine na_1 (q := 50) (one_d (so_iload_n (M := np_M138) (pc := 49) dX7_directionOf_49 rfl) (up_iload _ _)) rfl ?_
  refine na_3 (q := 53) (one_d (so_ifle (M := np_M138) (pc := 50) dX7_directionOf_50 (by decide)) (up_ifle _ _)) rfl ?_
  refine na_1 (q := 54) (one_d (so_iconst (M := np_M138) (pc := 53) dX7_directionOf_53 (by decide)) (up_cst _ _)) rfl ?_
  refine na_3 (q := 57) (one_d (so_goto (M := np_M138) (pc := 54) dX7_directionOf_54 (by decide)) (up_goto _)) rfl ?_
  refine na_1 (q := 58) (one_d (so_iconst (M := np_M138) (pc := 57) dX7_directionOf_57 (by decide)) (up_cst _ _)) rfl ?_
  refine na_1 (q := 59) (one_d (so_reti (M := np_M138) (pc := 58) dX7_directionOf_58 rfl) (up_reti _)) rfl ?_
  refine na_1 (q := 60) (one_d (so_iload_n (M := np_M138) (pc := 59) dX7_directionOf_59 rfl) (up_iload _ _)) rfl ?_
  refine na_3 (q := 63) (one_d (so_ifle (M := np_M138) (pc := 60) dX7_directionOf_60 (by decide)) (up_ifle _ _)) rfl ?_
  refine na_2 (q := 65) (one_d (so_bipush (M := np_M138) (pc := 63) dX7_directionOf_63 (by decide)) (up_cst _ _)) rfl ?_
  refine na_3 (q := 68) (one_d (so_goto (M := np_M138) (pc := 65) dX7_directionOf_65 (by decide)) (up_goto _)) rfl ?_
  refine na_1 (q := 69) (one_d (so_iconst (M := np_M138) (pc := 68) dX7_directionOf_68 (by decide)) (up_cst _ _)) rfl ?_
  refine na_1 (q := 70) (one_d (so_reti (M := np_M138) (pc := 69) dX7_directionOf_69 rfl) (up_reti _)) rfl ?_
  exact na_z
theorem hl_139 : np_hls.getD 139 [] = [] := rfl
set_option maxRecDepth 100000 in
set_option maxHeartbeats 4000000 in
theorem ok_139 : nv_all np_M139 139 0 np_c139 := by
  unfold np_c139
  refine na_1 (q := 1) (one_d (so_iload_n (M := np_M139) (pc := 0) dX7_stepsBetween_0 rfl) (up_iload _ _)) rfl ?_
  refine na_1 (q := 2) (one_d (so_iload_n (M := np_M139) (pc := 1) dX7_stepsBetween_1 rfl) (up_iload _ _)) rfl ?_
  refine na_1 (q := 3) (one_d (so_isub (M := np_M139) (pc := 2) dX7_stepsBetween_2) (up_i2 _ _)) rfl ?_
  refine na_3 (q := 6) (one_d (so_abs (M := np_M139) (pc := 3) dX7_stepsBetween_3 wd_569 wd_570 wd_37 cd_abs (by decide)) (up_abs _)) rfl ?_
  refine na_1 (q := 7) (one_d (so_istore_n (M := np_M139) (pc := 6) dX7_stepsBetween_6 rfl (by decide)) (up_istore _ _)) rfl ?_
  refine na_1 (q := 8) (one_d (so_iload_n (M := np_M139) (pc := 7) dX7_stepsBetween_7 rfl) (up_iload _ _)) rfl ?_
  refine na_2 (q := 10) (one_d (so_bipush (M := np_M139) (pc := 8) dX7_stepsBetween_8 (by decide)) (up_cst _ _)) rfl ?_
  refine na_1 (q := 11) (one_d (so_iload_n (M := np_M139) (pc := 10) dX7_stepsBetween_10 rfl) (up_iload _ _)) rfl ?_
  refine na_1 (q := 12) (one_d (so_isub (M := np_M139) (pc := 11) dX7_stepsBetween_11) (up_i2 _ _)) rfl ?_
  refine na_3 (q := 15) (one_d (so_min (M := np_M139) (pc := 12) dX7_stepsBetween_12 wd_572 wd_444 wd_37 cd_min (by decide)) (up_min _)) rfl ?_
  refine na_1 (q := 16) (one_d (so_reti (M := np_M139) (pc := 15) dX7_stepsBetween_15 rfl) (up_reti _)) rfl ?_
  exact na_z
theorem hl_140 : np_hls.getD 140 [] = [] := rfl
set_option maxRecDepth 100000 in
set_option maxHeartbeats 4000000 in
theorem ok_140 : nv_all np_M140 140 0 np_c140 := by
  unfold np_c140
  refine na_1 (q := 1) (one_d (so_aload_n (M := np_M140) (pc := 0) dL_cell_0 rfl) (up_aload _ _)) rfl ?_
  refine na_1 (q := 2) (one_d (so_scl (M := np_M140) (pc := 1) dL_cell_1) (up_scl _)) rfl ?_
  refine na_3 (q := 5) (one_d (so_ifne (M := np_M140) (pc := 2) dL_cell_2 (by decide)) (up_ifne _ _)) rfl ?_
  refine na_3 (q := 8) (one_d (so_sipush (M := np_M140) (pc := 5) dL_cell_5 (by decide)) (up_cst _ _)) rfl ?_
  refine na_1 (q := 9) (one_d (so_iload_n (M := np_M140) (pc := 8) dL_cell_8 rfl) (up_iload _ _)) rfl ?_
  refine na_1 (q := 10) (one_d (so_imul (M := np_M140) (pc := 9) dL_cell_9) (up_i2 _ _)) rfl ?_
  refine na_3 (q := 13) (one_d (so_goto (M := np_M140) (pc := 10) dL_cell_10 (by decide)) (up_goto _)) rfl ?_
  refine na_1 (q := 14) (one_d (so_aload_n (M := np_M140) (pc := 13) dL_cell_13 rfl) (up_aload _ _)) rfl ?_
  refine na_1 (q := 15) (one_d (so_iload_n (M := np_M140) (pc := 14) dL_cell_14 rfl) (up_iload _ _)) rfl ?_
  refine na_2 (q := 17) (one_d (so_ldc (M := np_M140) (pc := 15) dL_cell_15 wd_306) (up_cst _ _)) rfl ?_
  refine na_1 (q := 18) (one_d (so_iand (M := np_M140) (pc := 17) dL_cell_17) (up_i2 _ _)) rfl ?_
  refine na_1 (q := 19) (one_d (so_aload_n (M := np_M140) (pc := 18) dL_cell_18 rfl) (up_aload _ _)) rfl ?_
  refine na_1 (q := 20) (one_d (so_scl (M := np_M140) (pc := 19) dL_cell_19) (up_scl _)) rfl ?_
  refine na_1 (q := 21) (one_d (so_irem (M := np_M140) (pc := 20) dL_cell_20) (up_irem _)) rfl ?_
  refine na_1 (q := 22) (one_d (so_sci (M := np_M140) (pc := 21) dL_cell_21) (up_sci _)) rfl ?_
  refine na_1 (q := 23) (one_d (so_reti (M := np_M140) (pc := 22) dL_cell_22 rfl) (up_reti _)) rfl ?_
  exact na_z
set_option maxRecDepth 100000 in
theorem sk_L_addSpoon_12 : ∀ q ∈ np_hls.getD 141 [], q.1 ≤ 12 → 12 < q.2.1 → nv_SK np_M141 12 q.2.2.1 q.2.2.2.1 q.2.2.2.2 := by
  intro q hq h1 h2
  have hq : q ∈ ([(4, 17, "java/lang/IndexOutOfBoundsException", 22, 7), (4, 17, "java/lang/IllegalArgumentException", 27, 7), (4, 17, "java/lang/IllegalStateException", 32, 7), (4, 17, "java/lang/UnsupportedOperationException", 37, 7)] : List (Nat × Nat × String × Nat × Nat)) := hq
  simp only [List.mem_cons, List.not_mem_nil, or_false] at hq
  rcases hq with rfl | rfl | rfl | rfl
  · show nv_SK np_M141 12 "java/lang/IndexOutOfBoundsException" 22 7
    exact sk_at (M := np_M141) (pc := 12) (t := 22) (i := 7) (E := "java/lang/IndexOutOfBoundsException") [] (4, 17, 20, 17) [(4, 17, 25, 19), (4, 17, 30, 21), (4, 17, 35, 23)] rfl (fun z hz => by cases hz) (by decide) (by decide) wd_310 wd_452 (by decide) (Or.inr ⟨dL_addSpoon_20, rfl⟩)
  · show nv_SK np_M141 12 "java/lang/IllegalArgumentException" 27 7
    exact sk_at (M := np_M141) (pc := 12) (t := 27) (i := 7) (E := "java/lang/IllegalArgumentException") [(4, 17, 20, 17)] (4, 17, 25, 19) [(4, 17, 30, 21), (4, 17, 35, 23)] rfl (fun z hz => by
      simp only [List.mem_cons, List.not_mem_nil, or_false] at hz
      rcases hz with rfl
      · exact ⟨by decide, _, wd_310, by decide⟩) (by decide) (by decide) wd_390 wd_465 (by decide) (Or.inr ⟨dL_addSpoon_25, rfl⟩)
  · show nv_SK np_M141 12 "java/lang/IllegalStateException" 32 7
    exact sk_at (M := np_M141) (pc := 12) (t := 32) (i := 7) (E := "java/lang/IllegalStateException") [(4, 17, 20, 17), (4, 17, 25, 19)] (4, 17, 30, 21) [(4, 17, 35, 23)] rfl (fun z hz => by
      simp only [List.mem_cons, List.not_mem_nil, or_false] at hz
      rcases hz with rfl | rfl
      · exact ⟨by decide, _, wd_310, by decide⟩
      · exact ⟨by decide, _, wd_390, by decide⟩) (by decide) (by decide) wd_391 wd_481 (by decide) (Or.inr ⟨dL_addSpoon_30, rfl⟩)
  · show nv_SK np_M141 12 "java/lang/UnsupportedOperationException" 37 7
    exact sk_at (M := np_M141) (pc := 12) (t := 37) (i := 7) (E := "java/lang/UnsupportedOperationException") [(4, 17, 20, 17), (4, 17, 25, 19), (4, 17, 30, 21)] (4, 17, 35, 23) [] rfl (fun z hz => by
      simp only [List.mem_cons, List.not_mem_nil, or_false] at hz
      rcases hz with rfl | rfl | rfl
      · exact ⟨by decide, _, wd_310, by decide⟩
      · exact ⟨by decide, _, wd_390, by decide⟩
      · exact ⟨by decide, _, wd_391, by decide⟩) (by decide) (by decide) wd_392 wd_497 (by decide) (Or.inr ⟨dL_addSpoon_35, rfl⟩)
set_option maxRecDepth 100000 in
set_option maxHeartbeats 4000000 in
theorem ok_141 : nv_all np_M141 141 0 np_c141 := by
  unfold np_c141
  refine na_2 (q := 2) (one_d (so_ldc (M := np_M141) (pc := 0) dL_addSpoon_0 wd_393) (up_cst _ _)) rfl ?_
  refine na_2 (q := 4) (one_d (so_istore (M := np_M141) (pc := 2) dL_addSpoon_2 (by decide)) (up_istore _ _)) rfl ?_
  refine na_1 (q := 5) (one_d (so_aload_n (M := np_M141) (pc := 4) dL_addSpoon_4 rfl) (up_aload _ _)) rfl ?_
  refine na_1 (q := 6) (one_d (so_iload_n (M := np_M141) (pc := 5) dL_addSpoon_5 rfl) (up_iload _ _)) rfl ?_
  refine na_1 (q := 7) (one_d (so_iload_n (M := np_M141) (pc := 6) dL_addSpoon_6 rfl) (up_iload _ _)) rfl ?_
  refine na_1 (q := 8) (one_d (so_iload_n (M := np_M141) (pc := 7) dL_addSpoon_7 rfl) (up_iload _ _)) rfl ?_
  refine na_2 (q := 10) (one_d (so_iload (M := np_M141) (pc := 8) dL_addSpoon_8) (up_iload _ _)) rfl ?_
  refine na_2 (q := 12) (one_d (so_iload (M := np_M141) (pc := 10) dL_addSpoon_10) (up_iload _ _)) rfl ?_
  refine na_3 (q := 15) (one_h rfl mq_72 (sc_V (M := np_M141) (pc := 12) dL_addSpoon_12 cw_L_addSpoon_X7_addSpoon rfl wd_394 wd_395 wd_396 (nv_rcO (ci := 5) rfl)) (by decide) rfl sk_L_addSpoon_12) rfl ?_
  refine na_2 (q := 17) (one_d (so_istore (M := np_M141) (pc := 15) dL_addSpoon_15 (by decide)) (up_istore _ _)) rfl ?_
  refine na_3 (q := 20) (one_d (so_goto (M := np_M141) (pc := 17) dL_addSpoon_17 (by decide)) (up_goto _)) rfl ?_
  refine na_n (q := 21) rfl ?_
  refine na_n (q := 22) rfl ?_
  refine na_2 (q := 24) (one_d (so_ldc (M := np_M141) (pc := 22) dL_addSpoon_22 wd_393) (up_cst _ _)) rfl ?_
  refine na_3 (q := 27) (one_d (so_reti (M := np_M141) (pc := 24) dL_addSpoon_24 rfl) (up_reti _)) rfl ?_
  refine na_2 (q := 29) (one_d (so_ldc (M := np_M141) (pc := 27) dL_addSpoon_27 wd_393) (up_cst _ _)) rfl ?_
  refine na_3 (q := 32) (one_d (so_reti (M := np_M141) (pc := 29) dL_addSpoon_29 rfl) (up_reti _)) rfl ?_
  refine na_2 (q := 34) (one_d (so_ldc (M := np_M141) (pc := 32) dL_addSpoon_32 wd_393) (up_cst _ _)) rfl ?_
  refine na_3 (q := 37) (one_d (so_reti (M := np_M141) (pc := 34) dL_addSpoon_34 rfl) (up_reti _)) rfl ?_
  refine na_2 (q := 39) (one_d (so_ldc (M := np_M141) (pc := 37) dL_addSpoon_37 wd_393) (up_cst _ _)) rfl ?_
  refine na_1 (q := 40) (one_d (so_reti (M := np_M141) (pc := 39) dL_addSpoon_39 rfl) (up_reti _)) rfl ?_
  refine na_2 (q := 42) (one_d (so_iload (M := np_M141) (pc := 40) dL_addSpoon_40) (up_iload _ _)) rfl ?_
  refine na_1 (q := 43) (one_d (so_reti (M := np_M141) (pc := 42) dL_addSpoon_42 rfl) (up_reti _)) rfl ?_
  exact na_z
set_option maxRecDepth 100000 in
theorem sk_L_start_4 : ∀ q ∈ np_hls.getD 142 [], q.1 ≤ 4 → 4 < q.2.1 → nv_SK np_M142 4 q.2.2.1 q.2.2.2.1 q.2.2.2.2 := by
  intro q hq h1 h2
  have hq : q ∈ ([(3, 8, "java/lang/IllegalStateException", 12, 2)] : List (Nat × Nat × String × Nat × Nat)) := hq
  simp only [List.mem_cons, List.not_mem_nil, or_false] at hq
  rcases hq with rfl
  · show nv_SK np_M142 4 "java/lang/IllegalStateException" 12 2
    exact sk_at (M := np_M142) (pc := 4) (t := 12) (i := 2) (E := "java/lang/IllegalStateException") [] (3, 8, 11, 21) [] rfl (fun z hz => by cases hz) (by decide) (by decide) wd_391 wd_481 (by decide) (Or.inl ⟨2, dL_start_11, rfl, rfl⟩)
set_option maxRecDepth 100000 in
set_option maxHeartbeats 4000000 in
theorem ok_142 : nv_all np_M142 142 0 np_c142 := by
  unfold np_c142
  refine na_2 (q := 2) (one_d (so_ldc (M := np_M142) (pc := 0) dL_start_0 wd_393) (up_cst _ _)) rfl ?_
  refine na_1 (q := 3) (one_d (so_istore_n (M := np_M142) (pc := 2) dL_start_2 rfl (by decide)) (up_istore _ _)) rfl ?_
  refine na_1 (q := 4) (one_d (so_aload_n (M := np_M142) (pc := 3) dL_start_3 rfl) (up_aload _ _)) rfl ?_
  refine na_3 (q := 7) (one_h rfl mq_73 (sc_V (M := np_M142) (pc := 4) dL_start_4 cw_L_start_X7_start rfl wd_515 wd_516 wd_517 (nv_rcO (ci := 5) rfl)) (by decide) rfl sk_L_start_4) rfl ?_
  refine na_1 (q := 8) (one_d (so_istore_n (M := np_M142) (pc := 7) dL_start_7 rfl (by decide)) (up_istore _ _)) rfl ?_
  refine na_3 (q := 11) (one_d (so_goto (M := np_M142) (pc := 8) dL_start_8 (by decide)) (up_goto _)) rfl ?_
  refine na_n (q := 12) rfl ?_
  refine na_2 (q := 14) (one_d (so_ldc (M := np_M142) (pc := 12) dL_start_12 wd_393) (up_cst _ _)) rfl ?_
  refine na_1 (q := 15) (one_d (so_reti (M := np_M142) (pc := 14) dL_start_14 rfl) (up_reti _)) rfl ?_
  refine na_1 (q := 16) (one_d (so_iload_n (M := np_M142) (pc := 15) dL_start_15 rfl) (up_iload _ _)) rfl ?_
  refine na_1 (q := 17) (one_d (so_reti (M := np_M142) (pc := 16) dL_start_16 rfl) (up_reti _)) rfl ?_
  exact na_z
set_option maxRecDepth 100000 in
theorem sk_L_endTurn_4 : ∀ q ∈ np_hls.getD 143 [], q.1 ≤ 4 → 4 < q.2.1 → nv_SK np_M143 4 q.2.2.1 q.2.2.2.1 q.2.2.2.2 := by
  intro q hq h1 h2
  have hq : q ∈ ([(3, 8, "java/lang/IllegalStateException", 12, 2)] : List (Nat × Nat × String × Nat × Nat)) := hq
  simp only [List.mem_cons, List.not_mem_nil, or_false] at hq
  rcases hq with rfl
  · show nv_SK np_M143 4 "java/lang/IllegalStateException" 12 2
    exact sk_at (M := np_M143) (pc := 4) (t := 12) (i := 2) (E := "java/lang/IllegalStateException") [] (3, 8, 11, 21) [] rfl (fun z hz => by cases hz) (by decide) (by decide) wd_391 wd_481 (by decide) (Or.inl ⟨2, dL_endTurn_11, rfl, rfl⟩)
set_option maxRecDepth 100000 in
set_option maxHeartbeats 4000000 in
theorem ok_143 : nv_all np_M143 143 0 np_c143 := by
  unfold np_c143
  refine na_2 (q := 2) (one_d (so_ldc (M := np_M143) (pc := 0) dL_endTurn_0 wd_393) (up_cst _ _)) rfl ?_
  refine na_1 (q := 3) (one_d (so_istore_n (M := np_M143) (pc := 2) dL_endTurn_2 rfl (by decide)) (up_istore _ _)) rfl ?_
  refine na_1 (q := 4) (one_d (so_aload_n (M := np_M143) (pc := 3) dL_endTurn_3 rfl) (up_aload _ _)) rfl ?_
  refine na_3 (q := 7) (one_h rfl mq_74 (sc_V (M := np_M143) (pc := 4) dL_endTurn_4 cw_L_endTurn_X7_endTurn rfl wd_526 wd_527 wd_528 (nv_rcO (ci := 5) rfl)) (by decide) rfl sk_L_endTurn_4) rfl ?_
  refine na_1 (q := 8) (one_d (so_istore_n (M := np_M143) (pc := 7) dL_endTurn_7 rfl (by decide)) (up_istore _ _)) rfl ?_
  refine na_3 (q := 11) (one_d (so_goto (M := np_M143) (pc := 8) dL_endTurn_8 (by decide)) (up_goto _)) rfl ?_
  refine na_n (q := 12) rfl ?_
  refine na_2 (q := 14) (one_d (so_ldc (M := np_M143) (pc := 12) dL_endTurn_12 wd_393) (up_cst _ _)) rfl ?_
  refine na_1 (q := 15) (one_d (so_reti (M := np_M143) (pc := 14) dL_endTurn_14 rfl) (up_reti _)) rfl ?_
  refine na_1 (q := 16) (one_d (so_iload_n (M := np_M143) (pc := 15) dL_endTurn_15 rfl) (up_iload _ _)) rfl ?_
  refine na_1 (q := 17) (one_d (so_reti (M := np_M143) (pc := 16) dL_endTurn_16 rfl) (up_reti _)) rfl ?_
  exact na_z
set_option maxRecDepth 100000 in
theorem sk_L_winner_5 : ∀ q ∈ np_hls.getD 144 [], q.1 ≤ 5 → 5 < q.2.1 → nv_SK np_M144 5 q.2.2.1 q.2.2.2.1 q.2.2.2.2 := by
  intro q hq h1 h2
  have hq : q ∈ ([(4, 9, "java/lang/IllegalStateException", 13, 2)] : List (Nat × Nat × String × Nat × Nat)) := hq
  simp only [List.mem_cons, List.not_mem_nil, or_false] at hq
  rcases hq with rfl
  · show nv_SK np_M144 5 "java/lang/IllegalStateException" 13 2
    exact sk_at (M := np_M144) (pc := 5) (t := 13) (i := 2) (E := "java/lang/IllegalStateException") [] (4, 9, 12, 21) [] rfl (fun z hz => by cases hz) (by decide) (by decide) wd_391 wd_481 (by decide) (Or.inl ⟨2, dL_winner_12, rfl, rfl⟩)
set_option maxRecDepth 100000 in
set_option maxHeartbeats 4000000 in
theorem ok_144 : nv_all np_M144 144 0 np_c144 := by
  unfold np_c144
  refine na_3 (q := 3) (one_d (so_sipush (M := np_M144) (pc := 0) dL_winner_0 (by decide)) (up_cst _ _)) rfl ?_
  refine na_1 (q := 4) (one_d (so_istore_n (M := np_M144) (pc := 3) dL_winner_3 rfl (by decide)) (up_istore _ _)) rfl ?_
  refine na_1 (q := 5) (one_d (so_aload_n (M := np_M144) (pc := 4) dL_winner_4 rfl) (up_aload _ _)) rfl ?_
  refine na_3 (q := 8) (one_h rfl mq_77 (sc_V (M := np_M144) (pc := 5) dL_winner_5 cw_L_winner_X7_winner rfl wd_1001 wd_1002 wd_1003 (nv_rcO (ci := 5) rfl)) (by decide) rfl sk_L_winner_5) rfl ?_
  refine na_1 (q := 9) (one_d (so_istore_n (M := np_M144) (pc := 8) dL_winner_8 rfl (by decide)) (up_istore _ _)) rfl ?_
  refine na_3 (q := 12) (one_d (so_goto (M := np_M144) (pc := 9) dL_winner_9 (by decide)) (up_goto _)) rfl ?_
  refine na_n (q := 13) rfl ?_
  refine na_3 (q := 16) (one_d (so_sipush (M := np_M144) (pc := 13) dL_winner_13 (by decide)) (up_cst _ _)) rfl ?_
  refine na_1 (q := 17) (one_d (so_reti (M := np_M144) (pc := 16) dL_winner_16 rfl) (up_reti _)) rfl ?_
  refine na_1 (q := 18) (one_d (so_iload_n (M := np_M144) (pc := 17) dL_winner_17 rfl) (up_iload _ _)) rfl ?_
  refine na_1 (q := 19) (one_d (so_reti (M := np_M144) (pc := 18) dL_winner_18 rfl) (up_reti _)) rfl ?_
  exact na_z
set_option maxRecDepth 100000 in
theorem sk_L_activeFleet_5 : ∀ q ∈ np_hls.getD 145 [], q.1 ≤ 5 → 5 < q.2.1 → nv_SK np_M145 5 q.2.2.1 q.2.2.2.1 q.2.2.2.2 := by
  intro q hq h1 h2
  have hq : q ∈ ([(4, 9, "java/lang/IllegalStateException", 13, 2)] : List (Nat × Nat × String × Nat × Nat)) := hq
  simp only [List.mem_cons, List.not_mem_nil, or_false] at hq
  rcases hq with rfl
  · show nv_SK np_M145 5 "java/lang/IllegalStateException" 13 2
    exact sk_at (M := np_M145) (pc := 5) (t := 13) (i := 2) (E := "java/lang/IllegalStateException") [] (4, 9, 12, 21) [] rfl (fun z hz => by cases hz) (by decide) (by decide) wd_391 wd_481 (by decide) (Or.inl ⟨2, dL_activeFleet_12, rfl, rfl⟩)
set_option maxRecDepth 100000 in
set_option maxHeartbeats 4000000 in
theorem ok_145 : nv_all np_M145 145 0 np_c145 := by
  unfold np_c145
  refine na_3 (q := 3) (one_d (so_sipush (M := np_M145) (pc := 0) dL_activeFleet_0 (by decide)) (up_cst _ _)) rfl ?_
  refine na_1 (q := 4) (one_d (so_istore_n (M := np_M145) (pc := 3) dL_activeFleet_3 rfl (by decide)) (up_istore _ _)) rfl ?_
  refine na_1 (q := 5) (one_d (so_aload_n (M := np_M145) (pc := 4) dL_activeFleet_4 rfl) (up_aload _ _)) rfl ?_
  refine na_3 (q := 8) (one_h rfl mq_78 (sc_V (M := np_M145) (pc := 5) dL_activeFleet_5 cw_L_activeFleet_X7_activeFleet rfl wd_931 wd_932 wd_933 (nv_rcO (ci := 5) rfl)) (by decide) rfl sk_L_activeFleet_5) rfl ?_
  refine na_1 (q := 9) (one_d (so_istore_n (M := np_M145) (pc := 8) dL_activeFleet_8 rfl (by decide)) (up_istore _ _)) rfl ?_
  refine na_3 (q := 12) (one_d (so_goto (M := np_M145) (pc := 9) dL_activeFleet_9 (by decide)) (up_goto _)) rfl ?_
  refine na_n (q := 13) rfl ?_
  refine na_3 (q := 16) (one_d (so_sipush (M := np_M145) (pc := 13) dL_activeFleet_13 (by decide)) (up_cst _ _)) rfl ?_
  refine na_1 (q := 17) (one_d (so_reti (M := np_M145) (pc := 16) dL_activeFleet_16 rfl) (up_reti _)) rfl ?_
  refine na_1 (q := 18) (one_d (so_iload_n (M := np_M145) (pc := 17) dL_activeFleet_17 rfl) (up_iload _ _)) rfl ?_
  refine na_1 (q := 19) (one_d (so_reti (M := np_M145) (pc := 18) dL_activeFleet_18 rfl) (up_reti _)) rfl ?_
  exact na_z
set_option maxRecDepth 100000 in
theorem sk_L_actionsLeft_5 : ∀ q ∈ np_hls.getD 146 [], q.1 ≤ 5 → 5 < q.2.1 → nv_SK np_M146 5 q.2.2.1 q.2.2.2.1 q.2.2.2.2 := by
  intro q hq h1 h2
  have hq : q ∈ ([(4, 9, "java/lang/IllegalStateException", 13, 2)] : List (Nat × Nat × String × Nat × Nat)) := hq
  simp only [List.mem_cons, List.not_mem_nil, or_false] at hq
  rcases hq with rfl
  · show nv_SK np_M146 5 "java/lang/IllegalStateException" 13 2
    exact sk_at (M := np_M146) (pc := 5) (t := 13) (i := 2) (E := "java/lang/IllegalStateException") [] (4, 9, 12, 21) [] rfl (fun z hz => by cases hz) (by decide) (by decide) wd_391 wd_481 (by decide) (Or.inl ⟨2, dL_actionsLeft_12, rfl, rfl⟩)
set_option maxRecDepth 100000 in
set_option maxHeartbeats 4000000 in
theorem ok_146 : nv_all np_M146 146 0 np_c146 := by
  unfold np_c146
  refine na_3 (q := 3) (one_d (so_sipush (M := np_M146) (pc := 0) dL_actionsLeft_0 (by decide)) (up_cst _ _)) rfl ?_
  refine na_1 (q := 4) (one_d (so_istore_n (M := np_M146) (pc := 3) dL_actionsLeft_3 rfl (by decide)) (up_istore _ _)) rfl ?_
  refine na_1 (q := 5) (one_d (so_aload_n (M := np_M146) (pc := 4) dL_actionsLeft_4 rfl) (up_aload _ _)) rfl ?_
  refine na_3 (q := 8) (one_h rfl mq_79 (sc_V (M := np_M146) (pc := 5) dL_actionsLeft_5 cw_L_actionsLeft_X7_actionsLeft rfl wd_945 wd_946 wd_947 (nv_rcO (ci := 5) rfl)) (by decide) rfl sk_L_actionsLeft_5) rfl ?_
  refine na_1 (q := 9) (one_d (so_istore_n (M := np_M146) (pc := 8) dL_actionsLeft_8 rfl (by decide)) (up_istore _ _)) rfl ?_
  refine na_3 (q := 12) (one_d (so_goto (M := np_M146) (pc := 9) dL_actionsLeft_9 (by decide)) (up_goto _)) rfl ?_
  refine na_n (q := 13) rfl ?_
  refine na_3 (q := 16) (one_d (so_sipush (M := np_M146) (pc := 13) dL_actionsLeft_13 (by decide)) (up_cst _ _)) rfl ?_
  refine na_1 (q := 17) (one_d (so_reti (M := np_M146) (pc := 16) dL_actionsLeft_16 rfl) (up_reti _)) rfl ?_
  refine na_1 (q := 18) (one_d (so_iload_n (M := np_M146) (pc := 17) dL_actionsLeft_17 rfl) (up_iload _ _)) rfl ?_
  refine na_1 (q := 19) (one_d (so_reti (M := np_M146) (pc := 18) dL_actionsLeft_18 rfl) (up_reti _)) rfl ?_
  exact na_z
set_option maxRecDepth 100000 in
theorem sk_L_turnTo_6 : ∀ q ∈ np_hls.getD 147 [], q.1 ≤ 6 → 6 < q.2.1 → nv_SK np_M147 6 q.2.2.1 q.2.2.2.1 q.2.2.2.2 := by
  intro q hq h1 h2
  have hq : q ∈ ([(3, 10, "java/lang/IndexOutOfBoundsException", 15, 4), (3, 10, "java/lang/IllegalArgumentException", 20, 4), (3, 10, "java/lang/IllegalStateException", 25, 4), (3, 10, "java/lang/UnsupportedOperationException", 30, 4)] : List (Nat × Nat × String × Nat × Nat)) := hq
  simp only [List.mem_cons, List.not_mem_nil, or_false] at hq
  rcases hq with rfl | rfl | rfl | rfl
  · show nv_SK np_M147 6 "java/lang/IndexOutOfBoundsException" 15 4
    exact sk_at (M := np_M147) (pc := 6) (t := 15) (i := 4) (E := "java/lang/IndexOutOfBoundsException") [] (3, 10, 13, 17) [(3, 10, 18, 19), (3, 10, 23, 21), (3, 10, 28, 23)] rfl (fun z hz => by cases hz) (by decide) (by decide) wd_310 wd_452 (by decide) (Or.inr ⟨dL_turnTo_13, rfl⟩)
  · show nv_SK np_M147 6 "java/lang/IllegalArgumentException" 20 4
    exact sk_at (M := np_M147) (pc := 6) (t := 20) (i := 4) (E := "java/lang/IllegalArgumentException") [(3, 10, 13, 17)] (3, 10, 18, 19) [(3, 10, 23, 21), (3, 10, 28, 23)] rfl (fun z hz => by
      simp only [List.mem_cons, List.not_mem_nil, or_false] at hz
      rcases hz with rfl
      · exact ⟨by decide, _, wd_310, by decide⟩) (by decide) (by decide) wd_390 wd_465 (by decide) (Or.inr ⟨dL_turnTo_18, rfl⟩)
  · show nv_SK np_M147 6 "java/lang/IllegalStateException" 25 4
    exact sk_at (M := np_M147) (pc := 6) (t := 25) (i := 4) (E := "java/lang/IllegalStateException") [(3, 10, 13, 17), (3, 10, 18, 19)] (3, 10, 23, 21) [(3, 10, 28, 23)] rfl (fun z hz => by
      simp only [List.mem_cons, List.not_mem_nil, or_false] at hz
      rcases hz with rfl | rfl
      · exact ⟨by decide, _, wd_310, by decide⟩
      · exact ⟨by decide, _, wd_390, by decide⟩) (by decide) (by decide) wd_391 wd_481 (by decide) (Or.inr ⟨dL_turnTo_23, rfl⟩)
  · show nv_SK np_M147 6 "java/lang/UnsupportedOperationException" 30 4
    exact sk_at (M := np_M147) (pc := 6) (t := 30) (i := 4) (E := "java/lang/UnsupportedOperationException") [(3, 10, 13, 17), (3, 10, 18, 19), (3, 10, 23, 21)] (3, 10, 28, 23) [] rfl (fun z hz => by
      simp only [List.mem_cons, List.not_mem_nil, or_false] at hz
      rcases hz with rfl | rfl | rfl
      · exact ⟨by decide, _, wd_310, by decide⟩
      · exact ⟨by decide, _, wd_390, by decide⟩
      · exact ⟨by decide, _, wd_391, by decide⟩) (by decide) (by decide) wd_392 wd_497 (by decide) (Or.inr ⟨dL_turnTo_28, rfl⟩)
set_option maxRecDepth 100000 in
set_option maxHeartbeats 4000000 in
theorem ok_147 : nv_all np_M147 147 0 np_c147 := by
  unfold np_c147
  refine na_2 (q := 2) (one_d (so_ldc (M := np_M147) (pc := 0) dL_turnTo_0 wd_393) (up_cst _ _)) rfl ?_
  refine na_1 (q := 3) (one_d (so_istore_n (M := np_M147) (pc := 2) dL_turnTo_2 rfl (by decide)) (up_istore _ _)) rfl ?_
  refine na_1 (q := 4) (one_d (so_aload_n (M := np_M147) (pc := 3) dL_turnTo_3 rfl) (up_aload _ _)) rfl ?_
  refine na_1 (q := 5) (one_d (so_iload_n (M := np_M147) (pc := 4) dL_turnTo_4 rfl) (up_iload _ _)) rfl ?_
  refine na_1 (q := 6) (one_d (so_iload_n (M := np_M147) (pc := 5) dL_turnTo_5 rfl) (up_iload _ _)) rfl ?_
  refine na_3 (q := 9) (one_h rfl mq_81 (sc_V (M := np_M147) (pc := 6) dL_turnTo_6 cw_L_turnTo_X7_turnTo rfl wd_545 wd_546 wd_547 (nv_rcO (ci := 5) rfl)) (by decide) rfl sk_L_turnTo_6) rfl ?_
  refine na_1 (q := 10) (one_d (so_istore_n (M := np_M147) (pc := 9) dL_turnTo_9 rfl (by decide)) (up_istore _ _)) rfl ?_
  refine na_3 (q := 13) (one_d (so_goto (M := np_M147) (pc := 10) dL_turnTo_10 (by decide)) (up_goto _)) rfl ?_
  refine na_n (q := 14) rfl ?_
  refine na_n (q := 15) rfl ?_
  refine na_2 (q := 17) (one_d (so_ldc (M := np_M147) (pc := 15) dL_turnTo_15 wd_393) (up_cst _ _)) rfl ?_
  refine na_3 (q := 20) (one_d (so_reti (M := np_M147) (pc := 17) dL_turnTo_17 rfl) (up_reti _)) rfl ?_
  refine na_2 (q := 22) (one_d (so_ldc (M := np_M147) (pc := 20) dL_turnTo_20 wd_393) (up_cst _ _)) rfl ?_
  refine na_3 (q := 25) (one_d (so_reti (M := np_M147) (pc := 22) dL_turnTo_22 rfl) (up_reti _)) rfl ?_
  refine na_2 (q := 27) (one_d (so_ldc (M := np_M147) (pc := 25) dL_turnTo_25 wd_393) (up_cst _ _)) rfl ?_
  refine na_3 (q := 30) (one_d (so_reti (M := np_M147) (pc := 27) dL_turnTo_27 rfl) (up_reti _)) rfl ?_
  refine na_2 (q := 32) (one_d (so_ldc (M := np_M147) (pc := 30) dL_turnTo_30 wd_393) (up_cst _ _)) rfl ?_
  refine na_1 (q := 33) (one_d (so_reti (M := np_M147) (pc := 32) dL_turnTo_32 rfl) (up_reti _)) rfl ?_
  refine na_1 (q := 34) (one_d (so_iload_n (M := np_M147) (pc := 33) dL_turnTo_33 rfl) (up_iload _ _)) rfl ?_
  refine na_1 (q := 35) (one_d (so_reti (M := np_M147) (pc := 34) dL_turnTo_34 rfl) (up_reti _)) rfl ?_
  exact na_z
set_option maxRecDepth 100000 in
theorem sk_L_sail_8 : ∀ q ∈ np_hls.getD 148 [], q.1 ≤ 8 → 8 < q.2.1 → nv_SK np_M148 8 q.2.2.1 q.2.2.2.1 q.2.2.2.2 := by
  intro q hq h1 h2
  have hq : q ∈ ([(4, 13, "java/lang/IndexOutOfBoundsException", 18, 5), (4, 13, "java/lang/IllegalArgumentException", 23, 5), (4, 13, "java/lang/IllegalStateException", 28, 5), (4, 13, "java/lang/UnsupportedOperationException", 33, 5)] : List (Nat × Nat × String × Nat × Nat)) := hq
  simp only [List.mem_cons, List.not_mem_nil, or_false] at hq
  rcases hq with rfl | rfl | rfl | rfl
  · show nv_SK np_M148 8 "java/lang/IndexOutOfBoundsException" 18 5
    exact sk_at (M := np_M148) (pc := 8) (t := 18) (i := 5) (E := "java/lang/IndexOutOfBoundsException") [] (4, 13, 16, 17) [(4, 13, 21, 19), (4, 13, 26, 21), (4, 13, 31, 23)] rfl (fun z hz => by cases hz) (by decide) (by decide) wd_310 wd_452 (by decide) (Or.inr ⟨dL_sail_16, rfl⟩)
  · show nv_SK np_M148 8 "java/lang/IllegalArgumentException" 23 5
    exact sk_at (M := np_M148) (pc := 8) (t := 23) (i := 5) (E := "java/lang/IllegalArgumentException") [(4, 13, 16, 17)] (4, 13, 21, 19) [(4, 13, 26, 21), (4, 13, 31, 23)] rfl (fun z hz => by
      simp only [List.mem_cons, List.not_mem_nil, or_false] at hz
      rcases hz with rfl
      · exact ⟨by decide, _, wd_310, by decide⟩) (by decide) (by decide) wd_390 wd_465 (by decide) (Or.inr ⟨dL_sail_21, rfl⟩)
  · show nv_SK np_M148 8 "java/lang/IllegalStateException" 28 5
    exact sk_at (M := np_M148) (pc := 8) (t := 28) (i := 5) (E := "java/lang/IllegalStateException") [(4, 13, 16, 17), (4, 13, 21, 19)] (4, 13, 26, 21) [(4, 13, 31, 23)] rfl (fun z hz => by
      simp only [List.mem_cons, List.not_mem_nil, or_false] at hz
      rcases hz with rfl | rfl
      · exact ⟨by decide, _, wd_310, by decide⟩
      · exact ⟨by decide, _, wd_390, by decide⟩) (by decide) (by decide) wd_391 wd_481 (by decide) (Or.inr ⟨dL_sail_26, rfl⟩)
  · show nv_SK np_M148 8 "java/lang/UnsupportedOperationException" 33 5
    exact sk_at (M := np_M148) (pc := 8) (t := 33) (i := 5) (E := "java/lang/UnsupportedOperationException") [(4, 13, 16, 17), (4, 13, 21, 19), (4, 13, 26, 21)] (4, 13, 31, 23) [] rfl (fun z hz => by
      simp only [List.mem_cons, List.not_mem_nil, or_false] at hz
      rcases hz with rfl | rfl | rfl
      · exact ⟨by decide, _, wd_310, by decide⟩
      · exact ⟨by decide, _, wd_390, by decide⟩
      · exact ⟨by decide, _, wd_391, by decide⟩) (by decide) (by decide) wd_392 wd_497 (by decide) (Or.inr ⟨dL_sail_31, rfl⟩)
set_option maxRecDepth 100000 in
set_option maxHeartbeats 4000000 in
theorem ok_148 : nv_all np_M148 148 0 np_c148 := by
  unfold np_c148
  refine na_2 (q := 2) (one_d (so_ldc (M := np_M148) (pc := 0) dL_sail_0 wd_393) (up_cst _ _)) rfl ?_
  refine na_2 (q := 4) (one_d (so_istore (M := np_M148) (pc := 2) dL_sail_2 (by decide)) (up_istore _ _)) rfl ?_
  refine na_1 (q := 5) (one_d (so_aload_n (M := np_M148) (pc := 4) dL_sail_4 rfl) (up_aload _ _)) rfl ?_
  refine na_1 (q := 6) (one_d (so_iload_n (M := np_M148) (pc := 5) dL_sail_5 rfl) (up_iload _ _)) rfl ?_
  refine na_1 (q := 7) (one_d (so_iload_n (M := np_M148) (pc := 6) dL_sail_6 rfl) (up_iload _ _)) rfl ?_
  refine na_1 (q := 8) (one_d (so_iload_n (M := np_M148) (pc := 7) dL_sail_7 rfl) (up_iload _ _)) rfl ?_
  refine na_3 (q := 11) (one_h rfl mq_82 (sc_V (M := np_M148) (pc := 8) dL_sail_8 cw_L_sail_X7_sail rfl wd_848 wd_849 wd_850 (nv_rcO (ci := 5) rfl)) (by decide) rfl sk_L_sail_8) rfl ?_
  refine na_2 (q := 13) (one_d (so_istore (M := np_M148) (pc := 11) dL_sail_11 (by decide)) (up_istore _ _)) rfl ?_
  refine na_3 (q := 16) (one_d (so_goto (M := np_M148) (pc := 13) dL_sail_13 (by decide)) (up_goto _)) rfl ?_
  refine na_n (q := 17) rfl ?_
  refine na_n (q := 18) rfl ?_
  refine na_2 (q := 20) (one_d (so_ldc (M := np_M148) (pc := 18) dL_sail_18 wd_393) (up_cst _ _)) rfl ?_
  refine na_3 (q := 23) (one_d (so_reti (M := np_M148) (pc := 20) dL_sail_20 rfl) (up_reti _)) rfl ?_
  refine na_2 (q := 25) (one_d (so_ldc (M := np_M148) (pc := 23) dL_sail_23 wd_393) (up_cst _ _)) rfl ?_
  refine na_3 (q := 28) (one_d (so_reti (M := np_M148) (pc := 25) dL_sail_25 rfl) (up_reti _)) rfl ?_
  refine na_2 (q := 30) (one_d (so_ldc (M := np_M148) (pc := 28) dL_sail_28 wd_393) (up_cst _ _)) rfl ?_
  refine na_3 (q := 33) (one_d (so_reti (M := np_M148) (pc := 30) dL_sail_30 rfl) (up_reti _)) rfl ?_
  refine na_2 (q := 35) (one_d (so_ldc (M := np_M148) (pc := 33) dL_sail_33 wd_393) (up_cst _ _)) rfl ?_
  refine na_1 (q := 36) (one_d (so_reti (M := np_M148) (pc := 35) dL_sail_35 rfl) (up_reti _)) rfl ?_
  refine na_2 (q := 38) (one_d (so_iload (M := np_M148) (pc := 36) dL_sail_36) (up_iload _ _)) rfl ?_
  refine na_1 (q := 39) (one_d (so_reti (M := np_M148) (pc := 38) dL_sail_38 rfl) (up_reti _)) rfl ?_
  exact na_z
set_option maxRecDepth 100000 in
theorem sk_L_fire_8 : ∀ q ∈ np_hls.getD 149 [], q.1 ≤ 8 → 8 < q.2.1 → nv_SK np_M149 8 q.2.2.1 q.2.2.2.1 q.2.2.2.2 := by
  intro q hq h1 h2
  have hq : q ∈ ([(4, 13, "java/lang/IndexOutOfBoundsException", 18, 5), (4, 13, "java/lang/IllegalArgumentException", 23, 5), (4, 13, "java/lang/IllegalStateException", 28, 5), (4, 13, "java/lang/UnsupportedOperationException", 33, 5)] : List (Nat × Nat × String × Nat × Nat)) := hq
  simp only [List.mem_cons, List.not_mem_nil, or_false] at hq
  rcases hq with rfl | rfl | rfl | rfl
  · show nv_SK np_M149 8 "java/lang/IndexOutOfBoundsException" 18 5
    exact sk_at (M := np_M149) (pc := 8) (t := 18) (i := 5) (E := "java/lang/IndexOutOfBoundsException") [] (4, 13, 16, 17) [(4, 13, 21, 19), (4, 13, 26, 21), (4, 13, 31, 23)] rfl (fun z hz => by cases hz) (by decide) (by decide) wd_310 wd_452 (by decide) (Or.inr ⟨dL_fire_16, rfl⟩)
  · show nv_SK np_M149 8 "java/lang/IllegalArgumentException" 23 5
    exact sk_at (M := np_M149) (pc := 8) (t := 23) (i := 5) (E := "java/lang/IllegalArgumentException") [(4, 13, 16, 17)] (4, 13, 21, 19) [(4, 13, 26, 21), (4, 13, 31, 23)] rfl (fun z hz => by
      simp only [List.mem_cons, List.not_mem_nil, or_false] at hz
      rcases hz with rfl
      · exact ⟨by decide, _, wd_310, by decide⟩) (by decide) (by decide) wd_390 wd_465 (by decide) (Or.inr ⟨dL_fire_21, rfl⟩)
  · show nv_SK np_M149 8 "java/lang/IllegalStateException" 28 5
    exact sk_at (M := np_M149) (pc := 8) (t := 28) (i := 5) (E := "java/lang/IllegalStateException") [(4, 13, 16, 17), (4, 13, 21, 19)] (4, 13, 26, 21) [(4, 13, 31, 23)] rfl (fun z hz => by
      simp only [List.mem_cons, List.not_mem_nil, or_false] at hz
      rcases hz with rfl | rfl
      · exact ⟨by decide, _, wd_310, by decide⟩
      · exact ⟨by decide, _, wd_390, by decide⟩) (by decide) (by decide) wd_391 wd_481 (by decide) (Or.inr ⟨dL_fire_26, rfl⟩)
  · show nv_SK np_M149 8 "java/lang/UnsupportedOperationException" 33 5
    exact sk_at (M := np_M149) (pc := 8) (t := 33) (i := 5) (E := "java/lang/UnsupportedOperationException") [(4, 13, 16, 17), (4, 13, 21, 19), (4, 13, 26, 21)] (4, 13, 31, 23) [] rfl (fun z hz => by
      simp only [List.mem_cons, List.not_mem_nil, or_false] at hz
      rcases hz with rfl | rfl | rfl
      · exact ⟨by decide, _, wd_310, by decide⟩
      · exact ⟨by decide, _, wd_390, by decide⟩
      · exact ⟨by decide, _, wd_391, by decide⟩) (by decide) (by decide) wd_392 wd_497 (by decide) (Or.inr ⟨dL_fire_31, rfl⟩)
set_option maxRecDepth 100000 in
set_option maxHeartbeats 4000000 in
theorem ok_149 : nv_all np_M149 149 0 np_c149 := by
  unfold np_c149
  refine na_2 (q := 2) (one_d (so_ldc (M := np_M149) (pc := 0) dL_fire_0 wd_393) (up_cst _ _)) rfl ?_
  refine na_2 (q := 4) (one_d (so_istore (M := np_M149) (pc := 2) dL_fire_2 (by decide)) (up_istore _ _)) rfl ?_
  refine na_1 (q := 5) (one_d (so_aload_n (M := np_M149) (pc := 4) dL_fire_4 rfl) (up_aload _ _)) rfl ?_
  refine na_1 (q := 6) (one_d (so_iload_n (M := np_M149) (pc := 5) dL_fire_5 rfl) (up_iload _ _)) rfl ?_
  refine na_1 (q := 7) (one_d (so_iload_n (M := np_M149) (pc := 6) dL_fire_6 rfl) (up_iload _ _)) rfl ?_
  refine na_1 (q := 8) (one_d (so_iload_n (M := np_M149) (pc := 7) dL_fire_7 rfl) (up_iload _ _)) rfl ?_
  refine na_3 (q := 11) (one_h rfl mq_83 (sc_V (M := np_M149) (pc := 8) dL_fire_8 cw_L_fire_X7_fire rfl wd_882 wd_883 wd_884 (nv_rcO (ci := 5) rfl)) (by decide) rfl sk_L_fire_8) rfl ?_
  refine na_2 (q := 13) (one_d (so_istore (M := np_M149) (pc := 11) dL_fire_11 (by decide)) (up_istore _ _)) rfl ?_
  refine na_3 (q := 16) (one_d (so_goto (M := np_M149) (pc := 13) dL_fire_13 (by decide)) (up_goto _)) rfl ?_
  refine na_n (q := 17) rfl ?_
  refine na_n (q := 18) rfl ?_
  refine na_2 (q := 20) (one_d (so_ldc (M := np_M149) (pc := 18) dL_fire_18 wd_393) (up_cst _ _)) rfl ?_
  refine na_3 (q := 23) (one_d (so_reti (M := np_M149) (pc := 20) dL_fire_20 rfl) (up_reti _)) rfl ?_
  refine na_2 (q := 25) (one_d (so_ldc (M := np_M149) (pc := 23) dL_fire_23 wd_393) (up_cst _ _)) rfl ?_
  refine na_3 (q := 28) (one_d (so_reti (M := np_M149) (pc := 25) dL_fire_25 rfl) (up_reti _)) rfl ?_
  refine na_2 (q := 30) (one_d (so_ldc (M := np_M149) (pc := 28) dL_fire_28 wd_393) (up_cst _ _)) rfl ?_
  refine na_3 (q := 33) (one_d (so_reti (M := np_M149) (pc := 30) dL_fire_30 rfl) (up_reti _)) rfl ?_
  refine na_2 (q := 35) (one_d (so_ldc (M := np_M149) (pc := 33) dL_fire_33 wd_393) (up_cst _ _)) rfl ?_
  refine na_1 (q := 36) (one_d (so_reti (M := np_M149) (pc := 35) dL_fire_35 rfl) (up_reti _)) rfl ?_
  refine na_2 (q := 38) (one_d (so_iload (M := np_M149) (pc := 36) dL_fire_36) (up_iload _ _)) rfl ?_
  refine na_1 (q := 39) (one_d (so_reti (M := np_M149) (pc := 38) dL_fire_38 rfl) (up_reti _)) rfl ?_
  exact na_z
set_option maxRecDepth 100000 in
theorem sk_L_load_6 : ∀ q ∈ np_hls.getD 150 [], q.1 ≤ 6 → 6 < q.2.1 → nv_SK np_M150 6 q.2.2.1 q.2.2.2.1 q.2.2.2.2 := by
  intro q hq h1 h2
  have hq : q ∈ ([(3, 10, "java/lang/IndexOutOfBoundsException", 15, 4), (3, 10, "java/lang/IllegalArgumentException", 20, 4), (3, 10, "java/lang/IllegalStateException", 25, 4), (3, 10, "java/lang/UnsupportedOperationException", 30, 4)] : List (Nat × Nat × String × Nat × Nat)) := hq
  simp only [List.mem_cons, List.not_mem_nil, or_false] at hq
  rcases hq with rfl | rfl | rfl | rfl
  · show nv_SK np_M150 6 "java/lang/IndexOutOfBoundsException" 15 4
    exact sk_at (M := np_M150) (pc := 6) (t := 15) (i := 4) (E := "java/lang/IndexOutOfBoundsException") [] (3, 10, 13, 17) [(3, 10, 18, 19), (3, 10, 23, 21), (3, 10, 28, 23)] rfl (fun z hz => by cases hz) (by decide) (by decide) wd_310 wd_452 (by decide) (Or.inr ⟨dL_load_13, rfl⟩)
  · show nv_SK np_M150 6 "java/lang/IllegalArgumentException" 20 4
    exact sk_at (M := np_M150) (pc := 6) (t := 20) (i := 4) (E := "java/lang/IllegalArgumentException") [(3, 10, 13, 17)] (3, 10, 18, 19) [(3, 10, 23, 21), (3, 10, 28, 23)] rfl (fun z hz => by
      simp only [List.mem_cons, List.not_mem_nil, or_false] at hz
      rcases hz with rfl
      · exact ⟨by decide, _, wd_310, by decide⟩) (by decide) (by decide) wd_390 wd_465 (by decide) (Or.inr ⟨dL_load_18, rfl⟩)
  · show nv_SK np_M150 6 "java/lang/IllegalStateException" 25 4
    exact sk_at (M := np_M150) (pc := 6) (t := 25) (i := 4) (E := "java/lang/IllegalStateException") [(3, 10, 13, 17), (3, 10, 18, 19)] (3, 10, 23, 21) [(3, 10, 28, 23)] rfl (fun z hz => by
      simp only [List.mem_cons, List.not_mem_nil, or_false] at hz
      rcases hz with rfl | rfl
      · exact ⟨by decide, _, wd_310, by decide⟩
      · exact ⟨by decide, _, wd_390, by decide⟩) (by decide) (by decide) wd_391 wd_481 (by decide) (Or.inr ⟨dL_load_23, rfl⟩)
  · show nv_SK np_M150 6 "java/lang/UnsupportedOperationException" 30 4
    exact sk_at (M := np_M150) (pc := 6) (t := 30) (i := 4) (E := "java/lang/UnsupportedOperationException") [(3, 10, 13, 17), (3, 10, 18, 19), (3, 10, 23, 21)] (3, 10, 28, 23) [] rfl (fun z hz => by
      simp only [List.mem_cons, List.not_mem_nil, or_false] at hz
      rcases hz with rfl | rfl | rfl
      · exact ⟨by decide, _, wd_310, by decide⟩
      · exact ⟨by decide, _, wd_390, by decide⟩
      · exact ⟨by decide, _, wd_391, by decide⟩) (by decide) (by decide) wd_392 wd_497 (by decide) (Or.inr ⟨dL_load_28, rfl⟩)
set_option maxRecDepth 100000 in
set_option maxHeartbeats 4000000 in
theorem ok_150 : nv_all np_M150 150 0 np_c150 := by
  unfold np_c150
  refine na_2 (q := 2) (one_d (so_ldc (M := np_M150) (pc := 0) dL_load_0 wd_393) (up_cst _ _)) rfl ?_
  refine na_1 (q := 3) (one_d (so_istore_n (M := np_M150) (pc := 2) dL_load_2 rfl (by decide)) (up_istore _ _)) rfl ?_
  refine na_1 (q := 4) (one_d (so_aload_n (M := np_M150) (pc := 3) dL_load_3 rfl) (up_aload _ _)) rfl ?_
  refine na_1 (q := 5) (one_d (so_iload_n (M := np_M150) (pc := 4) dL_load_4 rfl) (up_iload _ _)) rfl ?_
  refine na_1 (q := 6) (one_d (so_iload_n (M := np_M150) (pc := 5) dL_load_5 rfl) (up_iload _ _)) rfl ?_
  refine na_3 (q := 9) (one_h rfl mq_84 (sc_V (M := np_M150) (pc := 6) dL_load_6 cw_L_load_X7_load rfl wd_576 wd_577 wd_578 (nv_rcO (ci := 5) rfl)) (by decide) rfl sk_L_load_6) rfl ?_
  refine na_1 (q := 10) (one_d (so_istore_n (M := np_M150) (pc := 9) dL_load_9 rfl (by decide)) (up_istore _ _)) rfl ?_
  refine na_3 (q := 13) (one_d (so_goto (M := np_M150) (pc := 10) dL_load_10 (by decide)) (up_goto _)) rfl ?_
  refine na_n (q := 14) rfl ?_
  refine na_n (q := 15) rfl ?_
  refine na_2 (q := 17) (one_d (so_ldc (M := np_M150) (pc := 15) dL_load_15 wd_393) (up_cst _ _)) rfl ?_
  refine na_3 (q := 20) (one_d (so_reti (M := np_M150) (pc := 17) dL_load_17 rfl) (up_reti _)) rfl ?_
  refine na_2 (q := 22) (one_d (so_ldc (M := np_M150) (pc := 20) dL_load_20 wd_393) (up_cst _ _)) rfl ?_
  refine na_3 (q := 25) (one_d (so_reti (M := np_M150) (pc := 22) dL_load_22 rfl) (up_reti _)) rfl ?_
  refine na_2 (q := 27) (one_d (so_ldc (M := np_M150) (pc := 25) dL_load_25 wd_393) (up_cst _ _)) rfl ?_
  refine na_3 (q := 30) (one_d (so_reti (M := np_M150) (pc := 27) dL_load_27 rfl) (up_reti _)) rfl ?_
  refine na_2 (q := 32) (one_d (so_ldc (M := np_M150) (pc := 30) dL_load_30 wd_393) (up_cst _ _)) rfl ?_
  refine na_1 (q := 33) (one_d (so_reti (M := np_M150) (pc := 32) dL_load_32 rfl) (up_reti _)) rfl ?_
  refine na_1 (q := 34) (one_d (so_iload_n (M := np_M150) (pc := 33) dL_load_33 rfl) (up_iload _ _)) rfl ?_
  refine na_1 (q := 35) (one_d (so_reti (M := np_M150) (pc := 34) dL_load_34 rfl) (up_reti _)) rfl ?_
  exact na_z
set_option maxRecDepth 100000 in
theorem sk_L_xOf_6 : ∀ q ∈ np_hls.getD 151 [], q.1 ≤ 6 → 6 < q.2.1 → nv_SK np_M151 6 q.2.2.1 q.2.2.2.1 q.2.2.2.2 := by
  intro q hq h1 h2
  have hq : q ∈ ([(4, 10, "java/lang/IndexOutOfBoundsException", 14, 3), (4, 10, "java/util/NoSuchElementException", 19, 3)] : List (Nat × Nat × String × Nat × Nat)) := hq
  simp only [List.mem_cons, List.not_mem_nil, or_false] at hq
  rcases hq with rfl | rfl
  · show nv_SK np_M151 6 "java/lang/IndexOutOfBoundsException" 14 3
    exact sk_at (M := np_M151) (pc := 6) (t := 14) (i := 3) (E := "java/lang/IndexOutOfBoundsException") [] (4, 10, 13, 17) [(4, 10, 18, 59)] rfl (fun z hz => by cases hz) (by decide) (by decide) wd_310 wd_452 (by decide) (Or.inl ⟨3, dL_xOf_13, rfl, rfl⟩)
  · show nv_SK np_M151 6 "java/util/NoSuchElementException" 19 3
    exact sk_at (M := np_M151) (pc := 6) (t := 19) (i := 3) (E := "java/util/NoSuchElementException") [(4, 10, 13, 17)] (4, 10, 18, 59) [] rfl (fun z hz => by
      simp only [List.mem_cons, List.not_mem_nil, or_false] at hz
      rcases hz with rfl
      · exact ⟨by decide, _, wd_310, by decide⟩) (by decide) (by decide) wd_775 wd_782 (by decide) (Or.inl ⟨3, dL_xOf_18, rfl, rfl⟩)
set_option maxRecDepth 100000 in
set_option maxHeartbeats 4000000 in
theorem ok_151 : nv_all np_M151 151 0 np_c151 := by
  unfold np_c151
  refine na_3 (q := 3) (one_d (so_sipush (M := np_M151) (pc := 0) dL_xOf_0 (by decide)) (up_cst _ _)) rfl ?_
  refine na_1 (q := 4) (one_d (so_istore_n (M := np_M151) (pc := 3) dL_xOf_3 rfl (by decide)) (up_istore _ _)) rfl ?_
  refine na_1 (q := 5) (one_d (so_aload_n (M := np_M151) (pc := 4) dL_xOf_4 rfl) (up_aload _ _)) rfl ?_
  refine na_1 (q := 6) (one_d (so_iload_n (M := np_M151) (pc := 5) dL_xOf_5 rfl) (up_iload _ _)) rfl ?_
  refine na_3 (q := 9) (one_h rfl mq_87 (sc_V (M := np_M151) (pc := 6) dL_xOf_6 cw_L_xOf_X7_xOf rfl wd_855 wd_856 wd_857 (nv_rcO (ci := 5) rfl)) (by decide) rfl sk_L_xOf_6) rfl ?_
  refine na_1 (q := 10) (one_d (so_istore_n (M := np_M151) (pc := 9) dL_xOf_9 rfl (by decide)) (up_istore _ _)) rfl ?_
  refine na_3 (q := 13) (one_d (so_goto (M := np_M151) (pc := 10) dL_xOf_10 (by decide)) (up_goto _)) rfl ?_
  refine na_n (q := 14) rfl ?_
  refine na_3 (q := 17) (one_d (so_sipush (M := np_M151) (pc := 14) dL_xOf_14 (by decide)) (up_cst _ _)) rfl ?_
  refine na_2 (q := 19) (one_d (so_reti (M := np_M151) (pc := 17) dL_xOf_17 rfl) (up_reti _)) rfl ?_
  refine na_3 (q := 22) (one_d (so_sipush (M := np_M151) (pc := 19) dL_xOf_19 (by decide)) (up_cst _ _)) rfl ?_
  refine na_1 (q := 23) (one_d (so_reti (M := np_M151) (pc := 22) dL_xOf_22 rfl) (up_reti _)) rfl ?_
  refine na_1 (q := 24) (one_d (so_iload_n (M := np_M151) (pc := 23) dL_xOf_23 rfl) (up_iload _ _)) rfl ?_
  refine na_1 (q := 25) (one_d (so_reti (M := np_M151) (pc := 24) dL_xOf_24 rfl) (up_reti _)) rfl ?_
  exact na_z
set_option maxRecDepth 100000 in
theorem sk_L_yOf_6 : ∀ q ∈ np_hls.getD 152 [], q.1 ≤ 6 → 6 < q.2.1 → nv_SK np_M152 6 q.2.2.1 q.2.2.2.1 q.2.2.2.2 := by
  intro q hq h1 h2
  have hq : q ∈ ([(4, 10, "java/lang/IndexOutOfBoundsException", 14, 3), (4, 10, "java/util/NoSuchElementException", 19, 3)] : List (Nat × Nat × String × Nat × Nat)) := hq
  simp only [List.mem_cons, List.not_mem_nil, or_false] at hq
  rcases hq with rfl | rfl
  · show nv_SK np_M152 6 "java/lang/IndexOutOfBoundsException" 14 3
    exact sk_at (M := np_M152) (pc := 6) (t := 14) (i := 3) (E := "java/lang/IndexOutOfBoundsException") [] (4, 10, 13, 17) [(4, 10, 18, 59)] rfl (fun z hz => by cases hz) (by decide) (by decide) wd_310 wd_452 (by decide) (Or.inl ⟨3, dL_yOf_13, rfl, rfl⟩)
  · show nv_SK np_M152 6 "java/util/NoSuchElementException" 19 3
    exact sk_at (M := np_M152) (pc := 6) (t := 19) (i := 3) (E := "java/util/NoSuchElementException") [(4, 10, 13, 17)] (4, 10, 18, 59) [] rfl (fun z hz => by
      simp only [List.mem_cons, List.not_mem_nil, or_false] at hz
      rcases hz with rfl
      · exact ⟨by decide, _, wd_310, by decide⟩) (by decide) (by decide) wd_775 wd_782 (by decide) (Or.inl ⟨3, dL_yOf_18, rfl, rfl⟩)
set_option maxRecDepth 100000 in
set_option maxHeartbeats 4000000 in
theorem ok_152 : nv_all np_M152 152 0 np_c152 := by
  unfold np_c152
  refine na_3 (q := 3) (one_d (so_sipush (M := np_M152) (pc := 0) dL_yOf_0 (by decide)) (up_cst _ _)) rfl ?_
  refine na_1 (q := 4) (one_d (so_istore_n (M := np_M152) (pc := 3) dL_yOf_3 rfl (by decide)) (up_istore _ _)) rfl ?_
  refine na_1 (q := 5) (one_d (so_aload_n (M := np_M152) (pc := 4) dL_yOf_4 rfl) (up_aload _ _)) rfl ?_
  refine na_1 (q := 6) (one_d (so_iload_n (M := np_M152) (pc := 5) dL_yOf_5 rfl) (up_iload _ _)) rfl ?_
  refine na_3 (q := 9) (one_h rfl mq_88 (sc_V (M := np_M152) (pc := 6) dL_yOf_6 cw_L_yOf_X7_yOf rfl wd_875 wd_876 wd_877 (nv_rcO (ci := 5) rfl)) (by decide) rfl sk_L_yOf_6) rfl ?_
  refine na_1 (q := 10) (one_d (so_istore_n (M := np_M152) (pc := 9) dL_yOf_9 rfl (by decide)) (up_istore _ _)) rfl ?_
  refine na_3 (q := 13) (one_d (so_goto (M := np_M152) (pc := 10) dL_yOf_10 (by decide)) (up_goto _)) rfl ?_
  refine na_n (q := 14) rfl ?_
  refine na_3 (q := 17) (one_d (so_sipush (M := np_M152) (pc := 14) dL_yOf_14 (by decide)) (up_cst _ _)) rfl ?_
  refine na_2 (q := 19) (one_d (so_reti (M := np_M152) (pc := 17) dL_yOf_17 rfl) (up_reti _)) rfl ?_
  refine na_3 (q := 22) (one_d (so_sipush (M := np_M152) (pc := 19) dL_yOf_19 (by decide)) (up_cst _ _)) rfl ?_
  refine na_1 (q := 23) (one_d (so_reti (M := np_M152) (pc := 22) dL_yOf_22 rfl) (up_reti _)) rfl ?_
  refine na_1 (q := 24) (one_d (so_iload_n (M := np_M152) (pc := 23) dL_yOf_23 rfl) (up_iload _ _)) rfl ?_
  refine na_1 (q := 25) (one_d (so_reti (M := np_M152) (pc := 24) dL_yOf_24 rfl) (up_reti _)) rfl ?_
  exact na_z
set_option maxRecDepth 100000 in
theorem sk_L_spoonAt_7 : ∀ q ∈ np_hls.getD 153 [], q.1 ≤ 7 → 7 < q.2.1 → nv_SK np_M153 7 q.2.2.1 q.2.2.2.1 q.2.2.2.2 := by
  intro q hq h1 h2
  have hq : q ∈ ([(4, 11, "java/lang/IllegalArgumentException", 16, 4), (4, 11, "java/util/NoSuchElementException", 22, 4)] : List (Nat × Nat × String × Nat × Nat)) := hq
  simp only [List.mem_cons, List.not_mem_nil, or_false] at hq
  rcases hq with rfl | rfl
  · show nv_SK np_M153 7 "java/lang/IllegalArgumentException" 16 4
    exact sk_at (M := np_M153) (pc := 7) (t := 16) (i := 4) (E := "java/lang/IllegalArgumentException") [] (4, 11, 14, 19) [(4, 11, 20, 59)] rfl (fun z hz => by cases hz) (by decide) (by decide) wd_390 wd_465 (by decide) (Or.inr ⟨dL_spoonAt_14, rfl⟩)
  · show nv_SK np_M153 7 "java/util/NoSuchElementException" 22 4
    exact sk_at (M := np_M153) (pc := 7) (t := 22) (i := 4) (E := "java/util/NoSuchElementException") [(4, 11, 14, 19)] (4, 11, 20, 59) [] rfl (fun z hz => by
      simp only [List.mem_cons, List.not_mem_nil, or_false] at hz
      rcases hz with rfl
      · exact ⟨by decide, _, wd_390, by decide⟩) (by decide) (by decide) wd_775 wd_782 (by decide) (Or.inr ⟨dL_spoonAt_20, rfl⟩)
set_option maxRecDepth 100000 in
set_option maxHeartbeats 4000000 in
theorem ok_153 : nv_all np_M153 153 0 np_c153 := by
  unfold np_c153
  refine na_3 (q := 3) (one_d (so_sipush (M := np_M153) (pc := 0) dL_spoonAt_0 (by decide)) (up_cst _ _)) rfl ?_
  refine na_1 (q := 4) (one_d (so_istore_n (M := np_M153) (pc := 3) dL_spoonAt_3 rfl (by decide)) (up_istore _ _)) rfl ?_
  refine na_1 (q := 5) (one_d (so_aload_n (M := np_M153) (pc := 4) dL_spoonAt_4 rfl) (up_aload _ _)) rfl ?_
  refine na_1 (q := 6) (one_d (so_iload_n (M := np_M153) (pc := 5) dL_spoonAt_5 rfl) (up_iload _ _)) rfl ?_
  refine na_1 (q := 7) (one_d (so_iload_n (M := np_M153) (pc := 6) dL_spoonAt_6 rfl) (up_iload _ _)) rfl ?_
  refine na_3 (q := 10) (one_h rfl mq_93 (sc_V (M := np_M153) (pc := 7) dL_spoonAt_7 cw_L_spoonAt_X7_spoonAt rfl wd_1114 wd_1115 wd_1116 (nv_rcO (ci := 5) rfl)) (by decide) rfl sk_L_spoonAt_7) rfl ?_
  refine na_1 (q := 11) (one_d (so_istore_n (M := np_M153) (pc := 10) dL_spoonAt_10 rfl (by decide)) (up_istore _ _)) rfl ?_
  refine na_3 (q := 14) (one_d (so_goto (M := np_M153) (pc := 11) dL_spoonAt_11 (by decide)) (up_goto _)) rfl ?_
  refine na_n (q := 15) rfl ?_
  refine na_n (q := 16) rfl ?_
  refine na_3 (q := 19) (one_d (so_sipush (M := np_M153) (pc := 16) dL_spoonAt_16 (by decide)) (up_cst _ _)) rfl ?_
  refine na_3 (q := 22) (one_d (so_reti (M := np_M153) (pc := 19) dL_spoonAt_19 rfl) (up_reti _)) rfl ?_
  refine na_3 (q := 25) (one_d (so_sipush (M := np_M153) (pc := 22) dL_spoonAt_22 (by decide)) (up_cst _ _)) rfl ?_
  refine na_1 (q := 26) (one_d (so_reti (M := np_M153) (pc := 25) dL_spoonAt_25 rfl) (up_reti _)) rfl ?_
  refine na_1 (q := 27) (one_d (so_iload_n (M := np_M153) (pc := 26) dL_spoonAt_26 rfl) (up_iload _ _)) rfl ?_
  refine na_1 (q := 28) (one_d (so_reti (M := np_M153) (pc := 27) dL_spoonAt_27 rfl) (up_reti _)) rfl ?_
  exact na_z
set_option maxRecDepth 100000 in
theorem sk_L_knownX_6 : ∀ q ∈ np_hls.getD 154 [], q.1 ≤ 6 → 6 < q.2.1 → nv_SK np_M154 6 q.2.2.1 q.2.2.2.1 q.2.2.2.2 := by
  intro q hq h1 h2
  have hq : q ∈ ([(4, 10, "java/lang/IndexOutOfBoundsException", 14, 3), (4, 10, "java/util/NoSuchElementException", 19, 3)] : List (Nat × Nat × String × Nat × Nat)) := hq
  simp only [List.mem_cons, List.not_mem_nil, or_false] at hq
  rcases hq with rfl | rfl
  · show nv_SK np_M154 6 "java/lang/IndexOutOfBoundsException" 14 3
    exact sk_at (M := np_M154) (pc := 6) (t := 14) (i := 3) (E := "java/lang/IndexOutOfBoundsException") [] (4, 10, 13, 17) [(4, 10, 18, 59)] rfl (fun z hz => by cases hz) (by decide) (by decide) wd_310 wd_452 (by decide) (Or.inl ⟨3, dL_knownX_13, rfl, rfl⟩)
  · show nv_SK np_M154 6 "java/util/NoSuchElementException" 19 3
    exact sk_at (M := np_M154) (pc := 6) (t := 19) (i := 3) (E := "java/util/NoSuchElementException") [(4, 10, 13, 17)] (4, 10, 18, 59) [] rfl (fun z hz => by
      simp only [List.mem_cons, List.not_mem_nil, or_false] at hz
      rcases hz with rfl
      · exact ⟨by decide, _, wd_310, by decide⟩) (by decide) (by decide) wd_775 wd_782 (by decide) (Or.inl ⟨3, dL_knownX_18, rfl, rfl⟩)
set_option maxRecDepth 100000 in
set_option maxHeartbeats 4000000 in
theorem ok_154 : nv_all np_M154 154 0 np_c154 := by
  unfold np_c154
  refine na_3 (q := 3) (one_d (so_sipush (M := np_M154) (pc := 0) dL_knownX_0 (by decide)) (up_cst _ _)) rfl ?_
  refine na_1 (q := 4) (one_d (so_istore_n (M := np_M154) (pc := 3) dL_knownX_3 rfl (by decide)) (up_istore _ _)) rfl ?_
  refine na_1 (q := 5) (one_d (so_aload_n (M := np_M154) (pc := 4) dL_knownX_4 rfl) (up_aload _ _)) rfl ?_
  refine na_1 (q := 6) (one_d (so_iload_n (M := np_M154) (pc := 5) dL_knownX_5 rfl) (up_iload _ _)) rfl ?_
  refine na_3 (q := 9) (one_h rfl mq_94 (sc_V (M := np_M154) (pc := 6) dL_knownX_6 cw_L_knownX_X7_knownX rfl wd_973 wd_974 wd_975 (nv_rcO (ci := 5) rfl)) (by decide) rfl sk_L_knownX_6) rfl ?_
  refine na_1 (q := 10) (one_d (so_istore_n (M := np_M154) (pc := 9) dL_knownX_9 rfl (by decide)) (up_istore _ _)) rfl ?_
  refine na_3 (q := 13) (one_d (so_goto (M := np_M154) (pc := 10) dL_knownX_10 (by decide)) (up_goto _)) rfl ?_
  refine na_n (q := 14) rfl ?_
  refine na_3 (q := 17) (one_d (so_sipush (M := np_M154) (pc := 14) dL_knownX_14 (by decide)) (up_cst _ _)) rfl ?_
  refine na_2 (q := 19) (one_d (so_reti (M := np_M154) (pc := 17) dL_knownX_17 rfl) (up_reti _)) rfl ?_
  refine na_3 (q := 22) (one_d (so_sipush (M := np_M154) (pc := 19) dL_knownX_19 (by decide)) (up_cst _ _)) rfl ?_
  refine na_1 (q := 23) (one_d (so_reti (M := np_M154) (pc := 22) dL_knownX_22 rfl) (up_reti _)) rfl ?_
  refine na_1 (q := 24) (one_d (so_iload_n (M := np_M154) (pc := 23) dL_knownX_23 rfl) (up_iload _ _)) rfl ?_
  refine na_1 (q := 25) (one_d (so_reti (M := np_M154) (pc := 24) dL_knownX_24 rfl) (up_reti _)) rfl ?_
  exact na_z
set_option maxRecDepth 100000 in
theorem sk_L_knownY_6 : ∀ q ∈ np_hls.getD 155 [], q.1 ≤ 6 → 6 < q.2.1 → nv_SK np_M155 6 q.2.2.1 q.2.2.2.1 q.2.2.2.2 := by
  intro q hq h1 h2
  have hq : q ∈ ([(4, 10, "java/lang/IndexOutOfBoundsException", 14, 3), (4, 10, "java/util/NoSuchElementException", 19, 3)] : List (Nat × Nat × String × Nat × Nat)) := hq
  simp only [List.mem_cons, List.not_mem_nil, or_false] at hq
  rcases hq with rfl | rfl
  · show nv_SK np_M155 6 "java/lang/IndexOutOfBoundsException" 14 3
    exact sk_at (M := np_M155) (pc := 6) (t := 14) (i := 3) (E := "java/lang/IndexOutOfBoundsException") [] (4, 10, 13, 17) [(4, 10, 18, 59)] rfl (fun z hz => by cases hz) (by decide) (by decide) wd_310 wd_452 (by decide) (Or.inl ⟨3, dL_knownY_13, rfl, rfl⟩)
  · show nv_SK np_M155 6 "java/util/NoSuchElementException" 19 3
    exact sk_at (M := np_M155) (pc := 6) (t := 19) (i := 3) (E := "java/util/NoSuchElementException") [(4, 10, 13, 17)] (4, 10, 18, 59) [] rfl (fun z hz => by
      simp only [List.mem_cons, List.not_mem_nil, or_false] at hz
      rcases hz with rfl
      · exact ⟨by decide, _, wd_310, by decide⟩) (by decide) (by decide) wd_775 wd_782 (by decide) (Or.inl ⟨3, dL_knownY_18, rfl, rfl⟩)
set_option maxRecDepth 100000 in
set_option maxHeartbeats 4000000 in
theorem ok_155 : nv_all np_M155 155 0 np_c155 := by
  unfold np_c155
  refine na_3 (q := 3) (one_d (so_sipush (M := np_M155) (pc := 0) dL_knownY_0 (by decide)) (up_cst _ _)) rfl ?_
  refine na_1 (q := 4) (one_d (so_istore_n (M := np_M155) (pc := 3) dL_knownY_3 rfl (by decide)) (up_istore _ _)) rfl ?_
  refine na_1 (q := 5) (one_d (so_aload_n (M := np_M155) (pc := 4) dL_knownY_4 rfl) (up_aload _ _)) rfl ?_
  refine na_1 (q := 6) (one_d (so_iload_n (M := np_M155) (pc := 5) dL_knownY_5 rfl) (up_iload _ _)) rfl ?_
  refine na_3 (q := 9) (one_h rfl mq_95 (sc_V (M := np_M155) (pc := 6) dL_knownY_6 cw_L_knownY_X7_knownY rfl wd_980 wd_981 wd_982 (nv_rcO (ci := 5) rfl)) (by decide) rfl sk_L_knownY_6) rfl ?_
  refine na_1 (q := 10) (one_d (so_istore_n (M := np_M155) (pc := 9) dL_knownY_9 rfl (by decide)) (up_istore _ _)) rfl ?_
  refine na_3 (q := 13) (one_d (so_goto (M := np_M155) (pc := 10) dL_knownY_10 (by decide)) (up_goto _)) rfl ?_
  refine na_n (q := 14) rfl ?_
  refine na_3 (q := 17) (one_d (so_sipush (M := np_M155) (pc := 14) dL_knownY_14 (by decide)) (up_cst _ _)) rfl ?_
  refine na_2 (q := 19) (one_d (so_reti (M := np_M155) (pc := 17) dL_knownY_17 rfl) (up_reti _)) rfl ?_
  refine na_3 (q := 22) (one_d (so_sipush (M := np_M155) (pc := 19) dL_knownY_19 (by decide)) (up_cst _ _)) rfl ?_
  refine na_1 (q := 23) (one_d (so_reti (M := np_M155) (pc := 22) dL_knownY_22 rfl) (up_reti _)) rfl ?_
  refine na_1 (q := 24) (one_d (so_iload_n (M := np_M155) (pc := 23) dL_knownY_23 rfl) (up_iload _ _)) rfl ?_
  refine na_1 (q := 25) (one_d (so_reti (M := np_M155) (pc := 24) dL_knownY_24 rfl) (up_reti _)) rfl ?_
  exact na_z
set_option maxRecDepth 100000 in
theorem sk_L_spoonAtRank_6 : ∀ q ∈ np_hls.getD 156 [], q.1 ≤ 6 → 6 < q.2.1 → nv_SK np_M156 6 q.2.2.1 q.2.2.2.1 q.2.2.2.2 := by
  intro q hq h1 h2
  have hq : q ∈ ([(4, 10, "java/util/NoSuchElementException", 14, 3)] : List (Nat × Nat × String × Nat × Nat)) := hq
  simp only [List.mem_cons, List.not_mem_nil, or_false] at hq
  rcases hq with rfl
  · show nv_SK np_M156 6 "java/util/NoSuchElementException" 14 3
    exact sk_at (M := np_M156) (pc := 6) (t := 14) (i := 3) (E := "java/util/NoSuchElementException") [] (4, 10, 13, 59) [] rfl (fun z hz => by cases hz) (by decide) (by decide) wd_775 wd_782 (by decide) (Or.inl ⟨3, dL_spoonAtRank_13, rfl, rfl⟩)
set_option maxRecDepth 100000 in
set_option maxHeartbeats 4000000 in
theorem ok_156 : nv_all np_M156 156 0 np_c156 := by
  unfold np_c156
  refine na_3 (q := 3) (one_d (so_sipush (M := np_M156) (pc := 0) dL_spoonAtRank_0 (by decide)) (up_cst _ _)) rfl ?_
  refine na_1 (q := 4) (one_d (so_istore_n (M := np_M156) (pc := 3) dL_spoonAtRank_3 rfl (by decide)) (up_istore _ _)) rfl ?_
  refine na_1 (q := 5) (one_d (so_aload_n (M := np_M156) (pc := 4) dL_spoonAtRank_4 rfl) (up_aload _ _)) rfl ?_
  refine na_1 (q := 6) (one_d (so_iload_n (M := np_M156) (pc := 5) dL_spoonAtRank_5 rfl) (up_iload _ _)) rfl ?_
  refine na_3 (q := 9) (one_h rfl mq_98 (sc_V (M := np_M156) (pc := 6) dL_spoonAtRank_6 cw_L_spoonAtRank_X7_spoonAtRank rfl wd_1127 wd_1128 wd_1129 (nv_rcO (ci := 5) rfl)) (by decide) rfl sk_L_spoonAtRank_6) rfl ?_
  refine na_1 (q := 10) (one_d (so_istore_n (M := np_M156) (pc := 9) dL_spoonAtRank_9 rfl (by decide)) (up_istore _ _)) rfl ?_
  refine na_3 (q := 13) (one_d (so_goto (M := np_M156) (pc := 10) dL_spoonAtRank_10 (by decide)) (up_goto _)) rfl ?_
  refine na_n (q := 14) rfl ?_
  refine na_3 (q := 17) (one_d (so_sipush (M := np_M156) (pc := 14) dL_spoonAtRank_14 (by decide)) (up_cst _ _)) rfl ?_
  refine na_1 (q := 18) (one_d (so_reti (M := np_M156) (pc := 17) dL_spoonAtRank_17 rfl) (up_reti _)) rfl ?_
  refine na_1 (q := 19) (one_d (so_iload_n (M := np_M156) (pc := 18) dL_spoonAtRank_18 rfl) (up_iload _ _)) rfl ?_
  refine na_1 (q := 20) (one_d (so_reti (M := np_M156) (pc := 19) dL_spoonAtRank_19 rfl) (up_reti _)) rfl ?_
  exact na_z
set_option maxRecDepth 100000 in
theorem sk_L_distance_7 : ∀ q ∈ np_hls.getD 157 [], q.1 ≤ 7 → 7 < q.2.1 → nv_SK np_M157 7 q.2.2.1 q.2.2.2.1 q.2.2.2.2 := by
  intro q hq h1 h2
  have hq : q ∈ ([(4, 11, "java/lang/IndexOutOfBoundsException", 16, 4), (4, 11, "java/util/NoSuchElementException", 22, 4)] : List (Nat × Nat × String × Nat × Nat)) := hq
  simp only [List.mem_cons, List.not_mem_nil, or_false] at hq
  rcases hq with rfl | rfl
  · show nv_SK np_M157 7 "java/lang/IndexOutOfBoundsException" 16 4
    exact sk_at (M := np_M157) (pc := 7) (t := 16) (i := 4) (E := "java/lang/IndexOutOfBoundsException") [] (4, 11, 14, 17) [(4, 11, 20, 59)] rfl (fun z hz => by cases hz) (by decide) (by decide) wd_310 wd_452 (by decide) (Or.inr ⟨dL_distance_14, rfl⟩)
  · show nv_SK np_M157 7 "java/util/NoSuchElementException" 22 4
    exact sk_at (M := np_M157) (pc := 7) (t := 22) (i := 4) (E := "java/util/NoSuchElementException") [(4, 11, 14, 17)] (4, 11, 20, 59) [] rfl (fun z hz => by
      simp only [List.mem_cons, List.not_mem_nil, or_false] at hz
      rcases hz with rfl
      · exact ⟨by decide, _, wd_310, by decide⟩) (by decide) (by decide) wd_775 wd_782 (by decide) (Or.inr ⟨dL_distance_20, rfl⟩)
set_option maxRecDepth 100000 in
set_option maxHeartbeats 4000000 in
theorem ok_157 : nv_all np_M157 157 0 np_c157 := by
  unfold np_c157
  refine na_3 (q := 3) (one_d (so_sipush (M := np_M157) (pc := 0) dL_distance_0 (by decide)) (up_cst _ _)) rfl ?_
  refine na_1 (q := 4) (one_d (so_istore_n (M := np_M157) (pc := 3) dL_distance_3 rfl (by decide)) (up_istore _ _)) rfl ?_
  refine na_1 (q := 5) (one_d (so_aload_n (M := np_M157) (pc := 4) dL_distance_4 rfl) (up_aload _ _)) rfl ?_
  refine na_1 (q := 6) (one_d (so_iload_n (M := np_M157) (pc := 5) dL_distance_5 rfl) (up_iload _ _)) rfl ?_
  refine na_1 (q := 7) (one_d (so_iload_n (M := np_M157) (pc := 6) dL_distance_6 rfl) (up_iload _ _)) rfl ?_
  refine na_3 (q := 10) (one_h rfl mq_99 (sc_V (M := np_M157) (pc := 7) dL_distance_7 cw_L_distance_X7_distance rfl wd_1182 wd_1183 wd_1184 (nv_rcO (ci := 5) rfl)) (by decide) rfl sk_L_distance_7) rfl ?_
  refine na_1 (q := 11) (one_d (so_istore_n (M := np_M157) (pc := 10) dL_distance_10 rfl (by decide)) (up_istore _ _)) rfl ?_
  refine na_3 (q := 14) (one_d (so_goto (M := np_M157) (pc := 11) dL_distance_11 (by decide)) (up_goto _)) rfl ?_
  refine na_n (q := 15) rfl ?_
  refine na_n (q := 16) rfl ?_
  refine na_3 (q := 19) (one_d (so_sipush (M := np_M157) (pc := 16) dL_distance_16 (by decide)) (up_cst _ _)) rfl ?_
  refine na_3 (q := 22) (one_d (so_reti (M := np_M157) (pc := 19) dL_distance_19 rfl) (up_reti _)) rfl ?_
  refine na_3 (q := 25) (one_d (so_sipush (M := np_M157) (pc := 22) dL_distance_22 (by decide)) (up_cst _ _)) rfl ?_
  refine na_1 (q := 26) (one_d (so_reti (M := np_M157) (pc := 25) dL_distance_25 rfl) (up_reti _)) rfl ?_
  refine na_1 (q := 27) (one_d (so_iload_n (M := np_M157) (pc := 26) dL_distance_26 rfl) (up_iload _ _)) rfl ?_
  refine na_1 (q := 28) (one_d (so_reti (M := np_M157) (pc := 27) dL_distance_27 rfl) (up_reti _)) rfl ?_
  exact na_z
set_option maxRecDepth 100000 in
theorem sk_L_directionTo_9 : ∀ q ∈ np_hls.getD 158 [], q.1 ≤ 9 → 9 < q.2.1 → nv_SK np_M158 9 q.2.2.1 q.2.2.2.1 q.2.2.2.2 := by
  intro q hq h1 h2
  have hq : q ∈ ([(5, 14, "java/lang/IndexOutOfBoundsException", 19, 5), (5, 14, "java/lang/IllegalArgumentException", 25, 5), (5, 14, "java/util/NoSuchElementException", 31, 5)] : List (Nat × Nat × String × Nat × Nat)) := hq
  simp only [List.mem_cons, List.not_mem_nil, or_false] at hq
  rcases hq with rfl | rfl | rfl
  · show nv_SK np_M158 9 "java/lang/IndexOutOfBoundsException" 19 5
    exact sk_at (M := np_M158) (pc := 9) (t := 19) (i := 5) (E := "java/lang/IndexOutOfBoundsException") [] (5, 14, 17, 17) [(5, 14, 23, 19), (5, 14, 29, 59)] rfl (fun z hz => by cases hz) (by decide) (by decide) wd_310 wd_452 (by decide) (Or.inr ⟨dL_directionTo_17, rfl⟩)
  · show nv_SK np_M158 9 "java/lang/IllegalArgumentException" 25 5
    exact sk_at (M := np_M158) (pc := 9) (t := 25) (i := 5) (E := "java/lang/IllegalArgumentException") [(5, 14, 17, 17)] (5, 14, 23, 19) [(5, 14, 29, 59)] rfl (fun z hz => by
      simp only [List.mem_cons, List.not_mem_nil, or_false] at hz
      rcases hz with rfl
      · exact ⟨by decide, _, wd_310, by decide⟩) (by decide) (by decide) wd_390 wd_465 (by decide) (Or.inr ⟨dL_directionTo_23, rfl⟩)
  · show nv_SK np_M158 9 "java/util/NoSuchElementException" 31 5
    exact sk_at (M := np_M158) (pc := 9) (t := 31) (i := 5) (E := "java/util/NoSuchElementException") [(5, 14, 17, 17), (5, 14, 23, 19)] (5, 14, 29, 59) [] rfl (fun z hz => by
      simp only [List.mem_cons, List.not_mem_nil, or_false] at hz
      rcases hz with rfl | rfl
      · exact ⟨by decide, _, wd_310, by decide⟩
      · exact ⟨by decide, _, wd_390, by decide⟩) (by decide) (by decide) wd_775 wd_782 (by decide) (Or.inr ⟨dL_directionTo_29, rfl⟩)
set_option maxRecDepth 100000 in
set_option maxHeartbeats 4000000 in
theorem ok_158 : nv_all np_M158 158 0 np_c158 := by
  unfold np_c158
  refine na_3 (q := 3) (one_d (so_sipush (M := np_M158) (pc := 0) dL_directionTo_0 (by decide)) (up_cst _ _)) rfl ?_
  refine na_2 (q := 5) (one_d (so_istore (M := np_M158) (pc := 3) dL_directionTo_3 (by decide)) (up_istore _ _)) rfl ?_
  refine na_1 (q := 6) (one_d (so_aload_n (M := np_M158) (pc := 5) dL_directionTo_5 rfl) (up_aload _ _)) rfl ?_
  refine na_1 (q := 7) (one_d (so_iload_n (M := np_M158) (pc := 6) dL_directionTo_6 rfl) (up_iload _ _)) rfl ?_
  refine na_1 (q := 8) (one_d (so_iload_n (M := np_M158) (pc := 7) dL_directionTo_7 rfl) (up_iload _ _)) rfl ?_
  refine na_1 (q := 9) (one_d (so_iload_n (M := np_M158) (pc := 8) dL_directionTo_8 rfl) (up_iload _ _)) rfl ?_
  refine na_3 (q := 12) (one_h rfl mq_100 (sc_V (M := np_M158) (pc := 9) dL_directionTo_9 cw_L_directionTo_X7_directionTo rfl wd_1167 wd_1168 wd_1169 (nv_rcO (ci := 5) rfl)) (by decide) rfl sk_L_directionTo_9) rfl ?_
  refine na_2 (q := 14) (one_d (so_istore (M := np_M158) (pc := 12) dL_directionTo_12 (by decide)) (up_istore _ _)) rfl ?_
  refine na_3 (q := 17) (one_d (so_goto (M := np_M158) (pc := 14) dL_directionTo_14 (by decide)) (up_goto _)) rfl ?_
  refine na_n (q := 18) rfl ?_
  refine na_n (q := 19) rfl ?_
  refine na_3 (q := 22) (one_d (so_sipush (M := np_M158) (pc := 19) dL_directionTo_19 (by decide)) (up_cst _ _)) rfl ?_
  refine na_3 (q := 25) (one_d (so_reti (M := np_M158) (pc := 22) dL_directionTo_22 rfl) (up_reti _)) rfl ?_
  refine na_3 (q := 28) (one_d (so_sipush (M := np_M158) (pc := 25) dL_directionTo_25 (by decide)) (up_cst _ _)) rfl ?_
  refine na_3 (q := 31) (one_d (so_reti (M := np_M158) (pc := 28) dL_directionTo_28 rfl) (up_reti _)) rfl ?_
  refine na_3 (q := 34) (one_d (so_sipush (M := np_M158) (pc := 31) dL_directionTo_31 (by decide)) (up_cst _ _)) rfl ?_
  refine na_1 (q := 35) (one_d (so_reti (M := np_M158) (pc := 34) dL_directionTo_34 rfl) (up_reti _)) rfl ?_
  refine na_2 (q := 37) (one_d (so_iload (M := np_M158) (pc := 35) dL_directionTo_35) (up_iload _ _)) rfl ?_
  refine na_1 (q := 38) (one_d (so_reti (M := np_M158) (pc := 37) dL_directionTo_37 rfl) (up_reti _)) rfl ?_
  exact na_z
set_option maxRecDepth 100000 in
theorem sk_L_cellsAhead_6 : ∀ q ∈ np_hls.getD 159 [], q.1 ≤ 6 → 6 < q.2.1 → nv_SK np_M159 6 q.2.2.1 q.2.2.2.1 q.2.2.2.2 := by
  intro q hq h1 h2
  have hq : q ∈ ([(4, 10, "java/lang/IndexOutOfBoundsException", 14, 3), (4, 10, "java/util/NoSuchElementException", 19, 3)] : List (Nat × Nat × String × Nat × Nat)) := hq
  simp only [List.mem_cons, List.not_mem_nil, or_false] at hq
  rcases hq with rfl | rfl
  · show nv_SK np_M159 6 "java/lang/IndexOutOfBoundsException" 14 3
    exact sk_at (M := np_M159) (pc := 6) (t := 14) (i := 3) (E := "java/lang/IndexOutOfBoundsException") [] (4, 10, 13, 17) [(4, 10, 18, 59)] rfl (fun z hz => by cases hz) (by decide) (by decide) wd_310 wd_452 (by decide) (Or.inl ⟨3, dL_cellsAhead_13, rfl, rfl⟩)
  · show nv_SK np_M159 6 "java/util/NoSuchElementException" 19 3
    exact sk_at (M := np_M159) (pc := 6) (t := 19) (i := 3) (E := "java/util/NoSuchElementException") [(4, 10, 13, 17)] (4, 10, 18, 59) [] rfl (fun z hz => by
      simp only [List.mem_cons, List.not_mem_nil, or_false] at hz
      rcases hz with rfl
      · exact ⟨by decide, _, wd_310, by decide⟩) (by decide) (by decide) wd_775 wd_782 (by decide) (Or.inl ⟨3, dL_cellsAhead_18, rfl, rfl⟩)
set_option maxRecDepth 100000 in
set_option maxHeartbeats 4000000 in
theorem ok_159 : nv_all np_M159 159 0 np_c159 := by
  unfold np_c159
  refine na_3 (q := 3) (one_d (so_sipush (M := np_M159) (pc := 0) dL_cellsAhead_0 (by decide)) (up_cst _ _)) rfl ?_
  refine na_1 (q := 4) (one_d (so_istore_n (M := np_M159) (pc := 3) dL_cellsAhead_3 rfl (by decide)) (up_istore _ _)) rfl ?_
  refine na_1 (q := 5) (one_d (so_aload_n (M := np_M159) (pc := 4) dL_cellsAhead_4 rfl) (up_aload _ _)) rfl ?_
  refine na_1 (q := 6) (one_d (so_iload_n (M := np_M159) (pc := 5) dL_cellsAhead_5 rfl) (up_iload _ _)) rfl ?_
  refine na_3 (q := 9) (one_h rfl mq_104 (sc_V (M := np_M159) (pc := 6) dL_cellsAhead_6 cw_L_cellsAhead_X7_cellsAhead rfl wd_1159 wd_1160 wd_1161 (nv_rcO (ci := 5) rfl)) (by decide) rfl sk_L_cellsAhead_6) rfl ?_
  refine na_1 (q := 10) (one_d (so_istore_n (M := np_M159) (pc := 9) dL_cellsAhead_9 rfl (by decide)) (up_istore _ _)) rfl ?_
  refine na_3 (q := 13) (one_d (so_goto (M := np_M159) (pc := 10) dL_cellsAhead_10 (by decide)) (up_goto _)) rfl ?_
  refine na_n (q := 14) rfl ?_
  refine na_3 (q := 17) (one_d (so_sipush (M := np_M159) (pc := 14) dL_cellsAhead_14 (by decide)) (up_cst _ _)) rfl ?_
  refine na_2 (q := 19) (one_d (so_reti (M := np_M159) (pc := 17) dL_cellsAhead_17 rfl) (up_reti _)) rfl ?_
  refine na_3 (q := 22) (one_d (so_sipush (M := np_M159) (pc := 19) dL_cellsAhead_19 (by decide)) (up_cst _ _)) rfl ?_
  refine na_1 (q := 23) (one_d (so_reti (M := np_M159) (pc := 22) dL_cellsAhead_22 rfl) (up_reti _)) rfl ?_
  refine na_1 (q := 24) (one_d (so_iload_n (M := np_M159) (pc := 23) dL_cellsAhead_23 rfl) (up_iload _ _)) rfl ?_
  refine na_1 (q := 25) (one_d (so_reti (M := np_M159) (pc := 24) dL_cellsAhead_24 rfl) (up_reti _)) rfl ?_
  exact na_z
set_option maxRecDepth 100000 in
theorem sk_L_hitShare_4 : ∀ q ∈ np_hls.getD 160 [], q.1 ≤ 4 → 4 < q.2.1 → nv_SK np_M160 4 q.2.2.1 q.2.2.2.1 q.2.2.2.2 := by
  intro q hq h1 h2
  have hq : q ∈ ([(3, 8, "java/lang/ArithmeticException", 12, 2)] : List (Nat × Nat × String × Nat × Nat)) := hq
  simp only [List.mem_cons, List.not_mem_nil, or_false] at hq
  rcases hq with rfl
  · show nv_SK np_M160 4 "java/lang/ArithmeticException" 12 2
    exact sk_at (M := np_M160) (pc := 4) (t := 12) (i := 2) (E := "java/lang/ArithmeticException") [] (3, 8, 11, 94) [] rfl (fun z hz => by cases hz) (by decide) (by decide) wd_1033 wd_1045 (by decide) (Or.inl ⟨2, dL_hitShare_11, rfl, rfl⟩)
set_option maxRecDepth 100000 in
set_option maxHeartbeats 4000000 in
theorem ok_160 : nv_all np_M160 160 0 np_c160 := by
  unfold np_c160
  refine na_2 (q := 2) (one_d (so_ldcf (M := np_M160) (pc := 0) dL_hitShare_0 wd_1058) (up_cst _ _)) rfl ?_
  refine na_1 (q := 3) (one_d (so_fstore_n (M := np_M160) (pc := 2) dL_hitShare_2 rfl (by decide)) (up_fstore _ _)) rfl ?_
  refine na_1 (q := 4) (one_d (so_aload_n (M := np_M160) (pc := 3) dL_hitShare_3 rfl) (up_aload _ _)) rfl ?_
  refine na_3 (q := 7) (one_h rfl mq_117 (sc_V (M := np_M160) (pc := 4) dL_hitShare_4 cw_L_hitShare_X7_hitShare rfl wd_1059 wd_1060 wd_1061 (nv_rcO (ci := 5) rfl)) (by decide) rfl sk_L_hitShare_4) rfl ?_
  refine na_1 (q := 8) (one_d (so_fstore_n (M := np_M160) (pc := 7) dL_hitShare_7 rfl (by decide)) (up_fstore _ _)) rfl ?_
  refine na_3 (q := 11) (one_d (so_goto (M := np_M160) (pc := 8) dL_hitShare_8 (by decide)) (up_goto _)) rfl ?_
  refine na_n (q := 12) rfl ?_
  refine na_2 (q := 14) (one_d (so_ldcf (M := np_M160) (pc := 12) dL_hitShare_12 wd_1058) (up_cst _ _)) rfl ?_
  refine na_1 (q := 15) (one_d (so_retf (M := np_M160) (pc := 14) dL_hitShare_14 rfl) (up_retf)) rfl ?_
  refine na_1 (q := 16) (one_d (so_fload_n (M := np_M160) (pc := 15) dL_hitShare_15 rfl) (up_fload _ _)) rfl ?_
  refine na_1 (q := 17) (one_d (so_retf (M := np_M160) (pc := 16) dL_hitShare_16 rfl) (up_retf)) rfl ?_
  exact na_z
set_option maxRecDepth 100000 in
theorem sk_L_meanCubes_6 : ∀ q ∈ np_hls.getD 161 [], q.1 ≤ 6 → 6 < q.2.1 → nv_SK np_M161 6 q.2.2.1 q.2.2.2.1 q.2.2.2.2 := by
  intro q hq h1 h2
  have hq : q ∈ ([(4, 10, "java/lang/IndexOutOfBoundsException", 15, 4), (4, 10, "java/lang/ArithmeticException", 21, 4)] : List (Nat × Nat × String × Nat × Nat)) := hq
  simp only [List.mem_cons, List.not_mem_nil, or_false] at hq
  rcases hq with rfl | rfl
  · show nv_SK np_M161 6 "java/lang/IndexOutOfBoundsException" 15 4
    exact sk_at (M := np_M161) (pc := 6) (t := 15) (i := 4) (E := "java/lang/IndexOutOfBoundsException") [] (4, 10, 13, 17) [(4, 10, 19, 94)] rfl (fun z hz => by cases hz) (by decide) (by decide) wd_310 wd_452 (by decide) (Or.inr ⟨dL_meanCubes_13, rfl⟩)
  · show nv_SK np_M161 6 "java/lang/ArithmeticException" 21 4
    exact sk_at (M := np_M161) (pc := 6) (t := 21) (i := 4) (E := "java/lang/ArithmeticException") [(4, 10, 13, 17)] (4, 10, 19, 94) [] rfl (fun z hz => by
      simp only [List.mem_cons, List.not_mem_nil, or_false] at hz
      rcases hz with rfl
      · exact ⟨by decide, _, wd_310, by decide⟩) (by decide) (by decide) wd_1033 wd_1045 (by decide) (Or.inr ⟨dL_meanCubes_19, rfl⟩)
set_option maxRecDepth 100000 in
set_option maxHeartbeats 4000000 in
theorem ok_161 : nv_all np_M161 161 0 np_c161 := by
  unfold np_c161
  refine na_3 (q := 3) (one_d (so_ldc2d (M := np_M161) (pc := 0) dL_meanCubes_0 wd_1047) (up_cst _ _)) rfl ?_
  refine na_1 (q := 4) (one_d (so_dstore_n (M := np_M161) (pc := 3) dL_meanCubes_3 rfl (by decide)) (up_dstore _ _)) rfl ?_
  refine na_1 (q := 5) (one_d (so_aload_n (M := np_M161) (pc := 4) dL_meanCubes_4 rfl) (up_aload _ _)) rfl ?_
  refine na_1 (q := 6) (one_d (so_iload_n (M := np_M161) (pc := 5) dL_meanCubes_5 rfl) (up_iload _ _)) rfl ?_
  refine na_3 (q := 9) (one_h rfl mq_118 (sc_V (M := np_M161) (pc := 6) dL_meanCubes_6 cw_L_meanCubes_X7_meanCubes rfl wd_1048 wd_1049 wd_1050 (nv_rcO (ci := 5) rfl)) (by decide) rfl sk_L_meanCubes_6) rfl ?_
  refine na_1 (q := 10) (one_d (so_dstore_n (M := np_M161) (pc := 9) dL_meanCubes_9 rfl (by decide)) (up_dstore _ _)) rfl ?_
  refine na_3 (q := 13) (one_d (so_goto (M := np_M161) (pc := 10) dL_meanCubes_10 (by decide)) (up_goto _)) rfl ?_
  refine na_n (q := 14) rfl ?_
  refine na_n (q := 15) rfl ?_
  refine na_3 (q := 18) (one_d (so_ldc2d (M := np_M161) (pc := 15) dL_meanCubes_15 wd_1047) (up_cst _ _)) rfl ?_
  refine na_3 (q := 21) (one_d (so_retd (M := np_M161) (pc := 18) dL_meanCubes_18 rfl) (up_retd)) rfl ?_
  refine na_3 (q := 24) (one_d (so_ldc2d (M := np_M161) (pc := 21) dL_meanCubes_21 wd_1047) (up_cst _ _)) rfl ?_
  refine na_1 (q := 25) (one_d (so_retd (M := np_M161) (pc := 24) dL_meanCubes_24 rfl) (up_retd)) rfl ?_
  refine na_1 (q := 26) (one_d (so_dload_n (M := np_M161) (pc := 25) dL_meanCubes_25 rfl) (up_dload _ _)) rfl ?_
  refine na_1 (q := 27) (one_d (so_retd (M := np_M161) (pc := 26) dL_meanCubes_26 rfl) (up_retd)) rfl ?_
  exact na_z
set_option maxRecDepth 100000 in
theorem sk_L_run_4 : ∀ q ∈ np_hls.getD 162 [], q.1 ≤ 4 → 4 < q.2.1 → nv_SK np_M162 4 q.2.2.1 q.2.2.2.1 q.2.2.2.2 := by
  intro q hq h1 h2
  have hq : q ∈ ([(3, 8, "java/lang/IllegalArgumentException", 12, 2), (3, 8, "java/lang/IllegalStateException", 16, 2)] : List (Nat × Nat × String × Nat × Nat)) := hq
  simp only [List.mem_cons, List.not_mem_nil, or_false] at hq
  rcases hq with rfl | rfl
  · show nv_SK np_M162 4 "java/lang/IllegalArgumentException" 12 2
    exact sk_at (M := np_M162) (pc := 4) (t := 12) (i := 2) (E := "java/lang/IllegalArgumentException") [] (3, 8, 11, 19) [(3, 8, 15, 21)] rfl (fun z hz => by cases hz) (by decide) (by decide) wd_390 wd_465 (by decide) (Or.inl ⟨2, dL_run_11, rfl, rfl⟩)
  · show nv_SK np_M162 4 "java/lang/IllegalStateException" 16 2
    exact sk_at (M := np_M162) (pc := 4) (t := 16) (i := 2) (E := "java/lang/IllegalStateException") [(3, 8, 11, 19)] (3, 8, 15, 21) [] rfl (fun z hz => by
      simp only [List.mem_cons, List.not_mem_nil, or_false] at hz
      rcases hz with rfl
      · exact ⟨by decide, _, wd_390, by decide⟩) (by decide) (by decide) wd_391 wd_481 (by decide) (Or.inl ⟨2, dL_run_15, rfl, rfl⟩)
set_option maxRecDepth 100000 in
set_option maxHeartbeats 4000000 in
theorem ok_162 : nv_all np_M162 162 0 np_c162 := by
  unfold np_c162
  refine na_2 (q := 2) (one_d (so_ldc (M := np_M162) (pc := 0) dL_run_0 wd_393) (up_cst _ _)) rfl ?_
  refine na_1 (q := 3) (one_d (so_istore_n (M := np_M162) (pc := 2) dL_run_2 rfl (by decide)) (up_istore _ _)) rfl ?_
  refine na_1 (q := 4) (one_d (so_aload_n (M := np_M162) (pc := 3) dL_run_3 rfl) (up_aload _ _)) rfl ?_
  refine na_3 (q := 7) (one_h rfl mq_113 (sc_V (M := np_M162) (pc := 4) dL_run_4 cw_L_run_X7_run rfl wd_587 wd_588 wd_589 (nv_rcO (ci := 5) rfl)) (by decide) rfl sk_L_run_4) rfl ?_
  refine na_1 (q := 8) (one_d (so_istore_n (M := np_M162) (pc := 7) dL_run_7 rfl (by decide)) (up_istore _ _)) rfl ?_
  refine na_3 (q := 11) (one_d (so_goto (M := np_M162) (pc := 8) dL_run_8 (by decide)) (up_goto _)) rfl ?_
  refine na_n (q := 12) rfl ?_
  refine na_2 (q := 14) (one_d (so_ldc (M := np_M162) (pc := 12) dL_run_12 wd_393) (up_cst _ _)) rfl ?_
  refine na_2 (q := 16) (one_d (so_reti (M := np_M162) (pc := 14) dL_run_14 rfl) (up_reti _)) rfl ?_
  refine na_2 (q := 18) (one_d (so_ldc (M := np_M162) (pc := 16) dL_run_16 wd_393) (up_cst _ _)) rfl ?_
  refine na_1 (q := 19) (one_d (so_reti (M := np_M162) (pc := 18) dL_run_18 rfl) (up_reti _)) rfl ?_
  refine na_1 (q := 20) (one_d (so_iload_n (M := np_M162) (pc := 19) dL_run_19 rfl) (up_iload _ _)) rfl ?_
  refine na_1 (q := 21) (one_d (so_reti (M := np_M162) (pc := 20) dL_run_20 rfl) (up_reti _)) rfl ?_
  exact na_z
set_option maxRecDepth 100000 in
theorem sk_L_failedCommand_5 : ∀ q ∈ np_hls.getD 163 [], q.1 ≤ 5 → 5 < q.2.1 → nv_SK np_M163 5 q.2.2.1 q.2.2.2.1 q.2.2.2.2 := by
  intro q hq h1 h2
  have hq : q ∈ ([(4, 9, "java/util/NoSuchElementException", 13, 2)] : List (Nat × Nat × String × Nat × Nat)) := hq
  simp only [List.mem_cons, List.not_mem_nil, or_false] at hq
  rcases hq with rfl
  · show nv_SK np_M163 5 "java/util/NoSuchElementException" 13 2
    exact sk_at (M := np_M163) (pc := 5) (t := 13) (i := 2) (E := "java/util/NoSuchElementException") [] (4, 9, 12, 59) [] rfl (fun z hz => by cases hz) (by decide) (by decide) wd_775 wd_782 (by decide) (Or.inl ⟨2, dL_failedCommand_12, rfl, rfl⟩)
set_option maxRecDepth 100000 in
set_option maxHeartbeats 4000000 in
theorem ok_163 : nv_all np_M163 163 0 np_c163 := by
  unfold np_c163
  refine na_3 (q := 3) (one_d (so_sipush (M := np_M163) (pc := 0) dL_failedCommand_0 (by decide)) (up_cst _ _)) rfl ?_
  refine na_1 (q := 4) (one_d (so_istore_n (M := np_M163) (pc := 3) dL_failedCommand_3 rfl (by decide)) (up_istore _ _)) rfl ?_
  refine na_1 (q := 5) (one_d (so_aload_n (M := np_M163) (pc := 4) dL_failedCommand_4 rfl) (up_aload _ _)) rfl ?_
  refine na_3 (q := 8) (one_h rfl mq_114 (sc_V (M := np_M163) (pc := 5) dL_failedCommand_5 cw_L_failedCommand_X7_failedCommand rfl wd_776 wd_777 wd_778 (nv_rcO (ci := 5) rfl)) (by decide) rfl sk_L_failedCommand_5) rfl ?_
  refine na_1 (q := 9) (one_d (so_istore_n (M := np_M163) (pc := 8) dL_failedCommand_8 rfl (by decide)) (up_istore _ _)) rfl ?_
  refine na_3 (q := 12) (one_d (so_goto (M := np_M163) (pc := 9) dL_failedCommand_9 (by decide)) (up_goto _)) rfl ?_
  refine na_n (q := 13) rfl ?_
  refine na_3 (q := 16) (one_d (so_sipush (M := np_M163) (pc := 13) dL_failedCommand_13 (by decide)) (up_cst _ _)) rfl ?_
  refine na_1 (q := 17) (one_d (so_reti (M := np_M163) (pc := 16) dL_failedCommand_16 rfl) (up_reti _)) rfl ?_
  refine na_1 (q := 18) (one_d (so_iload_n (M := np_M163) (pc := 17) dL_failedCommand_17 rfl) (up_iload _ _)) rfl ?_
  refine na_1 (q := 19) (one_d (so_reti (M := np_M163) (pc := 18) dL_failedCommand_18 rfl) (up_reti _)) rfl ?_
  exact na_z
set_option maxRecDepth 100000 in
theorem sk_L_undo_4 : ∀ q ∈ np_hls.getD 164 [], q.1 ≤ 4 → 4 < q.2.1 → nv_SK np_M164 4 q.2.2.1 q.2.2.2.1 q.2.2.2.2 := by
  intro q hq h1 h2
  have hq : q ∈ ([(3, 8, "java/lang/IllegalStateException", 12, 2)] : List (Nat × Nat × String × Nat × Nat)) := hq
  simp only [List.mem_cons, List.not_mem_nil, or_false] at hq
  rcases hq with rfl
  · show nv_SK np_M164 4 "java/lang/IllegalStateException" 12 2
    exact sk_at (M := np_M164) (pc := 4) (t := 12) (i := 2) (E := "java/lang/IllegalStateException") [] (3, 8, 11, 21) [] rfl (fun z hz => by cases hz) (by decide) (by decide) wd_391 wd_481 (by decide) (Or.inl ⟨2, dL_undo_11, rfl, rfl⟩)
set_option maxRecDepth 100000 in
set_option maxHeartbeats 4000000 in
theorem ok_164 : nv_all np_M164 164 0 np_c164 := by
  unfold np_c164
  refine na_2 (q := 2) (one_d (so_ldc (M := np_M164) (pc := 0) dL_undo_0 wd_393) (up_cst _ _)) rfl ?_
  refine na_1 (q := 3) (one_d (so_istore_n (M := np_M164) (pc := 2) dL_undo_2 rfl (by decide)) (up_istore _ _)) rfl ?_
  refine na_1 (q := 4) (one_d (so_aload_n (M := np_M164) (pc := 3) dL_undo_3 rfl) (up_aload _ _)) rfl ?_
  refine na_3 (q := 7) (one_h rfl mq_120 (sc_V (M := np_M164) (pc := 4) dL_undo_4 cw_L_undo_X7_undo rfl wd_799 wd_800 wd_801 (nv_rcO (ci := 5) rfl)) (by decide) rfl sk_L_undo_4) rfl ?_
  refine na_1 (q := 8) (one_d (so_istore_n (M := np_M164) (pc := 7) dL_undo_7 rfl (by decide)) (up_istore _ _)) rfl ?_
  refine na_3 (q := 11) (one_d (so_goto (M := np_M164) (pc := 8) dL_undo_8 (by decide)) (up_goto _)) rfl ?_
  refine na_n (q := 12) rfl ?_
  refine na_2 (q := 14) (one_d (so_ldc (M := np_M164) (pc := 12) dL_undo_12 wd_393) (up_cst _ _)) rfl ?_
  refine na_1 (q := 15) (one_d (so_reti (M := np_M164) (pc := 14) dL_undo_14 rfl) (up_reti _)) rfl ?_
  refine na_1 (q := 16) (one_d (so_iload_n (M := np_M164) (pc := 15) dL_undo_15 rfl) (up_iload _ _)) rfl ?_
  refine na_1 (q := 17) (one_d (so_reti (M := np_M164) (pc := 16) dL_undo_16 rfl) (up_reti _)) rfl ?_
  exact na_z
set_option maxRecDepth 100000 in
theorem sk_L_restore_4 : ∀ q ∈ np_hls.getD 165 [], q.1 ≤ 4 → 4 < q.2.1 → nv_SK np_M165 4 q.2.2.1 q.2.2.2.1 q.2.2.2.2 := by
  intro q hq h1 h2
  have hq : q ∈ ([(3, 8, "java/lang/IllegalStateException", 12, 2)] : List (Nat × Nat × String × Nat × Nat)) := hq
  simp only [List.mem_cons, List.not_mem_nil, or_false] at hq
  rcases hq with rfl
  · show nv_SK np_M165 4 "java/lang/IllegalStateException" 12 2
    exact sk_at (M := np_M165) (pc := 4) (t := 12) (i := 2) (E := "java/lang/IllegalStateException") [] (3, 8, 11, 21) [] rfl (fun z hz => by cases hz) (by decide) (by decide) wd_391 wd_481 (by decide) (Or.inl ⟨2, dL_restore_11, rfl, rfl⟩)
set_option maxRecDepth 100000 in
set_option maxHeartbeats 4000000 in
theorem ok_165 : nv_all np_M165 165 0 np_c165 := by
  unfold np_c165
  refine na_2 (q := 2) (one_d (so_ldc (M := np_M165) (pc := 0) dL_restore_0 wd_393) (up_cst _ _)) rfl ?_
  refine na_1 (q := 3) (one_d (so_istore_n (M := np_M165) (pc := 2) dL_restore_2 rfl (by decide)) (up_istore _ _)) rfl ?_
  refine na_1 (q := 4) (one_d (so_aload_n (M := np_M165) (pc := 3) dL_restore_3 rfl) (up_aload _ _)) rfl ?_
  refine na_3 (q := 7) (one_h rfl mq_122 (sc_V (M := np_M165) (pc := 4) dL_restore_4 cw_L_restore_X7_restore rfl wd_811 wd_812 wd_813 (nv_rcO (ci := 5) rfl)) (by decide) rfl sk_L_restore_4) rfl ?_
  refine na_1 (q := 8) (one_d (so_istore_n (M := np_M165) (pc := 7) dL_restore_7 rfl (by decide)) (up_istore _ _)) rfl ?_
  refine na_3 (q := 11) (one_d (so_goto (M := np_M165) (pc := 8) dL_restore_8 (by decide)) (up_goto _)) rfl ?_
  refine na_n (q := 12) rfl ?_
  refine na_2 (q := 14) (one_d (so_ldc (M := np_M165) (pc := 12) dL_restore_12 wd_393) (up_cst _ _)) rfl ?_
  refine na_1 (q := 15) (one_d (so_reti (M := np_M165) (pc := 14) dL_restore_14 rfl) (up_reti _)) rfl ?_
  refine na_1 (q := 16) (one_d (so_iload_n (M := np_M165) (pc := 15) dL_restore_15 rfl) (up_iload _ _)) rfl ?_
  refine na_1 (q := 17) (one_d (so_reti (M := np_M165) (pc := 16) dL_restore_16 rfl) (up_reti _)) rfl ?_
  exact na_z
set_option maxRecDepth 100000 in
theorem sk_L_put_2 : ∀ q ∈ np_hls.getD 166 [], q.1 ≤ 2 → 2 < q.2.1 → nv_SK np_M166 2 q.2.2.1 q.2.2.2.1 q.2.2.2.2 := by
  intro q hq h1 h2
  have hq : q ∈ ([(0, 6, "java/lang/IllegalStateException", 10, 2)] : List (Nat × Nat × String × Nat × Nat)) := hq
  simp only [List.mem_cons, List.not_mem_nil, or_false] at hq
  rcases hq with rfl
  · show nv_SK np_M166 2 "java/lang/IllegalStateException" 10 2
    exact sk_at (M := np_M166) (pc := 2) (t := 10) (i := 2) (E := "java/lang/IllegalStateException") [] (0, 6, 9, 21) [] rfl (fun z hz => by cases hz) (by decide) (by decide) wd_391 wd_481 (by decide) (Or.inl ⟨2, dL_put_9, rfl, rfl⟩)
set_option maxRecDepth 100000 in
set_option maxHeartbeats 4000000 in
theorem ok_166 : nv_all np_M166 166 0 np_c166 := by
  unfold np_c166
  refine na_1 (q := 1) (one_d (so_aload_n (M := np_M166) (pc := 0) dL_put_0 rfl) (up_aload _ _)) rfl ?_
  refine na_1 (q := 2) (one_d (so_iload_n (M := np_M166) (pc := 1) dL_put_1 rfl) (up_iload _ _)) rfl ?_
  refine na_3 (q := 5) (one_h rfl mq_112 (sc_V (M := np_M166) (pc := 2) dL_put_2 cw_L_put_X7_append rfl wd_828 wd_829 wd_830 (nv_rcO (ci := 5) rfl)) (by decide) rfl sk_L_put_2) rfl ?_
  refine na_1 (q := 6) (one_d (so_pop (M := np_M166) (pc := 5) dL_put_5) (up_pop _)) rfl ?_
  refine na_3 (q := 9) (one_d (so_goto (M := np_M166) (pc := 6) dL_put_6 (by decide)) (up_goto _)) rfl ?_
  refine na_n (q := 10) rfl ?_
  refine na_1 (q := 11) (one_d (so_iconst (M := np_M166) (pc := 10) dL_put_10 (by decide)) (up_cst _ _)) rfl ?_
  refine na_1 (q := 12) (one_d (so_reti (M := np_M166) (pc := 11) dL_put_11 rfl) (up_reti _)) rfl ?_
  refine na_1 (q := 13) (one_d (so_iconst (M := np_M166) (pc := 12) dL_put_12 (by decide)) (up_cst _ _)) rfl ?_
  refine na_1 (q := 14) (one_d (so_reti (M := np_M166) (pc := 13) dL_put_13 rfl) (up_reti _)) rfl ?_
  exact na_z
theorem hl_167 : np_hls.getD 167 [] = [] := rfl
set_option maxRecDepth 100000 in
set_option maxHeartbeats 4000000 in
theorem ok_167 : nv_all np_M167 167 0 np_c167 := by
  unfold np_c167
  refine na_1 (q := 1) (one_d (so_iconst (M := np_M167) (pc := 0) dL_write_0 (by decide)) (up_cst _ _)) rfl ?_
  refine na_1 (q := 2) (one_d (so_istore_n (M := np_M167) (pc := 1) dL_write_1 rfl (by decide)) (up_istore _ _)) rfl ?_
  refine na_1 (q := 3) (one_d (so_iload_n (M := np_M167) (pc := 2) dL_write_2 rfl) (up_iload _ _)) rfl ?_
  refine na_1 (q := 4) (one_d (so_aload_n (M := np_M167) (pc := 3) dL_write_3 rfl) (up_aload _ _)) rfl ?_
  refine na_3 (q := 7) (one_c rfl mq_0 hl_167 rfl (sc_V (M := np_M167) (pc := 4) dL_write_4 cw_L_write_J0_length_8abf5 rfl wd_823 wd_610 wd_611 nv_rcS)) rfl ?_
  refine na_3 (q := 10) (one_d (so_cge (M := np_M167) (pc := 7) dL_write_7 (by decide)) (up_cge _ _)) rfl ?_
  refine na_1 (q := 11) (one_d (so_aload_n (M := np_M167) (pc := 10) dL_write_10 rfl) (up_aload _ _)) rfl ?_
  refine na_1 (q := 12) (one_d (so_aload_n (M := np_M167) (pc := 11) dL_write_11 rfl) (up_aload _ _)) rfl ?_
  refine na_1 (q := 13) (one_d (so_iload_n (M := np_M167) (pc := 12) dL_write_12 rfl) (up_iload _ _)) rfl ?_
  refine na_3 (q := 16) (one_c rfl mq_1 hl_167 rfl (sc_V (M := np_M167) (pc := 13) dL_write_13 cw_L_write_J0_charAt_5068e rfl wd_824 wd_620 wd_621 nv_rcS)) rfl ?_
  refine na_3 (q := 19) (one_c rfl mq_166 hl_167 rfl (sc_SX (M := np_M167) (pc := 16) dL_write_16 (by decide) hd_L_put wd_22 ⟨by decide, by decide, by decide +kernel⟩ (by decide) (by decide) wd_825 wd_826)) rfl ?_
  refine na_1 (q := 20) (one_d (so_pop (M := np_M167) (pc := 19) dL_write_19) (up_pop _)) rfl ?_
  refine na_3 (q := 23) (one_d (so_iinc (M := np_M167) (pc := 20) dL_write_20 (by decide) (by decide)) (up_iinc _ _ _)) rfl ?_
  refine na_3 (q := 26) (one_d (so_goto (M := np_M167) (pc := 23) dL_write_23 (by decide)) (up_goto _)) rfl ?_
  refine na_1 (q := 27) (one_d (so_aload_n (M := np_M167) (pc := 26) dL_write_26 rfl) (up_aload _ _)) rfl ?_
  refine na_1 (q := 28) (one_d (so_reta (M := np_M167) (pc := 27) dL_write_27 rfl (Or.inl ⟨_, rfl⟩)) (up_reta)) rfl ?_
  exact na_z
theorem hl_168 : np_hls.getD 168 [] = [] := rfl
set_option maxRecDepth 100000 in
set_option maxHeartbeats 4000000 in
theorem ok_168 : nv_all np_M168 168 0 np_c168 := by
  unfold np_c168
  refine na_1 (q := 1) (one_d (so_iload_n (M := np_M168) (pc := 0) dL_act_0 rfl) (up_iload _ _)) rfl ?_
  refine na_1 (q := 2) (one_d (so_iconst (M := np_M168) (pc := 1) dL_act_1 (by decide)) (up_cst _ _)) rfl ?_
  refine na_1 (q := 3) (one_d (so_ishr (M := np_M168) (pc := 2) dL_act_2) (up_i2 _ _)) rfl ?_
  refine na_2 (q := 5) (one_d (so_ldc (M := np_M168) (pc := 3) dL_act_3 wd_306) (up_cst _ _)) rfl ?_
  refine na_1 (q := 6) (one_d (so_iand (M := np_M168) (pc := 5) dL_act_5) (up_i2 _ _)) rfl ?_
  refine na_1 (q := 7) (one_d (so_istore_n (M := np_M168) (pc := 6) dL_act_6 rfl (by decide)) (up_istore _ _)) rfl ?_
  refine na_1 (q := 8) (one_d (so_iload_n (M := np_M168) (pc := 7) dL_act_7 rfl) (up_iload _ _)) rfl ?_
  refine na_2 (q := 10) (one_d (so_bipush (M := np_M168) (pc := 8) dL_act_8 (by decide)) (up_cst _ _)) rfl ?_
  refine na_1 (q := 11) (one_d (so_irem (M := np_M168) (pc := 10) dL_act_10) (up_irem _)) rfl ?_
  refine na_1 (q := 12) (one_d (so_istore_n (M := np_M168) (pc := 11) dL_act_11 rfl (by decide)) (up_istore _ _)) rfl ?_
  refine na_1 (q := 13) (one_d (so_iload_n (M := np_M168) (pc := 12) dL_act_12 rfl) (up_iload _ _)) rfl ?_
  refine na_1 (q := 14) (one_d (so_iconst (M := np_M168) (pc := 13) dL_act_13 (by decide)) (up_cst _ _)) rfl ?_
  refine na_1 (q := 15) (one_d (so_ishr (M := np_M168) (pc := 14) dL_act_14) (up_i2 _ _)) rfl ?_
  refine na_2 (q := 17) (one_d (so_bipush (M := np_M168) (pc := 15) dL_act_15 (by decide)) (up_cst _ _)) rfl ?_
  refine na_1 (q := 18) (one_d (so_irem (M := np_M168) (pc := 17) dL_act_17) (up_irem _)) rfl ?_
  refine na_2 (q := 20) (one_d (so_istore (M := np_M168) (pc := 18) dL_act_18 (by decide)) (up_istore _ _)) rfl ?_
  refine na_1 (q := 21) (one_d (so_iload_n (M := np_M168) (pc := 20) dL_act_20 rfl) (up_iload _ _)) rfl ?_
  refine na_2 (q := 23) (one_d (so_bipush (M := np_M168) (pc := 21) dL_act_21 (by decide)) (up_cst _ _)) rfl ?_
  refine na_1 (q := 24) (one_d (so_iand (M := np_M168) (pc := 23) dL_act_23) (up_i2 _ _)) rfl ?_
  refine na_3 (q := 27) (one_d (so_tsw (M := np_M168) (pc := 24) dL_act_24 (by decide) (by decide) (by decide)) (up_tsw _ _ _)) rfl ?_
  refine na_n (q := 28) rfl ?_
  refine na_n (q := 29) rfl ?_
  refine na_n (q := 30) rfl ?_
  refine na_n (q := 31) rfl ?_
  refine na_n (q := 32) rfl ?_
  refine na_n (q := 33) rfl ?_
  refine na_n (q := 34) rfl ?_
  refine na_n (q := 35) rfl ?_
  refine na_n (q := 36) rfl ?_
  refine na_n (q := 37) rfl ?_
  refine na_n (q := 38) rfl ?_
  refine na_n (q := 39) rfl ?_
  refine na_n (q := 40) rfl ?_
  refine na_n (q := 41) rfl ?_
  refine na_n (q := 42) rfl ?_
  refine na_n (q := 43) rfl ?_
  refine na_n (q := 44) rfl ?_
  refine na_n (q := 45) rfl ?_
  refine na_n (q := 46) rfl ?_
  refine na_n (q := 47) rfl ?_
  refine na_n (q := 48) rfl ?_
  refine na_n (q := 49) rfl ?_
  refine na_n (q := 50) rfl ?_
  refine na_n (q := 51) rfl ?_
  refine na_n (q := 52) rfl ?_
  refine na_n (q := 53) rfl ?_
  refine na_n (q := 54) rfl ?_
  refine na_n (q := 55) rfl ?_
  refine na_n (q := 56) rfl ?_
  refine na_n (q := 57) rfl ?_
  refine na_n (q := 58) rfl ?_
  refine na_n (q := 59) rfl ?_
  refine na_n (q := 60) rfl ?_
  refine na_n (q := 61) rfl ?_
  refine na_n (q := 62) rfl ?_
  refine na_n (q := 63) rfl ?_
  refine na_n (q := 64) rfl ?_
  refine na_n (q := 65) rfl ?_
  refine na_n (q := 66) rfl ?_
  refine na_n (q := 67) rfl ?_
  refine na_n (q := 68) rfl ?_
  refine na_n (q := 69) rfl ?_
  refine na_n (q := 70) rfl ?_
  refine na_n (q := 71) rfl ?_
  refine na_n (q := 72) rfl ?_
  refine na_n (q := 73) rfl ?_
  refine na_n (q := 74) rfl ?_
  refine na_n (q := 75) rfl ?_
  refine na_n (q := 76) rfl ?_
  refine na_n (q := 77) rfl ?_
  refine na_n (q := 78) rfl ?_
  refine na_n (q := 79) rfl ?_
  refine na_n (q := 80) rfl ?_
  refine na_n (q := 81) rfl ?_
  refine na_n (q := 82) rfl ?_
  refine na_n (q := 83) rfl ?_
  refine na_n (q := 84) rfl ?_
  refine na_n (q := 85) rfl ?_
  refine na_n (q := 86) rfl ?_
  refine na_n (q := 87) rfl ?_
  refine na_n (q := 88) rfl ?_
  refine na_n (q := 89) rfl ?_
  refine na_n (q := 90) rfl ?_
  refine na_n (q := 91) rfl ?_
  refine na_n (q := 92) rfl ?_
  refine na_n (q := 93) rfl ?_
  refine na_n (q := 94) rfl ?_
  refine na_n (q := 95) rfl ?_
  refine na_n (q := 96) rfl ?_
  refine na_n (q := 97) rfl ?_
  refine na_n (q := 98) rfl ?_
  refine na_n (q := 99) rfl ?_
  refine na_n (q := 100) rfl ?_
  refine na_1 (q := 101) (one_d (so_iload_n (M := np_M168) (pc := 100) dL_act_100 rfl) (up_iload _ _)) rfl ?_
  refine na_2 (q := 103) (one_d (so_bipush (M := np_M168) (pc := 101) dL_act_101 (by decide)) (up_cst _ _)) rfl ?_
  refine na_1 (q := 104) (one_d (so_iand (M := np_M168) (pc := 103) dL_act_103) (up_i2 _ _)) rfl ?_
  refine na_3 (q := 107) (one_d (so_ifne (M := np_M168) (pc := 104) dL_act_104 (by decide)) (up_ifne _ _)) rfl ?_
  refine na_1 (q := 108) (one_d (so_aload_n (M := np_M168) (pc := 107) dL_act_107 rfl) (up_aload _ _)) rfl ?_
  refine na_3 (q := 111) (one_c rfl mq_142 hl_168 rfl (sc_SX (M := np_M168) (pc := 108) dL_act_108 (by decide) hd_L_start wd_22 ⟨by decide, by decide, by decide +kernel⟩ (by decide) (by decide) wd_512 wd_513)) rfl ?_
  refine na_3 (q := 114) (one_d (so_goto (M := np_M168) (pc := 111) dL_act_111 (by decide)) (up_goto _)) rfl ?_
  refine na_1 (q := 115) (one_d (so_aload_n (M := np_M168) (pc := 114) dL_act_114 rfl) (up_aload _ _)) rfl ?_
  refine na_1 (q := 116) (one_d (so_iload_n (M := np_M168) (pc := 115) dL_act_115 rfl) (up_iload _ _)) rfl ?_
  refine na_1 (q := 117) (one_d (so_iconst (M := np_M168) (pc := 116) dL_act_116 (by decide)) (up_cst _ _)) rfl ?_
  refine na_1 (q := 118) (one_d (so_irem (M := np_M168) (pc := 117) dL_act_117) (up_irem _)) rfl ?_
  refine na_1 (q := 119) (one_d (so_iload_n (M := np_M168) (pc := 118) dL_act_118 rfl) (up_iload _ _)) rfl ?_
  refine na_1 (q := 120) (one_d (so_iconst (M := np_M168) (pc := 119) dL_act_119 (by decide)) (up_cst _ _)) rfl ?_
  refine na_1 (q := 121) (one_d (so_ishr (M := np_M168) (pc := 120) dL_act_120) (up_i2 _ _)) rfl ?_
  refine na_2 (q := 123) (one_d (so_bipush (M := np_M168) (pc := 121) dL_act_121 (by decide)) (up_cst _ _)) rfl ?_
  refine na_1 (q := 124) (one_d (so_irem (M := np_M168) (pc := 123) dL_act_123) (up_irem _)) rfl ?_
  refine na_1 (q := 125) (one_d (so_iload_n (M := np_M168) (pc := 124) dL_act_124 rfl) (up_iload _ _)) rfl ?_
  refine na_1 (q := 126) (one_d (so_iconst (M := np_M168) (pc := 125) dL_act_125 (by decide)) (up_cst _ _)) rfl ?_
  refine na_1 (q := 127) (one_d (so_ishr (M := np_M168) (pc := 126) dL_act_126) (up_i2 _ _)) rfl ?_
  refine na_2 (q := 129) (one_d (so_bipush (M := np_M168) (pc := 127) dL_act_127 (by decide)) (up_cst _ _)) rfl ?_
  refine na_1 (q := 130) (one_d (so_irem (M := np_M168) (pc := 129) dL_act_129) (up_irem _)) rfl ?_
  refine na_1 (q := 131) (one_d (so_iload_n (M := np_M168) (pc := 130) dL_act_130 rfl) (up_iload _ _)) rfl ?_
  refine na_2 (q := 133) (one_d (so_bipush (M := np_M168) (pc := 131) dL_act_131 (by decide)) (up_cst _ _)) rfl ?_
  refine na_1 (q := 134) (one_d (so_ishr (M := np_M168) (pc := 133) dL_act_133) (up_i2 _ _)) rfl ?_
  refine na_2 (q := 136) (one_d (so_bipush (M := np_M168) (pc := 134) dL_act_134 (by decide)) (up_cst _ _)) rfl ?_
  refine na_1 (q := 137) (one_d (so_irem (M := np_M168) (pc := 136) dL_act_136) (up_irem _)) rfl ?_
  refine na_1 (q := 138) (one_d (so_iload_n (M := np_M168) (pc := 137) dL_act_137 rfl) (up_iload _ _)) rfl ?_
  refine na_2 (q := 140) (one_d (so_bipush (M := np_M168) (pc := 138) dL_act_138 (by decide)) (up_cst _ _)) rfl ?_
  refine na_1 (q := 141) (one_d (so_ishr (M := np_M168) (pc := 140) dL_act_140) (up_i2 _ _)) rfl ?_
  refine na_2 (q := 143) (one_d (so_bipush (M := np_M168) (pc := 141) dL_act_141 (by decide)) (up_cst _ _)) rfl ?_
  refine na_1 (q := 144) (one_d (so_irem (M := np_M168) (pc := 143) dL_act_143) (up_irem _)) rfl ?_
  refine na_3 (q := 147) (one_c rfl mq_141 hl_168 rfl (sc_SX (M := np_M168) (pc := 144) dL_act_144 (by decide) hd_L_addSpoon wd_22 ⟨by decide, by decide, by decide +kernel⟩ (by decide) (by decide) wd_307 wd_308)) rfl ?_
  refine na_1 (q := 148) (one_d (so_reti (M := np_M168) (pc := 147) dL_act_147 rfl) (up_reti _)) rfl ?_
  refine na_1 (q := 149) (one_d (so_aload_n (M := np_M168) (pc := 148) dL_act_148 rfl) (up_aload _ _)) rfl ?_
  refine na_3 (q := 152) (one_c rfl mq_143 hl_168 rfl (sc_SX (M := np_M168) (pc := 149) dL_act_149 (by decide) hd_L_endTurn wd_22 ⟨by decide, by decide, by decide +kernel⟩ (by decide) (by decide) wd_523 wd_524)) rfl ?_
  refine na_1 (q := 153) (one_d (so_reti (M := np_M168) (pc := 152) dL_act_152 rfl) (up_reti _)) rfl ?_
  refine na_1 (q := 154) (one_d (so_aload_n (M := np_M168) (pc := 153) dL_act_153 rfl) (up_aload _ _)) rfl ?_
  refine na_1 (q := 155) (one_d (so_iload_n (M := np_M168) (pc := 154) dL_act_154 rfl) (up_iload _ _)) rfl ?_
  refine na_1 (q := 156) (one_d (so_iload_n (M := np_M168) (pc := 155) dL_act_155 rfl) (up_iload _ _)) rfl ?_
  refine na_1 (q := 157) (one_d (so_iconst (M := np_M168) (pc := 156) dL_act_156 (by decide)) (up_cst _ _)) rfl ?_
  refine na_1 (q := 158) (one_d (so_ishr (M := np_M168) (pc := 157) dL_act_157) (up_i2 _ _)) rfl ?_
  refine na_2 (q := 160) (one_d (so_bipush (M := np_M168) (pc := 158) dL_act_158 (by decide)) (up_cst _ _)) rfl ?_
  refine na_1 (q := 161) (one_d (so_irem (M := np_M168) (pc := 160) dL_act_160) (up_irem _)) rfl ?_
  refine na_3 (q := 164) (one_c rfl mq_147 hl_168 rfl (sc_SX (M := np_M168) (pc := 161) dL_act_161 (by decide) hd_L_turnTo wd_22 ⟨by decide, by decide, by decide +kernel⟩ (by decide) (by decide) wd_542 wd_543)) rfl ?_
  refine na_1 (q := 165) (one_d (so_reti (M := np_M168) (pc := 164) dL_act_164 rfl) (up_reti _)) rfl ?_
  refine na_1 (q := 166) (one_d (so_aload_n (M := np_M168) (pc := 165) dL_act_165 rfl) (up_aload _ _)) rfl ?_
  refine na_1 (q := 167) (one_d (so_iload_n (M := np_M168) (pc := 166) dL_act_166 rfl) (up_iload _ _)) rfl ?_
  refine na_1 (q := 168) (one_d (so_iload_n (M := np_M168) (pc := 167) dL_act_167 rfl) (up_iload _ _)) rfl ?_
  refine na_1 (q := 169) (one_d (so_iconst (M := np_M168) (pc := 168) dL_act_168 (by decide)) (up_cst _ _)) rfl ?_
  refine na_1 (q := 170) (one_d (so_ishr (M := np_M168) (pc := 169) dL_act_169) (up_i2 _ _)) rfl ?_
  refine na_1 (q := 171) (one_d (so_iconst (M := np_M168) (pc := 170) dL_act_170 (by decide)) (up_cst _ _)) rfl ?_
  refine na_1 (q := 172) (one_d (so_irem (M := np_M168) (pc := 171) dL_act_171) (up_irem _)) rfl ?_
  refine na_1 (q := 173) (one_d (so_iload_n (M := np_M168) (pc := 172) dL_act_172 rfl) (up_iload _ _)) rfl ?_
  refine na_2 (q := 175) (one_d (so_bipush (M := np_M168) (pc := 173) dL_act_173 (by decide)) (up_cst _ _)) rfl ?_
  refine na_1 (q := 176) (one_d (so_iand (M := np_M168) (pc := 175) dL_act_175) (up_i2 _ _)) rfl ?_
  refine na_3 (q := 179) (one_d (so_ifne (M := np_M168) (pc := 176) dL_act_176 (by decide)) (up_ifne _ _)) rfl ?_
  refine na_1 (q := 180) (one_d (so_iconst (M := np_M168) (pc := 179) dL_act_179 (by decide)) (up_cst _ _)) rfl ?_
  refine na_3 (q := 183) (one_d (so_goto (M := np_M168) (pc := 180) dL_act_180 (by decide)) (up_goto _)) rfl ?_
  refine na_1 (q := 184) (one_d (so_iconst (M := np_M168) (pc := 183) dL_act_183 (by decide)) (up_cst _ _)) rfl ?_
  refine na_3 (q := 187) (one_c rfl mq_148 hl_168 rfl (sc_SX (M := np_M168) (pc := 184) dL_act_184 (by decide) hd_L_sail wd_22 ⟨by decide, by decide, by decide +kernel⟩ (by decide) (by decide) wd_845 wd_846)) rfl ?_
  refine na_1 (q := 188) (one_d (so_reti (M := np_M168) (pc := 187) dL_act_187 rfl) (up_reti _)) rfl ?_
  refine na_1 (q := 189) (one_d (so_aload_n (M := np_M168) (pc := 188) dL_act_188 rfl) (up_aload _ _)) rfl ?_
  refine na_1 (q := 190) (one_d (so_iload_n (M := np_M168) (pc := 189) dL_act_189 rfl) (up_iload _ _)) rfl ?_
  refine na_1 (q := 191) (one_d (so_iconst (M := np_M168) (pc := 190) dL_act_190 (by decide)) (up_cst _ _)) rfl ?_
  refine na_1 (q := 192) (one_d (so_aload_n (M := np_M168) (pc := 191) dL_act_191 rfl) (up_aload _ _)) rfl ?_
  refine na_2 (q := 194) (one_d (so_iload (M := np_M168) (pc := 192) dL_act_192) (up_iload _ _)) rfl ?_
  refine na_3 (q := 197) (one_c rfl mq_151 hl_168 rfl (sc_SX (M := np_M168) (pc := 194) dL_act_194 (by decide) hd_L_xOf wd_22 ⟨by decide, by decide, by decide +kernel⟩ (by decide) (by decide) wd_852 wd_853)) rfl ?_
  refine na_3 (q := 200) (one_d (so_max (M := np_M168) (pc := 197) dL_act_197 wd_871 wd_678 wd_37 cd_max (by decide)) (up_max _)) rfl ?_
  refine na_1 (q := 201) (one_d (so_iconst (M := np_M168) (pc := 200) dL_act_200 (by decide)) (up_cst _ _)) rfl ?_
  refine na_1 (q := 202) (one_d (so_aload_n (M := np_M168) (pc := 201) dL_act_201 rfl) (up_aload _ _)) rfl ?_
  refine na_2 (q := 204) (one_d (so_iload (M := np_M168) (pc := 202) dL_act_202) (up_iload _ _)) rfl ?_
  refine na_3 (q := 207) (one_c rfl mq_152 hl_168 rfl (sc_SX (M := np_M168) (pc := 204) dL_act_204 (by decide) hd_L_yOf wd_22 ⟨by decide, by decide, by decide +kernel⟩ (by decide) (by decide) wd_872 wd_873)) rfl ?_
  refine na_3 (q := 210) (one_d (so_max (M := np_M168) (pc := 207) dL_act_207 wd_871 wd_678 wd_37 cd_max (by decide)) (up_max _)) rfl ?_
  refine na_3 (q := 213) (one_c rfl mq_149 hl_168 rfl (sc_SX (M := np_M168) (pc := 210) dL_act_210 (by decide) hd_L_fire wd_22 ⟨by decide, by decide, by decide +kernel⟩ (by decide) (by decide) wd_879 wd_880)) rfl ?_
  refine na_1 (q := 214) (one_d (so_reti (M := np_M168) (pc := 213) dL_act_213 rfl) (up_reti _)) rfl ?_
  refine na_1 (q := 215) (one_d (so_aload_n (M := np_M168) (pc := 214) dL_act_214 rfl) (up_aload _ _)) rfl ?_
  refine na_1 (q := 216) (one_d (so_iload_n (M := np_M168) (pc := 215) dL_act_215 rfl) (up_iload _ _)) rfl ?_
  refine na_1 (q := 217) (one_d (so_iload_n (M := np_M168) (pc := 216) dL_act_216 rfl) (up_iload _ _)) rfl ?_
  refine na_1 (q := 218) (one_d (so_iconst (M := np_M168) (pc := 217) dL_act_217 (by decide)) (up_cst _ _)) rfl ?_
  refine na_1 (q := 219) (one_d (so_ishr (M := np_M168) (pc := 218) dL_act_218) (up_i2 _ _)) rfl ?_
  refine na_2 (q := 221) (one_d (so_bipush (M := np_M168) (pc := 219) dL_act_219 (by decide)) (up_cst _ _)) rfl ?_
  refine na_1 (q := 222) (one_d (so_irem (M := np_M168) (pc := 221) dL_act_221) (up_irem _)) rfl ?_
  refine na_3 (q := 225) (one_c rfl mq_150 hl_168 rfl (sc_SX (M := np_M168) (pc := 222) dL_act_222 (by decide) hd_L_load wd_22 ⟨by decide, by decide, by decide +kernel⟩ (by decide) (by decide) wd_573 wd_574)) rfl ?_
  refine na_1 (q := 226) (one_d (so_reti (M := np_M168) (pc := 225) dL_act_225 rfl) (up_reti _)) rfl ?_
  refine na_1 (q := 227) (one_d (so_aload_n (M := np_M168) (pc := 226) dL_act_226 rfl) (up_aload _ _)) rfl ?_
  refine na_3 (q := 230) (one_d (so_gTEXTS (M := np_M168) (pc := 227) dL_act_227 wd_886) (up_cst _ _)) rfl ?_
  refine na_1 (q := 231) (one_d (so_iload_n (M := np_M168) (pc := 230) dL_act_230 rfl) (up_iload _ _)) rfl ?_
  refine na_3 (q := 234) (one_d (so_gTEXTS (M := np_M168) (pc := 231) dL_act_231 wd_886) (up_cst _ _)) rfl ?_
  refine na_1 (q := 235) (one_d (so_lTEXTS (M := np_M168) (pc := 234) dL_act_234) (up_slen _ _ _)) rfl ?_
  refine na_1 (q := 236) (one_d (so_irem (M := np_M168) (pc := 235) dL_act_235) (up_irem _)) rfl ?_
  refine na_1 (q := 237) (one_d (so_ldTEXTS (M := np_M168) (pc := 236) dL_act_236) (up_sald _ _ _)) rfl ?_
  refine na_3 (q := 240) (one_c rfl mq_167 hl_168 rfl (sc_S (M := np_M168) (pc := 237) dL_act_237 cw_L_act_L_write wd_820 wd_821)) rfl ?_
  refine na_3 (q := 243) (one_c rfl mq_162 hl_168 rfl (sc_SX (M := np_M168) (pc := 240) dL_act_240 (by decide) hd_L_run wd_22 ⟨by decide, by decide, by decide +kernel⟩ (by decide) (by decide) wd_584 wd_585)) rfl ?_
  refine na_1 (q := 244) (one_d (so_reti (M := np_M168) (pc := 243) dL_act_243 rfl) (up_reti _)) rfl ?_
  refine na_1 (q := 245) (one_d (so_iload_n (M := np_M168) (pc := 244) dL_act_244 rfl) (up_iload _ _)) rfl ?_
  refine na_1 (q := 246) (one_d (so_iconst (M := np_M168) (pc := 245) dL_act_245 (by decide)) (up_cst _ _)) rfl ?_
  refine na_1 (q := 247) (one_d (so_iand (M := np_M168) (pc := 246) dL_act_246) (up_i2 _ _)) rfl ?_
  refine na_3 (q := 250) (one_d (so_ifne (M := np_M168) (pc := 247) dL_act_247 (by decide)) (up_ifne _ _)) rfl ?_
  refine na_1 (q := 251) (one_d (so_aload_n (M := np_M168) (pc := 250) dL_act_250 rfl) (up_aload _ _)) rfl ?_
  refine na_3 (q := 254) (one_c rfl mq_121 hl_168 rfl (sc_V (M := np_M168) (pc := 251) dL_act_251 cw_L_act_X7_save rfl wd_287 wd_288 wd_289 (nv_rcO (ci := 5) rfl))) rfl ?_
  refine na_3 (q := 257) (one_d (so_goto (M := np_M168) (pc := 254) dL_act_254 (by decide)) (up_goto _)) rfl ?_
  refine na_1 (q := 258) (one_d (so_iload_n (M := np_M168) (pc := 257) dL_act_257 rfl) (up_iload _ _)) rfl ?_
  refine na_1 (q := 259) (one_d (so_iconst (M := np_M168) (pc := 258) dL_act_258 (by decide)) (up_cst _ _)) rfl ?_
  refine na_1 (q := 260) (one_d (so_iand (M := np_M168) (pc := 259) dL_act_259) (up_i2 _ _)) rfl ?_
  refine na_1 (q := 261) (one_d (so_iconst (M := np_M168) (pc := 260) dL_act_260 (by decide)) (up_cst _ _)) rfl ?_
  refine na_3 (q := 264) (one_d (so_cne (M := np_M168) (pc := 261) dL_act_261 (by decide)) (up_cne _ _)) rfl ?_
  refine na_1 (q := 265) (one_d (so_aload_n (M := np_M168) (pc := 264) dL_act_264 rfl) (up_aload _ _)) rfl ?_
  refine na_3 (q := 268) (one_c rfl mq_165 hl_168 rfl (sc_SX (M := np_M168) (pc := 265) dL_act_265 (by decide) hd_L_restore wd_22 ⟨by decide, by decide, by decide +kernel⟩ (by decide) (by decide) wd_808 wd_809)) rfl ?_
  refine na_3 (q := 271) (one_d (so_goto (M := np_M168) (pc := 268) dL_act_268 (by decide)) (up_goto _)) rfl ?_
  refine na_1 (q := 272) (one_d (so_aload_n (M := np_M168) (pc := 271) dL_act_271 rfl) (up_aload _ _)) rfl ?_
  refine na_3 (q := 275) (one_c rfl mq_164 hl_168 rfl (sc_SX (M := np_M168) (pc := 272) dL_act_272 (by decide) hd_L_undo wd_22 ⟨by decide, by decide, by decide +kernel⟩ (by decide) (by decide) wd_796 wd_797)) rfl ?_
  refine na_1 (q := 276) (one_d (so_reti (M := np_M168) (pc := 275) dL_act_275 rfl) (up_reti _)) rfl ?_
  exact na_z
theorem hl_169 : np_hls.getD 169 [] = [] := rfl
set_option maxRecDepth 100000 in
set_option maxHeartbeats 4000000 in
theorem ok_169 : nv_all np_M169 169 0 np_c169 := by
  unfold np_c169
  refine na_3 (q := 3) (one_d (so_ldc2 (M := np_M169) (pc := 0) dL_digest_0 wd_891) (up_cst _ _)) rfl ?_
  refine na_1 (q := 4) (one_d (so_aload_n (M := np_M169) (pc := 3) dL_digest_3 rfl) (up_aload _ _)) rfl ?_
  refine na_3 (q := 7) (one_c rfl mq_80 hl_169 rfl (sc_V (M := np_M169) (pc := 4) dL_digest_4 cw_L_digest_X7_turnCount rfl wd_892 wd_893 wd_894 (nv_rcO (ci := 5) rfl))) rfl ?_
  refine na_1 (q := 8) (one_d (so_i2l (M := np_M169) (pc := 7) dL_digest_7) (up_i2l _)) rfl ?_
  refine na_1 (q := 9) (one_d (so_lmul (M := np_M169) (pc := 8) dL_digest_8) (up_l2 _ _)) rfl ?_
  refine na_3 (q := 12) (one_d (so_ldc2 (M := np_M169) (pc := 9) dL_digest_9 wd_896) (up_cst _ _)) rfl ?_
  refine na_1 (q := 13) (one_d (so_aload_n (M := np_M169) (pc := 12) dL_digest_12 rfl) (up_aload _ _)) rfl ?_
  refine na_3 (q := 16) (one_c rfl mq_108 hl_169 rfl (sc_V (M := np_M169) (pc := 13) dL_digest_13 cw_L_digest_X7_shotCount rfl wd_897 wd_898 wd_899 (nv_rcO (ci := 5) rfl))) rfl ?_
  refine na_1 (q := 17) (one_d (so_i2l (M := np_M169) (pc := 16) dL_digest_16) (up_i2l _)) rfl ?_
  refine na_1 (q := 18) (one_d (so_lmul (M := np_M169) (pc := 17) dL_digest_17) (up_l2 _ _)) rfl ?_
  refine na_1 (q := 19) (one_d (so_ladd (M := np_M169) (pc := 18) dL_digest_18) (up_l2 _ _)) rfl ?_
  refine na_3 (q := 22) (one_d (so_ldc2 (M := np_M169) (pc := 19) dL_digest_19 wd_901) (up_cst _ _)) rfl ?_
  refine na_1 (q := 23) (one_d (so_aload_n (M := np_M169) (pc := 22) dL_digest_22 rfl) (up_aload _ _)) rfl ?_
  refine na_3 (q := 26) (one_c rfl mq_109 hl_169 rfl (sc_V (M := np_M169) (pc := 23) dL_digest_23 cw_L_digest_X7_hitCount rfl wd_902 wd_903 wd_904 (nv_rcO (ci := 5) rfl))) rfl ?_
  refine na_1 (q := 27) (one_d (so_i2l (M := np_M169) (pc := 26) dL_digest_26) (up_i2l _)) rfl ?_
  refine na_1 (q := 28) (one_d (so_lmul (M := np_M169) (pc := 27) dL_digest_27) (up_l2 _ _)) rfl ?_
  refine na_1 (q := 29) (one_d (so_ladd (M := np_M169) (pc := 28) dL_digest_28) (up_l2 _ _)) rfl ?_
  refine na_3 (q := 32) (one_d (so_ldc2 (M := np_M169) (pc := 29) dL_digest_29 wd_906) (up_cst _ _)) rfl ?_
  refine na_1 (q := 33) (one_d (so_aload_n (M := np_M169) (pc := 32) dL_digest_32 rfl) (up_aload _ _)) rfl ?_
  refine na_3 (q := 36) (one_c rfl mq_110 hl_169 rfl (sc_V (M := np_M169) (pc := 33) dL_digest_33 cw_L_digest_X7_cellsSailed rfl wd_907 wd_908 wd_909 (nv_rcO (ci := 5) rfl))) rfl ?_
  refine na_1 (q := 37) (one_d (so_lmul (M := np_M169) (pc := 36) dL_digest_36) (up_l2 _ _)) rfl ?_
  refine na_1 (q := 38) (one_d (so_ladd (M := np_M169) (pc := 37) dL_digest_37) (up_l2 _ _)) rfl ?_
  refine na_3 (q := 41) (one_d (so_ldc2 (M := np_M169) (pc := 38) dL_digest_38 wd_911) (up_cst _ _)) rfl ?_
  refine na_1 (q := 42) (one_d (so_aload_n (M := np_M169) (pc := 41) dL_digest_41 rfl) (up_aload _ _)) rfl ?_
  refine na_3 (q := 45) (one_c rfl mq_111 hl_169 rfl (sc_V (M := np_M169) (pc := 42) dL_digest_42 cw_L_digest_X7_secretCount rfl wd_912 wd_913 wd_914 (nv_rcO (ci := 5) rfl))) rfl ?_
  refine na_1 (q := 46) (one_d (so_i2l (M := np_M169) (pc := 45) dL_digest_45) (up_i2l _)) rfl ?_
  refine na_1 (q := 47) (one_d (so_lmul (M := np_M169) (pc := 46) dL_digest_46) (up_l2 _ _)) rfl ?_
  refine na_1 (q := 48) (one_d (so_ladd (M := np_M169) (pc := 47) dL_digest_47) (up_l2 _ _)) rfl ?_
  refine na_3 (q := 51) (one_d (so_ldc2 (M := np_M169) (pc := 48) dL_digest_48 wd_916) (up_cst _ _)) rfl ?_
  refine na_1 (q := 52) (one_d (so_aload_n (M := np_M169) (pc := 51) dL_digest_51 rfl) (up_aload _ _)) rfl ?_
  refine na_1 (q := 53) (one_d (so_iconst (M := np_M169) (pc := 52) dL_digest_52 (by decide)) (up_cst _ _)) rfl ?_
  refine na_3 (q := 56) (one_c rfl mq_105 hl_169 rfl (sc_V (M := np_M169) (pc := 53) dL_digest_53 cw_L_digest_X7_potOf rfl wd_917 wd_918 wd_919 (nv_rcO (ci := 5) rfl))) rfl ?_
  refine na_1 (q := 57) (one_d (so_i2l (M := np_M169) (pc := 56) dL_digest_56) (up_i2l _)) rfl ?_
  refine na_1 (q := 58) (one_d (so_lmul (M := np_M169) (pc := 57) dL_digest_57) (up_l2 _ _)) rfl ?_
  refine na_1 (q := 59) (one_d (so_ladd (M := np_M169) (pc := 58) dL_digest_58) (up_l2 _ _)) rfl ?_
  refine na_3 (q := 62) (one_d (so_ldc2 (M := np_M169) (pc := 59) dL_digest_59 wd_927) (up_cst _ _)) rfl ?_
  refine na_1 (q := 63) (one_d (so_aload_n (M := np_M169) (pc := 62) dL_digest_62 rfl) (up_aload _ _)) rfl ?_
  refine na_1 (q := 64) (one_d (so_iconst (M := np_M169) (pc := 63) dL_digest_63 (by decide)) (up_cst _ _)) rfl ?_
  refine na_3 (q := 67) (one_c rfl mq_105 hl_169 rfl (sc_V (M := np_M169) (pc := 64) dL_digest_64 cw_L_digest_X7_potOf rfl wd_917 wd_918 wd_919 (nv_rcO (ci := 5) rfl))) rfl ?_
  refine na_1 (q := 68) (one_d (so_i2l (M := np_M169) (pc := 67) dL_digest_67) (up_i2l _)) rfl ?_
  refine na_1 (q := 69) (one_d (so_lmul (M := np_M169) (pc := 68) dL_digest_68) (up_l2 _ _)) rfl ?_
  refine na_1 (q := 70) (one_d (so_ladd (M := np_M169) (pc := 69) dL_digest_69) (up_l2 _ _)) rfl ?_
  refine na_1 (q := 71) (one_d (so_aload_n (M := np_M169) (pc := 70) dL_digest_70 rfl) (up_aload _ _)) rfl ?_
  refine na_3 (q := 74) (one_c rfl mq_145 hl_169 rfl (sc_SX (M := np_M169) (pc := 71) dL_digest_71 (by decide) hd_L_activeFleet wd_22 ⟨by decide, by decide, by decide +kernel⟩ (by decide) (by decide) wd_928 wd_929)) rfl ?_
  refine na_1 (q := 75) (one_d (so_i2l (M := np_M169) (pc := 74) dL_digest_74) (up_i2l _)) rfl ?_
  refine na_1 (q := 76) (one_d (so_ladd (M := np_M169) (pc := 75) dL_digest_75) (up_l2 _ _)) rfl ?_
  refine na_1 (q := 77) (one_d (so_lstore_n (M := np_M169) (pc := 76) dL_digest_76 rfl (by decide)) (up_lstore _ _)) rfl ?_
  refine na_3 (q := 80) (one_d (so_ldc2 (M := np_M169) (pc := 77) dL_digest_77 wd_941) (up_cst _ _)) rfl ?_
  refine na_3 (q := 83) (one_d (so_ldc2 (M := np_M169) (pc := 80) dL_digest_80 wd_941) (up_cst _ _)) rfl ?_
  refine na_1 (q := 84) (one_d (so_lload_n (M := np_M169) (pc := 83) dL_digest_83 rfl) (up_lload _ _)) rfl ?_
  refine na_1 (q := 85) (one_d (so_lmul (M := np_M169) (pc := 84) dL_digest_84) (up_l2 _ _)) rfl ?_
  refine na_1 (q := 86) (one_d (so_aload_n (M := np_M169) (pc := 85) dL_digest_85 rfl) (up_aload _ _)) rfl ?_
  refine na_3 (q := 89) (one_c rfl mq_146 hl_169 rfl (sc_SX (M := np_M169) (pc := 86) dL_digest_86 (by decide) hd_L_actionsLeft wd_22 ⟨by decide, by decide, by decide +kernel⟩ (by decide) (by decide) wd_942 wd_943)) rfl ?_
  refine na_1 (q := 90) (one_d (so_i2l (M := np_M169) (pc := 89) dL_digest_89) (up_i2l _)) rfl ?_
  refine na_1 (q := 91) (one_d (so_ladd (M := np_M169) (pc := 90) dL_digest_90) (up_l2 _ _)) rfl ?_
  refine na_1 (q := 92) (one_d (so_lmul (M := np_M169) (pc := 91) dL_digest_91) (up_l2 _ _)) rfl ?_
  refine na_1 (q := 93) (one_d (so_aload_n (M := np_M169) (pc := 92) dL_digest_92 rfl) (up_aload _ _)) rfl ?_
  refine na_3 (q := 96) (one_c rfl mq_75 hl_169 rfl (sc_V (M := np_M169) (pc := 93) dL_digest_93 cw_L_digest_X7_isStarted rfl wd_949 wd_950 wd_951 (nv_rcO (ci := 5) rfl))) rfl ?_
  refine na_3 (q := 99) (one_d (so_ifeq (M := np_M169) (pc := 96) dL_digest_96 (by decide)) (up_ifeq _ _)) rfl ?_
  refine na_1 (q := 100) (one_d (so_iconst (M := np_M169) (pc := 99) dL_digest_99 (by decide)) (up_cst _ _)) rfl ?_
  refine na_3 (q := 103) (one_d (so_goto (M := np_M169) (pc := 100) dL_digest_100 (by decide)) (up_goto _)) rfl ?_
  refine na_1 (q := 104) (one_d (so_iconst (M := np_M169) (pc := 103) dL_digest_103 (by decide)) (up_cst _ _)) rfl ?_
  refine na_1 (q := 105) (one_d (so_i2l (M := np_M169) (pc := 104) dL_digest_104) (up_i2l _)) rfl ?_
  refine na_1 (q := 106) (one_d (so_ladd (M := np_M169) (pc := 105) dL_digest_105) (up_l2 _ _)) rfl ?_
  refine na_1 (q := 107) (one_d (so_aload_n (M := np_M169) (pc := 106) dL_digest_106 rfl) (up_aload _ _)) rfl ?_
  refine na_3 (q := 110) (one_c rfl mq_76 hl_169 rfl (sc_V (M := np_M169) (pc := 107) dL_digest_107 cw_L_digest_X7_isFinished rfl wd_953 wd_954 wd_955 (nv_rcO (ci := 5) rfl))) rfl ?_
  refine na_3 (q := 113) (one_d (so_ifeq (M := np_M169) (pc := 110) dL_digest_110 (by decide)) (up_ifeq _ _)) rfl ?_
  refine na_1 (q := 114) (one_d (so_iconst (M := np_M169) (pc := 113) dL_digest_113 (by decide)) (up_cst _ _)) rfl ?_
  refine na_3 (q := 117) (one_d (so_goto (M := np_M169) (pc := 114) dL_digest_114 (by decide)) (up_goto _)) rfl ?_
  refine na_1 (q := 118) (one_d (so_iconst (M := np_M169) (pc := 117) dL_digest_117 (by decide)) (up_cst _ _)) rfl ?_
  refine na_1 (q := 119) (one_d (so_i2l (M := np_M169) (pc := 118) dL_digest_118) (up_i2l _)) rfl ?_
  refine na_1 (q := 120) (one_d (so_ladd (M := np_M169) (pc := 119) dL_digest_119) (up_l2 _ _)) rfl ?_
  refine na_1 (q := 121) (one_d (so_lstore_n (M := np_M169) (pc := 120) dL_digest_120 rfl (by decide)) (up_lstore _ _)) rfl ?_
  refine na_1 (q := 122) (one_d (so_iconst (M := np_M169) (pc := 121) dL_digest_121 (by decide)) (up_cst _ _)) rfl ?_
  refine na_1 (q := 123) (one_d (so_istore_n (M := np_M169) (pc := 122) dL_digest_122 rfl (by decide)) (up_istore _ _)) rfl ?_
  refine na_1 (q := 124) (one_d (so_iload_n (M := np_M169) (pc := 123) dL_digest_123 rfl) (up_iload _ _)) rfl ?_
  refine na_1 (q := 125) (one_d (so_aload_n (M := np_M169) (pc := 124) dL_digest_124 rfl) (up_aload _ _)) rfl ?_
  refine na_3 (q := 128) (one_c rfl mq_85 hl_169 rfl (sc_V (M := np_M169) (pc := 125) dL_digest_125 cw_L_digest_X7_spoonCount rfl wd_958 wd_959 wd_960 (nv_rcO (ci := 5) rfl))) rfl ?_
  refine na_3 (q := 131) (one_d (so_cge (M := np_M169) (pc := 128) dL_digest_128 (by decide)) (up_cge _ _)) rfl ?_
  refine na_3 (q := 134) (one_d (so_ldc2 (M := np_M169) (pc := 131) dL_digest_131 wd_941) (up_cst _ _)) rfl ?_
  refine na_3 (q := 137) (one_d (so_ldc2 (M := np_M169) (pc := 134) dL_digest_134 wd_941) (up_cst _ _)) rfl ?_
  refine na_3 (q := 140) (one_d (so_ldc2 (M := np_M169) (pc := 137) dL_digest_137 wd_941) (up_cst _ _)) rfl ?_
  refine na_3 (q := 143) (one_d (so_ldc2 (M := np_M169) (pc := 140) dL_digest_140 wd_941) (up_cst _ _)) rfl ?_
  refine na_1 (q := 144) (one_d (so_lload_n (M := np_M169) (pc := 143) dL_digest_143 rfl) (up_lload _ _)) rfl ?_
  refine na_1 (q := 145) (one_d (so_lmul (M := np_M169) (pc := 144) dL_digest_144) (up_l2 _ _)) rfl ?_
  refine na_1 (q := 146) (one_d (so_aload_n (M := np_M169) (pc := 145) dL_digest_145 rfl) (up_aload _ _)) rfl ?_
  refine na_1 (q := 147) (one_d (so_iload_n (M := np_M169) (pc := 146) dL_digest_146 rfl) (up_iload _ _)) rfl ?_
  refine na_3 (q := 150) (one_c rfl mq_151 hl_169 rfl (sc_SX (M := np_M169) (pc := 147) dL_digest_147 (by decide) hd_L_xOf wd_22 ⟨by decide, by decide, by decide +kernel⟩ (by decide) (by decide) wd_852 wd_853)) rfl ?_
  refine na_1 (q := 151) (one_d (so_i2l (M := np_M169) (pc := 150) dL_digest_150) (up_i2l _)) rfl ?_
  refine na_1 (q := 152) (one_d (so_ladd (M := np_M169) (pc := 151) dL_digest_151) (up_l2 _ _)) rfl ?_
  refine na_1 (q := 153) (one_d (so_lmul (M := np_M169) (pc := 152) dL_digest_152) (up_l2 _ _)) rfl ?_
  refine na_1 (q := 154) (one_d (so_aload_n (M := np_M169) (pc := 153) dL_digest_153 rfl) (up_aload _ _)) rfl ?_
  refine na_1 (q := 155) (one_d (so_iload_n (M := np_M169) (pc := 154) dL_digest_154 rfl) (up_iload _ _)) rfl ?_
  refine na_3 (q := 158) (one_c rfl mq_152 hl_169 rfl (sc_SX (M := np_M169) (pc := 155) dL_digest_155 (by decide) hd_L_yOf wd_22 ⟨by decide, by decide, by decide +kernel⟩ (by decide) (by decide) wd_872 wd_873)) rfl ?_
  refine na_1 (q := 159) (one_d (so_i2l (M := np_M169) (pc := 158) dL_digest_158) (up_i2l _)) rfl ?_
  refine na_1 (q := 160) (one_d (so_ladd (M := np_M169) (pc := 159) dL_digest_159) (up_l2 _ _)) rfl ?_
  refine na_1 (q := 161) (one_d (so_lmul (M := np_M169) (pc := 160) dL_digest_160) (up_l2 _ _)) rfl ?_
  refine na_1 (q := 162) (one_d (so_aload_n (M := np_M169) (pc := 161) dL_digest_161 rfl) (up_aload _ _)) rfl ?_
  refine na_1 (q := 163) (one_d (so_iload_n (M := np_M169) (pc := 162) dL_digest_162 rfl) (up_iload _ _)) rfl ?_
  refine na_3 (q := 166) (one_c rfl mq_89 hl_169 rfl (sc_V (M := np_M169) (pc := 163) dL_digest_163 cw_L_digest_X7_bearingOf rfl wd_962 wd_963 wd_964 (nv_rcO (ci := 5) rfl))) rfl ?_
  refine na_1 (q := 167) (one_d (so_i2l (M := np_M169) (pc := 166) dL_digest_166) (up_i2l _)) rfl ?_
  refine na_1 (q := 168) (one_d (so_ladd (M := np_M169) (pc := 167) dL_digest_167) (up_l2 _ _)) rfl ?_
  refine na_1 (q := 169) (one_d (so_lmul (M := np_M169) (pc := 168) dL_digest_168) (up_l2 _ _)) rfl ?_
  refine na_1 (q := 170) (one_d (so_aload_n (M := np_M169) (pc := 169) dL_digest_169 rfl) (up_aload _ _)) rfl ?_
  refine na_1 (q := 171) (one_d (so_iload_n (M := np_M169) (pc := 170) dL_digest_170 rfl) (up_iload _ _)) rfl ?_
  refine na_3 (q := 174) (one_c rfl mq_90 hl_169 rfl (sc_V (M := np_M169) (pc := 171) dL_digest_171 cw_L_digest_X7_cubesOf rfl wd_966 wd_967 wd_968 (nv_rcO (ci := 5) rfl))) rfl ?_
  refine na_1 (q := 175) (one_d (so_i2l (M := np_M169) (pc := 174) dL_digest_174) (up_i2l _)) rfl ?_
  refine na_1 (q := 176) (one_d (so_ladd (M := np_M169) (pc := 175) dL_digest_175) (up_l2 _ _)) rfl ?_
  refine na_1 (q := 177) (one_d (so_lstore_n (M := np_M169) (pc := 176) dL_digest_176 rfl (by decide)) (up_lstore _ _)) rfl ?_
  refine na_3 (q := 180) (one_d (so_ldc2 (M := np_M169) (pc := 177) dL_digest_177 wd_941) (up_cst _ _)) rfl ?_
  refine na_3 (q := 183) (one_d (so_ldc2 (M := np_M169) (pc := 180) dL_digest_180 wd_941) (up_cst _ _)) rfl ?_
  refine na_3 (q := 186) (one_d (so_ldc2 (M := np_M169) (pc := 183) dL_digest_183 wd_941) (up_cst _ _)) rfl ?_
  refine na_3 (q := 189) (one_d (so_ldc2 (M := np_M169) (pc := 186) dL_digest_186 wd_941) (up_cst _ _)) rfl ?_
  refine na_1 (q := 190) (one_d (so_lload_n (M := np_M169) (pc := 189) dL_digest_189 rfl) (up_lload _ _)) rfl ?_
  refine na_1 (q := 191) (one_d (so_lmul (M := np_M169) (pc := 190) dL_digest_190) (up_l2 _ _)) rfl ?_
  refine na_1 (q := 192) (one_d (so_aload_n (M := np_M169) (pc := 191) dL_digest_191 rfl) (up_aload _ _)) rfl ?_
  refine na_1 (q := 193) (one_d (so_iload_n (M := np_M169) (pc := 192) dL_digest_192 rfl) (up_iload _ _)) rfl ?_
  refine na_3 (q := 196) (one_c rfl mq_154 hl_169 rfl (sc_SX (M := np_M169) (pc := 193) dL_digest_193 (by decide) hd_L_knownX wd_22 ⟨by decide, by decide, by decide +kernel⟩ (by decide) (by decide) wd_970 wd_971)) rfl ?_
  refine na_1 (q := 197) (one_d (so_i2l (M := np_M169) (pc := 196) dL_digest_196) (up_i2l _)) rfl ?_
  refine na_1 (q := 198) (one_d (so_ladd (M := np_M169) (pc := 197) dL_digest_197) (up_l2 _ _)) rfl ?_
  refine na_1 (q := 199) (one_d (so_lmul (M := np_M169) (pc := 198) dL_digest_198) (up_l2 _ _)) rfl ?_
  refine na_1 (q := 200) (one_d (so_aload_n (M := np_M169) (pc := 199) dL_digest_199 rfl) (up_aload _ _)) rfl ?_
  refine na_1 (q := 201) (one_d (so_iload_n (M := np_M169) (pc := 200) dL_digest_200 rfl) (up_iload _ _)) rfl ?_
  refine na_3 (q := 204) (one_c rfl mq_155 hl_169 rfl (sc_SX (M := np_M169) (pc := 201) dL_digest_201 (by decide) hd_L_knownY wd_22 ⟨by decide, by decide, by decide +kernel⟩ (by decide) (by decide) wd_977 wd_978)) rfl ?_
  refine na_1 (q := 205) (one_d (so_i2l (M := np_M169) (pc := 204) dL_digest_204) (up_i2l _)) rfl ?_
  refine na_1 (q := 206) (one_d (so_ladd (M := np_M169) (pc := 205) dL_digest_205) (up_l2 _ _)) rfl ?_
  refine na_1 (q := 207) (one_d (so_lmul (M := np_M169) (pc := 206) dL_digest_206) (up_l2 _ _)) rfl ?_
  refine na_1 (q := 208) (one_d (so_aload_n (M := np_M169) (pc := 207) dL_digest_207 rfl) (up_aload _ _)) rfl ?_
  refine na_1 (q := 209) (one_d (so_iload_n (M := np_M169) (pc := 208) dL_digest_208 rfl) (up_iload _ _)) rfl ?_
  refine na_3 (q := 212) (one_c rfl mq_91 hl_169 rfl (sc_V (M := np_M169) (pc := 209) dL_digest_209 cw_L_digest_X7_hullOf rfl wd_984 wd_985 wd_986 (nv_rcO (ci := 5) rfl))) rfl ?_
  refine na_1 (q := 213) (one_d (so_i2l (M := np_M169) (pc := 212) dL_digest_212) (up_i2l _)) rfl ?_
  refine na_1 (q := 214) (one_d (so_ladd (M := np_M169) (pc := 213) dL_digest_213) (up_l2 _ _)) rfl ?_
  refine na_1 (q := 215) (one_d (so_lmul (M := np_M169) (pc := 214) dL_digest_214) (up_l2 _ _)) rfl ?_
  refine na_1 (q := 216) (one_d (so_aload_n (M := np_M169) (pc := 215) dL_digest_215 rfl) (up_aload _ _)) rfl ?_
  refine na_1 (q := 217) (one_d (so_iload_n (M := np_M169) (pc := 216) dL_digest_216 rfl) (up_iload _ _)) rfl ?_
  refine na_3 (q := 220) (one_c rfl mq_86 hl_169 rfl (sc_V (M := np_M169) (pc := 217) dL_digest_217 cw_L_digest_X7_fleetOf rfl wd_988 wd_989 wd_990 (nv_rcO (ci := 5) rfl))) rfl ?_
  refine na_1 (q := 221) (one_d (so_i2l (M := np_M169) (pc := 220) dL_digest_220) (up_i2l _)) rfl ?_
  refine na_1 (q := 222) (one_d (so_ladd (M := np_M169) (pc := 221) dL_digest_221) (up_l2 _ _)) rfl ?_
  refine na_1 (q := 223) (one_d (so_lstore_n (M := np_M169) (pc := 222) dL_digest_222 rfl (by decide)) (up_lstore _ _)) rfl ?_
  refine na_3 (q := 226) (one_d (so_iinc (M := np_M169) (pc := 223) dL_digest_223 (by decide) (by decide)) (up_iinc _ _ _)) rfl ?_
  refine na_3 (q := 229) (one_d (so_goto (M := np_M169) (pc := 226) dL_digest_226 (by decide)) (up_goto _)) rfl ?_
  refine na_1 (q := 230) (one_d (so_lload_n (M := np_M169) (pc := 229) dL_digest_229 rfl) (up_lload _ _)) rfl ?_
  refine na_1 (q := 231) (one_d (so_retl (M := np_M169) (pc := 230) dL_digest_230 rfl) (up_retl)) rfl ?_
  exact na_z
theorem hl_170 : np_hls.getD 170 [] = [] := rfl
set_option maxRecDepth 100000 in
set_option maxHeartbeats 4000000 in
theorem ok_170 : nv_all np_M170 170 0 np_c170 := by
  unfold np_c170
  refine na_1 (q := 1) (one_d (so_iload_n (M := np_M170) (pc := 0) dL_far_0 rfl) (up_iload _ _)) rfl ?_
  refine na_1 (q := 2) (one_d (so_iload_n (M := np_M170) (pc := 1) dL_far_1 rfl) (up_iload _ _)) rfl ?_
  refine na_3 (q := 5) (one_d (so_cle (M := np_M170) (pc := 2) dL_far_2 (by decide)) (up_cle _ _)) rfl ?_
  refine na_1 (q := 6) (one_d (so_iload_n (M := np_M170) (pc := 5) dL_far_5 rfl) (up_iload _ _)) rfl ?_
  refine na_1 (q := 7) (one_d (so_iload_n (M := np_M170) (pc := 6) dL_far_6 rfl) (up_iload _ _)) rfl ?_
  refine na_1 (q := 8) (one_d (so_isub (M := np_M170) (pc := 7) dL_far_7) (up_i2 _ _)) rfl ?_
  refine na_3 (q := 11) (one_d (so_goto (M := np_M170) (pc := 8) dL_far_8 (by decide)) (up_goto _)) rfl ?_
  refine na_1 (q := 12) (one_d (so_iload_n (M := np_M170) (pc := 11) dL_far_11 rfl) (up_iload _ _)) rfl ?_
  refine na_1 (q := 13) (one_d (so_iload_n (M := np_M170) (pc := 12) dL_far_12 rfl) (up_iload _ _)) rfl ?_
  refine na_1 (q := 14) (one_d (so_isub (M := np_M170) (pc := 13) dL_far_13) (up_i2 _ _)) rfl ?_
  refine na_1 (q := 15) (one_d (so_reti (M := np_M170) (pc := 14) dL_far_14 rfl) (up_reti _)) rfl ?_
  exact na_z
theorem hl_171 : np_hls.getD 171 [] = [] := rfl
set_option maxRecDepth 100000 in
set_option maxHeartbeats 4000000 in
theorem ok_171 : nv_all np_M171 171 0 np_c171 := by
  unfold np_c171
  refine na_1 (q := 1) (one_d (so_aload_n (M := np_M171) (pc := 0) dL_isGame_0 rfl) (up_aload _ _)) rfl ?_
  refine na_3 (q := 4) (one_c rfl mq_75 hl_171 rfl (sc_V (M := np_M171) (pc := 1) dL_isGame_1 cw_L_isGame_X7_isStarted rfl wd_949 wd_950 wd_951 (nv_rcO (ci := 5) rfl))) rfl ?_
  refine na_3 (q := 7) (one_d (so_ifeq (M := np_M171) (pc := 4) dL_isGame_4 (by decide)) (up_ifeq _ _)) rfl ?_
  refine na_1 (q := 8) (one_d (so_aload_n (M := np_M171) (pc := 7) dL_isGame_7 rfl) (up_aload _ _)) rfl ?_
  refine na_3 (q := 11) (one_c rfl mq_76 hl_171 rfl (sc_V (M := np_M171) (pc := 8) dL_isGame_8 cw_L_isGame_X7_isFinished rfl wd_953 wd_954 wd_955 (nv_rcO (ci := 5) rfl))) rfl ?_
  refine na_3 (q := 14) (one_d (so_ifne (M := np_M171) (pc := 11) dL_isGame_11 (by decide)) (up_ifne _ _)) rfl ?_
  refine na_1 (q := 15) (one_d (so_iconst (M := np_M171) (pc := 14) dL_isGame_14 (by decide)) (up_cst _ _)) rfl ?_
  refine na_3 (q := 18) (one_d (so_goto (M := np_M171) (pc := 15) dL_isGame_15 (by decide)) (up_goto _)) rfl ?_
  refine na_1 (q := 19) (one_d (so_iconst (M := np_M171) (pc := 18) dL_isGame_18 (by decide)) (up_cst _ _)) rfl ?_
  refine na_1 (q := 20) (one_d (so_istore_n (M := np_M171) (pc := 19) dL_isGame_19 rfl (by decide)) (up_istore _ _)) rfl ?_
  refine na_1 (q := 21) (one_d (so_aload_n (M := np_M171) (pc := 20) dL_isGame_20 rfl) (up_aload _ _)) rfl ?_
  refine na_3 (q := 24) (one_c rfl mq_145 hl_171 rfl (sc_SX (M := np_M171) (pc := 21) dL_isGame_21 (by decide) hd_L_activeFleet wd_22 ⟨by decide, by decide, by decide +kernel⟩ (by decide) (by decide) wd_928 wd_929)) rfl ?_
  refine na_3 (q := 27) (one_d (so_sipush (M := np_M171) (pc := 24) dL_isGame_24 (by decide)) (up_cst _ _)) rfl ?_
  refine na_3 (q := 30) (one_d (so_ceq (M := np_M171) (pc := 27) dL_isGame_27 (by decide)) (up_ceq _ _)) rfl ?_
  refine na_1 (q := 31) (one_d (so_iconst (M := np_M171) (pc := 30) dL_isGame_30 (by decide)) (up_cst _ _)) rfl ?_
  refine na_3 (q := 34) (one_d (so_goto (M := np_M171) (pc := 31) dL_isGame_31 (by decide)) (up_goto _)) rfl ?_
  refine na_1 (q := 35) (one_d (so_iconst (M := np_M171) (pc := 34) dL_isGame_34 (by decide)) (up_cst _ _)) rfl ?_
  refine na_1 (q := 36) (one_d (so_iload_n (M := np_M171) (pc := 35) dL_isGame_35 rfl) (up_iload _ _)) rfl ?_
  refine na_3 (q := 39) (one_d (so_cne (M := np_M171) (pc := 36) dL_isGame_36 (by decide)) (up_cne _ _)) rfl ?_
  refine na_1 (q := 40) (one_d (so_aload_n (M := np_M171) (pc := 39) dL_isGame_39 rfl) (up_aload _ _)) rfl ?_
  refine na_3 (q := 43) (one_c rfl mq_146 hl_171 rfl (sc_SX (M := np_M171) (pc := 40) dL_isGame_40 (by decide) hd_L_actionsLeft wd_22 ⟨by decide, by decide, by decide +kernel⟩ (by decide) (by decide) wd_942 wd_943)) rfl ?_
  refine na_3 (q := 46) (one_d (so_sipush (M := np_M171) (pc := 43) dL_isGame_43 (by decide)) (up_cst _ _)) rfl ?_
  refine na_3 (q := 49) (one_d (so_ceq (M := np_M171) (pc := 46) dL_isGame_46 (by decide)) (up_ceq _ _)) rfl ?_
  refine na_1 (q := 50) (one_d (so_iconst (M := np_M171) (pc := 49) dL_isGame_49 (by decide)) (up_cst _ _)) rfl ?_
  refine na_3 (q := 53) (one_d (so_goto (M := np_M171) (pc := 50) dL_isGame_50 (by decide)) (up_goto _)) rfl ?_
  refine na_1 (q := 54) (one_d (so_iconst (M := np_M171) (pc := 53) dL_isGame_53 (by decide)) (up_cst _ _)) rfl ?_
  refine na_1 (q := 55) (one_d (so_iload_n (M := np_M171) (pc := 54) dL_isGame_54 rfl) (up_iload _ _)) rfl ?_
  refine na_3 (q := 58) (one_d (so_cne (M := np_M171) (pc := 55) dL_isGame_55 (by decide)) (up_cne _ _)) rfl ?_
  refine na_1 (q := 59) (one_d (so_aload_n (M := np_M171) (pc := 58) dL_isGame_58 rfl) (up_aload _ _)) rfl ?_
  refine na_3 (q := 62) (one_c rfl mq_146 hl_171 rfl (sc_SX (M := np_M171) (pc := 59) dL_isGame_59 (by decide) hd_L_actionsLeft wd_22 ⟨by decide, by decide, by decide +kernel⟩ (by decide) (by decide) wd_942 wd_943)) rfl ?_
  refine na_1 (q := 63) (one_d (so_iconst (M := np_M171) (pc := 62) dL_isGame_62 (by decide)) (up_cst _ _)) rfl ?_
  refine na_3 (q := 66) (one_d (so_cgt (M := np_M171) (pc := 63) dL_isGame_63 (by decide)) (up_cgt _ _)) rfl ?_
  refine na_1 (q := 67) (one_d (so_aload_n (M := np_M171) (pc := 66) dL_isGame_66 rfl) (up_aload _ _)) rfl ?_
  refine na_3 (q := 70) (one_c rfl mq_144 hl_171 rfl (sc_SX (M := np_M171) (pc := 67) dL_isGame_67 (by decide) hd_L_winner wd_22 ⟨by decide, by decide, by decide +kernel⟩ (by decide) (by decide) wd_998 wd_999)) rfl ?_
  refine na_3 (q := 73) (one_d (so_sipush (M := np_M171) (pc := 70) dL_isGame_70 (by decide)) (up_cst _ _)) rfl ?_
  refine na_3 (q := 76) (one_d (so_ceq (M := np_M171) (pc := 73) dL_isGame_73 (by decide)) (up_ceq _ _)) rfl ?_
  refine na_1 (q := 77) (one_d (so_iconst (M := np_M171) (pc := 76) dL_isGame_76 (by decide)) (up_cst _ _)) rfl ?_
  refine na_3 (q := 80) (one_d (so_goto (M := np_M171) (pc := 77) dL_isGame_77 (by decide)) (up_goto _)) rfl ?_
  refine na_1 (q := 81) (one_d (so_iconst (M := np_M171) (pc := 80) dL_isGame_80 (by decide)) (up_cst _ _)) rfl ?_
  refine na_1 (q := 82) (one_d (so_aload_n (M := np_M171) (pc := 81) dL_isGame_81 rfl) (up_aload _ _)) rfl ?_
  refine na_3 (q := 85) (one_c rfl mq_76 hl_171 rfl (sc_V (M := np_M171) (pc := 82) dL_isGame_82 cw_L_isGame_X7_isFinished rfl wd_953 wd_954 wd_955 (nv_rcO (ci := 5) rfl))) rfl ?_
  refine na_3 (q := 88) (one_d (so_cne (M := np_M171) (pc := 85) dL_isGame_85 (by decide)) (up_cne _ _)) rfl ?_
  refine na_1 (q := 89) (one_d (so_aload_n (M := np_M171) (pc := 88) dL_isGame_88 rfl) (up_aload _ _)) rfl ?_
  refine na_3 (q := 92) (one_c rfl mq_76 hl_171 rfl (sc_V (M := np_M171) (pc := 89) dL_isGame_89 cw_L_isGame_X7_isFinished rfl wd_953 wd_954 wd_955 (nv_rcO (ci := 5) rfl))) rfl ?_
  refine na_3 (q := 95) (one_d (so_ifeq (M := np_M171) (pc := 92) dL_isGame_92 (by decide)) (up_ifeq _ _)) rfl ?_
  refine na_1 (q := 96) (one_d (so_aload_n (M := np_M171) (pc := 95) dL_isGame_95 rfl) (up_aload _ _)) rfl ?_
  refine na_1 (q := 97) (one_d (so_aload_n (M := np_M171) (pc := 96) dL_isGame_96 rfl) (up_aload _ _)) rfl ?_
  refine na_3 (q := 100) (one_c rfl mq_144 hl_171 rfl (sc_SX (M := np_M171) (pc := 97) dL_isGame_97 (by decide) hd_L_winner wd_22 ⟨by decide, by decide, by decide +kernel⟩ (by decide) (by decide) wd_998 wd_999)) rfl ?_
  refine na_3 (q := 103) (one_c rfl mq_97 hl_171 rfl (sc_V (M := np_M171) (pc := 100) dL_isGame_100 cw_L_isGame_X7_floating rfl wd_1006 wd_1007 wd_1008 (nv_rcO (ci := 5) rfl))) rfl ?_
  refine na_3 (q := 106) (one_d (so_ifle (M := np_M171) (pc := 103) dL_isGame_103 (by decide)) (up_ifle _ _)) rfl ?_
  refine na_1 (q := 107) (one_d (so_aload_n (M := np_M171) (pc := 106) dL_isGame_106 rfl) (up_aload _ _)) rfl ?_
  refine na_1 (q := 108) (one_d (so_iconst (M := np_M171) (pc := 107) dL_isGame_107 (by decide)) (up_cst _ _)) rfl ?_
  refine na_1 (q := 109) (one_d (so_aload_n (M := np_M171) (pc := 108) dL_isGame_108 rfl) (up_aload _ _)) rfl ?_
  refine na_3 (q := 112) (one_c rfl mq_144 hl_171 rfl (sc_SX (M := np_M171) (pc := 109) dL_isGame_109 (by decide) hd_L_winner wd_22 ⟨by decide, by decide, by decide +kernel⟩ (by decide) (by decide) wd_998 wd_999)) rfl ?_
  refine na_1 (q := 113) (one_d (so_isub (M := np_M171) (pc := 112) dL_isGame_112) (up_i2 _ _)) rfl ?_
  refine na_3 (q := 116) (one_c rfl mq_97 hl_171 rfl (sc_V (M := np_M171) (pc := 113) dL_isGame_113 cw_L_isGame_X7_floating rfl wd_1006 wd_1007 wd_1008 (nv_rcO (ci := 5) rfl))) rfl ?_
  refine na_3 (q := 119) (one_d (so_ifne (M := np_M171) (pc := 116) dL_isGame_116 (by decide)) (up_ifne _ _)) rfl ?_
  refine na_1 (q := 120) (one_d (so_iconst (M := np_M171) (pc := 119) dL_isGame_119 (by decide)) (up_cst _ _)) rfl ?_
  refine na_3 (q := 123) (one_d (so_goto (M := np_M171) (pc := 120) dL_isGame_120 (by decide)) (up_goto _)) rfl ?_
  refine na_1 (q := 124) (one_d (so_iconst (M := np_M171) (pc := 123) dL_isGame_123 (by decide)) (up_cst _ _)) rfl ?_
  refine na_1 (q := 125) (one_d (so_istore_n (M := np_M171) (pc := 124) dL_isGame_124 rfl (by decide)) (up_istore _ _)) rfl ?_
  refine na_1 (q := 126) (one_d (so_iconst (M := np_M171) (pc := 125) dL_isGame_125 (by decide)) (up_cst _ _)) rfl ?_
  refine na_1 (q := 127) (one_d (so_istore_n (M := np_M171) (pc := 126) dL_isGame_126 rfl (by decide)) (up_istore _ _)) rfl ?_
  refine na_1 (q := 128) (one_d (so_iload_n (M := np_M171) (pc := 127) dL_isGame_127 rfl) (up_iload _ _)) rfl ?_
  refine na_3 (q := 131) (one_d (so_ifeq (M := np_M171) (pc := 128) dL_isGame_128 (by decide)) (up_ifeq _ _)) rfl ?_
  refine na_1 (q := 132) (one_d (so_iload_n (M := np_M171) (pc := 131) dL_isGame_131 rfl) (up_iload _ _)) rfl ?_
  refine na_1 (q := 133) (one_d (so_iconst (M := np_M171) (pc := 132) dL_isGame_132 (by decide)) (up_cst _ _)) rfl ?_
  refine na_3 (q := 136) (one_d (so_cge (M := np_M171) (pc := 133) dL_isGame_133 (by decide)) (up_cge _ _)) rfl ?_
  refine na_1 (q := 137) (one_d (so_iconst (M := np_M171) (pc := 136) dL_isGame_136 (by decide)) (up_cst _ _)) rfl ?_
  refine na_2 (q := 139) (one_d (so_istore (M := np_M171) (pc := 137) dL_isGame_137 (by decide)) (up_istore _ _)) rfl ?_
  refine na_1 (q := 140) (one_d (so_iconst (M := np_M171) (pc := 139) dL_isGame_139 (by decide)) (up_cst _ _)) rfl ?_
  refine na_2 (q := 142) (one_d (so_istore (M := np_M171) (pc := 140) dL_isGame_140 (by decide)) (up_istore _ _)) rfl ?_
  refine na_1 (q := 143) (one_d (so_iconst (M := np_M171) (pc := 142) dL_isGame_142 (by decide)) (up_cst _ _)) rfl ?_
  refine na_2 (q := 145) (one_d (so_istore (M := np_M171) (pc := 143) dL_isGame_143 (by decide)) (up_istore _ _)) rfl ?_
  refine na_2 (q := 147) (one_d (so_iload (M := np_M171) (pc := 145) dL_isGame_145) (up_iload _ _)) rfl ?_
  refine na_1 (q := 148) (one_d (so_aload_n (M := np_M171) (pc := 147) dL_isGame_147 rfl) (up_aload _ _)) rfl ?_
  refine na_3 (q := 151) (one_c rfl mq_85 hl_171 rfl (sc_V (M := np_M171) (pc := 148) dL_isGame_148 cw_L_isGame_X7_spoonCount rfl wd_958 wd_959 wd_960 (nv_rcO (ci := 5) rfl))) rfl ?_
  refine na_3 (q := 154) (one_d (so_cge (M := np_M171) (pc := 151) dL_isGame_151 (by decide)) (up_cge _ _)) rfl ?_
  refine na_1 (q := 155) (one_d (so_aload_n (M := np_M171) (pc := 154) dL_isGame_154 rfl) (up_aload _ _)) rfl ?_
  refine na_2 (q := 157) (one_d (so_iload (M := np_M171) (pc := 155) dL_isGame_155) (up_iload _ _)) rfl ?_
  refine na_3 (q := 160) (one_c rfl mq_86 hl_171 rfl (sc_V (M := np_M171) (pc := 157) dL_isGame_157 cw_L_isGame_X7_fleetOf rfl wd_988 wd_989 wd_990 (nv_rcO (ci := 5) rfl))) rfl ?_
  refine na_1 (q := 161) (one_d (so_iload_n (M := np_M171) (pc := 160) dL_isGame_160 rfl) (up_iload _ _)) rfl ?_
  refine na_3 (q := 164) (one_d (so_cne (M := np_M171) (pc := 161) dL_isGame_161 (by decide)) (up_cne _ _)) rfl ?_
  refine na_1 (q := 165) (one_d (so_iconst (M := np_M171) (pc := 164) dL_isGame_164 (by decide)) (up_cst _ _)) rfl ?_
  refine na_3 (q := 168) (one_d (so_goto (M := np_M171) (pc := 165) dL_isGame_165 (by decide)) (up_goto _)) rfl ?_
  refine na_1 (q := 169) (one_d (so_iconst (M := np_M171) (pc := 168) dL_isGame_168 (by decide)) (up_cst _ _)) rfl ?_
  refine na_2 (q := 171) (one_d (so_istore (M := np_M171) (pc := 169) dL_isGame_169 (by decide)) (up_istore _ _)) rfl ?_
  refine na_2 (q := 173) (one_d (so_iload (M := np_M171) (pc := 171) dL_isGame_171) (up_iload _ _)) rfl ?_
  refine na_2 (q := 175) (one_d (so_iload (M := np_M171) (pc := 173) dL_isGame_173) (up_iload _ _)) rfl ?_
  refine na_3 (q := 178) (one_d (so_ifeq (M := np_M171) (pc := 175) dL_isGame_175 (by decide)) (up_ifeq _ _)) rfl ?_
  refine na_1 (q := 179) (one_d (so_aload_n (M := np_M171) (pc := 178) dL_isGame_178 rfl) (up_aload _ _)) rfl ?_
  refine na_2 (q := 181) (one_d (so_iload (M := np_M171) (pc := 179) dL_isGame_179) (up_iload _ _)) rfl ?_
  refine na_3 (q := 184) (one_c rfl mq_90 hl_171 rfl (sc_V (M := np_M171) (pc := 181) dL_isGame_181 cw_L_isGame_X7_cubesOf rfl wd_966 wd_967 wd_968 (nv_rcO (ci := 5) rfl))) rfl ?_
  refine na_3 (q := 187) (one_d (so_goto (M := np_M171) (pc := 184) dL_isGame_184 (by decide)) (up_goto _)) rfl ?_
  refine na_1 (q := 188) (one_d (so_iconst (M := np_M171) (pc := 187) dL_isGame_187 (by decide)) (up_cst _ _)) rfl ?_
  refine na_1 (q := 189) (one_d (so_iadd (M := np_M171) (pc := 188) dL_isGame_188) (up_i2 _ _)) rfl ?_
  refine na_2 (q := 191) (one_d (so_istore (M := np_M171) (pc := 189) dL_isGame_189 (by decide)) (up_istore _ _)) rfl ?_
  refine na_2 (q := 193) (one_d (so_iload (M := np_M171) (pc := 191) dL_isGame_191) (up_iload _ _)) rfl ?_
  refine na_2 (q := 195) (one_d (so_iload (M := np_M171) (pc := 193) dL_isGame_193) (up_iload _ _)) rfl ?_
  refine na_3 (q := 198) (one_d (so_ifeq (M := np_M171) (pc := 195) dL_isGame_195 (by decide)) (up_ifeq _ _)) rfl ?_
  refine na_1 (q := 199) (one_d (so_aload_n (M := np_M171) (pc := 198) dL_isGame_198 rfl) (up_aload _ _)) rfl ?_
  refine na_2 (q := 201) (one_d (so_iload (M := np_M171) (pc := 199) dL_isGame_199) (up_iload _ _)) rfl ?_
  refine na_3 (q := 204) (one_c rfl mq_92 hl_171 rfl (sc_V (M := np_M171) (pc := 201) dL_isGame_201 cw_L_isGame_X7_isSunk rfl wd_1010 wd_1011 wd_1012 (nv_rcO (ci := 5) rfl))) rfl ?_
  refine na_3 (q := 207) (one_d (so_ifne (M := np_M171) (pc := 204) dL_isGame_204 (by decide)) (up_ifne _ _)) rfl ?_
  refine na_1 (q := 208) (one_d (so_iconst (M := np_M171) (pc := 207) dL_isGame_207 (by decide)) (up_cst _ _)) rfl ?_
  refine na_3 (q := 211) (one_d (so_goto (M := np_M171) (pc := 208) dL_isGame_208 (by decide)) (up_goto _)) rfl ?_
  refine na_1 (q := 212) (one_d (so_iconst (M := np_M171) (pc := 211) dL_isGame_211 (by decide)) (up_cst _ _)) rfl ?_
  refine na_1 (q := 213) (one_d (so_iadd (M := np_M171) (pc := 212) dL_isGame_212) (up_i2 _ _)) rfl ?_
  refine na_2 (q := 215) (one_d (so_istore (M := np_M171) (pc := 213) dL_isGame_213 (by decide)) (up_istore _ _)) rfl ?_
  refine na_3 (q := 218) (one_d (so_iinc (M := np_M171) (pc := 215) dL_isGame_215 (by decide) (by decide)) (up_iinc _ _ _)) rfl ?_
  refine na_3 (q := 221) (one_d (so_goto (M := np_M171) (pc := 218) dL_isGame_218 (by decide)) (up_goto _)) rfl ?_
  refine na_1 (q := 222) (one_d (so_aload_n (M := np_M171) (pc := 221) dL_isGame_221 rfl) (up_aload _ _)) rfl ?_
  refine na_1 (q := 223) (one_d (so_iload_n (M := np_M171) (pc := 222) dL_isGame_222 rfl) (up_iload _ _)) rfl ?_
  refine na_3 (q := 226) (one_c rfl mq_106 hl_171 rfl (sc_V (M := np_M171) (pc := 223) dL_isGame_223 cw_L_isGame_X7_fleetCubes rfl wd_1014 wd_1015 wd_1016 (nv_rcO (ci := 5) rfl))) rfl ?_
  refine na_2 (q := 228) (one_d (so_iload (M := np_M171) (pc := 226) dL_isGame_226) (up_iload _ _)) rfl ?_
  refine na_3 (q := 231) (one_d (so_cne (M := np_M171) (pc := 228) dL_isGame_228 (by decide)) (up_cne _ _)) rfl ?_
  refine na_1 (q := 232) (one_d (so_aload_n (M := np_M171) (pc := 231) dL_isGame_231 rfl) (up_aload _ _)) rfl ?_
  refine na_1 (q := 233) (one_d (so_iload_n (M := np_M171) (pc := 232) dL_isGame_232 rfl) (up_iload _ _)) rfl ?_
  refine na_3 (q := 236) (one_c rfl mq_107 hl_171 rfl (sc_V (M := np_M171) (pc := 233) dL_isGame_233 cw_L_isGame_X7_fleetCubesByAccount rfl wd_1022 wd_1023 wd_1024 (nv_rcO (ci := 5) rfl))) rfl ?_
  refine na_2 (q := 238) (one_d (so_iload (M := np_M171) (pc := 236) dL_isGame_236) (up_iload _ _)) rfl ?_
  refine na_3 (q := 241) (one_d (so_cne (M := np_M171) (pc := 238) dL_isGame_238 (by decide)) (up_cne _ _)) rfl ?_
  refine na_1 (q := 242) (one_d (so_aload_n (M := np_M171) (pc := 241) dL_isGame_241 rfl) (up_aload _ _)) rfl ?_
  refine na_1 (q := 243) (one_d (so_iload_n (M := np_M171) (pc := 242) dL_isGame_242 rfl) (up_iload _ _)) rfl ?_
  refine na_3 (q := 246) (one_c rfl mq_97 hl_171 rfl (sc_V (M := np_M171) (pc := 243) dL_isGame_243 cw_L_isGame_X7_floating rfl wd_1006 wd_1007 wd_1008 (nv_rcO (ci := 5) rfl))) rfl ?_
  refine na_2 (q := 248) (one_d (so_iload (M := np_M171) (pc := 246) dL_isGame_246) (up_iload _ _)) rfl ?_
  refine na_3 (q := 251) (one_d (so_cne (M := np_M171) (pc := 248) dL_isGame_248 (by decide)) (up_cne _ _)) rfl ?_
  refine na_1 (q := 252) (one_d (so_aload_n (M := np_M171) (pc := 251) dL_isGame_251 rfl) (up_aload _ _)) rfl ?_
  refine na_1 (q := 253) (one_d (so_iload_n (M := np_M171) (pc := 252) dL_isGame_252 rfl) (up_iload _ _)) rfl ?_
  refine na_3 (q := 256) (one_c rfl mq_105 hl_171 rfl (sc_V (M := np_M171) (pc := 253) dL_isGame_253 cw_L_isGame_X7_potOf rfl wd_917 wd_918 wd_919 (nv_rcO (ci := 5) rfl))) rfl ?_
  refine na_3 (q := 259) (one_d (so_iflt (M := np_M171) (pc := 256) dL_isGame_256 (by decide)) (up_iflt _ _)) rfl ?_
  refine na_1 (q := 260) (one_d (so_aload_n (M := np_M171) (pc := 259) dL_isGame_259 rfl) (up_aload _ _)) rfl ?_
  refine na_1 (q := 261) (one_d (so_iload_n (M := np_M171) (pc := 260) dL_isGame_260 rfl) (up_iload _ _)) rfl ?_
  refine na_3 (q := 264) (one_c rfl mq_105 hl_171 rfl (sc_V (M := np_M171) (pc := 261) dL_isGame_261 cw_L_isGame_X7_potOf rfl wd_917 wd_918 wd_919 (nv_rcO (ci := 5) rfl))) rfl ?_
  refine na_2 (q := 266) (one_d (so_bipush (M := np_M171) (pc := 264) dL_isGame_264 (by decide)) (up_cst _ _)) rfl ?_
  refine na_3 (q := 269) (one_d (so_cgt (M := np_M171) (pc := 266) dL_isGame_266 (by decide)) (up_cgt _ _)) rfl ?_
  refine na_1 (q := 270) (one_d (so_aload_n (M := np_M171) (pc := 269) dL_isGame_269 rfl) (up_aload _ _)) rfl ?_
  refine na_1 (q := 271) (one_d (so_iload_n (M := np_M171) (pc := 270) dL_isGame_270 rfl) (up_iload _ _)) rfl ?_
  refine na_3 (q := 274) (one_c rfl mq_161 hl_171 rfl (sc_SX (M := np_M171) (pc := 271) dL_isGame_271 (by decide) hd_L_meanCubes wd_22 ⟨by decide, by decide, by decide +kernel⟩ (by decide) (by decide) wd_1030 wd_1031)) rfl ?_
  refine na_2 (q := 276) (one_d (so_iload (M := np_M171) (pc := 274) dL_isGame_274) (up_iload _ _)) rfl ?_
  refine na_3 (q := 279) (one_d (so_ifne (M := np_M171) (pc := 276) dL_isGame_276 (by decide)) (up_ifne _ _)) rfl ?_
  refine na_3 (q := 282) (one_d (so_ldc2d (M := np_M171) (pc := 279) dL_isGame_279 wd_1047) (up_cst _ _)) rfl ?_
  refine na_3 (q := 285) (one_d (so_goto (M := np_M171) (pc := 282) dL_isGame_282 (by decide)) (up_goto _)) rfl ?_
  refine na_2 (q := 287) (one_d (so_iload (M := np_M171) (pc := 285) dL_isGame_285) (up_iload _ _)) rfl ?_
  refine na_1 (q := 288) (one_d (so_i2d (M := np_M171) (pc := 287) dL_isGame_287) (up_i2d _)) rfl ?_
  refine na_2 (q := 290) (one_d (so_iload (M := np_M171) (pc := 288) dL_isGame_288) (up_iload _ _)) rfl ?_
  refine na_1 (q := 291) (one_d (so_i2d (M := np_M171) (pc := 290) dL_isGame_290) (up_i2d _)) rfl ?_
  refine na_1 (q := 292) (one_d (so_ddiv (M := np_M171) (pc := 291) dL_isGame_291) (up_ddiv _)) rfl ?_
  refine na_1 (q := 293) (one_d (so_dcmp (M := np_M171) (pc := 292) dL_isGame_292) (up_dcmp _ _)) rfl ?_
  refine na_3 (q := 296) (one_d (so_ifne (M := np_M171) (pc := 293) dL_isGame_293 (by decide)) (up_ifne _ _)) rfl ?_
  refine na_1 (q := 297) (one_d (so_iconst (M := np_M171) (pc := 296) dL_isGame_296 (by decide)) (up_cst _ _)) rfl ?_
  refine na_3 (q := 300) (one_d (so_goto (M := np_M171) (pc := 297) dL_isGame_297 (by decide)) (up_goto _)) rfl ?_
  refine na_1 (q := 301) (one_d (so_iconst (M := np_M171) (pc := 300) dL_isGame_300 (by decide)) (up_cst _ _)) rfl ?_
  refine na_1 (q := 302) (one_d (so_istore_n (M := np_M171) (pc := 301) dL_isGame_301 rfl (by decide)) (up_istore _ _)) rfl ?_
  refine na_3 (q := 305) (one_d (so_iinc (M := np_M171) (pc := 302) dL_isGame_302 (by decide) (by decide)) (up_iinc _ _ _)) rfl ?_
  refine na_3 (q := 308) (one_d (so_goto (M := np_M171) (pc := 305) dL_isGame_305 (by decide)) (up_goto _)) rfl ?_
  refine na_1 (q := 309) (one_d (so_iload_n (M := np_M171) (pc := 308) dL_isGame_308 rfl) (up_iload _ _)) rfl ?_
  refine na_3 (q := 312) (one_d (so_ifeq (M := np_M171) (pc := 309) dL_isGame_309 (by decide)) (up_ifeq _ _)) rfl ?_
  refine na_1 (q := 313) (one_d (so_aload_n (M := np_M171) (pc := 312) dL_isGame_312 rfl) (up_aload _ _)) rfl ?_
  refine na_3 (q := 316) (one_c rfl mq_160 hl_171 rfl (sc_SX (M := np_M171) (pc := 313) dL_isGame_313 (by decide) hd_L_hitShare wd_22 ⟨by decide, by decide, by decide +kernel⟩ (by decide) (by decide) wd_1055 wd_1056)) rfl ?_
  refine na_1 (q := 317) (one_d (so_aload_n (M := np_M171) (pc := 316) dL_isGame_316 rfl) (up_aload _ _)) rfl ?_
  refine na_3 (q := 320) (one_c rfl mq_108 hl_171 rfl (sc_V (M := np_M171) (pc := 317) dL_isGame_317 cw_L_isGame_X7_shotCount rfl wd_897 wd_898 wd_899 (nv_rcO (ci := 5) rfl))) rfl ?_
  refine na_3 (q := 323) (one_d (so_ifne (M := np_M171) (pc := 320) dL_isGame_320 (by decide)) (up_ifne _ _)) rfl ?_
  refine na_2 (q := 325) (one_d (so_ldcf (M := np_M171) (pc := 323) dL_isGame_323 wd_1058) (up_cst _ _)) rfl ?_
  refine na_3 (q := 328) (one_d (so_goto (M := np_M171) (pc := 325) dL_isGame_325 (by decide)) (up_goto _)) rfl ?_
  refine na_1 (q := 329) (one_d (so_aload_n (M := np_M171) (pc := 328) dL_isGame_328 rfl) (up_aload _ _)) rfl ?_
  refine na_3 (q := 332) (one_c rfl mq_109 hl_171 rfl (sc_V (M := np_M171) (pc := 329) dL_isGame_329 cw_L_isGame_X7_hitCount rfl wd_902 wd_903 wd_904 (nv_rcO (ci := 5) rfl))) rfl ?_
  refine na_1 (q := 333) (one_d (so_i2f (M := np_M171) (pc := 332) dL_isGame_332) (up_i2f _)) rfl ?_
  refine na_1 (q := 334) (one_d (so_aload_n (M := np_M171) (pc := 333) dL_isGame_333 rfl) (up_aload _ _)) rfl ?_
  refine na_3 (q := 337) (one_c rfl mq_108 hl_171 rfl (sc_V (M := np_M171) (pc := 334) dL_isGame_334 cw_L_isGame_X7_shotCount rfl wd_897 wd_898 wd_899 (nv_rcO (ci := 5) rfl))) rfl ?_
  refine na_1 (q := 338) (one_d (so_i2f (M := np_M171) (pc := 337) dL_isGame_337) (up_i2f _)) rfl ?_
  refine na_1 (q := 339) (one_d (so_fdiv (M := np_M171) (pc := 338) dL_isGame_338) (up_fdiv _)) rfl ?_
  refine na_1 (q := 340) (one_d (so_fcmp (M := np_M171) (pc := 339) dL_isGame_339) (up_fcmp _ _)) rfl ?_
  refine na_3 (q := 343) (one_d (so_ifne (M := np_M171) (pc := 340) dL_isGame_340 (by decide)) (up_ifne _ _)) rfl ?_
  refine na_1 (q := 344) (one_d (so_aload_n (M := np_M171) (pc := 343) dL_isGame_343 rfl) (up_aload _ _)) rfl ?_
  refine na_3 (q := 347) (one_c rfl mq_119 hl_171 rfl (sc_V (M := np_M171) (pc := 344) dL_isGame_344 cw_L_isGame_X7_isConsistent rfl wd_1064 wd_1065 wd_1066 (nv_rcO (ci := 5) rfl))) rfl ?_
  refine na_3 (q := 350) (one_d (so_ifeq (M := np_M171) (pc := 347) dL_isGame_347 (by decide)) (up_ifeq _ _)) rfl ?_
  refine na_1 (q := 351) (one_d (so_iconst (M := np_M171) (pc := 350) dL_isGame_350 (by decide)) (up_cst _ _)) rfl ?_
  refine na_3 (q := 354) (one_d (so_goto (M := np_M171) (pc := 351) dL_isGame_351 (by decide)) (up_goto _)) rfl ?_
  refine na_1 (q := 355) (one_d (so_iconst (M := np_M171) (pc := 354) dL_isGame_354 (by decide)) (up_cst _ _)) rfl ?_
  refine na_1 (q := 356) (one_d (so_reti (M := np_M171) (pc := 355) dL_isGame_355 rfl) (up_reti _)) rfl ?_
  exact na_z
theorem hl_172 : np_hls.getD 172 [] = [] := rfl
set_option maxRecDepth 100000 in
set_option maxHeartbeats 4000000 in
theorem ok_172 : nv_all np_M172 172 0 np_c172 := by
  unfold np_c172
  refine na_1 (q := 1) (one_d (so_aload_n (M := np_M172) (pc := 0) dL_isSpoon_0 rfl) (up_aload _ _)) rfl ?_
  refine na_1 (q := 2) (one_d (so_iload_n (M := np_M172) (pc := 1) dL_isSpoon_1 rfl) (up_iload _ _)) rfl ?_
  refine na_3 (q := 5) (one_c rfl mq_92 hl_172 rfl (sc_V (M := np_M172) (pc := 2) dL_isSpoon_2 cw_L_isSpoon_X7_isSunk rfl wd_1010 wd_1011 wd_1012 (nv_rcO (ci := 5) rfl))) rfl ?_
  refine na_1 (q := 6) (one_d (so_istore_n (M := np_M172) (pc := 5) dL_isSpoon_5 rfl (by decide)) (up_istore _ _)) rfl ?_
  refine na_1 (q := 7) (one_d (so_aload_n (M := np_M172) (pc := 6) dL_isSpoon_6 rfl) (up_aload _ _)) rfl ?_
  refine na_1 (q := 8) (one_d (so_iload_n (M := np_M172) (pc := 7) dL_isSpoon_7 rfl) (up_iload _ _)) rfl ?_
  refine na_3 (q := 11) (one_c rfl mq_151 hl_172 rfl (sc_SX (M := np_M172) (pc := 8) dL_isSpoon_8 (by decide) hd_L_xOf wd_22 ⟨by decide, by decide, by decide +kernel⟩ (by decide) (by decide) wd_852 wd_853)) rfl ?_
  refine na_1 (q := 12) (one_d (so_istore_n (M := np_M172) (pc := 11) dL_isSpoon_11 rfl (by decide)) (up_istore _ _)) rfl ?_
  refine na_1 (q := 13) (one_d (so_aload_n (M := np_M172) (pc := 12) dL_isSpoon_12 rfl) (up_aload _ _)) rfl ?_
  refine na_1 (q := 14) (one_d (so_iload_n (M := np_M172) (pc := 13) dL_isSpoon_13 rfl) (up_iload _ _)) rfl ?_
  refine na_3 (q := 17) (one_c rfl mq_152 hl_172 rfl (sc_SX (M := np_M172) (pc := 14) dL_isSpoon_14 (by decide) hd_L_yOf wd_22 ⟨by decide, by decide, by decide +kernel⟩ (by decide) (by decide) wd_872 wd_873)) rfl ?_
  refine na_2 (q := 19) (one_d (so_istore (M := np_M172) (pc := 17) dL_isSpoon_17 (by decide)) (up_istore _ _)) rfl ?_
  refine na_1 (q := 20) (one_d (so_iload_n (M := np_M172) (pc := 19) dL_isSpoon_19 rfl) (up_iload _ _)) rfl ?_
  refine na_3 (q := 23) (one_d (so_ifeq (M := np_M172) (pc := 20) dL_isSpoon_20 (by decide)) (up_ifeq _ _)) rfl ?_
  refine na_1 (q := 24) (one_d (so_iload_n (M := np_M172) (pc := 23) dL_isSpoon_23 rfl) (up_iload _ _)) rfl ?_
  refine na_3 (q := 27) (one_d (so_sipush (M := np_M172) (pc := 24) dL_isSpoon_24 (by decide)) (up_cst _ _)) rfl ?_
  refine na_3 (q := 30) (one_d (so_cne (M := np_M172) (pc := 27) dL_isSpoon_27 (by decide)) (up_cne _ _)) rfl ?_
  refine na_2 (q := 32) (one_d (so_iload (M := np_M172) (pc := 30) dL_isSpoon_30) (up_iload _ _)) rfl ?_
  refine na_3 (q := 35) (one_d (so_sipush (M := np_M172) (pc := 32) dL_isSpoon_32 (by decide)) (up_cst _ _)) rfl ?_
  refine na_3 (q := 38) (one_d (so_cne (M := np_M172) (pc := 35) dL_isSpoon_35 (by decide)) (up_cne _ _)) rfl ?_
  refine na_1 (q := 39) (one_d (so_aload_n (M := np_M172) (pc := 38) dL_isSpoon_38 rfl) (up_aload _ _)) rfl ?_
  refine na_1 (q := 40) (one_d (so_iload_n (M := np_M172) (pc := 39) dL_isSpoon_39 rfl) (up_iload _ _)) rfl ?_
  refine na_3 (q := 43) (one_c rfl mq_91 hl_172 rfl (sc_V (M := np_M172) (pc := 40) dL_isSpoon_40 cw_L_isSpoon_X7_hullOf rfl wd_984 wd_985 wd_986 (nv_rcO (ci := 5) rfl))) rfl ?_
  refine na_3 (q := 46) (one_d (so_ifne (M := np_M172) (pc := 43) dL_isSpoon_43 (by decide)) (up_ifne _ _)) rfl ?_
  refine na_1 (q := 47) (one_d (so_aload_n (M := np_M172) (pc := 46) dL_isSpoon_46 rfl) (up_aload _ _)) rfl ?_
  refine na_1 (q := 48) (one_d (so_iload_n (M := np_M172) (pc := 47) dL_isSpoon_47 rfl) (up_iload _ _)) rfl ?_
  refine na_3 (q := 51) (one_c rfl mq_90 hl_172 rfl (sc_V (M := np_M172) (pc := 48) dL_isSpoon_48 cw_L_isSpoon_X7_cubesOf rfl wd_966 wd_967 wd_968 (nv_rcO (ci := 5) rfl))) rfl ?_
  refine na_3 (q := 54) (one_d (so_ifne (M := np_M172) (pc := 51) dL_isSpoon_51 (by decide)) (up_ifne _ _)) rfl ?_
  refine na_1 (q := 55) (one_d (so_aload_n (M := np_M172) (pc := 54) dL_isSpoon_54 rfl) (up_aload _ _)) rfl ?_
  refine na_1 (q := 56) (one_d (so_iload_n (M := np_M172) (pc := 55) dL_isSpoon_55 rfl) (up_iload _ _)) rfl ?_
  refine na_3 (q := 59) (one_c rfl mq_154 hl_172 rfl (sc_SX (M := np_M172) (pc := 56) dL_isSpoon_56 (by decide) hd_L_knownX wd_22 ⟨by decide, by decide, by decide +kernel⟩ (by decide) (by decide) wd_970 wd_971)) rfl ?_
  refine na_3 (q := 62) (one_d (so_sipush (M := np_M172) (pc := 59) dL_isSpoon_59 (by decide)) (up_cst _ _)) rfl ?_
  refine na_3 (q := 65) (one_d (so_cne (M := np_M172) (pc := 62) dL_isSpoon_62 (by decide)) (up_cne _ _)) rfl ?_
  refine na_1 (q := 66) (one_d (so_aload_n (M := np_M172) (pc := 65) dL_isSpoon_65 rfl) (up_aload _ _)) rfl ?_
  refine na_1 (q := 67) (one_d (so_iload_n (M := np_M172) (pc := 66) dL_isSpoon_66 rfl) (up_iload _ _)) rfl ?_
  refine na_3 (q := 70) (one_c rfl mq_96 hl_172 rfl (sc_V (M := np_M172) (pc := 67) dL_isSpoon_67 cw_L_isSpoon_X7_isHidden rfl wd_1147 wd_1148 wd_1149 (nv_rcO (ci := 5) rfl))) rfl ?_
  refine na_3 (q := 73) (one_d (so_ifne (M := np_M172) (pc := 70) dL_isSpoon_70 (by decide)) (up_ifne _ _)) rfl ?_
  refine na_1 (q := 74) (one_d (so_aload_n (M := np_M172) (pc := 73) dL_isSpoon_73 rfl) (up_aload _ _)) rfl ?_
  refine na_1 (q := 75) (one_d (so_iload_n (M := np_M172) (pc := 74) dL_isSpoon_74 rfl) (up_iload _ _)) rfl ?_
  refine na_3 (q := 78) (one_c rfl mq_102 hl_172 rfl (sc_V (M := np_M172) (pc := 75) dL_isSpoon_75 cw_L_isSpoon_X7_targetCount rfl wd_1151 wd_1152 wd_1153 (nv_rcO (ci := 5) rfl))) rfl ?_
  refine na_3 (q := 81) (one_d (so_ifne (M := np_M172) (pc := 78) dL_isSpoon_78 (by decide)) (up_ifne _ _)) rfl ?_
  refine na_1 (q := 82) (one_d (so_aload_n (M := np_M172) (pc := 81) dL_isSpoon_81 rfl) (up_aload _ _)) rfl ?_
  refine na_1 (q := 83) (one_d (so_iload_n (M := np_M172) (pc := 82) dL_isSpoon_82 rfl) (up_iload _ _)) rfl ?_
  refine na_3 (q := 86) (one_c rfl mq_159 hl_172 rfl (sc_SX (M := np_M172) (pc := 83) dL_isSpoon_83 (by decide) hd_L_cellsAhead wd_22 ⟨by decide, by decide, by decide +kernel⟩ (by decide) (by decide) wd_1156 wd_1157)) rfl ?_
  refine na_3 (q := 89) (one_d (so_sipush (M := np_M172) (pc := 86) dL_isSpoon_86 (by decide)) (up_cst _ _)) rfl ?_
  refine na_3 (q := 92) (one_d (so_cne (M := np_M172) (pc := 89) dL_isSpoon_89 (by decide)) (up_cne _ _)) rfl ?_
  refine na_1 (q := 93) (one_d (so_iconst (M := np_M172) (pc := 92) dL_isSpoon_92 (by decide)) (up_cst _ _)) rfl ?_
  refine na_3 (q := 96) (one_d (so_goto (M := np_M172) (pc := 93) dL_isSpoon_93 (by decide)) (up_goto _)) rfl ?_
  refine na_1 (q := 97) (one_d (so_iconst (M := np_M172) (pc := 96) dL_isSpoon_96 (by decide)) (up_cst _ _)) rfl ?_
  refine na_1 (q := 98) (one_d (so_reti (M := np_M172) (pc := 97) dL_isSpoon_97 rfl) (up_reti _)) rfl ?_
  refine na_1 (q := 99) (one_d (so_iconst (M := np_M172) (pc := 98) dL_isSpoon_98 (by decide)) (up_cst _ _)) rfl ?_
  refine na_2 (q := 101) (one_d (so_istore (M := np_M172) (pc := 99) dL_isSpoon_99 (by decide)) (up_istore _ _)) rfl ?_
  refine na_1 (q := 102) (one_d (so_aload_n (M := np_M172) (pc := 101) dL_isSpoon_101 rfl) (up_aload _ _)) rfl ?_
  refine na_1 (q := 103) (one_d (so_iload_n (M := np_M172) (pc := 102) dL_isSpoon_102 rfl) (up_iload _ _)) rfl ?_
  refine na_2 (q := 105) (one_d (so_iload (M := np_M172) (pc := 103) dL_isSpoon_103) (up_iload _ _)) rfl ?_
  refine na_3 (q := 108) (one_c rfl mq_153 hl_172 rfl (sc_SX (M := np_M172) (pc := 105) dL_isSpoon_105 (by decide) hd_L_spoonAt wd_22 ⟨by decide, by decide, by decide +kernel⟩ (by decide) (by decide) wd_1111 wd_1112)) rfl ?_
  refine na_1 (q := 109) (one_d (so_iload_n (M := np_M172) (pc := 108) dL_isSpoon_108 rfl) (up_iload _ _)) rfl ?_
  refine na_3 (q := 112) (one_d (so_cne (M := np_M172) (pc := 109) dL_isSpoon_109 (by decide)) (up_cne _ _)) rfl ?_
  refine na_1 (q := 113) (one_d (so_aload_n (M := np_M172) (pc := 112) dL_isSpoon_112 rfl) (up_aload _ _)) rfl ?_
  refine na_1 (q := 114) (one_d (so_iload_n (M := np_M172) (pc := 113) dL_isSpoon_113 rfl) (up_iload _ _)) rfl ?_
  refine na_3 (q := 117) (one_c rfl mq_91 hl_172 rfl (sc_V (M := np_M172) (pc := 114) dL_isSpoon_114 cw_L_isSpoon_X7_hullOf rfl wd_984 wd_985 wd_986 (nv_rcO (ci := 5) rfl))) rfl ?_
  refine na_3 (q := 120) (one_d (so_ifle (M := np_M172) (pc := 117) dL_isSpoon_117 (by decide)) (up_ifle _ _)) rfl ?_
  refine na_1 (q := 121) (one_d (so_aload_n (M := np_M172) (pc := 120) dL_isSpoon_120 rfl) (up_aload _ _)) rfl ?_
  refine na_1 (q := 122) (one_d (so_iload_n (M := np_M172) (pc := 121) dL_isSpoon_121 rfl) (up_iload _ _)) rfl ?_
  refine na_3 (q := 125) (one_c rfl mq_96 hl_172 rfl (sc_V (M := np_M172) (pc := 122) dL_isSpoon_122 cw_L_isSpoon_X7_isHidden rfl wd_1147 wd_1148 wd_1149 (nv_rcO (ci := 5) rfl))) rfl ?_
  refine na_1 (q := 126) (one_d (so_aload_n (M := np_M172) (pc := 125) dL_isSpoon_125 rfl) (up_aload _ _)) rfl ?_
  refine na_1 (q := 127) (one_d (so_iload_n (M := np_M172) (pc := 126) dL_isSpoon_126 rfl) (up_iload _ _)) rfl ?_
  refine na_3 (q := 130) (one_c rfl mq_154 hl_172 rfl (sc_SX (M := np_M172) (pc := 127) dL_isSpoon_127 (by decide) hd_L_knownX wd_22 ⟨by decide, by decide, by decide +kernel⟩ (by decide) (by decide) wd_970 wd_971)) rfl ?_
  refine na_1 (q := 131) (one_d (so_iload_n (M := np_M172) (pc := 130) dL_isSpoon_130 rfl) (up_iload _ _)) rfl ?_
  refine na_3 (q := 134) (one_d (so_cne (M := np_M172) (pc := 131) dL_isSpoon_131 (by decide)) (up_cne _ _)) rfl ?_
  refine na_1 (q := 135) (one_d (so_aload_n (M := np_M172) (pc := 134) dL_isSpoon_134 rfl) (up_aload _ _)) rfl ?_
  refine na_1 (q := 136) (one_d (so_iload_n (M := np_M172) (pc := 135) dL_isSpoon_135 rfl) (up_iload _ _)) rfl ?_
  refine na_3 (q := 139) (one_c rfl mq_155 hl_172 rfl (sc_SX (M := np_M172) (pc := 136) dL_isSpoon_136 (by decide) hd_L_knownY wd_22 ⟨by decide, by decide, by decide +kernel⟩ (by decide) (by decide) wd_977 wd_978)) rfl ?_
  refine na_2 (q := 141) (one_d (so_iload (M := np_M172) (pc := 139) dL_isSpoon_139) (up_iload _ _)) rfl ?_
  refine na_3 (q := 144) (one_d (so_ceq (M := np_M172) (pc := 141) dL_isSpoon_141 (by decide)) (up_ceq _ _)) rfl ?_
  refine na_1 (q := 145) (one_d (so_iconst (M := np_M172) (pc := 144) dL_isSpoon_144 (by decide)) (up_cst _ _)) rfl ?_
  refine na_3 (q := 148) (one_d (so_goto (M := np_M172) (pc := 145) dL_isSpoon_145 (by decide)) (up_goto _)) rfl ?_
  refine na_1 (q := 149) (one_d (so_iconst (M := np_M172) (pc := 148) dL_isSpoon_148 (by decide)) (up_cst _ _)) rfl ?_
  refine na_3 (q := 152) (one_d (so_cne (M := np_M172) (pc := 149) dL_isSpoon_149 (by decide)) (up_cne _ _)) rfl ?_
  refine na_1 (q := 153) (one_d (so_aload_n (M := np_M172) (pc := 152) dL_isSpoon_152 rfl) (up_aload _ _)) rfl ?_
  refine na_1 (q := 154) (one_d (so_iload_n (M := np_M172) (pc := 153) dL_isSpoon_153 rfl) (up_iload _ _)) rfl ?_
  refine na_1 (q := 155) (one_d (so_iload_n (M := np_M172) (pc := 154) dL_isSpoon_154 rfl) (up_iload _ _)) rfl ?_
  refine na_2 (q := 157) (one_d (so_iload (M := np_M172) (pc := 155) dL_isSpoon_155) (up_iload _ _)) rfl ?_
  refine na_3 (q := 160) (one_c rfl mq_158 hl_172 rfl (sc_SX (M := np_M172) (pc := 157) dL_isSpoon_157 (by decide) hd_L_directionTo wd_22 ⟨by decide, by decide, by decide +kernel⟩ (by decide) (by decide) wd_1164 wd_1165)) rfl ?_
  refine na_3 (q := 163) (one_d (so_sipush (M := np_M172) (pc := 160) dL_isSpoon_160 (by decide)) (up_cst _ _)) rfl ?_
  refine na_3 (q := 166) (one_d (so_cne (M := np_M172) (pc := 163) dL_isSpoon_163 (by decide)) (up_cne _ _)) rfl ?_
  refine na_1 (q := 167) (one_d (so_aload_n (M := np_M172) (pc := 166) dL_isSpoon_166 rfl) (up_aload _ _)) rfl ?_
  refine na_1 (q := 168) (one_d (so_iload_n (M := np_M172) (pc := 167) dL_isSpoon_167 rfl) (up_iload _ _)) rfl ?_
  refine na_1 (q := 169) (one_d (so_iload_n (M := np_M172) (pc := 168) dL_isSpoon_168 rfl) (up_iload _ _)) rfl ?_
  refine na_2 (q := 171) (one_d (so_iload (M := np_M172) (pc := 169) dL_isSpoon_169) (up_iload _ _)) rfl ?_
  refine na_3 (q := 174) (one_c rfl mq_101 hl_172 rfl (sc_V (M := np_M172) (pc := 171) dL_isSpoon_171 cw_L_isSpoon_X7_isInReach rfl wd_1174 wd_1175 wd_1176 (nv_rcO (ci := 5) rfl))) rfl ?_
  refine na_3 (q := 177) (one_d (so_ifne (M := np_M172) (pc := 174) dL_isSpoon_174 (by decide)) (up_ifne _ _)) rfl ?_
  refine na_1 (q := 178) (one_d (so_aload_n (M := np_M172) (pc := 177) dL_isSpoon_177 rfl) (up_aload _ _)) rfl ?_
  refine na_1 (q := 179) (one_d (so_iload_n (M := np_M172) (pc := 178) dL_isSpoon_178 rfl) (up_iload _ _)) rfl ?_
  refine na_1 (q := 180) (one_d (so_iload_n (M := np_M172) (pc := 179) dL_isSpoon_179 rfl) (up_iload _ _)) rfl ?_
  refine na_3 (q := 183) (one_c rfl mq_157 hl_172 rfl (sc_SX (M := np_M172) (pc := 180) dL_isSpoon_180 (by decide) hd_L_distance wd_22 ⟨by decide, by decide, by decide +kernel⟩ (by decide) (by decide) wd_1179 wd_1180)) rfl ?_
  refine na_3 (q := 186) (one_d (so_ifne (M := np_M172) (pc := 183) dL_isSpoon_183 (by decide)) (up_ifne _ _)) rfl ?_
  refine na_1 (q := 187) (one_d (so_iconst (M := np_M172) (pc := 186) dL_isSpoon_186 (by decide)) (up_cst _ _)) rfl ?_
  refine na_3 (q := 190) (one_d (so_goto (M := np_M172) (pc := 187) dL_isSpoon_187 (by decide)) (up_goto _)) rfl ?_
  refine na_1 (q := 191) (one_d (so_iconst (M := np_M172) (pc := 190) dL_isSpoon_190 (by decide)) (up_cst _ _)) rfl ?_
  refine na_2 (q := 193) (one_d (so_istore (M := np_M172) (pc := 191) dL_isSpoon_191 (by decide)) (up_istore _ _)) rfl ?_
  refine na_1 (q := 194) (one_d (so_iconst (M := np_M172) (pc := 193) dL_isSpoon_193 (by decide)) (up_cst _ _)) rfl ?_
  refine na_2 (q := 196) (one_d (so_istore (M := np_M172) (pc := 194) dL_isSpoon_194 (by decide)) (up_istore _ _)) rfl ?_
  refine na_2 (q := 198) (one_d (so_iload (M := np_M172) (pc := 196) dL_isSpoon_196) (up_iload _ _)) rfl ?_
  refine na_3 (q := 201) (one_d (so_ifeq (M := np_M172) (pc := 198) dL_isSpoon_198 (by decide)) (up_ifeq _ _)) rfl ?_
  refine na_2 (q := 203) (one_d (so_iload (M := np_M172) (pc := 201) dL_isSpoon_201) (up_iload _ _)) rfl ?_
  refine na_1 (q := 204) (one_d (so_aload_n (M := np_M172) (pc := 203) dL_isSpoon_203 rfl) (up_aload _ _)) rfl ?_
  refine na_3 (q := 207) (one_c rfl mq_85 hl_172 rfl (sc_V (M := np_M172) (pc := 204) dL_isSpoon_204 cw_L_isSpoon_X7_spoonCount rfl wd_958 wd_959 wd_960 (nv_rcO (ci := 5) rfl))) rfl ?_
  refine na_3 (q := 210) (one_d (so_cge (M := np_M172) (pc := 207) dL_isSpoon_207 (by decide)) (up_cge _ _)) rfl ?_
  refine na_1 (q := 211) (one_d (so_aload_n (M := np_M172) (pc := 210) dL_isSpoon_210 rfl) (up_aload _ _)) rfl ?_
  refine na_1 (q := 212) (one_d (so_iload_n (M := np_M172) (pc := 211) dL_isSpoon_211 rfl) (up_iload _ _)) rfl ?_
  refine na_2 (q := 214) (one_d (so_iload (M := np_M172) (pc := 212) dL_isSpoon_212) (up_iload _ _)) rfl ?_
  refine na_3 (q := 217) (one_c rfl mq_157 hl_172 rfl (sc_SX (M := np_M172) (pc := 214) dL_isSpoon_214 (by decide) hd_L_distance wd_22 ⟨by decide, by decide, by decide +kernel⟩ (by decide) (by decide) wd_1179 wd_1180)) rfl ?_
  refine na_2 (q := 219) (one_d (so_istore (M := np_M172) (pc := 217) dL_isSpoon_217 (by decide)) (up_istore _ _)) rfl ?_
  refine na_2 (q := 221) (one_d (so_iload (M := np_M172) (pc := 219) dL_isSpoon_219) (up_iload _ _)) rfl ?_
  refine na_3 (q := 224) (one_d (so_ifle (M := np_M172) (pc := 221) dL_isSpoon_221 (by decide)) (up_ifle _ _)) rfl ?_
  refine na_1 (q := 225) (one_d (so_aload_n (M := np_M172) (pc := 224) dL_isSpoon_224 rfl) (up_aload _ _)) rfl ?_
  refine na_1 (q := 226) (one_d (so_iload_n (M := np_M172) (pc := 225) dL_isSpoon_225 rfl) (up_iload _ _)) rfl ?_
  refine na_1 (q := 227) (one_d (so_aload_n (M := np_M172) (pc := 226) dL_isSpoon_226 rfl) (up_aload _ _)) rfl ?_
  refine na_2 (q := 229) (one_d (so_iload (M := np_M172) (pc := 227) dL_isSpoon_227) (up_iload _ _)) rfl ?_
  refine na_3 (q := 232) (one_c rfl mq_87 hl_172 rfl (sc_V (M := np_M172) (pc := 229) dL_isSpoon_229 cw_L_isSpoon_X7_xOf rfl wd_855 wd_856 wd_857 (nv_rcO (ci := 5) rfl))) rfl ?_
  refine na_1 (q := 233) (one_d (so_aload_n (M := np_M172) (pc := 232) dL_isSpoon_232 rfl) (up_aload _ _)) rfl ?_
  refine na_2 (q := 235) (one_d (so_iload (M := np_M172) (pc := 233) dL_isSpoon_233) (up_iload _ _)) rfl ?_
  refine na_3 (q := 238) (one_c rfl mq_88 hl_172 rfl (sc_V (M := np_M172) (pc := 235) dL_isSpoon_235 cw_L_isSpoon_X7_yOf rfl wd_875 wd_876 wd_877 (nv_rcO (ci := 5) rfl))) rfl ?_
  refine na_3 (q := 241) (one_c rfl mq_101 hl_172 rfl (sc_V (M := np_M172) (pc := 238) dL_isSpoon_238 cw_L_isSpoon_X7_isInReach rfl wd_1174 wd_1175 wd_1176 (nv_rcO (ci := 5) rfl))) rfl ?_
  refine na_3 (q := 244) (one_d (so_ifeq (M := np_M172) (pc := 241) dL_isSpoon_241 (by decide)) (up_ifeq _ _)) rfl ?_
  refine na_1 (q := 245) (one_d (so_iconst (M := np_M172) (pc := 244) dL_isSpoon_244 (by decide)) (up_cst _ _)) rfl ?_
  refine na_3 (q := 248) (one_d (so_goto (M := np_M172) (pc := 245) dL_isSpoon_245 (by decide)) (up_goto _)) rfl ?_
  refine na_1 (q := 249) (one_d (so_iconst (M := np_M172) (pc := 248) dL_isSpoon_248 (by decide)) (up_cst _ _)) rfl ?_
  refine na_2 (q := 251) (one_d (so_istore (M := np_M172) (pc := 249) dL_isSpoon_249 (by decide)) (up_istore _ _)) rfl ?_
  refine na_2 (q := 253) (one_d (so_iload (M := np_M172) (pc := 251) dL_isSpoon_251) (up_iload _ _)) rfl ?_
  refine na_2 (q := 255) (one_d (so_iload (M := np_M172) (pc := 253) dL_isSpoon_253) (up_iload _ _)) rfl ?_
  refine na_3 (q := 258) (one_d (so_ifeq (M := np_M172) (pc := 255) dL_isSpoon_255 (by decide)) (up_ifeq _ _)) rfl ?_
  refine na_1 (q := 259) (one_d (so_aload_n (M := np_M172) (pc := 258) dL_isSpoon_258 rfl) (up_aload _ _)) rfl ?_
  refine na_2 (q := 261) (one_d (so_iload (M := np_M172) (pc := 259) dL_isSpoon_259) (up_iload _ _)) rfl ?_
  refine na_3 (q := 264) (one_c rfl mq_86 hl_172 rfl (sc_V (M := np_M172) (pc := 261) dL_isSpoon_261 cw_L_isSpoon_X7_fleetOf rfl wd_988 wd_989 wd_990 (nv_rcO (ci := 5) rfl))) rfl ?_
  refine na_1 (q := 265) (one_d (so_aload_n (M := np_M172) (pc := 264) dL_isSpoon_264 rfl) (up_aload _ _)) rfl ?_
  refine na_1 (q := 266) (one_d (so_iload_n (M := np_M172) (pc := 265) dL_isSpoon_265 rfl) (up_iload _ _)) rfl ?_
  refine na_3 (q := 269) (one_c rfl mq_86 hl_172 rfl (sc_V (M := np_M172) (pc := 266) dL_isSpoon_266 cw_L_isSpoon_X7_fleetOf rfl wd_988 wd_989 wd_990 (nv_rcO (ci := 5) rfl))) rfl ?_
  refine na_3 (q := 272) (one_d (so_ceq (M := np_M172) (pc := 269) dL_isSpoon_269 (by decide)) (up_ceq _ _)) rfl ?_
  refine na_1 (q := 273) (one_d (so_iconst (M := np_M172) (pc := 272) dL_isSpoon_272 (by decide)) (up_cst _ _)) rfl ?_
  refine na_3 (q := 276) (one_d (so_goto (M := np_M172) (pc := 273) dL_isSpoon_273 (by decide)) (up_goto _)) rfl ?_
  refine na_1 (q := 277) (one_d (so_iconst (M := np_M172) (pc := 276) dL_isSpoon_276 (by decide)) (up_cst _ _)) rfl ?_
  refine na_1 (q := 278) (one_d (so_iadd (M := np_M172) (pc := 277) dL_isSpoon_277) (up_i2 _ _)) rfl ?_
  refine na_2 (q := 280) (one_d (so_istore (M := np_M172) (pc := 278) dL_isSpoon_278 (by decide)) (up_istore _ _)) rfl ?_
  refine na_2 (q := 282) (one_d (so_iload (M := np_M172) (pc := 280) dL_isSpoon_280) (up_iload _ _)) rfl ?_
  refine na_3 (q := 285) (one_d (so_sipush (M := np_M172) (pc := 282) dL_isSpoon_282 (by decide)) (up_cst _ _)) rfl ?_
  refine na_3 (q := 288) (one_d (so_cne (M := np_M172) (pc := 285) dL_isSpoon_285 (by decide)) (up_cne _ _)) rfl ?_
  refine na_1 (q := 289) (one_d (so_iconst (M := np_M172) (pc := 288) dL_isSpoon_288 (by decide)) (up_cst _ _)) rfl ?_
  refine na_3 (q := 292) (one_d (so_goto (M := np_M172) (pc := 289) dL_isSpoon_289 (by decide)) (up_goto _)) rfl ?_
  refine na_1 (q := 293) (one_d (so_iconst (M := np_M172) (pc := 292) dL_isSpoon_292 (by decide)) (up_cst _ _)) rfl ?_
  refine na_1 (q := 294) (one_d (so_aload_n (M := np_M172) (pc := 293) dL_isSpoon_293 rfl) (up_aload _ _)) rfl ?_
  refine na_2 (q := 296) (one_d (so_iload (M := np_M172) (pc := 294) dL_isSpoon_294) (up_iload _ _)) rfl ?_
  refine na_3 (q := 299) (one_c rfl mq_92 hl_172 rfl (sc_V (M := np_M172) (pc := 296) dL_isSpoon_296 cw_L_isSpoon_X7_isSunk rfl wd_1010 wd_1011 wd_1012 (nv_rcO (ci := 5) rfl))) rfl ?_
  refine na_3 (q := 302) (one_d (so_cne (M := np_M172) (pc := 299) dL_isSpoon_299 (by decide)) (up_cne _ _)) rfl ?_
  refine na_2 (q := 304) (one_d (so_iload (M := np_M172) (pc := 302) dL_isSpoon_302) (up_iload _ _)) rfl ?_
  refine na_3 (q := 307) (one_d (so_sipush (M := np_M172) (pc := 304) dL_isSpoon_304 (by decide)) (up_cst _ _)) rfl ?_
  refine na_3 (q := 310) (one_d (so_ceq (M := np_M172) (pc := 307) dL_isSpoon_307 (by decide)) (up_ceq _ _)) rfl ?_
  refine na_2 (q := 312) (one_d (so_iload (M := np_M172) (pc := 310) dL_isSpoon_310) (up_iload _ _)) rfl ?_
  refine na_1 (q := 313) (one_d (so_iload_n (M := np_M172) (pc := 312) dL_isSpoon_312 rfl) (up_iload _ _)) rfl ?_
  refine na_1 (q := 314) (one_d (so_aload_n (M := np_M172) (pc := 313) dL_isSpoon_313 rfl) (up_aload _ _)) rfl ?_
  refine na_2 (q := 316) (one_d (so_iload (M := np_M172) (pc := 314) dL_isSpoon_314) (up_iload _ _)) rfl ?_
  refine na_3 (q := 319) (one_c rfl mq_87 hl_172 rfl (sc_V (M := np_M172) (pc := 316) dL_isSpoon_316 cw_L_isSpoon_X7_xOf rfl wd_855 wd_856 wd_857 (nv_rcO (ci := 5) rfl))) rfl ?_
  refine na_3 (q := 322) (one_c rfl mq_170 hl_172 rfl (sc_S (M := np_M172) (pc := 319) dL_isSpoon_319 cw_L_isSpoon_L_far wd_1188 wd_1189)) rfl ?_
  refine na_2 (q := 324) (one_d (so_iload (M := np_M172) (pc := 322) dL_isSpoon_322) (up_iload _ _)) rfl ?_
  refine na_1 (q := 325) (one_d (so_aload_n (M := np_M172) (pc := 324) dL_isSpoon_324 rfl) (up_aload _ _)) rfl ?_
  refine na_2 (q := 327) (one_d (so_iload (M := np_M172) (pc := 325) dL_isSpoon_325) (up_iload _ _)) rfl ?_
  refine na_3 (q := 330) (one_c rfl mq_88 hl_172 rfl (sc_V (M := np_M172) (pc := 327) dL_isSpoon_327 cw_L_isSpoon_X7_yOf rfl wd_875 wd_876 wd_877 (nv_rcO (ci := 5) rfl))) rfl ?_
  refine na_3 (q := 333) (one_c rfl mq_170 hl_172 rfl (sc_S (M := np_M172) (pc := 330) dL_isSpoon_330 cw_L_isSpoon_L_far wd_1188 wd_1189)) rfl ?_
  refine na_3 (q := 336) (one_d (so_max (M := np_M172) (pc := 333) dL_isSpoon_333 wd_871 wd_678 wd_37 cd_max (by decide)) (up_max _)) rfl ?_
  refine na_3 (q := 339) (one_d (so_cne (M := np_M172) (pc := 336) dL_isSpoon_336 (by decide)) (up_cne _ _)) rfl ?_
  refine na_2 (q := 341) (one_d (so_iload (M := np_M172) (pc := 339) dL_isSpoon_339) (up_iload _ _)) rfl ?_
  refine na_3 (q := 344) (one_d (so_ifeq (M := np_M172) (pc := 341) dL_isSpoon_341 (by decide)) (up_ifeq _ _)) rfl ?_
  refine na_2 (q := 346) (one_d (so_iload (M := np_M172) (pc := 344) dL_isSpoon_344) (up_iload _ _)) rfl ?_
  refine na_1 (q := 347) (one_d (so_aload_n (M := np_M172) (pc := 346) dL_isSpoon_346 rfl) (up_aload _ _)) rfl ?_
  refine na_1 (q := 348) (one_d (so_iload_n (M := np_M172) (pc := 347) dL_isSpoon_347 rfl) (up_iload _ _)) rfl ?_
  refine na_3 (q := 351) (one_c rfl mq_90 hl_172 rfl (sc_V (M := np_M172) (pc := 348) dL_isSpoon_348 cw_L_isSpoon_X7_cubesOf rfl wd_966 wd_967 wd_968 (nv_rcO (ci := 5) rfl))) rfl ?_
  refine na_3 (q := 354) (one_d (so_cgt (M := np_M172) (pc := 351) dL_isSpoon_351 (by decide)) (up_cgt _ _)) rfl ?_
  refine na_1 (q := 355) (one_d (so_iconst (M := np_M172) (pc := 354) dL_isSpoon_354 (by decide)) (up_cst _ _)) rfl ?_
  refine na_3 (q := 358) (one_d (so_goto (M := np_M172) (pc := 355) dL_isSpoon_355 (by decide)) (up_goto _)) rfl ?_
  refine na_1 (q := 359) (one_d (so_iconst (M := np_M172) (pc := 358) dL_isSpoon_358 (by decide)) (up_cst _ _)) rfl ?_
  refine na_2 (q := 361) (one_d (so_istore (M := np_M172) (pc := 359) dL_isSpoon_359 (by decide)) (up_istore _ _)) rfl ?_
  refine na_3 (q := 364) (one_d (so_iinc (M := np_M172) (pc := 361) dL_isSpoon_361 (by decide) (by decide)) (up_iinc _ _ _)) rfl ?_
  refine na_3 (q := 367) (one_d (so_goto (M := np_M172) (pc := 364) dL_isSpoon_364 (by decide)) (up_goto _)) rfl ?_
  refine na_2 (q := 369) (one_d (so_iload (M := np_M172) (pc := 367) dL_isSpoon_367) (up_iload _ _)) rfl ?_
  refine na_3 (q := 372) (one_d (so_ifeq (M := np_M172) (pc := 369) dL_isSpoon_369 (by decide)) (up_ifeq _ _)) rfl ?_
  refine na_1 (q := 373) (one_d (so_aload_n (M := np_M172) (pc := 372) dL_isSpoon_372 rfl) (up_aload _ _)) rfl ?_
  refine na_1 (q := 374) (one_d (so_iload_n (M := np_M172) (pc := 373) dL_isSpoon_373 rfl) (up_iload _ _)) rfl ?_
  refine na_3 (q := 377) (one_c rfl mq_102 hl_172 rfl (sc_V (M := np_M172) (pc := 374) dL_isSpoon_374 cw_L_isSpoon_X7_targetCount rfl wd_1151 wd_1152 wd_1153 (nv_rcO (ci := 5) rfl))) rfl ?_
  refine na_2 (q := 379) (one_d (so_iload (M := np_M172) (pc := 377) dL_isSpoon_377) (up_iload _ _)) rfl ?_
  refine na_3 (q := 382) (one_d (so_cne (M := np_M172) (pc := 379) dL_isSpoon_379 (by decide)) (up_cne _ _)) rfl ?_
  refine na_1 (q := 383) (one_d (so_aload_n (M := np_M172) (pc := 382) dL_isSpoon_382 rfl) (up_aload _ _)) rfl ?_
  refine na_1 (q := 384) (one_d (so_iload_n (M := np_M172) (pc := 383) dL_isSpoon_383 rfl) (up_iload _ _)) rfl ?_
  refine na_3 (q := 387) (one_c rfl mq_103 hl_172 rfl (sc_V (M := np_M172) (pc := 384) dL_isSpoon_384 cw_L_isSpoon_X7_targetCountByCells rfl wd_1191 wd_1192 wd_1193 (nv_rcO (ci := 5) rfl))) rfl ?_
  refine na_2 (q := 389) (one_d (so_iload (M := np_M172) (pc := 387) dL_isSpoon_387) (up_iload _ _)) rfl ?_
  refine na_3 (q := 392) (one_d (so_cne (M := np_M172) (pc := 389) dL_isSpoon_389 (by decide)) (up_cne _ _)) rfl ?_
  refine na_1 (q := 393) (one_d (so_aload_n (M := np_M172) (pc := 392) dL_isSpoon_392 rfl) (up_aload _ _)) rfl ?_
  refine na_1 (q := 394) (one_d (so_iload_n (M := np_M172) (pc := 393) dL_isSpoon_393 rfl) (up_iload _ _)) rfl ?_
  refine na_3 (q := 397) (one_c rfl mq_173 hl_172 rfl (sc_S (M := np_M172) (pc := 394) dL_isSpoon_394 cw_L_isSpoon_L_areDirections wd_1196 wd_1197)) rfl ?_
  refine na_3 (q := 400) (one_d (so_ifeq (M := np_M172) (pc := 397) dL_isSpoon_397 (by decide)) (up_ifeq _ _)) rfl ?_
  refine na_1 (q := 401) (one_d (so_iconst (M := np_M172) (pc := 400) dL_isSpoon_400 (by decide)) (up_cst _ _)) rfl ?_
  refine na_3 (q := 404) (one_d (so_goto (M := np_M172) (pc := 401) dL_isSpoon_401 (by decide)) (up_goto _)) rfl ?_
  refine na_1 (q := 405) (one_d (so_iconst (M := np_M172) (pc := 404) dL_isSpoon_404 (by decide)) (up_cst _ _)) rfl ?_
  refine na_1 (q := 406) (one_d (so_reti (M := np_M172) (pc := 405) dL_isSpoon_405 rfl) (up_reti _)) rfl ?_
  exact na_z
