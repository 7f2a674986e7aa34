-- rows: every deed of these methods is sound (written by wip/p56/gen20.py)
set_option maxRecDepth 100000 in
set_option maxHeartbeats 4000000 in
theorem ok_50 : nv_all 50 0 np_c50 := by
  unfold np_c50
  refine na_1 (q := 1) (⟨so_aload_n dX4_discover_0 rfl, up_aload _ _⟩) rfl ?_
  refine na_3 (q := 4) (⟨so_get kd_2 (k := 0) (by decide) dX4_discover_1 wd_153, up_get _ _ _⟩) rfl ?_
  refine na_1 (q := 5) (⟨so_astore_n dX4_discover_4 rfl (by decide), up_astore _ _⟩) rfl ?_
  refine na_1 (q := 6) (⟨so_aload_n dX4_discover_5 rfl, up_aload _ _⟩) rfl ?_
  refine na_1 (q := 7) (⟨so_alen dX4_discover_6 (Or.inr (Or.inr (Or.inl ⟨rfl, rfl⟩))), up_alen _ _⟩) rfl ?_
  refine na_1 (q := 8) (⟨so_istore_n dX4_discover_7 rfl (by decide), up_istore _ _⟩) rfl ?_
  refine na_1 (q := 9) (⟨so_iconst dX4_discover_8 (by decide), up_cst _ _⟩) rfl ?_
  refine na_1 (q := 10) (⟨so_istore_n dX4_discover_9 rfl (by decide), up_istore _ _⟩) rfl ?_
  refine na_1 (q := 11) (⟨so_iload_n dX4_discover_10 rfl, up_iload _ _⟩) rfl ?_
  refine na_1 (q := 12) (⟨so_iload_n dX4_discover_11 rfl, up_iload _ _⟩) rfl ?_
  refine na_3 (q := 15) (⟨so_cge dX4_discover_12 (by decide), up_cge _ _⟩) rfl ?_
  refine na_1 (q := 16) (⟨so_aload_n dX4_discover_15 rfl, up_aload _ _⟩) rfl ?_
  refine na_1 (q := 17) (⟨so_iload_n dX4_discover_16 rfl, up_iload _ _⟩) rfl ?_
  refine na_1 (q := 18) (⟨so_aldq dX4_discover_17 (Or.inl ⟨rfl, rfl⟩), up_aldq _ _⟩) rfl ?_
  refine na_2 (q := 20) (⟨so_astore dX4_discover_18 (by decide), up_astore _ _⟩) rfl ?_
  refine na_2 (q := 22) (⟨so_aload dX4_discover_20, up_aload _ _⟩) rfl ?_
  refine na_3 (q := 25) (one_c rfl rfl (sc_V dX4_discover_22 cw_X4_discover_X6_isAfloat rfl wd_422 wd_423 wd_424 (nv_rcO (ci := 4) rfl))) rfl ?_
  refine na_3 (q := 28) (⟨so_ifeq dX4_discover_25 (by decide), up_ifeq _ _⟩) rfl ?_
  refine na_1 (q := 29) (⟨so_aload_n dX4_discover_28 rfl, up_aload _ _⟩) rfl ?_
  refine na_2 (q := 31) (⟨so_aload dX4_discover_29, up_aload _ _⟩) rfl ?_
  refine na_3 (q := 34) (one_c rfl rfl (sc_V dX4_discover_31 cw_X4_discover_X4_isOpponentNear rfl wd_738 wd_740 wd_15 (nv_rcO (ci := 2) rfl))) rfl ?_
  refine na_3 (q := 37) (⟨so_ifeq dX4_discover_34 (by decide), up_ifeq _ _⟩) rfl ?_
  refine na_2 (q := 39) (⟨so_aload dX4_discover_37, up_aload _ _⟩) rfl ?_
  refine na_3 (q := 42) (one_c rfl rfl (sc_V dX4_discover_39 cw_X4_discover_X6_becomeKnown rfl wd_430 wd_431 wd_432 (nv_rcO (ci := 4) rfl))) rfl ?_
  refine na_3 (q := 45) (⟨so_iinc dX4_discover_42 (by decide) (by decide), up_iinc _ _ _⟩) rfl ?_
  refine na_3 (q := 48) (⟨so_goto dX4_discover_45 (by decide), up_goto _⟩) rfl ?_
  refine na_1 (q := 49) (⟨so_retv dX4_discover_48 rfl, up_retv⟩) rfl ?_
  exact na_z
set_option maxRecDepth 100000 in
set_option maxHeartbeats 4000000 in
theorem ok_51 : nv_all 51 0 np_c51 := by
  unfold np_c51
  refine na_1 (q := 1) (⟨so_aload_n dX4_isOpponentNear_0 rfl, up_aload _ _⟩) rfl ?_
  refine na_3 (q := 4) (⟨so_get kd_2 (k := 0) (by decide) dX4_isOpponentNear_1 wd_153, up_get _ _ _⟩) rfl ?_
  refine na_1 (q := 5) (⟨so_astore_n dX4_isOpponentNear_4 rfl (by decide), up_astore _ _⟩) rfl ?_
  refine na_1 (q := 6) (⟨so_aload_n dX4_isOpponentNear_5 rfl, up_aload _ _⟩) rfl ?_
  refine na_1 (q := 7) (⟨so_alen dX4_isOpponentNear_6 (Or.inr (Or.inr (Or.inl ⟨rfl, rfl⟩))), up_alen _ _⟩) rfl ?_
  refine na_1 (q := 8) (⟨so_istore_n dX4_isOpponentNear_7 rfl (by decide), up_istore _ _⟩) rfl ?_
  refine na_1 (q := 9) (⟨so_iconst dX4_isOpponentNear_8 (by decide), up_cst _ _⟩) rfl ?_
  refine na_2 (q := 11) (⟨so_istore dX4_isOpponentNear_9 (by decide), up_istore _ _⟩) rfl ?_
  refine na_2 (q := 13) (⟨so_iload dX4_isOpponentNear_11, up_iload _ _⟩) rfl ?_
  refine na_1 (q := 14) (⟨so_iload_n dX4_isOpponentNear_13 rfl, up_iload _ _⟩) rfl ?_
  refine na_3 (q := 17) (⟨so_cge dX4_isOpponentNear_14 (by decide), up_cge _ _⟩) rfl ?_
  refine na_1 (q := 18) (⟨so_aload_n dX4_isOpponentNear_17 rfl, up_aload _ _⟩) rfl ?_
  refine na_2 (q := 20) (⟨so_iload dX4_isOpponentNear_18, up_iload _ _⟩) rfl ?_
  refine na_1 (q := 21) (⟨so_aldq dX4_isOpponentNear_20 (Or.inl ⟨rfl, rfl⟩), up_aldq _ _⟩) rfl ?_
  refine na_2 (q := 23) (⟨so_astore dX4_isOpponentNear_21 (by decide), up_astore _ _⟩) rfl ?_
  refine na_2 (q := 25) (⟨so_aload dX4_isOpponentNear_23, up_aload _ _⟩) rfl ?_
  refine na_1 (q := 26) (⟨so_iconst dX4_isOpponentNear_25 (by decide), up_cst _ _⟩) rfl ?_
  refine na_1 (q := 27) (⟨so_aload_n dX4_isOpponentNear_26 rfl, up_aload _ _⟩) rfl ?_
  refine na_3 (q := 30) (⟨so_getN kd_4 (k := 1) (by decide) dX4_isOpponentNear_27 wd_113, up_get _ _ _⟩) rfl ?_
  refine na_1 (q := 31) (⟨so_isub dX4_isOpponentNear_30, up_i2 _ _⟩) rfl ?_
  refine na_3 (q := 34) (one_c rfl rfl (sc_V dX4_isOpponentNear_31 cw_X4_isOpponentNear_X6_isAfloatOf rfl wd_561 wd_562 wd_563 (nv_rcO (ci := 4) rfl))) rfl ?_
  refine na_3 (q := 37) (⟨so_ifeq dX4_isOpponentNear_34 (by decide), up_ifeq _ _⟩) rfl ?_
  refine na_2 (q := 39) (⟨so_aload dX4_isOpponentNear_37, up_aload _ _⟩) rfl ?_
  refine na_1 (q := 40) (⟨so_aload_n dX4_isOpponentNear_39 rfl, up_aload _ _⟩) rfl ?_
  refine na_3 (q := 43) (⟨so_getN kd_4 (k := 2) (by decide) dX4_isOpponentNear_40 wd_116, up_get _ _ _⟩) rfl ?_
  refine na_1 (q := 44) (⟨so_aload_n dX4_isOpponentNear_43 rfl, up_aload _ _⟩) rfl ?_
  refine na_3 (q := 47) (⟨so_getN kd_4 (k := 3) (by decide) dX4_isOpponentNear_44 wd_119, up_get _ _ _⟩) rfl ?_
  refine na_3 (q := 50) (one_c rfl rfl (sc_V dX4_isOpponentNear_47 cw_X4_isOpponentNear_X6_distanceTo rfl wd_742 wd_743 wd_744 (nv_rcO (ci := 4) rfl))) rfl ?_
  refine na_1 (q := 51) (⟨so_iconst dX4_isOpponentNear_50 (by decide), up_cst _ _⟩) rfl ?_
  refine na_3 (q := 54) (⟨so_cgt dX4_isOpponentNear_51 (by decide), up_cgt _ _⟩) rfl ?_
  refine na_1 (q := 55) (⟨so_iconst dX4_isOpponentNear_54 (by decide), up_cst _ _⟩) rfl ?_
  refine na_1 (q := 56) (⟨so_reti dX4_isOpponentNear_55 rfl, up_reti _⟩) rfl ?_
  refine na_3 (q := 59) (⟨so_iinc dX4_isOpponentNear_56 (by decide) (by decide), up_iinc _ _ _⟩) rfl ?_
  refine na_3 (q := 62) (⟨so_goto dX4_isOpponentNear_59 (by decide), up_goto _⟩) rfl ?_
  refine na_1 (q := 63) (⟨so_iconst dX4_isOpponentNear_62 (by decide), up_cst _ _⟩) rfl ?_
  refine na_1 (q := 64) (⟨so_reti dX4_isOpponentNear_63 rfl, up_reti _⟩) rfl ?_
  exact na_z
set_option maxRecDepth 100000 in
set_option maxHeartbeats 4000000 in
theorem ok_52 : nv_all 52 0 np_c52 := by
  unfold np_c52
  refine na_1 (q := 1) (⟨so_aload_n dX4_shoot_0 rfl, up_aload _ _⟩) rfl ?_
  refine na_1 (q := 2) (⟨so_iload_n dX4_shoot_1 rfl, up_iload _ _⟩) rfl ?_
  refine na_3 (q := 5) (one_c rfl rfl (sc_V dX4_shoot_2 cw_X4_shoot_X4_numbered rfl wd_553 wd_554 wd_555 (nv_rcO (ci := 2) rfl))) rfl ?_
  refine na_2 (q := 7) (⟨so_astore dX4_shoot_5 (by decide), up_astore _ _⟩) rfl ?_
  refine na_2 (q := 9) (⟨so_aload dX4_shoot_7, up_aload _ _⟩) rfl ?_
  refine na_3 (q := 12) (⟨so_ifnonnull dX4_shoot_9 (by decide), up_ifnonnull _ _⟩) rfl ?_
  refine na_1 (q := 13) (⟨so_iconst dX4_shoot_12 (by decide), up_cst _ _⟩) rfl ?_
  refine na_1 (q := 14) (⟨so_reti dX4_shoot_13 rfl, up_reti _⟩) rfl ?_
  refine na_1 (q := 15) (⟨so_aload_n dX4_shoot_14 rfl, up_aload _ _⟩) rfl ?_
  refine na_2 (q := 17) (⟨so_aload dX4_shoot_15, up_aload _ _⟩) rfl ?_
  refine na_1 (q := 18) (⟨so_iload_n dX4_shoot_17 rfl, up_iload _ _⟩) rfl ?_
  refine na_1 (q := 19) (⟨so_iload_n dX4_shoot_18 rfl, up_iload _ _⟩) rfl ?_
  refine na_3 (q := 22) (one_c rfl rfl (sc_SN dX4_shoot_19 cw_X4_shoot_X7_isOnTray wd_405 wd_406)) rfl ?_
  refine na_3 (q := 25) (one_c rfl rfl (sc_V dX4_shoot_22 cw_X4_shoot_X4_objectionTo rfl wd_557 wd_559 wd_3 (nv_rcO (ci := 2) rfl))) rfl ?_
  refine na_2 (q := 27) (⟨so_istore dX4_shoot_25 (by decide), up_istore _ _⟩) rfl ?_
  refine na_2 (q := 29) (⟨so_iload dX4_shoot_27, up_iload _ _⟩) rfl ?_
  refine na_3 (q := 32) (⟨so_ifeq dX4_shoot_29 (by decide), up_ifeq _ _⟩) rfl ?_
  refine na_2 (q := 34) (⟨so_iload dX4_shoot_32, up_iload _ _⟩) rfl ?_
  refine na_1 (q := 35) (⟨so_reti dX4_shoot_34 rfl, up_reti _⟩) rfl ?_
  refine na_2 (q := 37) (⟨so_aload dX4_shoot_35, up_aload _ _⟩) rfl ?_
  refine na_3 (q := 40) (⟨so_getN kd_4 (k := 6) (by decide) dX4_shoot_37 wd_128, up_get _ _ _⟩) rfl ?_
  refine na_3 (q := 43) (⟨so_ifne dX4_shoot_40 (by decide), up_ifne _ _⟩) rfl ?_
  refine na_2 (q := 45) (⟨so_bipush dX4_shoot_43 (by decide), up_cst _ _⟩) rfl ?_
  refine na_1 (q := 46) (⟨so_reti dX4_shoot_45 rfl, up_reti _⟩) rfl ?_
  refine na_2 (q := 48) (⟨so_aload dX4_shoot_46, up_aload _ _⟩) rfl ?_
  refine na_1 (q := 49) (⟨so_iload_n dX4_shoot_48 rfl, up_iload _ _⟩) rfl ?_
  refine na_1 (q := 50) (⟨so_iload_n dX4_shoot_49 rfl, up_iload _ _⟩) rfl ?_
  refine na_3 (q := 53) (one_c rfl rfl (sc_V dX4_shoot_50 cw_X4_shoot_X6_isInRange rfl wd_752 wd_753 wd_754 (nv_rcO (ci := 4) rfl))) rfl ?_
  refine na_3 (q := 56) (⟨so_ifne dX4_shoot_53 (by decide), up_ifne _ _⟩) rfl ?_
  refine na_2 (q := 58) (⟨so_bipush dX4_shoot_56 (by decide), up_cst _ _⟩) rfl ?_
  refine na_1 (q := 59) (⟨so_reti dX4_shoot_58 rfl, up_reti _⟩) rfl ?_
  refine na_2 (q := 61) (⟨so_aload dX4_shoot_59, up_aload _ _⟩) rfl ?_
  refine na_1 (q := 62) (⟨so_iload_n dX4_shoot_61 rfl, up_iload _ _⟩) rfl ?_
  refine na_1 (q := 63) (⟨so_iload_n dX4_shoot_62 rfl, up_iload _ _⟩) rfl ?_
  refine na_3 (q := 66) (one_c rfl rfl (sc_V dX4_shoot_63 cw_X4_shoot_X6_reaches rfl wd_757 wd_758 wd_759 (nv_rcO (ci := 4) rfl))) rfl ?_
  refine na_3 (q := 69) (⟨so_ifne dX4_shoot_66 (by decide), up_ifne _ _⟩) rfl ?_
  refine na_2 (q := 71) (⟨so_bipush dX4_shoot_69 (by decide), up_cst _ _⟩) rfl ?_
  refine na_1 (q := 72) (⟨so_reti dX4_shoot_71 rfl, up_reti _⟩) rfl ?_
  refine na_2 (q := 74) (⟨so_aload dX4_shoot_72, up_aload _ _⟩) rfl ?_
  refine na_1 (q := 75) (⟨so_dup dX4_shoot_74, up_dup _⟩) rfl ?_
  refine na_3 (q := 78) (⟨so_getN kd_4 (k := 6) (by decide) dX4_shoot_75 wd_128, up_get _ _ _⟩) rfl ?_
  refine na_1 (q := 79) (⟨so_iconst dX4_shoot_78 (by decide), up_cst _ _⟩) rfl ?_
  refine na_1 (q := 80) (⟨so_isub dX4_shoot_79, up_i2 _ _⟩) rfl ?_
  refine na_3 (q := 83) (⟨so_put kd_4 (k := 6) (by decide) dX4_shoot_80 (Or.inr ⟨_, wd_128⟩) (Or.inl rfl), up_put _ _ _ _⟩) rfl ?_
  refine na_1 (q := 84) (⟨so_aload_n dX4_shoot_83 rfl, up_aload _ _⟩) rfl ?_
  refine na_2 (q := 86) (⟨so_aload dX4_shoot_84, up_aload _ _⟩) rfl ?_
  refine na_3 (q := 89) (⟨so_getN kd_4 (k := 1) (by decide) dX4_shoot_86 wd_113, up_get _ _ _⟩) rfl ?_
  refine na_3 (q := 92) (one_c rfl rfl (sc_V dX4_shoot_89 cw_X4_shoot_X4_accountOf rfl wd_414 wd_415 wd_416 (nv_rcO (ci := 2) rfl))) rfl ?_
  refine na_1 (q := 93) (⟨so_dup dX4_shoot_92, up_dup _⟩) rfl ?_
  refine na_3 (q := 96) (⟨so_getN kd_0 (k := 5) (by decide) dX4_shoot_93 wd_82, up_get _ _ _⟩) rfl ?_
  refine na_1 (q := 97) (⟨so_iconst dX4_shoot_96 (by decide), up_cst _ _⟩) rfl ?_
  refine na_1 (q := 98) (⟨so_iadd dX4_shoot_97, up_i2 _ _⟩) rfl ?_
  refine na_3 (q := 101) (⟨so_put kd_0 (k := 5) (by decide) dX4_shoot_98 (Or.inr ⟨_, wd_82⟩) (Or.inl rfl), up_put _ _ _ _⟩) rfl ?_
  refine na_2 (q := 103) (⟨so_aload dX4_shoot_101, up_aload _ _⟩) rfl ?_
  refine na_3 (q := 106) (one_c rfl rfl (sc_V dX4_shoot_103 cw_X4_shoot_X6_becomeKnown rfl wd_430 wd_431 wd_432 (nv_rcO (ci := 4) rfl))) rfl ?_
  refine na_1 (q := 107) (⟨so_aload_n dX4_shoot_106 rfl, up_aload _ _⟩) rfl ?_
  refine na_1 (q := 108) (⟨so_dup dX4_shoot_107, up_dup _⟩) rfl ?_
  refine na_3 (q := 111) (⟨so_get kd_2 (k := 8) (by decide) dX4_shoot_108 wd_166, up_get _ _ _⟩) rfl ?_
  refine na_1 (q := 112) (⟨so_iconst dX4_shoot_111 (by decide), up_cst _ _⟩) rfl ?_
  refine na_1 (q := 113) (⟨so_iadd dX4_shoot_112, up_i2 _ _⟩) rfl ?_
  refine na_3 (q := 116) (⟨so_put kd_2 (k := 8) (by decide) dX4_shoot_113 (Or.inl wd_166) (Or.inl rfl), up_put _ _ _ _⟩) rfl ?_
  refine na_1 (q := 117) (⟨so_aload_n dX4_shoot_116 rfl, up_aload _ _⟩) rfl ?_
  refine na_1 (q := 118) (⟨so_dup dX4_shoot_117, up_dup _⟩) rfl ?_
  refine na_3 (q := 121) (⟨so_get kd_2 (k := 6) (by decide) dX4_shoot_118 wd_162, up_get _ _ _⟩) rfl ?_
  refine na_1 (q := 122) (⟨so_iconst dX4_shoot_121 (by decide), up_cst _ _⟩) rfl ?_
  refine na_1 (q := 123) (⟨so_isub dX4_shoot_122, up_i2 _ _⟩) rfl ?_
  refine na_3 (q := 126) (⟨so_put kd_2 (k := 6) (by decide) dX4_shoot_123 (Or.inl wd_162) (Or.inl rfl), up_put _ _ _ _⟩) rfl ?_
  refine na_1 (q := 127) (⟨so_aload_n dX4_shoot_126 rfl, up_aload _ _⟩) rfl ?_
  refine na_1 (q := 128) (⟨so_iload_n dX4_shoot_127 rfl, up_iload _ _⟩) rfl ?_
  refine na_1 (q := 129) (⟨so_iload_n dX4_shoot_128 rfl, up_iload _ _⟩) rfl ?_
  refine na_3 (q := 132) (one_c rfl rfl (sc_V dX4_shoot_129 cw_X4_shoot_X4_spoonIn rfl wd_418 wd_419 wd_420 (nv_rcO (ci := 2) rfl))) rfl ?_
  refine na_2 (q := 134) (⟨so_astore dX4_shoot_132 (by decide), up_astore _ _⟩) rfl ?_
  refine na_2 (q := 136) (⟨so_aload dX4_shoot_134, up_aload _ _⟩) rfl ?_
  refine na_3 (q := 139) (⟨so_ifnonnull dX4_shoot_136 (by decide), up_ifnonnull _ _⟩) rfl ?_
  refine na_1 (q := 140) (⟨so_iconst dX4_shoot_139 (by decide), up_cst _ _⟩) rfl ?_
  refine na_3 (q := 143) (⟨so_goto dX4_shoot_140 (by decide), up_goto _⟩) rfl ?_
  refine na_1 (q := 144) (⟨so_aload_n dX4_shoot_143 rfl, up_aload _ _⟩) rfl ?_
  refine na_2 (q := 146) (⟨so_aload dX4_shoot_144, up_aload _ _⟩) rfl ?_
  refine na_3 (q := 149) (one_c rfl rfl (sc_V dX4_shoot_146 cw_X4_shoot_X4_hit rfl wd_766 wd_768 wd_16 (nv_rcO (ci := 2) rfl))) rfl ?_
  refine na_1 (q := 150) (⟨so_reti dX4_shoot_149 rfl, up_reti _⟩) rfl ?_
  exact na_z
set_option maxRecDepth 100000 in
set_option maxHeartbeats 4000000 in
theorem ok_53 : nv_all 53 0 np_c53 := by
  unfold np_c53
  refine na_1 (q := 1) (⟨so_aload_n dX4_hit_0 rfl, up_aload _ _⟩) rfl ?_
  refine na_1 (q := 2) (⟨so_dup dX4_hit_1, up_dup _⟩) rfl ?_
  refine na_3 (q := 5) (⟨so_get kd_2 (k := 9) (by decide) dX4_hit_2 wd_168, up_get _ _ _⟩) rfl ?_
  refine na_1 (q := 6) (⟨so_iconst dX4_hit_5 (by decide), up_cst _ _⟩) rfl ?_
  refine na_1 (q := 7) (⟨so_iadd dX4_hit_6, up_i2 _ _⟩) rfl ?_
  refine na_3 (q := 10) (⟨so_put kd_2 (k := 9) (by decide) dX4_hit_7 (Or.inl wd_168) (Or.inl rfl), up_put _ _ _ _⟩) rfl ?_
  refine na_1 (q := 11) (⟨so_aload_n dX4_hit_10 rfl, up_aload _ _⟩) rfl ?_
  refine na_1 (q := 12) (⟨so_dup dX4_hit_11, up_dup _⟩) rfl ?_
  refine na_3 (q := 15) (⟨so_getN kd_4 (k := 5) (by decide) dX4_hit_12 wd_125, up_get _ _ _⟩) rfl ?_
  refine na_1 (q := 16) (⟨so_iconst dX4_hit_15 (by decide), up_cst _ _⟩) rfl ?_
  refine na_1 (q := 17) (⟨so_isub dX4_hit_16, up_i2 _ _⟩) rfl ?_
  refine na_3 (q := 20) (⟨so_put kd_4 (k := 5) (by decide) dX4_hit_17 (Or.inr ⟨_, wd_125⟩) (Or.inl rfl), up_put _ _ _ _⟩) rfl ?_
  refine na_1 (q := 21) (⟨so_aload_n dX4_hit_20 rfl, up_aload _ _⟩) rfl ?_
  refine na_3 (q := 24) (one_c rfl rfl (sc_V dX4_hit_21 cw_X4_hit_X6_becomeKnown rfl wd_430 wd_431 wd_432 (nv_rcO (ci := 4) rfl))) rfl ?_
  refine na_1 (q := 25) (⟨so_aload_n dX4_hit_24 rfl, up_aload _ _⟩) rfl ?_
  refine na_3 (q := 28) (one_c rfl rfl (sc_V dX4_hit_25 cw_X4_hit_X6_isAfloat rfl wd_422 wd_423 wd_424 (nv_rcO (ci := 4) rfl))) rfl ?_
  refine na_3 (q := 31) (⟨so_ifeq dX4_hit_28 (by decide), up_ifeq _ _⟩) rfl ?_
  refine na_1 (q := 32) (⟨so_iconst dX4_hit_31 (by decide), up_cst _ _⟩) rfl ?_
  refine na_1 (q := 33) (⟨so_reti dX4_hit_32 rfl, up_reti _⟩) rfl ?_
  refine na_1 (q := 34) (⟨so_aload_n dX4_hit_33 rfl, up_aload _ _⟩) rfl ?_
  refine na_1 (q := 35) (⟨so_aload_n dX4_hit_34 rfl, up_aload _ _⟩) rfl ?_
  refine na_3 (q := 38) (⟨so_getN kd_4 (k := 1) (by decide) dX4_hit_35 wd_113, up_get _ _ _⟩) rfl ?_
  refine na_3 (q := 41) (one_c rfl rfl (sc_V dX4_hit_38 cw_X4_hit_X4_accountOf rfl wd_414 wd_415 wd_416 (nv_rcO (ci := 2) rfl))) rfl ?_
  refine na_1 (q := 42) (⟨so_astore_n dX4_hit_41 rfl (by decide), up_astore _ _⟩) rfl ?_
  refine na_1 (q := 43) (⟨so_aload_n dX4_hit_42 rfl, up_aload _ _⟩) rfl ?_
  refine na_1 (q := 44) (⟨so_dup dX4_hit_43, up_dup _⟩) rfl ?_
  refine na_3 (q := 47) (⟨so_getN kd_0 (k := 1) (by decide) dX4_hit_44 wd_72, up_get _ _ _⟩) rfl ?_
  refine na_1 (q := 48) (⟨so_iconst dX4_hit_47 (by decide), up_cst _ _⟩) rfl ?_
  refine na_1 (q := 49) (⟨so_isub dX4_hit_48, up_i2 _ _⟩) rfl ?_
  refine na_3 (q := 52) (⟨so_put kd_0 (k := 1) (by decide) dX4_hit_49 (Or.inr ⟨_, wd_72⟩) (Or.inl rfl), up_put _ _ _ _⟩) rfl ?_
  refine na_1 (q := 53) (⟨so_aload_n dX4_hit_52 rfl, up_aload _ _⟩) rfl ?_
  refine na_1 (q := 54) (⟨so_dup dX4_hit_53, up_dup _⟩) rfl ?_
  refine na_3 (q := 57) (⟨so_getN kd_0 (k := 7) (by decide) dX4_hit_54 wd_86, up_get _ _ _⟩) rfl ?_
  refine na_1 (q := 58) (⟨so_aload_n dX4_hit_57 rfl, up_aload _ _⟩) rfl ?_
  refine na_3 (q := 61) (⟨so_getN kd_4 (k := 6) (by decide) dX4_hit_58 wd_128, up_get _ _ _⟩) rfl ?_
  refine na_1 (q := 62) (⟨so_iadd dX4_hit_61, up_i2 _ _⟩) rfl ?_
  refine na_3 (q := 65) (⟨so_put kd_0 (k := 7) (by decide) dX4_hit_62 (Or.inr ⟨_, wd_86⟩) (Or.inl rfl), up_put _ _ _ _⟩) rfl ?_
  refine na_1 (q := 66) (⟨so_aload_n dX4_hit_65 rfl, up_aload _ _⟩) rfl ?_
  refine na_1 (q := 67) (⟨so_iconst dX4_hit_66 (by decide), up_cst _ _⟩) rfl ?_
  refine na_3 (q := 70) (⟨so_put kd_4 (k := 6) (by decide) dX4_hit_67 (Or.inr ⟨_, wd_128⟩) (Or.inl rfl), up_put _ _ _ _⟩) rfl ?_
  refine na_1 (q := 71) (⟨so_iconst dX4_hit_70 (by decide), up_cst _ _⟩) rfl ?_
  refine na_1 (q := 72) (⟨so_reti dX4_hit_71 rfl, up_reti _⟩) rfl ?_
  exact na_z
set_option maxRecDepth 100000 in
set_option maxHeartbeats 4000000 in
theorem ok_54 : nv_all 54 0 np_c54 := by
  unfold np_c54
  refine na_1 (q := 1) (⟨so_aload_n dX4_fill_0 rfl, up_aload _ _⟩) rfl ?_
  refine na_1 (q := 2) (⟨so_iload_n dX4_fill_1 rfl, up_iload _ _⟩) rfl ?_
  refine na_3 (q := 5) (one_c rfl rfl (sc_V dX4_fill_2 cw_X4_fill_X4_numbered rfl wd_553 wd_554 wd_555 (nv_rcO (ci := 2) rfl))) rfl ?_
  refine na_1 (q := 6) (⟨so_astore_n dX4_fill_5 rfl (by decide), up_astore _ _⟩) rfl ?_
  refine na_1 (q := 7) (⟨so_aload_n dX4_fill_6 rfl, up_aload _ _⟩) rfl ?_
  refine na_3 (q := 10) (⟨so_ifnonnull dX4_fill_7 (by decide), up_ifnonnull _ _⟩) rfl ?_
  refine na_1 (q := 11) (⟨so_iconst dX4_fill_10 (by decide), up_cst _ _⟩) rfl ?_
  refine na_1 (q := 12) (⟨so_reti dX4_fill_11 rfl, up_reti _⟩) rfl ?_
  refine na_1 (q := 13) (⟨so_aload_n dX4_fill_12 rfl, up_aload _ _⟩) rfl ?_
  refine na_1 (q := 14) (⟨so_aload_n dX4_fill_13 rfl, up_aload _ _⟩) rfl ?_
  refine na_1 (q := 15) (⟨so_iload_n dX4_fill_14 rfl, up_iload _ _⟩) rfl ?_
  refine na_3 (q := 18) (one_c rfl rfl (sc_SN dX4_fill_15 cw_X4_fill_X7_isCubeNumber wd_411 wd_412)) rfl ?_
  refine na_3 (q := 21) (one_c rfl rfl (sc_V dX4_fill_18 cw_X4_fill_X4_objectionTo rfl wd_557 wd_559 wd_3 (nv_rcO (ci := 2) rfl))) rfl ?_
  refine na_2 (q := 23) (⟨so_istore dX4_fill_21 (by decide), up_istore _ _⟩) rfl ?_
  refine na_2 (q := 25) (⟨so_iload dX4_fill_23, up_iload _ _⟩) rfl ?_
  refine na_3 (q := 28) (⟨so_ifeq dX4_fill_25 (by decide), up_ifeq _ _⟩) rfl ?_
  refine na_2 (q := 30) (⟨so_iload dX4_fill_28, up_iload _ _⟩) rfl ?_
  refine na_1 (q := 31) (⟨so_reti dX4_fill_30 rfl, up_reti _⟩) rfl ?_
  refine na_1 (q := 32) (⟨so_aload_n dX4_fill_31 rfl, up_aload _ _⟩) rfl ?_
  refine na_1 (q := 33) (⟨so_aload_n dX4_fill_32 rfl, up_aload _ _⟩) rfl ?_
  refine na_3 (q := 36) (⟨so_getN kd_4 (k := 1) (by decide) dX4_fill_33 wd_113, up_get _ _ _⟩) rfl ?_
  refine na_3 (q := 39) (one_c rfl rfl (sc_V dX4_fill_36 cw_X4_fill_X4_accountOf rfl wd_414 wd_415 wd_416 (nv_rcO (ci := 2) rfl))) rfl ?_
  refine na_2 (q := 41) (⟨so_astore dX4_fill_39 (by decide), up_astore _ _⟩) rfl ?_
  refine na_2 (q := 43) (⟨so_aload dX4_fill_41, up_aload _ _⟩) rfl ?_
  refine na_3 (q := 46) (⟨so_getN kd_0 (k := 2) (by decide) dX4_fill_43 wd_75, up_get _ _ _⟩) rfl ?_
  refine na_1 (q := 47) (⟨so_iload_n dX4_fill_46 rfl, up_iload _ _⟩) rfl ?_
  refine na_3 (q := 50) (⟨so_clt dX4_fill_47 (by decide), up_clt _ _⟩) rfl ?_
  refine na_1 (q := 51) (⟨so_aload_n dX4_fill_50 rfl, up_aload _ _⟩) rfl ?_
  refine na_3 (q := 54) (⟨so_getN kd_4 (k := 6) (by decide) dX4_fill_51 wd_128, up_get _ _ _⟩) rfl ?_
  refine na_1 (q := 55) (⟨so_iload_n dX4_fill_54 rfl, up_iload _ _⟩) rfl ?_
  refine na_1 (q := 56) (⟨so_iadd dX4_fill_55, up_i2 _ _⟩) rfl ?_
  refine na_2 (q := 58) (⟨so_bipush dX4_fill_56 (by decide), up_cst _ _⟩) rfl ?_
  refine na_3 (q := 61) (⟨so_cle dX4_fill_58 (by decide), up_cle _ _⟩) rfl ?_
  refine na_2 (q := 63) (⟨so_bipush dX4_fill_61 (by decide), up_cst _ _⟩) rfl ?_
  refine na_1 (q := 64) (⟨so_reti dX4_fill_63 rfl, up_reti _⟩) rfl ?_
  refine na_2 (q := 66) (⟨so_aload dX4_fill_64, up_aload _ _⟩) rfl ?_
  refine na_1 (q := 67) (⟨so_dup dX4_fill_66, up_dup _⟩) rfl ?_
  refine na_3 (q := 70) (⟨so_getN kd_0 (k := 2) (by decide) dX4_fill_67 wd_75, up_get _ _ _⟩) rfl ?_
  refine na_1 (q := 71) (⟨so_iload_n dX4_fill_70 rfl, up_iload _ _⟩) rfl ?_
  refine na_1 (q := 72) (⟨so_isub dX4_fill_71, up_i2 _ _⟩) rfl ?_
  refine na_3 (q := 75) (⟨so_put kd_0 (k := 2) (by decide) dX4_fill_72 (Or.inr ⟨_, wd_75⟩) (Or.inl rfl), up_put _ _ _ _⟩) rfl ?_
  refine na_2 (q := 77) (⟨so_aload dX4_fill_75, up_aload _ _⟩) rfl ?_
  refine na_1 (q := 78) (⟨so_dup dX4_fill_77, up_dup _⟩) rfl ?_
  refine na_3 (q := 81) (⟨so_getN kd_0 (k := 4) (by decide) dX4_fill_78 wd_80, up_get _ _ _⟩) rfl ?_
  refine na_1 (q := 82) (⟨so_iload_n dX4_fill_81 rfl, up_iload _ _⟩) rfl ?_
  refine na_1 (q := 83) (⟨so_iadd dX4_fill_82, up_i2 _ _⟩) rfl ?_
  refine na_3 (q := 86) (⟨so_put kd_0 (k := 4) (by decide) dX4_fill_83 (Or.inr ⟨_, wd_80⟩) (Or.inl rfl), up_put _ _ _ _⟩) rfl ?_
  refine na_1 (q := 87) (⟨so_aload_n dX4_fill_86 rfl, up_aload _ _⟩) rfl ?_
  refine na_1 (q := 88) (⟨so_dup dX4_fill_87, up_dup _⟩) rfl ?_
  refine na_3 (q := 91) (⟨so_getN kd_4 (k := 6) (by decide) dX4_fill_88 wd_128, up_get _ _ _⟩) rfl ?_
  refine na_1 (q := 92) (⟨so_iload_n dX4_fill_91 rfl, up_iload _ _⟩) rfl ?_
  refine na_1 (q := 93) (⟨so_iadd dX4_fill_92, up_i2 _ _⟩) rfl ?_
  refine na_3 (q := 96) (⟨so_put kd_4 (k := 6) (by decide) dX4_fill_93 (Or.inr ⟨_, wd_128⟩) (Or.inl rfl), up_put _ _ _ _⟩) rfl ?_
  refine na_1 (q := 97) (⟨so_aload_n dX4_fill_96 rfl, up_aload _ _⟩) rfl ?_
  refine na_1 (q := 98) (⟨so_dup dX4_fill_97, up_dup _⟩) rfl ?_
  refine na_3 (q := 101) (⟨so_get kd_2 (k := 6) (by decide) dX4_fill_98 wd_162, up_get _ _ _⟩) rfl ?_
  refine na_1 (q := 102) (⟨so_iconst dX4_fill_101 (by decide), up_cst _ _⟩) rfl ?_
  refine na_1 (q := 103) (⟨so_isub dX4_fill_102, up_i2 _ _⟩) rfl ?_
  refine na_3 (q := 106) (⟨so_put kd_2 (k := 6) (by decide) dX4_fill_103 (Or.inl wd_162) (Or.inl rfl), up_put _ _ _ _⟩) rfl ?_
  refine na_1 (q := 107) (⟨so_aload_n dX4_fill_106 rfl, up_aload _ _⟩) rfl ?_
  refine na_3 (q := 110) (⟨so_getN kd_4 (k := 6) (by decide) dX4_fill_107 wd_128, up_get _ _ _⟩) rfl ?_
  refine na_1 (q := 111) (⟨so_reti dX4_fill_110 rfl, up_reti _⟩) rfl ?_
  exact na_z
set_option maxRecDepth 100000 in
set_option maxHeartbeats 4000000 in
theorem ok_55 : nv_all 55 0 np_c55 := by
  unfold np_c55
  refine na_1 (q := 1) (⟨so_iload_n dX4_objectionTo_0 rfl, up_iload _ _⟩) rfl ?_
  refine na_3 (q := 4) (⟨so_ifne dX4_objectionTo_1 (by decide), up_ifne _ _⟩) rfl ?_
  refine na_2 (q := 6) (⟨so_bipush dX4_objectionTo_4 (by decide), up_cst _ _⟩) rfl ?_
  refine na_1 (q := 7) (⟨so_reti dX4_objectionTo_6 rfl, up_reti _⟩) rfl ?_
  refine na_1 (q := 8) (⟨so_aload_n dX4_objectionTo_7 rfl, up_aload _ _⟩) rfl ?_
  refine na_3 (q := 11) (one_c rfl rfl (sc_V dX4_objectionTo_8 cw_X4_objectionTo_X4_isGoingOn rfl wd_534 wd_535 wd_536 (nv_rcO (ci := 2) rfl))) rfl ?_
  refine na_3 (q := 14) (⟨so_ifeq dX4_objectionTo_11 (by decide), up_ifeq _ _⟩) rfl ?_
  refine na_1 (q := 15) (⟨so_aload_n dX4_objectionTo_14 rfl, up_aload _ _⟩) rfl ?_
  refine na_1 (q := 16) (⟨so_aload_n dX4_objectionTo_15 rfl, up_aload _ _⟩) rfl ?_
  refine na_3 (q := 19) (⟨so_get kd_2 (k := 5) (by decide) dX4_objectionTo_16 wd_160, up_get _ _ _⟩) rfl ?_
  refine na_3 (q := 22) (one_c rfl rfl (sc_V dX4_objectionTo_19 cw_X4_objectionTo_X6_isAfloatOf rfl wd_561 wd_562 wd_563 (nv_rcO (ci := 4) rfl))) rfl ?_
  refine na_3 (q := 25) (⟨so_ifne dX4_objectionTo_22 (by decide), up_ifne _ _⟩) rfl ?_
  refine na_2 (q := 27) (⟨so_bipush dX4_objectionTo_25 (by decide), up_cst _ _⟩) rfl ?_
  refine na_1 (q := 28) (⟨so_reti dX4_objectionTo_27 rfl, up_reti _⟩) rfl ?_
  refine na_1 (q := 29) (⟨so_aload_n dX4_objectionTo_28 rfl, up_aload _ _⟩) rfl ?_
  refine na_3 (q := 32) (⟨so_get kd_2 (k := 6) (by decide) dX4_objectionTo_29 wd_162, up_get _ _ _⟩) rfl ?_
  refine na_3 (q := 35) (⟨so_ifne dX4_objectionTo_32 (by decide), up_ifne _ _⟩) rfl ?_
  refine na_2 (q := 37) (⟨so_bipush dX4_objectionTo_35 (by decide), up_cst _ _⟩) rfl ?_
  refine na_3 (q := 40) (⟨so_goto dX4_objectionTo_37 (by decide), up_goto _⟩) rfl ?_
  refine na_1 (q := 41) (⟨so_iconst dX4_objectionTo_40 (by decide), up_cst _ _⟩) rfl ?_
  refine na_1 (q := 42) (⟨so_reti dX4_objectionTo_41 rfl, up_reti _⟩) rfl ?_
  exact na_z
set_option maxRecDepth 100000 in
set_option maxHeartbeats 4000000 in
theorem ok_56 : nv_all 56 0 np_c56 := by
  unfold np_c56
  refine na_1 (q := 1) (⟨so_aload_n dX5_init_0 rfl, up_aload _ _⟩) rfl ?_
  refine na_3 (q := 4) (⟨so_oinit dX5_init_1 wd_204 wd_53 cd_obj (by decide), up_oinit _⟩) rfl ?_
  refine na_1 (q := 5) (⟨so_aload_n dX5_init_4 rfl, up_aload _ _⟩) rfl ?_
  refine na_2 (q := 7) (⟨so_bipush dX5_init_5 (by decide), up_cst _ _⟩) rfl ?_
  refine na_3 (q := 10) (⟨so_newq dX5_init_7 (Or.inr ⟨rfl, rfl⟩) wd_205, up_newq _ _⟩) rfl ?_
  refine na_3 (q := 13) (⟨so_put kd_3 (k := 0) (by decide) dX5_init_10 (Or.inl wd_208) (Or.inr ⟨rfl, rfl, rfl, wd_208⟩), up_put _ _ _ _⟩) rfl ?_
  refine na_1 (q := 14) (⟨so_aload_n dX5_init_13 rfl, up_aload _ _⟩) rfl ?_
  refine na_1 (q := 15) (⟨so_iconst dX5_init_14 (by decide), up_cst _ _⟩) rfl ?_
  refine na_3 (q := 18) (⟨so_put kd_3 (k := 1) (by decide) dX5_init_15 (Or.inl wd_209) (Or.inl rfl), up_put _ _ _ _⟩) rfl ?_
  refine na_1 (q := 19) (⟨so_aload_n dX5_init_18 rfl, up_aload _ _⟩) rfl ?_
  refine na_1 (q := 20) (⟨so_iconst dX5_init_19 (by decide), up_cst _ _⟩) rfl ?_
  refine na_3 (q := 23) (⟨so_put kd_3 (k := 2) (by decide) dX5_init_20 (Or.inl wd_210) (Or.inl rfl), up_put _ _ _ _⟩) rfl ?_
  refine na_1 (q := 24) (⟨so_iconst dX5_init_23 (by decide), up_cst _ _⟩) rfl ?_
  refine na_1 (q := 25) (⟨so_istore_n dX5_init_24 rfl (by decide), up_istore _ _⟩) rfl ?_
  refine na_1 (q := 26) (⟨so_iload_n dX5_init_25 rfl, up_iload _ _⟩) rfl ?_
  refine na_1 (q := 27) (⟨so_aload_n dX5_init_26 rfl, up_aload _ _⟩) rfl ?_
  refine na_3 (q := 30) (⟨so_get kd_3 (k := 0) (by decide) dX5_init_27 wd_208, up_get _ _ _⟩) rfl ?_
  refine na_1 (q := 31) (⟨so_alen dX5_init_30 (Or.inr (Or.inr (Or.inr ⟨rfl, rfl⟩))), up_alen _ _⟩) rfl ?_
  refine na_3 (q := 34) (⟨so_cge dX5_init_31 (by decide), up_cge _ _⟩) rfl ?_
  refine na_1 (q := 35) (⟨so_aload_n dX5_init_34 rfl, up_aload _ _⟩) rfl ?_
  refine na_3 (q := 38) (⟨so_get kd_3 (k := 0) (by decide) dX5_init_35 wd_208, up_get _ _ _⟩) rfl ?_
  refine na_1 (q := 39) (⟨so_iload_n dX5_init_38 rfl, up_iload _ _⟩) rfl ?_
  refine na_3 (q := 42) (⟨so_new kd_2 dX5_init_39 wd_205 wd_56 wd_24 rfl df_2, up_new _ _ _⟩) rfl ?_
  refine na_1 (q := 43) (⟨so_dup dX5_init_42, up_dup _⟩) rfl ?_
  refine na_3 (q := 46) (one_c rfl rfl (sc_I (ci := 2) rfl dX5_init_43 cw_X5_init_X4_init rfl rfl (Or.inl wd_207) wd_58)) rfl ?_
  refine na_1 (q := 47) (⟨so_astq dX5_init_46 (Or.inr ⟨rfl, rfl⟩) rfl, up_astq _ _ _⟩) rfl ?_
  refine na_3 (q := 50) (⟨so_iinc dX5_init_47 (by decide) (by decide), up_iinc _ _ _⟩) rfl ?_
  refine na_3 (q := 53) (⟨so_goto dX5_init_50 (by decide), up_goto _⟩) rfl ?_
  refine na_1 (q := 54) (⟨so_retv dX5_init_53 rfl, up_retv⟩) rfl ?_
  exact na_z
set_option maxRecDepth 100000 in
set_option maxHeartbeats 4000000 in
theorem ok_57 : nv_all 57 0 np_c57 := by
  unfold np_c57
  refine na_1 (q := 1) (⟨so_aload_n dX5_push_0 rfl, up_aload _ _⟩) rfl ?_
  refine na_3 (q := 4) (⟨so_get kd_3 (k := 1) (by decide) dX5_push_1 wd_209, up_get _ _ _⟩) rfl ?_
  refine na_3 (q := 7) (⟨so_iflt dX5_push_4 (by decide), up_iflt _ _⟩) rfl ?_
  refine na_1 (q := 8) (⟨so_aload_n dX5_push_7 rfl, up_aload _ _⟩) rfl ?_
  refine na_3 (q := 11) (⟨so_get kd_3 (k := 1) (by decide) dX5_push_8 wd_209, up_get _ _ _⟩) rfl ?_
  refine na_1 (q := 12) (⟨so_aload_n dX5_push_11 rfl, up_aload _ _⟩) rfl ?_
  refine na_3 (q := 15) (⟨so_get kd_3 (k := 0) (by decide) dX5_push_12 wd_208, up_get _ _ _⟩) rfl ?_
  refine na_1 (q := 16) (⟨so_alen dX5_push_15 (Or.inr (Or.inr (Or.inr ⟨rfl, rfl⟩))), up_alen _ _⟩) rfl ?_
  refine na_3 (q := 19) (⟨so_clt dX5_push_16 (by decide), up_clt _ _⟩) rfl ?_
  refine na_1 (q := 20) (⟨so_retv dX5_push_19 rfl, up_retv⟩) rfl ?_
  refine na_1 (q := 21) (⟨so_aload_n dX5_push_20 rfl, up_aload _ _⟩) rfl ?_
  refine na_3 (q := 24) (⟨so_get kd_3 (k := 0) (by decide) dX5_push_21 wd_208, up_get _ _ _⟩) rfl ?_
  refine na_1 (q := 25) (⟨so_aload_n dX5_push_24 rfl, up_aload _ _⟩) rfl ?_
  refine na_3 (q := 28) (⟨so_get kd_3 (k := 1) (by decide) dX5_push_25 wd_209, up_get _ _ _⟩) rfl ?_
  refine na_1 (q := 29) (⟨so_aldq dX5_push_28 (Or.inr ⟨rfl, rfl⟩), up_aldq _ _⟩) rfl ?_
  refine na_1 (q := 30) (⟨so_aload_n dX5_push_29 rfl, up_aload _ _⟩) rfl ?_
  refine na_3 (q := 33) (one_c rfl rfl (sc_V dX5_push_30 cw_X5_push_X4_copyFrom rfl wd_442 wd_292 wd_293 (nv_rcO (ci := 2) rfl))) rfl ?_
  refine na_1 (q := 34) (⟨so_aload_n dX5_push_33 rfl, up_aload _ _⟩) rfl ?_
  refine na_1 (q := 35) (⟨so_aload_n dX5_push_34 rfl, up_aload _ _⟩) rfl ?_
  refine na_3 (q := 38) (⟨so_get kd_3 (k := 1) (by decide) dX5_push_35 wd_209, up_get _ _ _⟩) rfl ?_
  refine na_1 (q := 39) (⟨so_iconst dX5_push_38 (by decide), up_cst _ _⟩) rfl ?_
  refine na_1 (q := 40) (⟨so_iadd dX5_push_39, up_i2 _ _⟩) rfl ?_
  refine na_1 (q := 41) (⟨so_aload_n dX5_push_40 rfl, up_aload _ _⟩) rfl ?_
  refine na_3 (q := 44) (⟨so_get kd_3 (k := 0) (by decide) dX5_push_41 wd_208, up_get _ _ _⟩) rfl ?_
  refine na_1 (q := 45) (⟨so_alen dX5_push_44 (Or.inr (Or.inr (Or.inr ⟨rfl, rfl⟩))), up_alen _ _⟩) rfl ?_
  refine na_3 (q := 48) (⟨so_cge dX5_push_45 (by decide), up_cge _ _⟩) rfl ?_
  refine na_1 (q := 49) (⟨so_aload_n dX5_push_48 rfl, up_aload _ _⟩) rfl ?_
  refine na_3 (q := 52) (⟨so_get kd_3 (k := 1) (by decide) dX5_push_49 wd_209, up_get _ _ _⟩) rfl ?_
  refine na_1 (q := 53) (⟨so_iconst dX5_push_52 (by decide), up_cst _ _⟩) rfl ?_
  refine na_1 (q := 54) (⟨so_iadd dX5_push_53, up_i2 _ _⟩) rfl ?_
  refine na_3 (q := 57) (⟨so_goto dX5_push_54 (by decide), up_goto _⟩) rfl ?_
  refine na_1 (q := 58) (⟨so_iconst dX5_push_57 (by decide), up_cst _ _⟩) rfl ?_
  refine na_3 (q := 61) (⟨so_put kd_3 (k := 1) (by decide) dX5_push_58 (Or.inl wd_209) (Or.inl rfl), up_put _ _ _ _⟩) rfl ?_
  refine na_1 (q := 62) (⟨so_aload_n dX5_push_61 rfl, up_aload _ _⟩) rfl ?_
  refine na_1 (q := 63) (⟨so_aload_n dX5_push_62 rfl, up_aload _ _⟩) rfl ?_
  refine na_3 (q := 66) (⟨so_get kd_3 (k := 2) (by decide) dX5_push_63 wd_210, up_get _ _ _⟩) rfl ?_
  refine na_1 (q := 67) (⟨so_iconst dX5_push_66 (by decide), up_cst _ _⟩) rfl ?_
  refine na_1 (q := 68) (⟨so_iadd dX5_push_67, up_i2 _ _⟩) rfl ?_
  refine na_1 (q := 69) (⟨so_aload_n dX5_push_68 rfl, up_aload _ _⟩) rfl ?_
  refine na_3 (q := 72) (⟨so_get kd_3 (k := 0) (by decide) dX5_push_69 wd_208, up_get _ _ _⟩) rfl ?_
  refine na_1 (q := 73) (⟨so_alen dX5_push_72 (Or.inr (Or.inr (Or.inr ⟨rfl, rfl⟩))), up_alen _ _⟩) rfl ?_
  refine na_3 (q := 76) (⟨so_min dX5_push_73 wd_443 wd_444 wd_37 cd_min (by decide), up_min _⟩) rfl ?_
  refine na_3 (q := 79) (⟨so_put kd_3 (k := 2) (by decide) dX5_push_76 (Or.inl wd_210) (Or.inl rfl), up_put _ _ _ _⟩) rfl ?_
  refine na_1 (q := 80) (⟨so_retv dX5_push_79 rfl, up_retv⟩) rfl ?_
  exact na_z
set_option maxRecDepth 100000 in
set_option maxHeartbeats 4000000 in
theorem ok_58 : nv_all 58 0 np_c58 := by
  unfold np_c58
  refine na_1 (q := 1) (⟨so_aload_n dX5_pop_0 rfl, up_aload _ _⟩) rfl ?_
  refine na_3 (q := 4) (⟨so_get kd_3 (k := 1) (by decide) dX5_pop_1 wd_209, up_get _ _ _⟩) rfl ?_
  refine na_3 (q := 7) (⟨so_ifle dX5_pop_4 (by decide), up_ifle _ _⟩) rfl ?_
  refine na_1 (q := 8) (⟨so_aload_n dX5_pop_7 rfl, up_aload _ _⟩) rfl ?_
  refine na_3 (q := 11) (⟨so_get kd_3 (k := 1) (by decide) dX5_pop_8 wd_209, up_get _ _ _⟩) rfl ?_
  refine na_1 (q := 12) (⟨so_iconst dX5_pop_11 (by decide), up_cst _ _⟩) rfl ?_
  refine na_1 (q := 13) (⟨so_isub dX5_pop_12, up_i2 _ _⟩) rfl ?_
  refine na_3 (q := 16) (⟨so_goto dX5_pop_13 (by decide), up_goto _⟩) rfl ?_
  refine na_1 (q := 17) (⟨so_aload_n dX5_pop_16 rfl, up_aload _ _⟩) rfl ?_
  refine na_3 (q := 20) (⟨so_get kd_3 (k := 0) (by decide) dX5_pop_17 wd_208, up_get _ _ _⟩) rfl ?_
  refine na_1 (q := 21) (⟨so_alen dX5_pop_20 (Or.inr (Or.inr (Or.inr ⟨rfl, rfl⟩))), up_alen _ _⟩) rfl ?_
  refine na_1 (q := 22) (⟨so_iconst dX5_pop_21 (by decide), up_cst _ _⟩) rfl ?_
  refine na_1 (q := 23) (⟨so_isub dX5_pop_22, up_i2 _ _⟩) rfl ?_
  refine na_1 (q := 24) (⟨so_istore_n dX5_pop_23 rfl (by decide), up_istore _ _⟩) rfl ?_
  refine na_1 (q := 25) (⟨so_aload_n dX5_pop_24 rfl, up_aload _ _⟩) rfl ?_
  refine na_3 (q := 28) (⟨so_get kd_3 (k := 2) (by decide) dX5_pop_25 wd_210, up_get _ _ _⟩) rfl ?_
  refine na_3 (q := 31) (⟨so_ifeq dX5_pop_28 (by decide), up_ifeq _ _⟩) rfl ?_
  refine na_1 (q := 32) (⟨so_iload_n dX5_pop_31 rfl, up_iload _ _⟩) rfl ?_
  refine na_3 (q := 35) (⟨so_iflt dX5_pop_32 (by decide), up_iflt _ _⟩) rfl ?_
  refine na_1 (q := 36) (⟨so_iload_n dX5_pop_35 rfl, up_iload _ _⟩) rfl ?_
  refine na_1 (q := 37) (⟨so_aload_n dX5_pop_36 rfl, up_aload _ _⟩) rfl ?_
  refine na_3 (q := 40) (⟨so_get kd_3 (k := 0) (by decide) dX5_pop_37 wd_208, up_get _ _ _⟩) rfl ?_
  refine na_1 (q := 41) (⟨so_alen dX5_pop_40 (Or.inr (Or.inr (Or.inr ⟨rfl, rfl⟩))), up_alen _ _⟩) rfl ?_
  refine na_3 (q := 44) (⟨so_clt dX5_pop_41 (by decide), up_clt _ _⟩) rfl ?_
  refine na_1 (q := 45) (⟨so_iconst dX5_pop_44 (by decide), up_cst _ _⟩) rfl ?_
  refine na_1 (q := 46) (⟨so_reti dX5_pop_45 rfl, up_reti _⟩) rfl ?_
  refine na_1 (q := 47) (⟨so_aload_n dX5_pop_46 rfl, up_aload _ _⟩) rfl ?_
  refine na_1 (q := 48) (⟨so_aload_n dX5_pop_47 rfl, up_aload _ _⟩) rfl ?_
  refine na_3 (q := 51) (⟨so_get kd_3 (k := 0) (by decide) dX5_pop_48 wd_208, up_get _ _ _⟩) rfl ?_
  refine na_1 (q := 52) (⟨so_iload_n dX5_pop_51 rfl, up_iload _ _⟩) rfl ?_
  refine na_1 (q := 53) (⟨so_aldq dX5_pop_52 (Or.inr ⟨rfl, rfl⟩), up_aldq _ _⟩) rfl ?_
  refine na_3 (q := 56) (one_c rfl rfl (sc_V dX5_pop_53 cw_X5_pop_X4_copyFrom rfl wd_442 wd_292 wd_293 (nv_rcO (ci := 2) rfl))) rfl ?_
  refine na_1 (q := 57) (⟨so_aload_n dX5_pop_56 rfl, up_aload _ _⟩) rfl ?_
  refine na_1 (q := 58) (⟨so_iload_n dX5_pop_57 rfl, up_iload _ _⟩) rfl ?_
  refine na_3 (q := 61) (⟨so_put kd_3 (k := 1) (by decide) dX5_pop_58 (Or.inl wd_209) (Or.inl rfl), up_put _ _ _ _⟩) rfl ?_
  refine na_1 (q := 62) (⟨so_aload_n dX5_pop_61 rfl, up_aload _ _⟩) rfl ?_
  refine na_1 (q := 63) (⟨so_dup dX5_pop_62, up_dup _⟩) rfl ?_
  refine na_3 (q := 66) (⟨so_get kd_3 (k := 2) (by decide) dX5_pop_63 wd_210, up_get _ _ _⟩) rfl ?_
  refine na_1 (q := 67) (⟨so_iconst dX5_pop_66 (by decide), up_cst _ _⟩) rfl ?_
  refine na_1 (q := 68) (⟨so_isub dX5_pop_67, up_i2 _ _⟩) rfl ?_
  refine na_3 (q := 71) (⟨so_put kd_3 (k := 2) (by decide) dX5_pop_68 (Or.inl wd_210) (Or.inl rfl), up_put _ _ _ _⟩) rfl ?_
  refine na_1 (q := 72) (⟨so_iconst dX5_pop_71 (by decide), up_cst _ _⟩) rfl ?_
  refine na_1 (q := 73) (⟨so_reti dX5_pop_72 rfl, up_reti _⟩) rfl ?_
  exact na_z
set_option maxRecDepth 100000 in
set_option maxHeartbeats 4000000 in
theorem ok_59 : nv_all 59 0 np_c59 := by
  unfold np_c59
  refine na_1 (q := 1) (⟨so_aload_n dX5_clear_0 rfl, up_aload _ _⟩) rfl ?_
  refine na_1 (q := 2) (⟨so_iconst dX5_clear_1 (by decide), up_cst _ _⟩) rfl ?_
  refine na_3 (q := 5) (⟨so_put kd_3 (k := 2) (by decide) dX5_clear_2 (Or.inl wd_210) (Or.inl rfl), up_put _ _ _ _⟩) rfl ?_
  refine na_1 (q := 6) (⟨so_retv dX5_clear_5 rfl, up_retv⟩) rfl ?_
  exact na_z
set_option maxRecDepth 100000 in
set_option maxHeartbeats 4000000 in
theorem ok_60 : nv_all 60 0 np_c60 := by
  unfold np_c60
  refine na_1 (q := 1) (⟨so_aload_n dX6_init_0 rfl, up_aload _ _⟩) rfl ?_
  refine na_3 (q := 4) (⟨so_oinit dX6_init_1 wd_108 wd_53 cd_obj (by decide), up_oinit _⟩) rfl ?_
  refine na_1 (q := 5) (⟨so_aload_n dX6_init_4 rfl, up_aload _ _⟩) rfl ?_
  refine na_1 (q := 6) (⟨so_iload_n dX6_init_5 rfl, up_iload _ _⟩) rfl ?_
  refine na_3 (q := 9) (⟨so_put kd_4 (k := 0) (by decide) dX6_init_6 (Or.inl wd_109) (Or.inr ⟨rfl, rfl, rfl, wd_109⟩), up_put _ _ _ _⟩) rfl ?_
  refine na_1 (q := 10) (⟨so_retv dX6_init_9 rfl, up_retv⟩) rfl ?_
  exact na_z
set_option maxRecDepth 100000 in
set_option maxHeartbeats 4000000 in
theorem ok_61 : nv_all 61 0 np_c61 := by
  unfold np_c61
  refine na_1 (q := 1) (⟨so_aload_n dX6_copyFrom_0 rfl, up_aload _ _⟩) rfl ?_
  refine na_1 (q := 2) (⟨so_aload_n dX6_copyFrom_1 rfl, up_aload _ _⟩) rfl ?_
  refine na_3 (q := 5) (⟨so_get kd_4 (k := 1) (by decide) dX6_copyFrom_2 wd_112, up_get _ _ _⟩) rfl ?_
  refine na_3 (q := 8) (⟨so_put kd_4 (k := 1) (by decide) dX6_copyFrom_5 (Or.inl wd_112) (Or.inl rfl), up_put _ _ _ _⟩) rfl ?_
  refine na_1 (q := 9) (⟨so_aload_n dX6_copyFrom_8 rfl, up_aload _ _⟩) rfl ?_
  refine na_1 (q := 10) (⟨so_aload_n dX6_copyFrom_9 rfl, up_aload _ _⟩) rfl ?_
  refine na_3 (q := 13) (⟨so_get kd_4 (k := 2) (by decide) dX6_copyFrom_10 wd_115, up_get _ _ _⟩) rfl ?_
  refine na_3 (q := 16) (⟨so_put kd_4 (k := 2) (by decide) dX6_copyFrom_13 (Or.inl wd_115) (Or.inl rfl), up_put _ _ _ _⟩) rfl ?_
  refine na_1 (q := 17) (⟨so_aload_n dX6_copyFrom_16 rfl, up_aload _ _⟩) rfl ?_
  refine na_1 (q := 18) (⟨so_aload_n dX6_copyFrom_17 rfl, up_aload _ _⟩) rfl ?_
  refine na_3 (q := 21) (⟨so_get kd_4 (k := 3) (by decide) dX6_copyFrom_18 wd_118, up_get _ _ _⟩) rfl ?_
  refine na_3 (q := 24) (⟨so_put kd_4 (k := 3) (by decide) dX6_copyFrom_21 (Or.inl wd_118) (Or.inl rfl), up_put _ _ _ _⟩) rfl ?_
  refine na_1 (q := 25) (⟨so_aload_n dX6_copyFrom_24 rfl, up_aload _ _⟩) rfl ?_
  refine na_1 (q := 26) (⟨so_aload_n dX6_copyFrom_25 rfl, up_aload _ _⟩) rfl ?_
  refine na_3 (q := 29) (⟨so_get kd_4 (k := 4) (by decide) dX6_copyFrom_26 wd_121, up_get _ _ _⟩) rfl ?_
  refine na_3 (q := 32) (⟨so_put kd_4 (k := 4) (by decide) dX6_copyFrom_29 (Or.inl wd_121) (Or.inl rfl), up_put _ _ _ _⟩) rfl ?_
  refine na_1 (q := 33) (⟨so_aload_n dX6_copyFrom_32 rfl, up_aload _ _⟩) rfl ?_
  refine na_1 (q := 34) (⟨so_aload_n dX6_copyFrom_33 rfl, up_aload _ _⟩) rfl ?_
  refine na_3 (q := 37) (⟨so_get kd_4 (k := 5) (by decide) dX6_copyFrom_34 wd_124, up_get _ _ _⟩) rfl ?_
  refine na_3 (q := 40) (⟨so_put kd_4 (k := 5) (by decide) dX6_copyFrom_37 (Or.inl wd_124) (Or.inl rfl), up_put _ _ _ _⟩) rfl ?_
  refine na_1 (q := 41) (⟨so_aload_n dX6_copyFrom_40 rfl, up_aload _ _⟩) rfl ?_
  refine na_1 (q := 42) (⟨so_aload_n dX6_copyFrom_41 rfl, up_aload _ _⟩) rfl ?_
  refine na_3 (q := 45) (⟨so_get kd_4 (k := 6) (by decide) dX6_copyFrom_42 wd_127, up_get _ _ _⟩) rfl ?_
  refine na_3 (q := 48) (⟨so_put kd_4 (k := 6) (by decide) dX6_copyFrom_45 (Or.inl wd_127) (Or.inl rfl), up_put _ _ _ _⟩) rfl ?_
  refine na_1 (q := 49) (⟨so_aload_n dX6_copyFrom_48 rfl, up_aload _ _⟩) rfl ?_
  refine na_1 (q := 50) (⟨so_aload_n dX6_copyFrom_49 rfl, up_aload _ _⟩) rfl ?_
  refine na_3 (q := 53) (⟨so_get kd_4 (k := 7) (by decide) dX6_copyFrom_50 wd_130, up_get _ _ _⟩) rfl ?_
  refine na_3 (q := 56) (⟨so_put kd_4 (k := 7) (by decide) dX6_copyFrom_53 (Or.inl wd_130) (Or.inl rfl), up_put _ _ _ _⟩) rfl ?_
  refine na_1 (q := 57) (⟨so_aload_n dX6_copyFrom_56 rfl, up_aload _ _⟩) rfl ?_
  refine na_1 (q := 58) (⟨so_aload_n dX6_copyFrom_57 rfl, up_aload _ _⟩) rfl ?_
  refine na_3 (q := 61) (⟨so_get kd_4 (k := 8) (by decide) dX6_copyFrom_58 wd_132, up_get _ _ _⟩) rfl ?_
  refine na_3 (q := 64) (⟨so_put kd_4 (k := 8) (by decide) dX6_copyFrom_61 (Or.inl wd_132) (Or.inl rfl), up_put _ _ _ _⟩) rfl ?_
  refine na_1 (q := 65) (⟨so_retv dX6_copyFrom_64 rfl, up_retv⟩) rfl ?_
  exact na_z
set_option maxRecDepth 100000 in
set_option maxHeartbeats 4000000 in
theorem ok_62 : nv_all 62 0 np_c62 := by
  unfold np_c62
  refine na_1 (q := 1) (⟨so_aload_n dX6_isAfloat_0 rfl, up_aload _ _⟩) rfl ?_
  refine na_3 (q := 4) (⟨so_get kd_4 (k := 5) (by decide) dX6_isAfloat_1 wd_124, up_get _ _ _⟩) rfl ?_
  refine na_3 (q := 7) (⟨so_ifle dX6_isAfloat_4 (by decide), up_ifle _ _⟩) rfl ?_
  refine na_1 (q := 8) (⟨so_iconst dX6_isAfloat_7 (by decide), up_cst _ _⟩) rfl ?_
  refine na_3 (q := 11) (⟨so_goto dX6_isAfloat_8 (by decide), up_goto _⟩) rfl ?_
  refine na_1 (q := 12) (⟨so_iconst dX6_isAfloat_11 (by decide), up_cst _ _⟩) rfl ?_
  refine na_1 (q := 13) (⟨so_reti dX6_isAfloat_12 rfl, up_reti _⟩) rfl ?_
  exact na_z
set_option maxRecDepth 100000 in
set_option maxHeartbeats 4000000 in
theorem ok_63 : nv_all 63 0 np_c63 := by
  unfold np_c63
  refine na_1 (q := 1) (⟨so_aload_n dX6_isAfloatOf_0 rfl, up_aload _ _⟩) rfl ?_
  refine na_3 (q := 4) (one_c rfl rfl (sc_V dX6_isAfloatOf_1 cw_X6_isAfloatOf_X6_isAfloat rfl wd_565 wd_423 wd_424 (nv_rcO (ci := 4) rfl))) rfl ?_
  refine na_3 (q := 7) (⟨so_ifeq dX6_isAfloatOf_4 (by decide), up_ifeq _ _⟩) rfl ?_
  refine na_1 (q := 8) (⟨so_aload_n dX6_isAfloatOf_7 rfl, up_aload _ _⟩) rfl ?_
  refine na_3 (q := 11) (⟨so_get kd_4 (k := 1) (by decide) dX6_isAfloatOf_8 wd_112, up_get _ _ _⟩) rfl ?_
  refine na_1 (q := 12) (⟨so_iload_n dX6_isAfloatOf_11 rfl, up_iload _ _⟩) rfl ?_
  refine na_3 (q := 15) (⟨so_cne dX6_isAfloatOf_12 (by decide), up_cne _ _⟩) rfl ?_
  refine na_1 (q := 16) (⟨so_iconst dX6_isAfloatOf_15 (by decide), up_cst _ _⟩) rfl ?_
  refine na_3 (q := 19) (⟨so_goto dX6_isAfloatOf_16 (by decide), up_goto _⟩) rfl ?_
  refine na_1 (q := 20) (⟨so_iconst dX6_isAfloatOf_19 (by decide), up_cst _ _⟩) rfl ?_
  refine na_1 (q := 21) (⟨so_reti dX6_isAfloatOf_20 rfl, up_reti _⟩) rfl ?_
  exact na_z
set_option maxRecDepth 100000 in
set_option maxHeartbeats 4000000 in
theorem ok_64 : nv_all 64 0 np_c64 := by
  unfold np_c64
  refine na_1 (q := 1) (⟨so_aload_n dX6_isIn_0 rfl, up_aload _ _⟩) rfl ?_
  refine na_3 (q := 4) (⟨so_get kd_4 (k := 2) (by decide) dX6_isIn_1 wd_115, up_get _ _ _⟩) rfl ?_
  refine na_1 (q := 5) (⟨so_iload_n dX6_isIn_4 rfl, up_iload _ _⟩) rfl ?_
  refine na_3 (q := 8) (⟨so_cne dX6_isIn_5 (by decide), up_cne _ _⟩) rfl ?_
  refine na_1 (q := 9) (⟨so_aload_n dX6_isIn_8 rfl, up_aload _ _⟩) rfl ?_
  refine na_3 (q := 12) (⟨so_get kd_4 (k := 3) (by decide) dX6_isIn_9 wd_118, up_get _ _ _⟩) rfl ?_
  refine na_1 (q := 13) (⟨so_iload_n dX6_isIn_12 rfl, up_iload _ _⟩) rfl ?_
  refine na_3 (q := 16) (⟨so_cne dX6_isIn_13 (by decide), up_cne _ _⟩) rfl ?_
  refine na_1 (q := 17) (⟨so_iconst dX6_isIn_16 (by decide), up_cst _ _⟩) rfl ?_
  refine na_3 (q := 20) (⟨so_goto dX6_isIn_17 (by decide), up_goto _⟩) rfl ?_
  refine na_1 (q := 21) (⟨so_iconst dX6_isIn_20 (by decide), up_cst _ _⟩) rfl ?_
  refine na_1 (q := 22) (⟨so_reti dX6_isIn_21 rfl, up_reti _⟩) rfl ?_
  exact na_z
set_option maxRecDepth 100000 in
set_option maxHeartbeats 4000000 in
theorem ok_65 : nv_all 65 0 np_c65 := by
  unfold np_c65
  refine na_1 (q := 1) (⟨so_iload_n dX6_distanceTo_0 rfl, up_iload _ _⟩) rfl ?_
  refine na_1 (q := 2) (⟨so_aload_n dX6_distanceTo_1 rfl, up_aload _ _⟩) rfl ?_
  refine na_3 (q := 5) (⟨so_get kd_4 (k := 2) (by decide) dX6_distanceTo_2 wd_115, up_get _ _ _⟩) rfl ?_
  refine na_1 (q := 6) (⟨so_isub dX6_distanceTo_5, up_i2 _ _⟩) rfl ?_
  refine na_3 (q := 9) (⟨so_abs dX6_distanceTo_6 wd_746 wd_570 wd_37 cd_abs (by decide), up_abs _⟩) rfl ?_
  refine na_1 (q := 10) (⟨so_iload_n dX6_distanceTo_9 rfl, up_iload _ _⟩) rfl ?_
  refine na_1 (q := 11) (⟨so_aload_n dX6_distanceTo_10 rfl, up_aload _ _⟩) rfl ?_
  refine na_3 (q := 14) (⟨so_get kd_4 (k := 3) (by decide) dX6_distanceTo_11 wd_118, up_get _ _ _⟩) rfl ?_
  refine na_1 (q := 15) (⟨so_isub dX6_distanceTo_14, up_i2 _ _⟩) rfl ?_
  refine na_3 (q := 18) (⟨so_abs dX6_distanceTo_15 wd_746 wd_570 wd_37 cd_abs (by decide), up_abs _⟩) rfl ?_
  refine na_3 (q := 21) (⟨so_max dX6_distanceTo_18 wd_747 wd_678 wd_37 cd_max (by decide), up_max _⟩) rfl ?_
  refine na_1 (q := 22) (⟨so_reti dX6_distanceTo_21 rfl, up_reti _⟩) rfl ?_
  exact na_z
set_option maxRecDepth 100000 in
set_option maxHeartbeats 4000000 in
theorem ok_66 : nv_all 66 0 np_c66 := by
  unfold np_c66
  refine na_1 (q := 1) (⟨so_aload_n dX6_isInRange_0 rfl, up_aload _ _⟩) rfl ?_
  refine na_1 (q := 2) (⟨so_iload_n dX6_isInRange_1 rfl, up_iload _ _⟩) rfl ?_
  refine na_1 (q := 3) (⟨so_iload_n dX6_isInRange_2 rfl, up_iload _ _⟩) rfl ?_
  refine na_3 (q := 6) (one_c rfl rfl (sc_V dX6_isInRange_3 cw_X6_isInRange_X6_distanceTo rfl wd_756 wd_743 wd_744 (nv_rcO (ci := 4) rfl))) rfl ?_
  refine na_1 (q := 7) (⟨so_istore_n dX6_isInRange_6 rfl (by decide), up_istore _ _⟩) rfl ?_
  refine na_1 (q := 8) (⟨so_iload_n dX6_isInRange_7 rfl, up_iload _ _⟩) rfl ?_
  refine na_1 (q := 9) (⟨so_iconst dX6_isInRange_8 (by decide), up_cst _ _⟩) rfl ?_
  refine na_3 (q := 12) (⟨so_clt dX6_isInRange_9 (by decide), up_clt _ _⟩) rfl ?_
  refine na_1 (q := 13) (⟨so_iload_n dX6_isInRange_12 rfl, up_iload _ _⟩) rfl ?_
  refine na_1 (q := 14) (⟨so_aload_n dX6_isInRange_13 rfl, up_aload _ _⟩) rfl ?_
  refine na_3 (q := 17) (⟨so_get kd_4 (k := 6) (by decide) dX6_isInRange_14 wd_127, up_get _ _ _⟩) rfl ?_
  refine na_3 (q := 20) (⟨so_cgt dX6_isInRange_17 (by decide), up_cgt _ _⟩) rfl ?_
  refine na_1 (q := 21) (⟨so_iconst dX6_isInRange_20 (by decide), up_cst _ _⟩) rfl ?_
  refine na_3 (q := 24) (⟨so_goto dX6_isInRange_21 (by decide), up_goto _⟩) rfl ?_
  refine na_1 (q := 25) (⟨so_iconst dX6_isInRange_24 (by decide), up_cst _ _⟩) rfl ?_
  refine na_1 (q := 26) (⟨so_reti dX6_isInRange_25 rfl, up_reti _⟩) rfl ?_
  exact na_z
set_option maxRecDepth 100000 in
set_option maxHeartbeats 4000000 in
theorem ok_67 : nv_all 67 0 np_c67 := by
  unfold np_c67
  refine na_1 (q := 1) (⟨so_aload_n dX6_reaches_0 rfl, up_aload _ _⟩) rfl ?_
  refine na_3 (q := 4) (one_c rfl rfl (sc_V dX6_reaches_1 cw_X6_reaches_X6_isAfloat rfl wd_565 wd_423 wd_424 (nv_rcO (ci := 4) rfl))) rfl ?_
  refine na_3 (q := 7) (⟨so_ifeq dX6_reaches_4 (by decide), up_ifeq _ _⟩) rfl ?_
  refine na_1 (q := 8) (⟨so_aload_n dX6_reaches_7 rfl, up_aload _ _⟩) rfl ?_
  refine na_1 (q := 9) (⟨so_iload_n dX6_reaches_8 rfl, up_iload _ _⟩) rfl ?_
  refine na_1 (q := 10) (⟨so_iload_n dX6_reaches_9 rfl, up_iload _ _⟩) rfl ?_
  refine na_3 (q := 13) (one_c rfl rfl (sc_V dX6_reaches_10 cw_X6_reaches_X6_isInRange rfl wd_761 wd_753 wd_754 (nv_rcO (ci := 4) rfl))) rfl ?_
  refine na_3 (q := 16) (⟨so_ifeq dX6_reaches_13 (by decide), up_ifeq _ _⟩) rfl ?_
  refine na_1 (q := 17) (⟨so_aload_n dX6_reaches_16 rfl, up_aload _ _⟩) rfl ?_
  refine na_3 (q := 20) (⟨so_get kd_4 (k := 4) (by decide) dX6_reaches_17 wd_121, up_get _ _ _⟩) rfl ?_
  refine na_1 (q := 21) (⟨so_iload_n dX6_reaches_20 rfl, up_iload _ _⟩) rfl ?_
  refine na_1 (q := 22) (⟨so_aload_n dX6_reaches_21 rfl, up_aload _ _⟩) rfl ?_
  refine na_3 (q := 25) (⟨so_get kd_4 (k := 2) (by decide) dX6_reaches_22 wd_115, up_get _ _ _⟩) rfl ?_
  refine na_1 (q := 26) (⟨so_isub dX6_reaches_25, up_i2 _ _⟩) rfl ?_
  refine na_1 (q := 27) (⟨so_iload_n dX6_reaches_26 rfl, up_iload _ _⟩) rfl ?_
  refine na_1 (q := 28) (⟨so_aload_n dX6_reaches_27 rfl, up_aload _ _⟩) rfl ?_
  refine na_3 (q := 31) (⟨so_get kd_4 (k := 3) (by decide) dX6_reaches_28 wd_118, up_get _ _ _⟩) rfl ?_
  refine na_1 (q := 32) (⟨so_isub dX6_reaches_31, up_i2 _ _⟩) rfl ?_
  refine na_3 (q := 35) (one_c rfl rfl (sc_SN dX6_reaches_32 cw_X6_reaches_X7_directionOf wd_762 wd_763)) rfl ?_
  refine na_3 (q := 38) (one_c rfl rfl (sc_SN dX6_reaches_35 cw_X6_reaches_X7_stepsBetween wd_765 wd_567)) rfl ?_
  refine na_1 (q := 39) (⟨so_iconst dX6_reaches_38 (by decide), up_cst _ _⟩) rfl ?_
  refine na_3 (q := 42) (⟨so_cgt dX6_reaches_39 (by decide), up_cgt _ _⟩) rfl ?_
  refine na_1 (q := 43) (⟨so_iconst dX6_reaches_42 (by decide), up_cst _ _⟩) rfl ?_
  refine na_3 (q := 46) (⟨so_goto dX6_reaches_43 (by decide), up_goto _⟩) rfl ?_
  refine na_1 (q := 47) (⟨so_iconst dX6_reaches_46 (by decide), up_cst _ _⟩) rfl ?_
  refine na_1 (q := 48) (⟨so_reti dX6_reaches_47 rfl, up_reti _⟩) rfl ?_
  exact na_z
set_option maxRecDepth 100000 in
set_option maxHeartbeats 4000000 in
theorem ok_68 : nv_all 68 0 np_c68 := by
  unfold np_c68
  refine na_1 (q := 1) (⟨so_aload_n dX6_becomeKnown_0 rfl, up_aload _ _⟩) rfl ?_
  refine na_1 (q := 2) (⟨so_aload_n dX6_becomeKnown_1 rfl, up_aload _ _⟩) rfl ?_
  refine na_3 (q := 5) (⟨so_get kd_4 (k := 2) (by decide) dX6_becomeKnown_2 wd_115, up_get _ _ _⟩) rfl ?_
  refine na_3 (q := 8) (⟨so_put kd_4 (k := 7) (by decide) dX6_becomeKnown_5 (Or.inl wd_130) (Or.inl rfl), up_put _ _ _ _⟩) rfl ?_
  refine na_1 (q := 9) (⟨so_aload_n dX6_becomeKnown_8 rfl, up_aload _ _⟩) rfl ?_
  refine na_1 (q := 10) (⟨so_aload_n dX6_becomeKnown_9 rfl, up_aload _ _⟩) rfl ?_
  refine na_3 (q := 13) (⟨so_get kd_4 (k := 3) (by decide) dX6_becomeKnown_10 wd_118, up_get _ _ _⟩) rfl ?_
  refine na_3 (q := 16) (⟨so_put kd_4 (k := 8) (by decide) dX6_becomeKnown_13 (Or.inl wd_132) (Or.inl rfl), up_put _ _ _ _⟩) rfl ?_
  refine na_1 (q := 17) (⟨so_retv dX6_becomeKnown_16 rfl, up_retv⟩) rfl ?_
  exact na_z
set_option maxRecDepth 100000 in
set_option maxHeartbeats 4000000 in
theorem ok_69 : nv_all 69 0 np_c69 := by
  unfold np_c69
  refine na_1 (q := 1) (⟨so_aload_n dX6_ranksBefore_0 rfl, up_aload _ _⟩) rfl ?_
  refine na_3 (q := 4) (⟨so_get kd_4 (k := 6) (by decide) dX6_ranksBefore_1 wd_127, up_get _ _ _⟩) rfl ?_
  refine na_1 (q := 5) (⟨so_aload_n dX6_ranksBefore_4 rfl, up_aload _ _⟩) rfl ?_
  refine na_3 (q := 8) (⟨so_get kd_4 (k := 6) (by decide) dX6_ranksBefore_5 wd_127, up_get _ _ _⟩) rfl ?_
  refine na_3 (q := 11) (⟨so_ceq dX6_ranksBefore_8 (by decide), up_ceq _ _⟩) rfl ?_
  refine na_1 (q := 12) (⟨so_aload_n dX6_ranksBefore_11 rfl, up_aload _ _⟩) rfl ?_
  refine na_3 (q := 15) (⟨so_get kd_4 (k := 6) (by decide) dX6_ranksBefore_12 wd_127, up_get _ _ _⟩) rfl ?_
  refine na_1 (q := 16) (⟨so_aload_n dX6_ranksBefore_15 rfl, up_aload _ _⟩) rfl ?_
  refine na_3 (q := 19) (⟨so_get kd_4 (k := 6) (by decide) dX6_ranksBefore_16 wd_127, up_get _ _ _⟩) rfl ?_
  refine na_3 (q := 22) (⟨so_cle dX6_ranksBefore_19 (by decide), up_cle _ _⟩) rfl ?_
  refine na_1 (q := 23) (⟨so_iconst dX6_ranksBefore_22 (by decide), up_cst _ _⟩) rfl ?_
  refine na_3 (q := 26) (⟨so_goto dX6_ranksBefore_23 (by decide), up_goto _⟩) rfl ?_
  refine na_1 (q := 27) (⟨so_iconst dX6_ranksBefore_26 (by decide), up_cst _ _⟩) rfl ?_
  refine na_1 (q := 28) (⟨so_reti dX6_ranksBefore_27 rfl, up_reti _⟩) rfl ?_
  refine na_1 (q := 29) (⟨so_aload_n dX6_ranksBefore_28 rfl, up_aload _ _⟩) rfl ?_
  refine na_3 (q := 32) (⟨so_get kd_4 (k := 5) (by decide) dX6_ranksBefore_29 wd_124, up_get _ _ _⟩) rfl ?_
  refine na_1 (q := 33) (⟨so_aload_n dX6_ranksBefore_32 rfl, up_aload _ _⟩) rfl ?_
  refine na_3 (q := 36) (⟨so_get kd_4 (k := 5) (by decide) dX6_ranksBefore_33 wd_124, up_get _ _ _⟩) rfl ?_
  refine na_3 (q := 39) (⟨so_ceq dX6_ranksBefore_36 (by decide), up_ceq _ _⟩) rfl ?_
  refine na_1 (q := 40) (⟨so_aload_n dX6_ranksBefore_39 rfl, up_aload _ _⟩) rfl ?_
  refine na_3 (q := 43) (⟨so_get kd_4 (k := 5) (by decide) dX6_ranksBefore_40 wd_124, up_get _ _ _⟩) rfl ?_
  refine na_1 (q := 44) (⟨so_aload_n dX6_ranksBefore_43 rfl, up_aload _ _⟩) rfl ?_
  refine na_3 (q := 47) (⟨so_get kd_4 (k := 5) (by decide) dX6_ranksBefore_44 wd_124, up_get _ _ _⟩) rfl ?_
  refine na_3 (q := 50) (⟨so_cle dX6_ranksBefore_47 (by decide), up_cle _ _⟩) rfl ?_
  refine na_1 (q := 51) (⟨so_iconst dX6_ranksBefore_50 (by decide), up_cst _ _⟩) rfl ?_
  refine na_3 (q := 54) (⟨so_goto dX6_ranksBefore_51 (by decide), up_goto _⟩) rfl ?_
  refine na_1 (q := 55) (⟨so_iconst dX6_ranksBefore_54 (by decide), up_cst _ _⟩) rfl ?_
  refine na_1 (q := 56) (⟨so_reti dX6_ranksBefore_55 rfl, up_reti _⟩) rfl ?_
  refine na_1 (q := 57) (⟨so_aload_n dX6_ranksBefore_56 rfl, up_aload _ _⟩) rfl ?_
  refine na_3 (q := 60) (⟨so_get kd_4 (k := 0) (by decide) dX6_ranksBefore_57 wd_109, up_get _ _ _⟩) rfl ?_
  refine na_1 (q := 61) (⟨so_aload_n dX6_ranksBefore_60 rfl, up_aload _ _⟩) rfl ?_
  refine na_3 (q := 64) (⟨so_get kd_4 (k := 0) (by decide) dX6_ranksBefore_61 wd_109, up_get _ _ _⟩) rfl ?_
  refine na_3 (q := 67) (⟨so_cge dX6_ranksBefore_64 (by decide), up_cge _ _⟩) rfl ?_
  refine na_1 (q := 68) (⟨so_iconst dX6_ranksBefore_67 (by decide), up_cst _ _⟩) rfl ?_
  refine na_3 (q := 71) (⟨so_goto dX6_ranksBefore_68 (by decide), up_goto _⟩) rfl ?_
  refine na_1 (q := 72) (⟨so_iconst dX6_ranksBefore_71 (by decide), up_cst _ _⟩) rfl ?_
  refine na_1 (q := 73) (⟨so_reti dX6_ranksBefore_72 rfl, up_reti _⟩) rfl ?_
  exact na_z
set_option maxRecDepth 100000 in
set_option maxHeartbeats 4000000 in
theorem ok_70 : nv_all 70 0 np_c70 := by
  unfold np_c70
  refine na_1 (q := 1) (⟨so_aload_n dX6_letter_0 rfl, up_aload _ _⟩) rfl ?_
  refine na_3 (q := 4) (⟨so_get kd_4 (k := 1) (by decide) dX6_letter_1 wd_112, up_get _ _ _⟩) rfl ?_
  refine na_3 (q := 7) (⟨so_ifne dX6_letter_4 (by decide), up_ifne _ _⟩) rfl ?_
  refine na_2 (q := 9) (⟨so_bipush dX6_letter_7 (by decide), up_cst _ _⟩) rfl ?_
  refine na_3 (q := 12) (⟨so_goto dX6_letter_9 (by decide), up_goto _⟩) rfl ?_
  refine na_2 (q := 14) (⟨so_bipush dX6_letter_12 (by decide), up_cst _ _⟩) rfl ?_
  refine na_1 (q := 15) (⟨so_aload_n dX6_letter_14 rfl, up_aload _ _⟩) rfl ?_
  refine na_3 (q := 18) (⟨so_get kd_4 (k := 0) (by decide) dX6_letter_15 wd_109, up_get _ _ _⟩) rfl ?_
  refine na_1 (q := 19) (⟨so_iadd dX6_letter_18, up_i2 _ _⟩) rfl ?_
  refine na_1 (q := 20) (⟨so_i2c dX6_letter_19, up_i2c _⟩) rfl ?_
  refine na_1 (q := 21) (⟨so_reti dX6_letter_20 rfl, up_reti _⟩) rfl ?_
  exact na_z
set_option maxRecDepth 100000 in
set_option maxHeartbeats 4000000 in
theorem ok_71 : nv_all 71 0 np_c71 := by
  unfold np_c71
  refine na_1 (q := 1) (⟨so_aload_n dX7_init_0 rfl, up_aload _ _⟩) rfl ?_
  refine na_3 (q := 4) (⟨so_oinit dX7_init_1 wd_52 wd_53 cd_obj (by decide), up_oinit _⟩) rfl ?_
  refine na_1 (q := 5) (⟨so_aload_n dX7_init_4 rfl, up_aload _ _⟩) rfl ?_
  refine na_3 (q := 8) (⟨so_new kd_2 dX7_init_5 wd_55 wd_56 wd_24 rfl df_2, up_new _ _ _⟩) rfl ?_
  refine na_1 (q := 9) (⟨so_dup dX7_init_8, up_dup _⟩) rfl ?_
  refine na_3 (q := 12) (one_c rfl rfl (sc_I (ci := 2) rfl dX7_init_9 cw_X7_init_X4_init rfl rfl (Or.inl wd_57) wd_58)) rfl ?_
  refine na_3 (q := 15) (⟨so_put kd_5 (k := 0) (by decide) dX7_init_12 (Or.inl wd_253) (Or.inr ⟨rfl, rfl, rfl, wd_253⟩), up_put _ _ _ _⟩) rfl ?_
  refine na_1 (q := 16) (⟨so_aload_n dX7_init_15 rfl, up_aload _ _⟩) rfl ?_
  refine na_3 (q := 19) (⟨so_new kd_2 dX7_init_16 wd_55 wd_56 wd_24 rfl df_2, up_new _ _ _⟩) rfl ?_
  refine na_1 (q := 20) (⟨so_dup dX7_init_19, up_dup _⟩) rfl ?_
  refine na_3 (q := 23) (one_c rfl rfl (sc_I (ci := 2) rfl dX7_init_20 cw_X7_init_X4_init rfl rfl (Or.inl wd_57) wd_58)) rfl ?_
  refine na_3 (q := 26) (⟨so_put kd_5 (k := 1) (by decide) dX7_init_23 (Or.inl wd_254) (Or.inr ⟨rfl, rfl, rfl, wd_254⟩), up_put _ _ _ _⟩) rfl ?_
  refine na_1 (q := 27) (⟨so_aload_n dX7_init_26 rfl, up_aload _ _⟩) rfl ?_
  refine na_3 (q := 30) (⟨so_new kd_2 dX7_init_27 wd_55 wd_56 wd_24 rfl df_2, up_new _ _ _⟩) rfl ?_
  refine na_1 (q := 31) (⟨so_dup dX7_init_30, up_dup _⟩) rfl ?_
  refine na_3 (q := 34) (one_c rfl rfl (sc_I (ci := 2) rfl dX7_init_31 cw_X7_init_X4_init rfl rfl (Or.inl wd_57) wd_58)) rfl ?_
  refine na_3 (q := 37) (⟨so_put kd_5 (k := 2) (by decide) dX7_init_34 (Or.inl wd_255) (Or.inr ⟨rfl, rfl, rfl, wd_255⟩), up_put _ _ _ _⟩) rfl ?_
  refine na_1 (q := 38) (⟨so_aload_n dX7_init_37 rfl, up_aload _ _⟩) rfl ?_
  refine na_3 (q := 41) (⟨so_new kd_3 dX7_init_38 wd_199 wd_200 wd_27 rfl df_3, up_new _ _ _⟩) rfl ?_
  refine na_1 (q := 42) (⟨so_dup dX7_init_41, up_dup _⟩) rfl ?_
  refine na_3 (q := 45) (one_c rfl rfl (sc_I (ci := 3) rfl dX7_init_42 cw_X7_init_X5_init rfl rfl (Or.inl wd_201) wd_202)) rfl ?_
  refine na_3 (q := 48) (⟨so_put kd_5 (k := 3) (by decide) dX7_init_45 (Or.inl wd_256) (Or.inr ⟨rfl, rfl, rfl, wd_256⟩), up_put _ _ _ _⟩) rfl ?_
  refine na_1 (q := 49) (⟨so_aload_n dX7_init_48 rfl, up_aload _ _⟩) rfl ?_
  refine na_3 (q := 52) (⟨so_new kd_1 dX7_init_49 wd_219 wd_220 wd_28 rfl df_1, up_new _ _ _⟩) rfl ?_
  refine na_1 (q := 53) (⟨so_dup dX7_init_52, up_dup _⟩) rfl ?_
  refine na_3 (q := 56) (one_c rfl rfl (sc_I (ci := 1) rfl dX7_init_53 cw_X7_init_X2_init rfl rfl (Or.inr ⟨_, wd_221⟩) wd_222)) rfl ?_
  refine na_3 (q := 59) (⟨so_put kd_5 (k := 4) (by decide) dX7_init_56 (Or.inl wd_257) (Or.inr ⟨rfl, rfl, rfl, wd_257⟩), up_put _ _ _ _⟩) rfl ?_
  refine na_1 (q := 60) (⟨so_aload_n dX7_init_59 rfl, up_aload _ _⟩) rfl ?_
  refine na_2 (q := 62) (⟨so_bipush dX7_init_60 (by decide), up_cst _ _⟩) rfl ?_
  refine na_2 (q := 64) (⟨so_newi (ty := .char) dX7_init_62 rfl (Or.inl ⟨rfl, rfl⟩) wd_251, up_newi _ _⟩) rfl ?_
  refine na_3 (q := 67) (⟨so_put kd_5 (k := 5) (by decide) dX7_init_64 (Or.inl wd_258) (Or.inr ⟨rfl, rfl, rfl, wd_258⟩), up_put _ _ _ _⟩) rfl ?_
  refine na_1 (q := 68) (⟨so_aload_n dX7_init_67 rfl, up_aload _ _⟩) rfl ?_
  refine na_1 (q := 69) (⟨so_iconst dX7_init_68 (by decide), up_cst _ _⟩) rfl ?_
  refine na_3 (q := 72) (⟨so_put kd_5 (k := 6) (by decide) dX7_init_69 (Or.inl wd_259) (Or.inl rfl), up_put _ _ _ _⟩) rfl ?_
  refine na_1 (q := 73) (⟨so_aload_n dX7_init_72 rfl, up_aload _ _⟩) rfl ?_
  refine na_1 (q := 74) (⟨so_iconst dX7_init_73 (by decide), up_cst _ _⟩) rfl ?_
  refine na_3 (q := 77) (⟨so_put kd_5 (k := 7) (by decide) dX7_init_74 (Or.inl wd_260) (Or.inl rfl), up_put _ _ _ _⟩) rfl ?_
  refine na_1 (q := 78) (⟨so_aload_n dX7_init_77 rfl, up_aload _ _⟩) rfl ?_
  refine na_1 (q := 79) (⟨so_iconst dX7_init_78 (by decide), up_cst _ _⟩) rfl ?_
  refine na_3 (q := 82) (⟨so_put kd_5 (k := 8) (by decide) dX7_init_79 (Or.inl wd_261) (Or.inl rfl), up_put _ _ _ _⟩) rfl ?_
  refine na_1 (q := 83) (⟨so_aload_n dX7_init_82 rfl, up_aload _ _⟩) rfl ?_
  refine na_1 (q := 84) (⟨so_iconst dX7_init_83 (by decide), up_cst _ _⟩) rfl ?_
  refine na_3 (q := 87) (⟨so_put kd_5 (k := 9) (by decide) dX7_init_84 (Or.inl wd_262) (Or.inl rfl), up_put _ _ _ _⟩) rfl ?_
  refine na_1 (q := 88) (⟨so_aload_n dX7_init_87 rfl, up_aload _ _⟩) rfl ?_
  refine na_1 (q := 89) (⟨so_iconst dX7_init_88 (by decide), up_cst _ _⟩) rfl ?_
  refine na_3 (q := 92) (⟨so_put kd_5 (k := 10) (by decide) dX7_init_89 (Or.inl wd_263) (Or.inl rfl), up_put _ _ _ _⟩) rfl ?_
  refine na_1 (q := 93) (⟨so_retv dX7_init_92 rfl, up_retv⟩) rfl ?_
  exact na_z
set_option maxRecDepth 100000 in
set_option maxHeartbeats 4000000 in
theorem ok_72 : nv_all 72 0 np_c72 := by
  unfold np_c72
  refine na_1 (q := 1) (⟨so_aload_n dX7_addSpoon_0 rfl, up_aload _ _⟩) rfl ?_
  refine na_3 (q := 4) (⟨so_get kd_5 (k := 1) (by decide) dX7_addSpoon_1 wd_254, up_get _ _ _⟩) rfl ?_
  refine na_1 (q := 5) (⟨so_aload_n dX7_addSpoon_4 rfl, up_aload _ _⟩) rfl ?_
  refine na_3 (q := 8) (⟨so_get kd_5 (k := 0) (by decide) dX7_addSpoon_5 wd_253, up_get _ _ _⟩) rfl ?_
  refine na_3 (q := 11) (one_c rfl rfl (sc_V dX7_addSpoon_8 cw_X7_addSpoon_X4_copyFrom rfl wd_291 wd_292 wd_293 (nv_rcO (ci := 2) rfl))) rfl ?_
  refine na_1 (q := 12) (⟨so_aload_n dX7_addSpoon_11 rfl, up_aload _ _⟩) rfl ?_
  refine na_1 (q := 13) (⟨so_aload_n dX7_addSpoon_12 rfl, up_aload _ _⟩) rfl ?_
  refine na_3 (q := 16) (⟨so_get kd_5 (k := 0) (by decide) dX7_addSpoon_13 wd_253, up_get _ _ _⟩) rfl ?_
  refine na_1 (q := 17) (⟨so_iload_n dX7_addSpoon_16 rfl, up_iload _ _⟩) rfl ?_
  refine na_1 (q := 18) (⟨so_iload_n dX7_addSpoon_17 rfl, up_iload _ _⟩) rfl ?_
  refine na_1 (q := 19) (⟨so_iload_n dX7_addSpoon_18 rfl, up_iload _ _⟩) rfl ?_
  refine na_2 (q := 21) (⟨so_iload dX7_addSpoon_19, up_iload _ _⟩) rfl ?_
  refine na_2 (q := 23) (⟨so_iload dX7_addSpoon_21, up_iload _ _⟩) rfl ?_
  refine na_3 (q := 26) (one_c rfl rfl (sc_V dX7_addSpoon_23 cw_X7_addSpoon_X4_place rfl wd_398 wd_399 wd_400 (nv_rcO (ci := 2) rfl))) rfl ?_
  refine na_3 (q := 29) (one_c rfl rfl (sc_V dX7_addSpoon_26 cw_X7_addSpoon_X7_concluded rfl wd_434 wd_436 wd_1 (nv_rcO (ci := 5) rfl))) rfl ?_
  refine na_1 (q := 30) (⟨so_reti dX7_addSpoon_29 rfl, up_reti _⟩) rfl ?_
  exact na_z
set_option maxRecDepth 100000 in
set_option maxHeartbeats 4000000 in
theorem ok_73 : nv_all 73 0 np_c73 := by
  unfold np_c73
  refine na_1 (q := 1) (⟨so_aload_n dX7_start_0 rfl, up_aload _ _⟩) rfl ?_
  refine na_3 (q := 4) (⟨so_get kd_5 (k := 1) (by decide) dX7_start_1 wd_254, up_get _ _ _⟩) rfl ?_
  refine na_1 (q := 5) (⟨so_aload_n dX7_start_4 rfl, up_aload _ _⟩) rfl ?_
  refine na_3 (q := 8) (⟨so_get kd_5 (k := 0) (by decide) dX7_start_5 wd_253, up_get _ _ _⟩) rfl ?_
  refine na_3 (q := 11) (one_c rfl rfl (sc_V dX7_start_8 cw_X7_start_X4_copyFrom rfl wd_291 wd_292 wd_293 (nv_rcO (ci := 2) rfl))) rfl ?_
  refine na_1 (q := 12) (⟨so_aload_n dX7_start_11 rfl, up_aload _ _⟩) rfl ?_
  refine na_1 (q := 13) (⟨so_aload_n dX7_start_12 rfl, up_aload _ _⟩) rfl ?_
  refine na_3 (q := 16) (⟨so_get kd_5 (k := 0) (by decide) dX7_start_13 wd_253, up_get _ _ _⟩) rfl ?_
  refine na_3 (q := 19) (one_c rfl rfl (sc_V dX7_start_16 cw_X7_start_X4_begin rfl wd_519 wd_520 wd_521 (nv_rcO (ci := 2) rfl))) rfl ?_
  refine na_3 (q := 22) (one_c rfl rfl (sc_V dX7_start_19 cw_X7_start_X7_concluded rfl wd_434 wd_436 wd_1 (nv_rcO (ci := 5) rfl))) rfl ?_
  refine na_1 (q := 23) (⟨so_reti dX7_start_22 rfl, up_reti _⟩) rfl ?_
  exact na_z
set_option maxRecDepth 100000 in
set_option maxHeartbeats 4000000 in
theorem ok_74 : nv_all 74 0 np_c74 := by
  unfold np_c74
  refine na_1 (q := 1) (⟨so_aload_n dX7_endTurn_0 rfl, up_aload _ _⟩) rfl ?_
  refine na_3 (q := 4) (⟨so_get kd_5 (k := 1) (by decide) dX7_endTurn_1 wd_254, up_get _ _ _⟩) rfl ?_
  refine na_1 (q := 5) (⟨so_aload_n dX7_endTurn_4 rfl, up_aload _ _⟩) rfl ?_
  refine na_3 (q := 8) (⟨so_get kd_5 (k := 0) (by decide) dX7_endTurn_5 wd_253, up_get _ _ _⟩) rfl ?_
  refine na_3 (q := 11) (one_c rfl rfl (sc_V dX7_endTurn_8 cw_X7_endTurn_X4_copyFrom rfl wd_291 wd_292 wd_293 (nv_rcO (ci := 2) rfl))) rfl ?_
  refine na_1 (q := 12) (⟨so_aload_n dX7_endTurn_11 rfl, up_aload _ _⟩) rfl ?_
  refine na_1 (q := 13) (⟨so_aload_n dX7_endTurn_12 rfl, up_aload _ _⟩) rfl ?_
  refine na_3 (q := 16) (⟨so_get kd_5 (k := 0) (by decide) dX7_endTurn_13 wd_253, up_get _ _ _⟩) rfl ?_
  refine na_3 (q := 19) (one_c rfl rfl (sc_V dX7_endTurn_16 cw_X7_endTurn_X4_passTurn rfl wd_530 wd_531 wd_532 (nv_rcO (ci := 2) rfl))) rfl ?_
  refine na_3 (q := 22) (one_c rfl rfl (sc_V dX7_endTurn_19 cw_X7_endTurn_X7_concluded rfl wd_434 wd_436 wd_1 (nv_rcO (ci := 5) rfl))) rfl ?_
  refine na_1 (q := 23) (⟨so_reti dX7_endTurn_22 rfl, up_reti _⟩) rfl ?_
  exact na_z
set_option maxRecDepth 100000 in
set_option maxHeartbeats 4000000 in
theorem ok_75 : nv_all 75 0 np_c75 := by
  unfold np_c75
  refine na_1 (q := 1) (⟨so_aload_n dX7_isStarted_0 rfl, up_aload _ _⟩) rfl ?_
  refine na_3 (q := 4) (⟨so_get kd_5 (k := 0) (by decide) dX7_isStarted_1 wd_253, up_get _ _ _⟩) rfl ?_
  refine na_3 (q := 7) (⟨so_getN kd_2 (k := 4) (by decide) dX7_isStarted_4 wd_159, up_get _ _ _⟩) rfl ?_
  refine na_1 (q := 8) (⟨so_reti dX7_isStarted_7 rfl, up_reti _⟩) rfl ?_
  exact na_z
set_option maxRecDepth 100000 in
set_option maxHeartbeats 4000000 in
theorem ok_76 : nv_all 76 0 np_c76 := by
  unfold np_c76
  refine na_1 (q := 1) (⟨so_aload_n dX7_isFinished_0 rfl, up_aload _ _⟩) rfl ?_
  refine na_3 (q := 4) (⟨so_get kd_5 (k := 0) (by decide) dX7_isFinished_1 wd_253, up_get _ _ _⟩) rfl ?_
  refine na_3 (q := 7) (one_c rfl rfl (sc_V dX7_isFinished_4 cw_X7_isFinished_X4_isOver rfl wd_957 wd_539 wd_540 (nv_rcO (ci := 2) rfl))) rfl ?_
  refine na_1 (q := 8) (⟨so_reti dX7_isFinished_7 rfl, up_reti _⟩) rfl ?_
  exact na_z
set_option maxRecDepth 100000 in
set_option maxHeartbeats 4000000 in
theorem ok_77 : nv_all 77 0 np_c77 := by
  unfold np_c77
  refine na_1 (q := 1) (⟨so_aload_n dX7_winner_0 rfl, up_aload _ _⟩) rfl ?_
  refine na_3 (q := 4) (⟨so_get kd_5 (k := 0) (by decide) dX7_winner_1 wd_253, up_get _ _ _⟩) rfl ?_
  refine na_3 (q := 7) (one_c rfl rfl (sc_V dX7_winner_4 cw_X7_winner_X4_isOver rfl wd_957 wd_539 wd_540 (nv_rcO (ci := 2) rfl))) rfl ?_
  refine na_3 (q := 10) (⟨so_ifne dX7_winner_7 (by decide), up_ifne _ _⟩) rfl ?_
  refine na_3 (q := 13) (st_S rfl rfl (by decide) th_IllegalStateException wd_479 (show (85, "the game is not finished") ∈ nv_msgs by decide) dX7_winner_10 dX7_winner_13 (Or.inl ⟨dX7_winner_14, dX7_winner_16, dX7_winner_19⟩)) rfl ?_
  refine na_n (q := 14) rfl ?_
  refine na_n (q := 15) rfl ?_
  refine na_n (q := 16) rfl ?_
  refine na_n (q := 17) rfl ?_
  refine na_n (q := 18) rfl ?_
  refine na_n (q := 19) rfl ?_
  refine na_n (q := 20) rfl ?_
  refine na_1 (q := 21) (⟨so_aload_n dX7_winner_20 rfl, up_aload _ _⟩) rfl ?_
  refine na_3 (q := 24) (⟨so_get kd_5 (k := 0) (by decide) dX7_winner_21 wd_253, up_get _ _ _⟩) rfl ?_
  refine na_1 (q := 25) (⟨so_iconst dX7_winner_24 (by decide), up_cst _ _⟩) rfl ?_
  refine na_3 (q := 28) (one_c rfl rfl (sc_V dX7_winner_25 cw_X7_winner_X4_accountOf rfl wd_926 wd_415 wd_416 (nv_rcO (ci := 2) rfl))) rfl ?_
  refine na_3 (q := 31) (⟨so_getN kd_0 (k := 1) (by decide) dX7_winner_28 wd_73, up_get _ _ _⟩) rfl ?_
  refine na_3 (q := 34) (⟨so_ifle dX7_winner_31 (by decide), up_ifle _ _⟩) rfl ?_
  refine na_1 (q := 35) (⟨so_iconst dX7_winner_34 (by decide), up_cst _ _⟩) rfl ?_
  refine na_3 (q := 38) (⟨so_goto dX7_winner_35 (by decide), up_goto _⟩) rfl ?_
  refine na_1 (q := 39) (⟨so_iconst dX7_winner_38 (by decide), up_cst _ _⟩) rfl ?_
  refine na_1 (q := 40) (⟨so_reti dX7_winner_39 rfl, up_reti _⟩) rfl ?_
  exact na_z
set_option maxRecDepth 100000 in
set_option maxHeartbeats 4000000 in
theorem ok_78 : nv_all 78 0 np_c78 := by
  unfold np_c78
  refine na_1 (q := 1) (⟨so_aload_n dX7_activeFleet_0 rfl, up_aload _ _⟩) rfl ?_
  refine na_3 (q := 4) (one_c rfl rfl (sc_V dX7_activeFleet_1 cw_X7_activeFleet_X7_requireGoingOn rfl wd_935 wd_937 wd_19 (nv_rcO (ci := 5) rfl))) rfl ?_
  refine na_1 (q := 5) (⟨so_aload_n dX7_activeFleet_4 rfl, up_aload _ _⟩) rfl ?_
  refine na_3 (q := 8) (⟨so_get kd_5 (k := 0) (by decide) dX7_activeFleet_5 wd_253, up_get _ _ _⟩) rfl ?_
  refine na_3 (q := 11) (⟨so_getN kd_2 (k := 5) (by decide) dX7_activeFleet_8 wd_161, up_get _ _ _⟩) rfl ?_
  refine na_1 (q := 12) (⟨so_reti dX7_activeFleet_11 rfl, up_reti _⟩) rfl ?_
  exact na_z
set_option maxRecDepth 100000 in
set_option maxHeartbeats 4000000 in
theorem ok_79 : nv_all 79 0 np_c79 := by
  unfold np_c79
  refine na_1 (q := 1) (⟨so_aload_n dX7_actionsLeft_0 rfl, up_aload _ _⟩) rfl ?_
  refine na_3 (q := 4) (one_c rfl rfl (sc_V dX7_actionsLeft_1 cw_X7_actionsLeft_X7_requireGoingOn rfl wd_935 wd_937 wd_19 (nv_rcO (ci := 5) rfl))) rfl ?_
  refine na_1 (q := 5) (⟨so_aload_n dX7_actionsLeft_4 rfl, up_aload _ _⟩) rfl ?_
  refine na_3 (q := 8) (⟨so_get kd_5 (k := 0) (by decide) dX7_actionsLeft_5 wd_253, up_get _ _ _⟩) rfl ?_
  refine na_3 (q := 11) (⟨so_getN kd_2 (k := 6) (by decide) dX7_actionsLeft_8 wd_163, up_get _ _ _⟩) rfl ?_
  refine na_1 (q := 12) (⟨so_reti dX7_actionsLeft_11 rfl, up_reti _⟩) rfl ?_
  exact na_z
set_option maxRecDepth 100000 in
set_option maxHeartbeats 4000000 in
theorem ok_80 : nv_all 80 0 np_c80 := by
  unfold np_c80
  refine na_1 (q := 1) (⟨so_aload_n dX7_turnCount_0 rfl, up_aload _ _⟩) rfl ?_
  refine na_3 (q := 4) (⟨so_get kd_5 (k := 0) (by decide) dX7_turnCount_1 wd_253, up_get _ _ _⟩) rfl ?_
  refine na_3 (q := 7) (⟨so_getN kd_2 (k := 7) (by decide) dX7_turnCount_4 wd_165, up_get _ _ _⟩) rfl ?_
  refine na_1 (q := 8) (⟨so_reti dX7_turnCount_7 rfl, up_reti _⟩) rfl ?_
  exact na_z
set_option maxRecDepth 100000 in
set_option maxHeartbeats 4000000 in
theorem ok_81 : nv_all 81 0 np_c81 := by
  unfold np_c81
  refine na_1 (q := 1) (⟨so_aload_n dX7_turnTo_0 rfl, up_aload _ _⟩) rfl ?_
  refine na_3 (q := 4) (⟨so_get kd_5 (k := 1) (by decide) dX7_turnTo_1 wd_254, up_get _ _ _⟩) rfl ?_
  refine na_1 (q := 5) (⟨so_aload_n dX7_turnTo_4 rfl, up_aload _ _⟩) rfl ?_
  refine na_3 (q := 8) (⟨so_get kd_5 (k := 0) (by decide) dX7_turnTo_5 wd_253, up_get _ _ _⟩) rfl ?_
  refine na_3 (q := 11) (one_c rfl rfl (sc_V dX7_turnTo_8 cw_X7_turnTo_X4_copyFrom rfl wd_291 wd_292 wd_293 (nv_rcO (ci := 2) rfl))) rfl ?_
  refine na_1 (q := 12) (⟨so_aload_n dX7_turnTo_11 rfl, up_aload _ _⟩) rfl ?_
  refine na_1 (q := 13) (⟨so_aload_n dX7_turnTo_12 rfl, up_aload _ _⟩) rfl ?_
  refine na_3 (q := 16) (⟨so_get kd_5 (k := 0) (by decide) dX7_turnTo_13 wd_253, up_get _ _ _⟩) rfl ?_
  refine na_1 (q := 17) (⟨so_iload_n dX7_turnTo_16 rfl, up_iload _ _⟩) rfl ?_
  refine na_1 (q := 18) (⟨so_iload_n dX7_turnTo_17 rfl, up_iload _ _⟩) rfl ?_
  refine na_3 (q := 21) (one_c rfl rfl (sc_V dX7_turnTo_18 cw_X7_turnTo_X4_rotate rfl wd_549 wd_550 wd_551 (nv_rcO (ci := 2) rfl))) rfl ?_
  refine na_3 (q := 24) (one_c rfl rfl (sc_V dX7_turnTo_21 cw_X7_turnTo_X7_concluded rfl wd_434 wd_436 wd_1 (nv_rcO (ci := 5) rfl))) rfl ?_
  refine na_1 (q := 25) (⟨so_reti dX7_turnTo_24 rfl, up_reti _⟩) rfl ?_
  exact na_z
set_option maxRecDepth 100000 in
set_option maxHeartbeats 4000000 in
theorem ok_82 : nv_all 82 0 np_c82 := by
  unfold np_c82
  refine na_1 (q := 1) (⟨so_aload_n dX7_sail_0 rfl, up_aload _ _⟩) rfl ?_
  refine na_3 (q := 4) (⟨so_get kd_5 (k := 1) (by decide) dX7_sail_1 wd_254, up_get _ _ _⟩) rfl ?_
  refine na_1 (q := 5) (⟨so_aload_n dX7_sail_4 rfl, up_aload _ _⟩) rfl ?_
  refine na_3 (q := 8) (⟨so_get kd_5 (k := 0) (by decide) dX7_sail_5 wd_253, up_get _ _ _⟩) rfl ?_
  refine na_3 (q := 11) (one_c rfl rfl (sc_V dX7_sail_8 cw_X7_sail_X4_copyFrom rfl wd_291 wd_292 wd_293 (nv_rcO (ci := 2) rfl))) rfl ?_
  refine na_1 (q := 12) (⟨so_aload_n dX7_sail_11 rfl, up_aload _ _⟩) rfl ?_
  refine na_1 (q := 13) (⟨so_aload_n dX7_sail_12 rfl, up_aload _ _⟩) rfl ?_
  refine na_3 (q := 16) (⟨so_get kd_5 (k := 0) (by decide) dX7_sail_13 wd_253, up_get _ _ _⟩) rfl ?_
  refine na_1 (q := 17) (⟨so_iload_n dX7_sail_16 rfl, up_iload _ _⟩) rfl ?_
  refine na_1 (q := 18) (⟨so_iload_n dX7_sail_17 rfl, up_iload _ _⟩) rfl ?_
  refine na_1 (q := 19) (⟨so_iload_n dX7_sail_18 rfl, up_iload _ _⟩) rfl ?_
  refine na_3 (q := 22) (one_c rfl rfl (sc_V dX7_sail_19 cw_X7_sail_X4_move rfl wd_711 wd_712 wd_713 (nv_rcO (ci := 2) rfl))) rfl ?_
  refine na_3 (q := 25) (one_c rfl rfl (sc_V dX7_sail_22 cw_X7_sail_X7_concluded rfl wd_434 wd_436 wd_1 (nv_rcO (ci := 5) rfl))) rfl ?_
  refine na_1 (q := 26) (⟨so_reti dX7_sail_25 rfl, up_reti _⟩) rfl ?_
  exact na_z
set_option maxRecDepth 100000 in
set_option maxHeartbeats 4000000 in
theorem ok_83 : nv_all 83 0 np_c83 := by
  unfold np_c83
  refine na_1 (q := 1) (⟨so_aload_n dX7_fire_0 rfl, up_aload _ _⟩) rfl ?_
  refine na_3 (q := 4) (⟨so_get kd_5 (k := 1) (by decide) dX7_fire_1 wd_254, up_get _ _ _⟩) rfl ?_
  refine na_1 (q := 5) (⟨so_aload_n dX7_fire_4 rfl, up_aload _ _⟩) rfl ?_
  refine na_3 (q := 8) (⟨so_get kd_5 (k := 0) (by decide) dX7_fire_5 wd_253, up_get _ _ _⟩) rfl ?_
  refine na_3 (q := 11) (one_c rfl rfl (sc_V dX7_fire_8 cw_X7_fire_X4_copyFrom rfl wd_291 wd_292 wd_293 (nv_rcO (ci := 2) rfl))) rfl ?_
  refine na_1 (q := 12) (⟨so_aload_n dX7_fire_11 rfl, up_aload _ _⟩) rfl ?_
  refine na_1 (q := 13) (⟨so_aload_n dX7_fire_12 rfl, up_aload _ _⟩) rfl ?_
  refine na_3 (q := 16) (⟨so_get kd_5 (k := 0) (by decide) dX7_fire_13 wd_253, up_get _ _ _⟩) rfl ?_
  refine na_1 (q := 17) (⟨so_iload_n dX7_fire_16 rfl, up_iload _ _⟩) rfl ?_
  refine na_1 (q := 18) (⟨so_iload_n dX7_fire_17 rfl, up_iload _ _⟩) rfl ?_
  refine na_1 (q := 19) (⟨so_iload_n dX7_fire_18 rfl, up_iload _ _⟩) rfl ?_
  refine na_3 (q := 22) (one_c rfl rfl (sc_V dX7_fire_19 cw_X7_fire_X4_shoot rfl wd_748 wd_749 wd_750 (nv_rcO (ci := 2) rfl))) rfl ?_
  refine na_3 (q := 25) (one_c rfl rfl (sc_V dX7_fire_22 cw_X7_fire_X7_concluded rfl wd_434 wd_436 wd_1 (nv_rcO (ci := 5) rfl))) rfl ?_
  refine na_1 (q := 26) (⟨so_reti dX7_fire_25 rfl, up_reti _⟩) rfl ?_
  exact na_z
set_option maxRecDepth 100000 in
set_option maxHeartbeats 4000000 in
theorem ok_84 : nv_all 84 0 np_c84 := by
  unfold np_c84
  refine na_1 (q := 1) (⟨so_aload_n dX7_load_0 rfl, up_aload _ _⟩) rfl ?_
  refine na_3 (q := 4) (⟨so_get kd_5 (k := 1) (by decide) dX7_load_1 wd_254, up_get _ _ _⟩) rfl ?_
  refine na_1 (q := 5) (⟨so_aload_n dX7_load_4 rfl, up_aload _ _⟩) rfl ?_
  refine na_3 (q := 8) (⟨so_get kd_5 (k := 0) (by decide) dX7_load_5 wd_253, up_get _ _ _⟩) rfl ?_
  refine na_3 (q := 11) (one_c rfl rfl (sc_V dX7_load_8 cw_X7_load_X4_copyFrom rfl wd_291 wd_292 wd_293 (nv_rcO (ci := 2) rfl))) rfl ?_
  refine na_1 (q := 12) (⟨so_aload_n dX7_load_11 rfl, up_aload _ _⟩) rfl ?_
  refine na_1 (q := 13) (⟨so_aload_n dX7_load_12 rfl, up_aload _ _⟩) rfl ?_
  refine na_3 (q := 16) (⟨so_get kd_5 (k := 0) (by decide) dX7_load_13 wd_253, up_get _ _ _⟩) rfl ?_
  refine na_1 (q := 17) (⟨so_iload_n dX7_load_16 rfl, up_iload _ _⟩) rfl ?_
  refine na_1 (q := 18) (⟨so_iload_n dX7_load_17 rfl, up_iload _ _⟩) rfl ?_
  refine na_3 (q := 21) (one_c rfl rfl (sc_V dX7_load_18 cw_X7_load_X4_fill rfl wd_580 wd_581 wd_582 (nv_rcO (ci := 2) rfl))) rfl ?_
  refine na_3 (q := 24) (one_c rfl rfl (sc_V dX7_load_21 cw_X7_load_X7_concluded rfl wd_434 wd_436 wd_1 (nv_rcO (ci := 5) rfl))) rfl ?_
  refine na_1 (q := 25) (⟨so_reti dX7_load_24 rfl, up_reti _⟩) rfl ?_
  exact na_z
set_option maxRecDepth 100000 in
set_option maxHeartbeats 4000000 in
theorem ok_85 : nv_all 85 0 np_c85 := by
  unfold np_c85
  refine na_1 (q := 1) (⟨so_aload_n dX7_spoonCount_0 rfl, up_aload _ _⟩) rfl ?_
  refine na_3 (q := 4) (⟨so_get kd_5 (k := 0) (by decide) dX7_spoonCount_1 wd_253, up_get _ _ _⟩) rfl ?_
  refine na_3 (q := 7) (⟨so_getN kd_2 (k := 3) (by decide) dX7_spoonCount_4 wd_157, up_get _ _ _⟩) rfl ?_
  refine na_1 (q := 8) (⟨so_reti dX7_spoonCount_7 rfl, up_reti _⟩) rfl ?_
  exact na_z
set_option maxRecDepth 100000 in
set_option maxHeartbeats 4000000 in
theorem ok_86 : nv_all 86 0 np_c86 := by
  unfold np_c86
  refine na_1 (q := 1) (⟨so_aload_n dX7_fleetOf_0 rfl, up_aload _ _⟩) rfl ?_
  refine na_1 (q := 2) (⟨so_iload_n dX7_fleetOf_1 rfl, up_iload _ _⟩) rfl ?_
  refine na_3 (q := 5) (one_c rfl rfl (sc_V dX7_fleetOf_2 cw_X7_fleetOf_X7_existing rfl wd_863 wd_865 wd_18 (nv_rcO (ci := 5) rfl))) rfl ?_
  refine na_3 (q := 8) (⟨so_getN kd_4 (k := 1) (by decide) dX7_fleetOf_5 wd_114, up_get _ _ _⟩) rfl ?_
  refine na_1 (q := 9) (⟨so_reti dX7_fleetOf_8 rfl, up_reti _⟩) rfl ?_
  exact na_z
set_option maxRecDepth 100000 in
set_option maxHeartbeats 4000000 in
theorem ok_87 : nv_all 87 0 np_c87 := by
  unfold np_c87
  refine na_1 (q := 1) (⟨so_aload_n dX7_xOf_0 rfl, up_aload _ _⟩) rfl ?_
  refine na_1 (q := 2) (⟨so_iload_n dX7_xOf_1 rfl, up_iload _ _⟩) rfl ?_
  refine na_3 (q := 5) (one_c rfl rfl (sc_V dX7_xOf_2 cw_X7_xOf_X7_existingAfloat rfl wd_859 wd_861 wd_17 (nv_rcO (ci := 5) rfl))) rfl ?_
  refine na_3 (q := 8) (⟨so_getN kd_4 (k := 2) (by decide) dX7_xOf_5 wd_117, up_get _ _ _⟩) rfl ?_
  refine na_1 (q := 9) (⟨so_reti dX7_xOf_8 rfl, up_reti _⟩) rfl ?_
  exact na_z
set_option maxRecDepth 100000 in
set_option maxHeartbeats 4000000 in
theorem ok_88 : nv_all 88 0 np_c88 := by
  unfold np_c88
  refine na_1 (q := 1) (⟨so_aload_n dX7_yOf_0 rfl, up_aload _ _⟩) rfl ?_
  refine na_1 (q := 2) (⟨so_iload_n dX7_yOf_1 rfl, up_iload _ _⟩) rfl ?_
  refine na_3 (q := 5) (one_c rfl rfl (sc_V dX7_yOf_2 cw_X7_yOf_X7_existingAfloat rfl wd_859 wd_861 wd_17 (nv_rcO (ci := 5) rfl))) rfl ?_
  refine na_3 (q := 8) (⟨so_getN kd_4 (k := 3) (by decide) dX7_yOf_5 wd_120, up_get _ _ _⟩) rfl ?_
  refine na_1 (q := 9) (⟨so_reti dX7_yOf_8 rfl, up_reti _⟩) rfl ?_
  exact na_z
set_option maxRecDepth 100000 in
set_option maxHeartbeats 4000000 in
theorem ok_89 : nv_all 89 0 np_c89 := by
  unfold np_c89
  refine na_1 (q := 1) (⟨so_aload_n dX7_bearingOf_0 rfl, up_aload _ _⟩) rfl ?_
  refine na_1 (q := 2) (⟨so_iload_n dX7_bearingOf_1 rfl, up_iload _ _⟩) rfl ?_
  refine na_3 (q := 5) (one_c rfl rfl (sc_V dX7_bearingOf_2 cw_X7_bearingOf_X7_existing rfl wd_863 wd_865 wd_18 (nv_rcO (ci := 5) rfl))) rfl ?_
  refine na_3 (q := 8) (⟨so_getN kd_4 (k := 4) (by decide) dX7_bearingOf_5 wd_123, up_get _ _ _⟩) rfl ?_
  refine na_1 (q := 9) (⟨so_reti dX7_bearingOf_8 rfl, up_reti _⟩) rfl ?_
  exact na_z
set_option maxRecDepth 100000 in
set_option maxHeartbeats 4000000 in
theorem ok_90 : nv_all 90 0 np_c90 := by
  unfold np_c90
  refine na_1 (q := 1) (⟨so_aload_n dX7_cubesOf_0 rfl, up_aload _ _⟩) rfl ?_
  refine na_1 (q := 2) (⟨so_iload_n dX7_cubesOf_1 rfl, up_iload _ _⟩) rfl ?_
  refine na_3 (q := 5) (one_c rfl rfl (sc_V dX7_cubesOf_2 cw_X7_cubesOf_X7_existing rfl wd_863 wd_865 wd_18 (nv_rcO (ci := 5) rfl))) rfl ?_
  refine na_3 (q := 8) (⟨so_getN kd_4 (k := 6) (by decide) dX7_cubesOf_5 wd_129, up_get _ _ _⟩) rfl ?_
  refine na_1 (q := 9) (⟨so_reti dX7_cubesOf_8 rfl, up_reti _⟩) rfl ?_
  exact na_z
set_option maxRecDepth 100000 in
set_option maxHeartbeats 4000000 in
theorem ok_91 : nv_all 91 0 np_c91 := by
  unfold np_c91
  refine na_1 (q := 1) (⟨so_aload_n dX7_hullOf_0 rfl, up_aload _ _⟩) rfl ?_
  refine na_1 (q := 2) (⟨so_iload_n dX7_hullOf_1 rfl, up_iload _ _⟩) rfl ?_
  refine na_3 (q := 5) (one_c rfl rfl (sc_V dX7_hullOf_2 cw_X7_hullOf_X7_existing rfl wd_863 wd_865 wd_18 (nv_rcO (ci := 5) rfl))) rfl ?_
  refine na_3 (q := 8) (⟨so_getN kd_4 (k := 5) (by decide) dX7_hullOf_5 wd_126, up_get _ _ _⟩) rfl ?_
  refine na_1 (q := 9) (⟨so_reti dX7_hullOf_8 rfl, up_reti _⟩) rfl ?_
  exact na_z
set_option maxRecDepth 100000 in
set_option maxHeartbeats 4000000 in
theorem ok_92 : nv_all 92 0 np_c92 := by
  unfold np_c92
  refine na_1 (q := 1) (⟨so_aload_n dX7_isSunk_0 rfl, up_aload _ _⟩) rfl ?_
  refine na_1 (q := 2) (⟨so_iload_n dX7_isSunk_1 rfl, up_iload _ _⟩) rfl ?_
  refine na_3 (q := 5) (one_c rfl rfl (sc_V dX7_isSunk_2 cw_X7_isSunk_X7_existing rfl wd_863 wd_865 wd_18 (nv_rcO (ci := 5) rfl))) rfl ?_
  refine na_3 (q := 8) (one_c rfl rfl (sc_V dX7_isSunk_5 cw_X7_isSunk_X6_isAfloat rfl wd_869 wd_423 wd_424 (nv_rcO (ci := 4) rfl))) rfl ?_
  refine na_3 (q := 11) (⟨so_ifne dX7_isSunk_8 (by decide), up_ifne _ _⟩) rfl ?_
  refine na_1 (q := 12) (⟨so_iconst dX7_isSunk_11 (by decide), up_cst _ _⟩) rfl ?_
  refine na_3 (q := 15) (⟨so_goto dX7_isSunk_12 (by decide), up_goto _⟩) rfl ?_
  refine na_1 (q := 16) (⟨so_iconst dX7_isSunk_15 (by decide), up_cst _ _⟩) rfl ?_
  refine na_1 (q := 17) (⟨so_reti dX7_isSunk_16 rfl, up_reti _⟩) rfl ?_
  exact na_z
set_option maxRecDepth 100000 in
set_option maxHeartbeats 4000000 in
theorem ok_93 : nv_all 93 0 np_c93 := by
  unfold np_c93
  refine na_1 (q := 1) (⟨so_iload_n dX7_spoonAt_0 rfl, up_iload _ _⟩) rfl ?_
  refine na_1 (q := 2) (⟨so_iload_n dX7_spoonAt_1 rfl, up_iload _ _⟩) rfl ?_
  refine na_3 (q := 5) (one_c rfl rfl (sc_S dX7_spoonAt_2 cw_X7_spoonAt_X7_requireCell wd_1101 wd_1102)) rfl ?_
  refine na_1 (q := 6) (⟨so_aload_n dX7_spoonAt_5 rfl, up_aload _ _⟩) rfl ?_
  refine na_3 (q := 9) (⟨so_get kd_5 (k := 0) (by decide) dX7_spoonAt_6 wd_253, up_get _ _ _⟩) rfl ?_
  refine na_1 (q := 10) (⟨so_iload_n dX7_spoonAt_9 rfl, up_iload _ _⟩) rfl ?_
  refine na_1 (q := 11) (⟨so_iload_n dX7_spoonAt_10 rfl, up_iload _ _⟩) rfl ?_
  refine na_3 (q := 14) (one_c rfl rfl (sc_V dX7_spoonAt_11 cw_X7_spoonAt_X4_spoonIn rfl wd_1106 wd_419 wd_420 (nv_rcO (ci := 2) rfl))) rfl ?_
  refine na_1 (q := 15) (⟨so_astore_n dX7_spoonAt_14 rfl (by decide), up_astore _ _⟩) rfl ?_
  refine na_1 (q := 16) (⟨so_aload_n dX7_spoonAt_15 rfl, up_aload _ _⟩) rfl ?_
  refine na_3 (q := 19) (⟨so_ifnonnull dX7_spoonAt_16 (by decide), up_ifnonnull _ _⟩) rfl ?_
  refine na_3 (q := 22) (st_X rfl rfl (by decide) th_NoSuchElementException wd_780 (show (172, "no spoon is in the cell") ∈ nv_msgs by decide) dX7_spoonAt_19 dX7_spoonAt_22 (Or.inl ⟨dX7_spoonAt_23, dX7_spoonAt_25, dX7_spoonAt_28⟩)) rfl ?_
  refine na_n (q := 23) rfl ?_
  refine na_n (q := 24) rfl ?_
  refine na_n (q := 25) rfl ?_
  refine na_n (q := 26) rfl ?_
  refine na_n (q := 27) rfl ?_
  refine na_n (q := 28) rfl ?_
  refine na_n (q := 29) rfl ?_
  refine na_1 (q := 30) (⟨so_aload_n dX7_spoonAt_29 rfl, up_aload _ _⟩) rfl ?_
  refine na_3 (q := 33) (⟨so_getN kd_4 (k := 0) (by decide) dX7_spoonAt_30 wd_111, up_get _ _ _⟩) rfl ?_
  refine na_1 (q := 34) (⟨so_reti dX7_spoonAt_33 rfl, up_reti _⟩) rfl ?_
  exact na_z
set_option maxRecDepth 100000 in
set_option maxHeartbeats 4000000 in
theorem ok_94 : nv_all 94 0 np_c94 := by
  unfold np_c94
  refine na_1 (q := 1) (⟨so_aload_n dX7_knownX_0 rfl, up_aload _ _⟩) rfl ?_
  refine na_1 (q := 2) (⟨so_iload_n dX7_knownX_1 rfl, up_iload _ _⟩) rfl ?_
  refine na_3 (q := 5) (one_c rfl rfl (sc_V dX7_knownX_2 cw_X7_knownX_X7_existingAfloat rfl wd_859 wd_861 wd_17 (nv_rcO (ci := 5) rfl))) rfl ?_
  refine na_3 (q := 8) (⟨so_getN kd_4 (k := 7) (by decide) dX7_knownX_5 wd_131, up_get _ _ _⟩) rfl ?_
  refine na_1 (q := 9) (⟨so_reti dX7_knownX_8 rfl, up_reti _⟩) rfl ?_
  exact na_z
set_option maxRecDepth 100000 in
set_option maxHeartbeats 4000000 in
theorem ok_95 : nv_all 95 0 np_c95 := by
  unfold np_c95
  refine na_1 (q := 1) (⟨so_aload_n dX7_knownY_0 rfl, up_aload _ _⟩) rfl ?_
  refine na_1 (q := 2) (⟨so_iload_n dX7_knownY_1 rfl, up_iload _ _⟩) rfl ?_
  refine na_3 (q := 5) (one_c rfl rfl (sc_V dX7_knownY_2 cw_X7_knownY_X7_existingAfloat rfl wd_859 wd_861 wd_17 (nv_rcO (ci := 5) rfl))) rfl ?_
  refine na_3 (q := 8) (⟨so_getN kd_4 (k := 8) (by decide) dX7_knownY_5 wd_133, up_get _ _ _⟩) rfl ?_
  refine na_1 (q := 9) (⟨so_reti dX7_knownY_8 rfl, up_reti _⟩) rfl ?_
  exact na_z
set_option maxRecDepth 100000 in
set_option maxHeartbeats 4000000 in
theorem ok_96 : nv_all 96 0 np_c96 := by
  unfold np_c96
  refine na_1 (q := 1) (⟨so_aload_n dX7_isHidden_0 rfl, up_aload _ _⟩) rfl ?_
  refine na_1 (q := 2) (⟨so_iload_n dX7_isHidden_1 rfl, up_iload _ _⟩) rfl ?_
  refine na_3 (q := 5) (one_c rfl rfl (sc_V dX7_isHidden_2 cw_X7_isHidden_X7_existing rfl wd_863 wd_865 wd_18 (nv_rcO (ci := 5) rfl))) rfl ?_
  refine na_1 (q := 6) (⟨so_astore_n dX7_isHidden_5 rfl (by decide), up_astore _ _⟩) rfl ?_
  refine na_1 (q := 7) (⟨so_aload_n dX7_isHidden_6 rfl, up_aload _ _⟩) rfl ?_
  refine na_3 (q := 10) (one_c rfl rfl (sc_V dX7_isHidden_7 cw_X7_isHidden_X6_isAfloat rfl wd_869 wd_423 wd_424 (nv_rcO (ci := 4) rfl))) rfl ?_
  refine na_3 (q := 13) (⟨so_ifeq dX7_isHidden_10 (by decide), up_ifeq _ _⟩) rfl ?_
  refine na_1 (q := 14) (⟨so_aload_n dX7_isHidden_13 rfl, up_aload _ _⟩) rfl ?_
  refine na_3 (q := 17) (⟨so_getN kd_4 (k := 7) (by decide) dX7_isHidden_14 wd_131, up_get _ _ _⟩) rfl ?_
  refine na_1 (q := 18) (⟨so_aload_n dX7_isHidden_17 rfl, up_aload _ _⟩) rfl ?_
  refine na_3 (q := 21) (⟨so_getN kd_4 (k := 2) (by decide) dX7_isHidden_18 wd_117, up_get _ _ _⟩) rfl ?_
  refine na_3 (q := 24) (⟨so_cne dX7_isHidden_21 (by decide), up_cne _ _⟩) rfl ?_
  refine na_1 (q := 25) (⟨so_aload_n dX7_isHidden_24 rfl, up_aload _ _⟩) rfl ?_
  refine na_3 (q := 28) (⟨so_getN kd_4 (k := 8) (by decide) dX7_isHidden_25 wd_133, up_get _ _ _⟩) rfl ?_
  refine na_1 (q := 29) (⟨so_aload_n dX7_isHidden_28 rfl, up_aload _ _⟩) rfl ?_
  refine na_3 (q := 32) (⟨so_getN kd_4 (k := 3) (by decide) dX7_isHidden_29 wd_120, up_get _ _ _⟩) rfl ?_
  refine na_3 (q := 35) (⟨so_ceq dX7_isHidden_32 (by decide), up_ceq _ _⟩) rfl ?_
  refine na_1 (q := 36) (⟨so_iconst dX7_isHidden_35 (by decide), up_cst _ _⟩) rfl ?_
  refine na_3 (q := 39) (⟨so_goto dX7_isHidden_36 (by decide), up_goto _⟩) rfl ?_
  refine na_1 (q := 40) (⟨so_iconst dX7_isHidden_39 (by decide), up_cst _ _⟩) rfl ?_
  refine na_1 (q := 41) (⟨so_reti dX7_isHidden_40 rfl, up_reti _⟩) rfl ?_
  exact na_z
set_option maxRecDepth 100000 in
set_option maxHeartbeats 4000000 in
theorem ok_97 : nv_all 97 0 np_c97 := by
  unfold np_c97
  refine na_1 (q := 1) (⟨so_iload_n dX7_floating_0 rfl, up_iload _ _⟩) rfl ?_
  refine na_3 (q := 4) (one_c rfl rfl (sc_S dX7_floating_1 cw_X7_floating_X7_requireFleet wd_921 wd_922)) rfl ?_
  refine na_1 (q := 5) (⟨so_aload_n dX7_floating_4 rfl, up_aload _ _⟩) rfl ?_
  refine na_3 (q := 8) (⟨so_get kd_5 (k := 0) (by decide) dX7_floating_5 wd_253, up_get _ _ _⟩) rfl ?_
  refine na_1 (q := 9) (⟨so_iload_n dX7_floating_8 rfl, up_iload _ _⟩) rfl ?_
  refine na_3 (q := 12) (one_c rfl rfl (sc_V dX7_floating_9 cw_X7_floating_X4_accountOf rfl wd_926 wd_415 wd_416 (nv_rcO (ci := 2) rfl))) rfl ?_
  refine na_3 (q := 15) (⟨so_getN kd_0 (k := 1) (by decide) dX7_floating_12 wd_73, up_get _ _ _⟩) rfl ?_
  refine na_1 (q := 16) (⟨so_reti dX7_floating_15 rfl, up_reti _⟩) rfl ?_
  exact na_z
set_option maxRecDepth 100000 in
set_option maxHeartbeats 4000000 in
theorem ok_98 : nv_all 98 0 np_c98 := by
  unfold np_c98
  refine na_1 (q := 1) (⟨so_aload_n dX7_spoonAtRank_0 rfl, up_aload _ _⟩) rfl ?_
  refine na_3 (q := 4) (⟨so_get kd_5 (k := 0) (by decide) dX7_spoonAtRank_1 wd_253, up_get _ _ _⟩) rfl ?_
  refine na_1 (q := 5) (⟨so_iload_n dX7_spoonAtRank_4 rfl, up_iload _ _⟩) rfl ?_
  refine na_3 (q := 8) (one_c rfl rfl (sc_V dX7_spoonAtRank_5 cw_X7_spoonAtRank_X4_ranked rfl wd_1131 wd_1132 wd_1133 (nv_rcO (ci := 2) rfl))) rfl ?_
  refine na_1 (q := 9) (⟨so_astore_n dX7_spoonAtRank_8 rfl (by decide), up_astore _ _⟩) rfl ?_
  refine na_1 (q := 10) (⟨so_aload_n dX7_spoonAtRank_9 rfl, up_aload _ _⟩) rfl ?_
  refine na_3 (q := 13) (⟨so_ifnonnull dX7_spoonAtRank_10 (by decide), up_ifnonnull _ _⟩) rfl ?_
  refine na_3 (q := 16) (st_X rfl rfl (by decide) th_NoSuchElementException wd_780 (show (190, "there is no such rank") ∈ nv_msgs by decide) dX7_spoonAtRank_13 dX7_spoonAtRank_16 (Or.inl ⟨dX7_spoonAtRank_17, dX7_spoonAtRank_19, dX7_spoonAtRank_22⟩)) rfl ?_
  refine na_n (q := 17) rfl ?_
  refine na_n (q := 18) rfl ?_
  refine na_n (q := 19) rfl ?_
  refine na_n (q := 20) rfl ?_
  refine na_n (q := 21) rfl ?_
  refine na_n (q := 22) rfl ?_
  refine na_n (q := 23) rfl ?_
  refine na_1 (q := 24) (⟨so_aload_n dX7_spoonAtRank_23 rfl, up_aload _ _⟩) rfl ?_
  refine na_3 (q := 27) (⟨so_getN kd_4 (k := 0) (by decide) dX7_spoonAtRank_24 wd_111, up_get _ _ _⟩) rfl ?_
  refine na_1 (q := 28) (⟨so_reti dX7_spoonAtRank_27 rfl, up_reti _⟩) rfl ?_
  exact na_z
set_option maxRecDepth 100000 in
set_option maxHeartbeats 4000000 in
theorem ok_99 : nv_all 99 0 np_c99 := by
  unfold np_c99
  refine na_1 (q := 1) (⟨so_aload_n dX7_distance_0 rfl, up_aload _ _⟩) rfl ?_
  refine na_1 (q := 2) (⟨so_iload_n dX7_distance_1 rfl, up_iload _ _⟩) rfl ?_
  refine na_3 (q := 5) (one_c rfl rfl (sc_V dX7_distance_2 cw_X7_distance_X7_existing rfl wd_863 wd_865 wd_18 (nv_rcO (ci := 5) rfl))) rfl ?_
  refine na_1 (q := 6) (⟨so_astore_n dX7_distance_5 rfl (by decide), up_astore _ _⟩) rfl ?_
  refine na_1 (q := 7) (⟨so_aload_n dX7_distance_6 rfl, up_aload _ _⟩) rfl ?_
  refine na_1 (q := 8) (⟨so_iload_n dX7_distance_7 rfl, up_iload _ _⟩) rfl ?_
  refine na_3 (q := 11) (one_c rfl rfl (sc_V dX7_distance_8 cw_X7_distance_X7_existing rfl wd_863 wd_865 wd_18 (nv_rcO (ci := 5) rfl))) rfl ?_
  refine na_2 (q := 13) (⟨so_astore dX7_distance_11 (by decide), up_astore _ _⟩) rfl ?_
  refine na_1 (q := 14) (⟨so_aload_n dX7_distance_13 rfl, up_aload _ _⟩) rfl ?_
  refine na_3 (q := 17) (one_c rfl rfl (sc_V dX7_distance_14 cw_X7_distance_X6_isAfloat rfl wd_869 wd_423 wd_424 (nv_rcO (ci := 4) rfl))) rfl ?_
  refine na_3 (q := 20) (⟨so_ifeq dX7_distance_17 (by decide), up_ifeq _ _⟩) rfl ?_
  refine na_2 (q := 22) (⟨so_aload dX7_distance_20, up_aload _ _⟩) rfl ?_
  refine na_3 (q := 25) (one_c rfl rfl (sc_V dX7_distance_22 cw_X7_distance_X6_isAfloat rfl wd_869 wd_423 wd_424 (nv_rcO (ci := 4) rfl))) rfl ?_
  refine na_3 (q := 28) (⟨so_ifne dX7_distance_25 (by decide), up_ifne _ _⟩) rfl ?_
  refine na_3 (q := 31) (st_X rfl rfl (by decide) th_NoSuchElementException wd_780 (show (192, "a spoon is sunk") ∈ nv_msgs by decide) dX7_distance_28 dX7_distance_31 (Or.inl ⟨dX7_distance_32, dX7_distance_34, dX7_distance_37⟩)) rfl ?_
  refine na_n (q := 32) rfl ?_
  refine na_n (q := 33) rfl ?_
  refine na_n (q := 34) rfl ?_
  refine na_n (q := 35) rfl ?_
  refine na_n (q := 36) rfl ?_
  refine na_n (q := 37) rfl ?_
  refine na_n (q := 38) rfl ?_
  refine na_1 (q := 39) (⟨so_aload_n dX7_distance_38 rfl, up_aload _ _⟩) rfl ?_
  refine na_2 (q := 41) (⟨so_aload dX7_distance_39, up_aload _ _⟩) rfl ?_
  refine na_3 (q := 44) (⟨so_getN kd_4 (k := 2) (by decide) dX7_distance_41 wd_117, up_get _ _ _⟩) rfl ?_
  refine na_2 (q := 46) (⟨so_aload dX7_distance_44, up_aload _ _⟩) rfl ?_
  refine na_3 (q := 49) (⟨so_getN kd_4 (k := 3) (by decide) dX7_distance_46 wd_120, up_get _ _ _⟩) rfl ?_
  refine na_3 (q := 52) (one_c rfl rfl (sc_V dX7_distance_49 cw_X7_distance_X6_distanceTo rfl wd_1187 wd_743 wd_744 (nv_rcO (ci := 4) rfl))) rfl ?_
  refine na_1 (q := 53) (⟨so_reti dX7_distance_52 rfl, up_reti _⟩) rfl ?_
  exact na_z
set_option maxRecDepth 100000 in
set_option maxHeartbeats 4000000 in
theorem ok_100 : nv_all 100 0 np_c100 := by
  unfold np_c100
  refine na_1 (q := 1) (⟨so_aload_n dX7_directionTo_0 rfl, up_aload _ _⟩) rfl ?_
  refine na_1 (q := 2) (⟨so_iload_n dX7_directionTo_1 rfl, up_iload _ _⟩) rfl ?_
  refine na_3 (q := 5) (one_c rfl rfl (sc_V dX7_directionTo_2 cw_X7_directionTo_X7_existing rfl wd_863 wd_865 wd_18 (nv_rcO (ci := 5) rfl))) rfl ?_
  refine na_2 (q := 7) (⟨so_astore dX7_directionTo_5 (by decide), up_astore _ _⟩) rfl ?_
  refine na_1 (q := 8) (⟨so_iload_n dX7_directionTo_7 rfl, up_iload _ _⟩) rfl ?_
  refine na_1 (q := 9) (⟨so_iload_n dX7_directionTo_8 rfl, up_iload _ _⟩) rfl ?_
  refine na_3 (q := 12) (one_c rfl rfl (sc_S dX7_directionTo_9 cw_X7_directionTo_X7_requireCell wd_1101 wd_1102)) rfl ?_
  refine na_2 (q := 14) (⟨so_aload dX7_directionTo_12, up_aload _ _⟩) rfl ?_
  refine na_3 (q := 17) (one_c rfl rfl (sc_V dX7_directionTo_14 cw_X7_directionTo_X6_isAfloat rfl wd_869 wd_423 wd_424 (nv_rcO (ci := 4) rfl))) rfl ?_
  refine na_3 (q := 20) (⟨so_ifeq dX7_directionTo_17 (by decide), up_ifeq _ _⟩) rfl ?_
  refine na_2 (q := 22) (⟨so_aload dX7_directionTo_20, up_aload _ _⟩) rfl ?_
  refine na_1 (q := 23) (⟨so_iload_n dX7_directionTo_22 rfl, up_iload _ _⟩) rfl ?_
  refine na_1 (q := 24) (⟨so_iload_n dX7_directionTo_23 rfl, up_iload _ _⟩) rfl ?_
  refine na_3 (q := 27) (one_c rfl rfl (sc_V dX7_directionTo_24 cw_X7_directionTo_X6_isIn rfl wd_1171 wd_427 wd_428 (nv_rcO (ci := 4) rfl))) rfl ?_
  refine na_3 (q := 30) (⟨so_ifeq dX7_directionTo_27 (by decide), up_ifeq _ _⟩) rfl ?_
  refine na_3 (q := 33) (st_X rfl rfl (by decide) th_NoSuchElementException wd_780 (show (201, "there is no direction") ∈ nv_msgs by decide) dX7_directionTo_30 dX7_directionTo_33 (Or.inl ⟨dX7_directionTo_34, dX7_directionTo_36, dX7_directionTo_39⟩)) rfl ?_
  refine na_n (q := 34) rfl ?_
  refine na_n (q := 35) rfl ?_
  refine na_n (q := 36) rfl ?_
  refine na_n (q := 37) rfl ?_
  refine na_n (q := 38) rfl ?_
  refine na_n (q := 39) rfl ?_
  refine na_n (q := 40) rfl ?_
  refine na_1 (q := 41) (⟨so_iload_n dX7_directionTo_40 rfl, up_iload _ _⟩) rfl ?_
  refine na_2 (q := 43) (⟨so_aload dX7_directionTo_41, up_aload _ _⟩) rfl ?_
  refine na_3 (q := 46) (⟨so_getN kd_4 (k := 2) (by decide) dX7_directionTo_43 wd_117, up_get _ _ _⟩) rfl ?_
  refine na_1 (q := 47) (⟨so_isub dX7_directionTo_46, up_i2 _ _⟩) rfl ?_
  refine na_1 (q := 48) (⟨so_iload_n dX7_directionTo_47 rfl, up_iload _ _⟩) rfl ?_
  refine na_2 (q := 50) (⟨so_aload dX7_directionTo_48, up_aload _ _⟩) rfl ?_
  refine na_3 (q := 53) (⟨so_getN kd_4 (k := 3) (by decide) dX7_directionTo_50 wd_120, up_get _ _ _⟩) rfl ?_
  refine na_1 (q := 54) (⟨so_isub dX7_directionTo_53, up_i2 _ _⟩) rfl ?_
  refine na_3 (q := 57) (one_c rfl rfl (sc_S dX7_directionTo_54 cw_X7_directionTo_X7_directionOf wd_1173 wd_763)) rfl ?_
  refine na_1 (q := 58) (⟨so_reti dX7_directionTo_57 rfl, up_reti _⟩) rfl ?_
  exact na_z
set_option maxRecDepth 100000 in
set_option maxHeartbeats 4000000 in
theorem ok_101 : nv_all 101 0 np_c101 := by
  unfold np_c101
  refine na_1 (q := 1) (⟨so_aload_n dX7_isInReach_0 rfl, up_aload _ _⟩) rfl ?_
  refine na_1 (q := 2) (⟨so_iload_n dX7_isInReach_1 rfl, up_iload _ _⟩) rfl ?_
  refine na_3 (q := 5) (one_c rfl rfl (sc_V dX7_isInReach_2 cw_X7_isInReach_X7_existing rfl wd_863 wd_865 wd_18 (nv_rcO (ci := 5) rfl))) rfl ?_
  refine na_2 (q := 7) (⟨so_astore dX7_isInReach_5 (by decide), up_astore _ _⟩) rfl ?_
  refine na_1 (q := 8) (⟨so_iload_n dX7_isInReach_7 rfl, up_iload _ _⟩) rfl ?_
  refine na_1 (q := 9) (⟨so_iload_n dX7_isInReach_8 rfl, up_iload _ _⟩) rfl ?_
  refine na_3 (q := 12) (one_c rfl rfl (sc_S dX7_isInReach_9 cw_X7_isInReach_X7_requireCell wd_1101 wd_1102)) rfl ?_
  refine na_2 (q := 14) (⟨so_aload dX7_isInReach_12, up_aload _ _⟩) rfl ?_
  refine na_1 (q := 15) (⟨so_iload_n dX7_isInReach_14 rfl, up_iload _ _⟩) rfl ?_
  refine na_1 (q := 16) (⟨so_iload_n dX7_isInReach_15 rfl, up_iload _ _⟩) rfl ?_
  refine na_3 (q := 19) (one_c rfl rfl (sc_V dX7_isInReach_16 cw_X7_isInReach_X6_reaches rfl wd_1178 wd_758 wd_759 (nv_rcO (ci := 4) rfl))) rfl ?_
  refine na_1 (q := 20) (⟨so_reti dX7_isInReach_19 rfl, up_reti _⟩) rfl ?_
  exact na_z
set_option maxRecDepth 100000 in
set_option maxHeartbeats 4000000 in
theorem ok_102 : nv_all 102 0 np_c102 := by
  unfold np_c102
  refine na_1 (q := 1) (⟨so_aload_n dX7_targetCount_0 rfl, up_aload _ _⟩) rfl ?_
  refine na_3 (q := 4) (⟨so_get kd_5 (k := 0) (by decide) dX7_targetCount_1 wd_253, up_get _ _ _⟩) rfl ?_
  refine na_1 (q := 5) (⟨so_aload_n dX7_targetCount_4 rfl, up_aload _ _⟩) rfl ?_
  refine na_1 (q := 6) (⟨so_iload_n dX7_targetCount_5 rfl, up_iload _ _⟩) rfl ?_
  refine na_3 (q := 9) (one_c rfl rfl (sc_V dX7_targetCount_6 cw_X7_targetCount_X7_existing rfl wd_863 wd_865 wd_18 (nv_rcO (ci := 5) rfl))) rfl ?_
  refine na_3 (q := 12) (one_c rfl rfl (sc_V dX7_targetCount_9 cw_X7_targetCount_X4_targetsBySpoons rfl wd_1155 wd_1073 wd_1074 (nv_rcO (ci := 2) rfl))) rfl ?_
  refine na_1 (q := 13) (⟨so_reti dX7_targetCount_12 rfl, up_reti _⟩) rfl ?_
  exact na_z
set_option maxRecDepth 100000 in
set_option maxHeartbeats 4000000 in
theorem ok_103 : nv_all 103 0 np_c103 := by
  unfold np_c103
  refine na_1 (q := 1) (⟨so_aload_n dX7_targetCountByCells_0 rfl, up_aload _ _⟩) rfl ?_
  refine na_3 (q := 4) (⟨so_get kd_5 (k := 0) (by decide) dX7_targetCountByCells_1 wd_253, up_get _ _ _⟩) rfl ?_
  refine na_1 (q := 5) (⟨so_aload_n dX7_targetCountByCells_4 rfl, up_aload _ _⟩) rfl ?_
  refine na_1 (q := 6) (⟨so_iload_n dX7_targetCountByCells_5 rfl, up_iload _ _⟩) rfl ?_
  refine na_3 (q := 9) (one_c rfl rfl (sc_V dX7_targetCountByCells_6 cw_X7_targetCountByCells_X7_existing rfl wd_863 wd_865 wd_18 (nv_rcO (ci := 5) rfl))) rfl ?_
  refine na_3 (q := 12) (one_c rfl rfl (sc_V dX7_targetCountByCells_9 cw_X7_targetCountByCells_X4_targetsByCells rfl wd_1195 wd_1077 wd_1078 (nv_rcO (ci := 2) rfl))) rfl ?_
  refine na_1 (q := 13) (⟨so_reti dX7_targetCountByCells_12 rfl, up_reti _⟩) rfl ?_
  exact na_z
set_option maxRecDepth 100000 in
set_option maxHeartbeats 4000000 in
theorem ok_104 : nv_all 104 0 np_c104 := by
  unfold np_c104
  refine na_1 (q := 1) (⟨so_aload_n dX7_cellsAhead_0 rfl, up_aload _ _⟩) rfl ?_
  refine na_3 (q := 4) (⟨so_get kd_5 (k := 0) (by decide) dX7_cellsAhead_1 wd_253, up_get _ _ _⟩) rfl ?_
  refine na_1 (q := 5) (⟨so_aload_n dX7_cellsAhead_4 rfl, up_aload _ _⟩) rfl ?_
  refine na_1 (q := 6) (⟨so_iload_n dX7_cellsAhead_5 rfl, up_iload _ _⟩) rfl ?_
  refine na_3 (q := 9) (one_c rfl rfl (sc_V dX7_cellsAhead_6 cw_X7_cellsAhead_X7_existingAfloat rfl wd_859 wd_861 wd_17 (nv_rcO (ci := 5) rfl))) rfl ?_
  refine na_3 (q := 12) (one_c rfl rfl (sc_V dX7_cellsAhead_9 cw_X7_cellsAhead_X4_freeAhead rfl wd_1163 wd_716 wd_717 (nv_rcO (ci := 2) rfl))) rfl ?_
  refine na_1 (q := 13) (⟨so_reti dX7_cellsAhead_12 rfl, up_reti _⟩) rfl ?_
  exact na_z
set_option maxRecDepth 100000 in
set_option maxHeartbeats 4000000 in
theorem ok_105 : nv_all 105 0 np_c105 := by
  unfold np_c105
  refine na_1 (q := 1) (⟨so_iload_n dX7_potOf_0 rfl, up_iload _ _⟩) rfl ?_
  refine na_3 (q := 4) (one_c rfl rfl (sc_S dX7_potOf_1 cw_X7_potOf_X7_requireFleet wd_921 wd_922)) rfl ?_
  refine na_1 (q := 5) (⟨so_aload_n dX7_potOf_4 rfl, up_aload _ _⟩) rfl ?_
  refine na_3 (q := 8) (⟨so_get kd_5 (k := 0) (by decide) dX7_potOf_5 wd_253, up_get _ _ _⟩) rfl ?_
  refine na_1 (q := 9) (⟨so_iload_n dX7_potOf_8 rfl, up_iload _ _⟩) rfl ?_
  refine na_3 (q := 12) (one_c rfl rfl (sc_V dX7_potOf_9 cw_X7_potOf_X4_accountOf rfl wd_926 wd_415 wd_416 (nv_rcO (ci := 2) rfl))) rfl ?_
  refine na_3 (q := 15) (⟨so_getN kd_0 (k := 2) (by decide) dX7_potOf_12 wd_76, up_get _ _ _⟩) rfl ?_
  refine na_1 (q := 16) (⟨so_reti dX7_potOf_15 rfl, up_reti _⟩) rfl ?_
  exact na_z
set_option maxRecDepth 100000 in
set_option maxHeartbeats 4000000 in
theorem ok_106 : nv_all 106 0 np_c106 := by
  unfold np_c106
  refine na_1 (q := 1) (⟨so_iload_n dX7_fleetCubes_0 rfl, up_iload _ _⟩) rfl ?_
  refine na_3 (q := 4) (one_c rfl rfl (sc_S dX7_fleetCubes_1 cw_X7_fleetCubes_X7_requireFleet wd_921 wd_922)) rfl ?_
  refine na_1 (q := 5) (⟨so_aload_n dX7_fleetCubes_4 rfl, up_aload _ _⟩) rfl ?_
  refine na_3 (q := 8) (⟨so_get kd_5 (k := 0) (by decide) dX7_fleetCubes_5 wd_253, up_get _ _ _⟩) rfl ?_
  refine na_1 (q := 9) (⟨so_iload_n dX7_fleetCubes_8 rfl, up_iload _ _⟩) rfl ?_
  refine na_3 (q := 12) (one_c rfl rfl (sc_V dX7_fleetCubes_9 cw_X7_fleetCubes_X4_cubesBySpoons rfl wd_1018 wd_1019 wd_1020 (nv_rcO (ci := 2) rfl))) rfl ?_
  refine na_1 (q := 13) (⟨so_reti dX7_fleetCubes_12 rfl, up_reti _⟩) rfl ?_
  exact na_z
set_option maxRecDepth 100000 in
set_option maxHeartbeats 4000000 in
theorem ok_107 : nv_all 107 0 np_c107 := by
  unfold np_c107
  refine na_1 (q := 1) (⟨so_iload_n dX7_fleetCubesByAccount_0 rfl, up_iload _ _⟩) rfl ?_
  refine na_3 (q := 4) (one_c rfl rfl (sc_S dX7_fleetCubesByAccount_1 cw_X7_fleetCubesByAccount_X7_requireFleet wd_921 wd_922)) rfl ?_
  refine na_1 (q := 5) (⟨so_aload_n dX7_fleetCubesByAccount_4 rfl, up_aload _ _⟩) rfl ?_
  refine na_3 (q := 8) (⟨so_get kd_5 (k := 0) (by decide) dX7_fleetCubesByAccount_5 wd_253, up_get _ _ _⟩) rfl ?_
  refine na_1 (q := 9) (⟨so_iload_n dX7_fleetCubesByAccount_8 rfl, up_iload _ _⟩) rfl ?_
  refine na_3 (q := 12) (one_c rfl rfl (sc_V dX7_fleetCubesByAccount_9 cw_X7_fleetCubesByAccount_X4_accountOf rfl wd_926 wd_415 wd_416 (nv_rcO (ci := 2) rfl))) rfl ?_
  refine na_3 (q := 15) (one_c rfl rfl (sc_V dX7_fleetCubesByAccount_12 cw_X7_fleetCubesByAccount_X1_balance rfl wd_1026 wd_1027 wd_1028 (nv_rcO (ci := 0) rfl))) rfl ?_
  refine na_1 (q := 16) (⟨so_reti dX7_fleetCubesByAccount_15 rfl, up_reti _⟩) rfl ?_
  exact na_z
set_option maxRecDepth 100000 in
set_option maxHeartbeats 4000000 in
theorem ok_108 : nv_all 108 0 np_c108 := by
  unfold np_c108
  refine na_1 (q := 1) (⟨so_aload_n dX7_shotCount_0 rfl, up_aload _ _⟩) rfl ?_
  refine na_3 (q := 4) (⟨so_get kd_5 (k := 0) (by decide) dX7_shotCount_1 wd_253, up_get _ _ _⟩) rfl ?_
  refine na_3 (q := 7) (⟨so_getN kd_2 (k := 8) (by decide) dX7_shotCount_4 wd_167, up_get _ _ _⟩) rfl ?_
  refine na_1 (q := 8) (⟨so_reti dX7_shotCount_7 rfl, up_reti _⟩) rfl ?_
  exact na_z
set_option maxRecDepth 100000 in
set_option maxHeartbeats 4000000 in
theorem ok_109 : nv_all 109 0 np_c109 := by
  unfold np_c109
  refine na_1 (q := 1) (⟨so_aload_n dX7_hitCount_0 rfl, up_aload _ _⟩) rfl ?_
  refine na_3 (q := 4) (⟨so_get kd_5 (k := 0) (by decide) dX7_hitCount_1 wd_253, up_get _ _ _⟩) rfl ?_
  refine na_3 (q := 7) (⟨so_getN kd_2 (k := 9) (by decide) dX7_hitCount_4 wd_169, up_get _ _ _⟩) rfl ?_
  refine na_1 (q := 8) (⟨so_reti dX7_hitCount_7 rfl, up_reti _⟩) rfl ?_
  exact na_z
set_option maxRecDepth 100000 in
set_option maxHeartbeats 4000000 in
theorem ok_110 : nv_all 110 0 np_c110 := by
  unfold np_c110
  refine na_1 (q := 1) (⟨so_aload_n dX7_cellsSailed_0 rfl, up_aload _ _⟩) rfl ?_
  refine na_3 (q := 4) (⟨so_get kd_5 (k := 0) (by decide) dX7_cellsSailed_1 wd_253, up_get _ _ _⟩) rfl ?_
  refine na_3 (q := 7) (⟨so_getN kd_2 (k := 10) (by decide) dX7_cellsSailed_4 wd_171, up_get _ _ _⟩) rfl ?_
  refine na_1 (q := 8) (⟨so_retl dX7_cellsSailed_7 rfl, up_retl⟩) rfl ?_
  exact na_z
set_option maxRecDepth 100000 in
set_option maxHeartbeats 4000000 in
theorem ok_111 : nv_all 111 0 np_c111 := by
  unfold np_c111
  refine na_1 (q := 1) (⟨so_aload_n dX7_secretCount_0 rfl, up_aload _ _⟩) rfl ?_
  refine na_3 (q := 4) (⟨so_get kd_5 (k := 0) (by decide) dX7_secretCount_1 wd_253, up_get _ _ _⟩) rfl ?_
  refine na_3 (q := 7) (⟨so_getN kd_2 (k := 11) (by decide) dX7_secretCount_4 wd_173, up_get _ _ _⟩) rfl ?_
  refine na_1 (q := 8) (⟨so_reti dX7_secretCount_7 rfl, up_reti _⟩) rfl ?_
  exact na_z
set_option maxRecDepth 100000 in
set_option maxHeartbeats 4000000 in
theorem ok_112 : nv_all 112 0 np_c112 := by
  unfold np_c112
  refine na_1 (q := 1) (⟨so_iload_n dX7_append_0 rfl, up_iload _ _⟩) rfl ?_
  refine na_2 (q := 3) (⟨so_bipush dX7_append_1 (by decide), up_cst _ _⟩) rfl ?_
  refine na_3 (q := 6) (⟨so_clt dX7_append_3 (by decide), up_clt _ _⟩) rfl ?_
  refine na_1 (q := 7) (⟨so_iload_n dX7_append_6 rfl, up_iload _ _⟩) rfl ?_
  refine na_2 (q := 9) (⟨so_bipush dX7_append_7 (by decide), up_cst _ _⟩) rfl ?_
  refine na_3 (q := 12) (⟨so_cle dX7_append_9 (by decide), up_cle _ _⟩) rfl ?_
  refine na_3 (q := 15) (st_S rfl rfl (by decide) th_IllegalArgumentException wd_463 (show (243, "the character is out of range") ∈ nv_msgs by decide) dX7_append_12 dX7_append_15 (Or.inl ⟨dX7_append_16, dX7_append_18, dX7_append_21⟩)) rfl ?_
  refine na_n (q := 16) rfl ?_
  refine na_n (q := 17) rfl ?_
  refine na_n (q := 18) rfl ?_
  refine na_n (q := 19) rfl ?_
  refine na_n (q := 20) rfl ?_
  refine na_n (q := 21) rfl ?_
  refine na_n (q := 22) rfl ?_
  refine na_1 (q := 23) (⟨so_aload_n dX7_append_22 rfl, up_aload _ _⟩) rfl ?_
  refine na_3 (q := 26) (⟨so_get kd_5 (k := 4) (by decide) dX7_append_23 wd_257, up_get _ _ _⟩) rfl ?_
  refine na_3 (q := 29) (one_c rfl rfl (sc_V dX7_append_26 cw_X7_append_X2_isFull rfl wd_833 wd_834 wd_835 (nv_rcO (ci := 1) rfl))) rfl ?_
  refine na_3 (q := 32) (⟨so_ifeq dX7_append_29 (by decide), up_ifeq _ _⟩) rfl ?_
  refine na_3 (q := 35) (st_S rfl rfl (by decide) th_IllegalStateException wd_479 (show (249, "the command text is full") ∈ nv_msgs by decide) dX7_append_32 dX7_append_35 (Or.inl ⟨dX7_append_36, dX7_append_38, dX7_append_41⟩)) rfl ?_
  refine na_n (q := 36) rfl ?_
  refine na_n (q := 37) rfl ?_
  refine na_n (q := 38) rfl ?_
  refine na_n (q := 39) rfl ?_
  refine na_n (q := 40) rfl ?_
  refine na_n (q := 41) rfl ?_
  refine na_n (q := 42) rfl ?_
  refine na_1 (q := 43) (⟨so_aload_n dX7_append_42 rfl, up_aload _ _⟩) rfl ?_
  refine na_3 (q := 46) (⟨so_get kd_5 (k := 4) (by decide) dX7_append_43 wd_257, up_get _ _ _⟩) rfl ?_
  refine na_1 (q := 47) (⟨so_iload_n dX7_append_46 rfl, up_iload _ _⟩) rfl ?_
  refine na_3 (q := 50) (one_c rfl rfl (sc_V dX7_append_47 cw_X7_append_X2_add rfl wd_838 wd_839 wd_840 (nv_rcO (ci := 1) rfl))) rfl ?_
  refine na_1 (q := 51) (⟨so_reti dX7_append_50 rfl, up_reti _⟩) rfl ?_
  exact na_z
set_option maxRecDepth 100000 in
set_option maxHeartbeats 4000000 in
theorem ok_113 : nv_all 113 0 np_c113 := by
  unfold np_c113
  refine na_1 (q := 1) (⟨so_aload_n dX7_run_0 rfl, up_aload _ _⟩) rfl ?_
  refine na_3 (q := 4) (⟨so_get kd_5 (k := 4) (by decide) dX7_run_1 wd_257, up_get _ _ _⟩) rfl ?_
  refine na_3 (q := 7) (one_c rfl rfl (sc_V dX7_run_4 cw_X7_run_X2_countCommands rfl wd_591 wd_592 wd_593 (nv_rcO (ci := 1) rfl))) rfl ?_
  refine na_1 (q := 8) (⟨so_istore_n dX7_run_7 rfl (by decide), up_istore _ _⟩) rfl ?_
  refine na_1 (q := 9) (⟨so_iload_n dX7_run_8 rfl, up_iload _ _⟩) rfl ?_
  refine na_1 (q := 10) (⟨so_iconst dX7_run_9 (by decide), up_cst _ _⟩) rfl ?_
  refine na_3 (q := 13) (⟨so_cne dX7_run_10 (by decide), up_cne _ _⟩) rfl ?_
  refine na_1 (q := 14) (⟨so_aload_n dX7_run_13 rfl, up_aload _ _⟩) rfl ?_
  refine na_1 (q := 15) (⟨so_aload_n dX7_run_14 rfl, up_aload _ _⟩) rfl ?_
  refine na_3 (q := 18) (⟨so_get kd_5 (k := 4) (by decide) dX7_run_15 wd_257, up_get _ _ _⟩) rfl ?_
  refine na_3 (q := 21) (⟨so_getN kd_1 (k := 3) (by decide) dX7_run_18 wd_231, up_get _ _ _⟩) rfl ?_
  refine na_3 (q := 24) (⟨so_put kd_5 (k := 9) (by decide) dX7_run_21 (Or.inl wd_262) (Or.inl rfl), up_put _ _ _ _⟩) rfl ?_
  refine na_1 (q := 25) (⟨so_aload_n dX7_run_24 rfl, up_aload _ _⟩) rfl ?_
  refine na_3 (q := 28) (⟨so_get kd_5 (k := 4) (by decide) dX7_run_25 wd_257, up_get _ _ _⟩) rfl ?_
  refine na_3 (q := 31) (one_c rfl rfl (sc_V dX7_run_28 cw_X7_run_X2_clear rfl wd_684 wd_685 wd_686 (nv_rcO (ci := 1) rfl))) rfl ?_
  refine na_3 (q := 34) (st_S rfl rfl (by decide) th_IllegalArgumentException wd_463 (show (264, "the text is not a command text") ∈ nv_msgs by decide) dX7_run_31 dX7_run_34 (Or.inr ⟨dX7_run_35, dX7_run_38, dX7_run_41⟩)) rfl ?_
  refine na_n (q := 35) rfl ?_
  refine na_n (q := 36) rfl ?_
  refine na_n (q := 37) rfl ?_
  refine na_n (q := 38) rfl ?_
  refine na_n (q := 39) rfl ?_
  refine na_n (q := 40) rfl ?_
  refine na_n (q := 41) rfl ?_
  refine na_n (q := 42) rfl ?_
  refine na_1 (q := 43) (⟨so_aload_n dX7_run_42 rfl, up_aload _ _⟩) rfl ?_
  refine na_3 (q := 46) (⟨so_get kd_5 (k := 1) (by decide) dX7_run_43 wd_254, up_get _ _ _⟩) rfl ?_
  refine na_1 (q := 47) (⟨so_aload_n dX7_run_46 rfl, up_aload _ _⟩) rfl ?_
  refine na_3 (q := 50) (⟨so_get kd_5 (k := 0) (by decide) dX7_run_47 wd_253, up_get _ _ _⟩) rfl ?_
  refine na_3 (q := 53) (one_c rfl rfl (sc_V dX7_run_50 cw_X7_run_X4_copyFrom rfl wd_291 wd_292 wd_293 (nv_rcO (ci := 2) rfl))) rfl ?_
  refine na_1 (q := 54) (⟨so_aload_n dX7_run_53 rfl, up_aload _ _⟩) rfl ?_
  refine na_1 (q := 55) (⟨so_iload_n dX7_run_54 rfl, up_iload _ _⟩) rfl ?_
  refine na_3 (q := 58) (one_c rfl rfl (sc_V dX7_run_55 cw_X7_run_X7_firstFailure rfl wd_689 wd_691 wd_10 (nv_rcO (ci := 5) rfl))) rfl ?_
  refine na_1 (q := 59) (⟨so_istore_n dX7_run_58 rfl (by decide), up_istore _ _⟩) rfl ?_
  refine na_1 (q := 60) (⟨so_aload_n dX7_run_59 rfl, up_aload _ _⟩) rfl ?_
  refine na_3 (q := 63) (⟨so_get kd_5 (k := 4) (by decide) dX7_run_60 wd_257, up_get _ _ _⟩) rfl ?_
  refine na_3 (q := 66) (one_c rfl rfl (sc_V dX7_run_63 cw_X7_run_X2_clear rfl wd_684 wd_685 wd_686 (nv_rcO (ci := 1) rfl))) rfl ?_
  refine na_1 (q := 67) (⟨so_iload_n dX7_run_66 rfl, up_iload _ _⟩) rfl ?_
  refine na_1 (q := 68) (⟨so_iconst dX7_run_67 (by decide), up_cst _ _⟩) rfl ?_
  refine na_3 (q := 71) (⟨so_ceq dX7_run_68 (by decide), up_ceq _ _⟩) rfl ?_
  refine na_1 (q := 72) (⟨so_aload_n dX7_run_71 rfl, up_aload _ _⟩) rfl ?_
  refine na_1 (q := 73) (⟨so_iload_n dX7_run_72 rfl, up_iload _ _⟩) rfl ?_
  refine na_3 (q := 76) (⟨so_put kd_5 (k := 10) (by decide) dX7_run_73 (Or.inl wd_263) (Or.inl rfl), up_put _ _ _ _⟩) rfl ?_
  refine na_1 (q := 77) (⟨so_aload_n dX7_run_76 rfl, up_aload _ _⟩) rfl ?_
  refine na_3 (q := 80) (⟨so_get kd_5 (k := 0) (by decide) dX7_run_77 wd_253, up_get _ _ _⟩) rfl ?_
  refine na_1 (q := 81) (⟨so_aload_n dX7_run_80 rfl, up_aload _ _⟩) rfl ?_
  refine na_3 (q := 84) (⟨so_get kd_5 (k := 1) (by decide) dX7_run_81 wd_254, up_get _ _ _⟩) rfl ?_
  refine na_3 (q := 87) (one_c rfl rfl (sc_V dX7_run_84 cw_X7_run_X4_copyFrom rfl wd_291 wd_292 wd_293 (nv_rcO (ci := 2) rfl))) rfl ?_
  refine na_3 (q := 90) (st_S rfl rfl (by decide) th_IllegalStateException wd_479 (show (269, "a command fails") ∈ nv_msgs by decide) dX7_run_87 dX7_run_90 (Or.inr ⟨dX7_run_91, dX7_run_94, dX7_run_97⟩)) rfl ?_
  refine na_n (q := 91) rfl ?_
  refine na_n (q := 92) rfl ?_
  refine na_n (q := 93) rfl ?_
  refine na_n (q := 94) rfl ?_
  refine na_n (q := 95) rfl ?_
  refine na_n (q := 96) rfl ?_
  refine na_n (q := 97) rfl ?_
  refine na_n (q := 98) rfl ?_
  refine na_1 (q := 99) (⟨so_aload_n dX7_run_98 rfl, up_aload _ _⟩) rfl ?_
  refine na_3 (q := 102) (⟨so_get kd_5 (k := 3) (by decide) dX7_run_99 wd_256, up_get _ _ _⟩) rfl ?_
  refine na_1 (q := 103) (⟨so_aload_n dX7_run_102 rfl, up_aload _ _⟩) rfl ?_
  refine na_3 (q := 106) (⟨so_get kd_5 (k := 1) (by decide) dX7_run_103 wd_254, up_get _ _ _⟩) rfl ?_
  refine na_3 (q := 109) (one_c rfl rfl (sc_V dX7_run_106 cw_X7_run_X5_push rfl wd_438 wd_439 wd_440 (nv_rcO (ci := 3) rfl))) rfl ?_
  refine na_1 (q := 110) (⟨so_iload_n dX7_run_109 rfl, up_iload _ _⟩) rfl ?_
  refine na_1 (q := 111) (⟨so_reti dX7_run_110 rfl, up_reti _⟩) rfl ?_
  exact na_z
set_option maxRecDepth 100000 in
set_option maxHeartbeats 4000000 in
theorem ok_114 : nv_all 114 0 np_c114 := by
  unfold np_c114
  refine na_1 (q := 1) (⟨so_aload_n dX7_failedCommand_0 rfl, up_aload _ _⟩) rfl ?_
  refine na_3 (q := 4) (⟨so_get kd_5 (k := 10) (by decide) dX7_failedCommand_1 wd_263, up_get _ _ _⟩) rfl ?_
  refine na_1 (q := 5) (⟨so_iconst dX7_failedCommand_4 (by decide), up_cst _ _⟩) rfl ?_
  refine na_3 (q := 8) (⟨so_cne dX7_failedCommand_5 (by decide), up_cne _ _⟩) rfl ?_
  refine na_3 (q := 11) (st_X rfl rfl (by decide) th_NoSuchElementException wd_780 (show (276, "no command has failed") ∈ nv_msgs by decide) dX7_failedCommand_8 dX7_failedCommand_11 (Or.inr ⟨dX7_failedCommand_12, dX7_failedCommand_15, dX7_failedCommand_18⟩)) rfl ?_
  refine na_n (q := 12) rfl ?_
  refine na_n (q := 13) rfl ?_
  refine na_n (q := 14) rfl ?_
  refine na_n (q := 15) rfl ?_
  refine na_n (q := 16) rfl ?_
  refine na_n (q := 17) rfl ?_
  refine na_n (q := 18) rfl ?_
  refine na_n (q := 19) rfl ?_
  refine na_1 (q := 20) (⟨so_aload_n dX7_failedCommand_19 rfl, up_aload _ _⟩) rfl ?_
  refine na_3 (q := 23) (⟨so_get kd_5 (k := 10) (by decide) dX7_failedCommand_20 wd_263, up_get _ _ _⟩) rfl ?_
  refine na_1 (q := 24) (⟨so_reti dX7_failedCommand_23 rfl, up_reti _⟩) rfl ?_
  exact na_z
set_option maxRecDepth 100000 in
set_option maxHeartbeats 4000000 in
theorem ok_115 : nv_all 115 0 np_c115 := by
  unfold np_c115
  refine na_1 (q := 1) (⟨so_iconst dX7_describeRow_0 (by decide), up_cst _ _⟩) rfl ?_
  refine na_1 (q := 2) (⟨so_iload_n dX7_describeRow_1 rfl, up_iload _ _⟩) rfl ?_
  refine na_3 (q := 5) (one_c rfl rfl (sc_S dX7_describeRow_2 cw_X7_describeRow_X7_requireCell wd_1101 wd_1102)) rfl ?_
  refine na_1 (q := 6) (⟨so_iconst dX7_describeRow_5 (by decide), up_cst _ _⟩) rfl ?_
  refine na_1 (q := 7) (⟨so_istore_n dX7_describeRow_6 rfl (by decide), up_istore _ _⟩) rfl ?_
  refine na_1 (q := 8) (⟨so_iload_n dX7_describeRow_7 rfl, up_iload _ _⟩) rfl ?_
  refine na_1 (q := 9) (⟨so_aload_n dX7_describeRow_8 rfl, up_aload _ _⟩) rfl ?_
  refine na_3 (q := 12) (⟨so_get kd_5 (k := 5) (by decide) dX7_describeRow_9 wd_258, up_get _ _ _⟩) rfl ?_
  refine na_1 (q := 13) (⟨so_alen dX7_describeRow_12 (Or.inl ⟨rfl, rfl⟩), up_alen _ _⟩) rfl ?_
  refine na_3 (q := 16) (⟨so_cge dX7_describeRow_13 (by decide), up_cge _ _⟩) rfl ?_
  refine na_1 (q := 17) (⟨so_aload_n dX7_describeRow_16 rfl, up_aload _ _⟩) rfl ?_
  refine na_3 (q := 20) (⟨so_get kd_5 (k := 0) (by decide) dX7_describeRow_17 wd_253, up_get _ _ _⟩) rfl ?_
  refine na_1 (q := 21) (⟨so_iload_n dX7_describeRow_20 rfl, up_iload _ _⟩) rfl ?_
  refine na_1 (q := 22) (⟨so_iload_n dX7_describeRow_21 rfl, up_iload _ _⟩) rfl ?_
  refine na_3 (q := 25) (one_c rfl rfl (sc_V dX7_describeRow_22 cw_X7_describeRow_X4_spoonIn rfl wd_1106 wd_419 wd_420 (nv_rcO (ci := 2) rfl))) rfl ?_
  refine na_1 (q := 26) (⟨so_astore_n dX7_describeRow_25 rfl (by decide), up_astore _ _⟩) rfl ?_
  refine na_1 (q := 27) (⟨so_aload_n dX7_describeRow_26 rfl, up_aload _ _⟩) rfl ?_
  refine na_3 (q := 30) (⟨so_get kd_5 (k := 5) (by decide) dX7_describeRow_27 wd_258, up_get _ _ _⟩) rfl ?_
  refine na_1 (q := 31) (⟨so_iload_n dX7_describeRow_30 rfl, up_iload _ _⟩) rfl ?_
  refine na_1 (q := 32) (⟨so_aload_n dX7_describeRow_31 rfl, up_aload _ _⟩) rfl ?_
  refine na_3 (q := 35) (⟨so_ifnonnull dX7_describeRow_32 (by decide), up_ifnonnull _ _⟩) rfl ?_
  refine na_2 (q := 37) (⟨so_bipush dX7_describeRow_35 (by decide), up_cst _ _⟩) rfl ?_
  refine na_3 (q := 40) (⟨so_goto dX7_describeRow_37 (by decide), up_goto _⟩) rfl ?_
  refine na_1 (q := 41) (⟨so_aload_n dX7_describeRow_40 rfl, up_aload _ _⟩) rfl ?_
  refine na_3 (q := 44) (one_c rfl rfl (sc_V dX7_describeRow_41 cw_X7_describeRow_X6_letter rfl wd_1107 wd_1108 wd_1109 (nv_rcO (ci := 4) rfl))) rfl ?_
  refine na_1 (q := 45) (⟨so_cast dX7_describeRow_44, up_cast _ _⟩) rfl ?_
  refine na_3 (q := 48) (⟨so_iinc dX7_describeRow_45 (by decide) (by decide), up_iinc _ _ _⟩) rfl ?_
  refine na_3 (q := 51) (⟨so_goto dX7_describeRow_48 (by decide), up_goto _⟩) rfl ?_
  refine na_1 (q := 52) (⟨so_aload_n dX7_describeRow_51 rfl, up_aload _ _⟩) rfl ?_
  refine na_1 (q := 53) (⟨so_aload_n dX7_describeRow_52 rfl, up_aload _ _⟩) rfl ?_
  refine na_3 (q := 56) (⟨so_get kd_5 (k := 5) (by decide) dX7_describeRow_53 wd_258, up_get _ _ _⟩) rfl ?_
  refine na_1 (q := 57) (⟨so_alen dX7_describeRow_56 (Or.inl ⟨rfl, rfl⟩), up_alen _ _⟩) rfl ?_
  refine na_3 (q := 60) (⟨so_put kd_5 (k := 6) (by decide) dX7_describeRow_57 (Or.inl wd_259) (Or.inl rfl), up_put _ _ _ _⟩) rfl ?_
  refine na_1 (q := 61) (⟨so_aload_n dX7_describeRow_60 rfl, up_aload _ _⟩) rfl ?_
  refine na_3 (q := 64) (⟨so_get kd_5 (k := 6) (by decide) dX7_describeRow_61 wd_259, up_get _ _ _⟩) rfl ?_
  refine na_1 (q := 65) (⟨so_reti dX7_describeRow_64 rfl, up_reti _⟩) rfl ?_
  exact na_z
set_option maxRecDepth 100000 in
set_option maxHeartbeats 4000000 in
theorem ok_116 : nv_all 116 0 np_c116 := by
  unfold np_c116
  refine na_1 (q := 1) (⟨so_iload_n dX7_lineAt_0 rfl, up_iload _ _⟩) rfl ?_
  refine na_3 (q := 4) (⟨so_iflt dX7_lineAt_1 (by decide), up_iflt _ _⟩) rfl ?_
  refine na_1 (q := 5) (⟨so_iload_n dX7_lineAt_4 rfl, up_iload _ _⟩) rfl ?_
  refine na_1 (q := 6) (⟨so_aload_n dX7_lineAt_5 rfl, up_aload _ _⟩) rfl ?_
  refine na_3 (q := 9) (⟨so_get kd_5 (k := 6) (by decide) dX7_lineAt_6 wd_259, up_get _ _ _⟩) rfl ?_
  refine na_3 (q := 12) (⟨so_cge dX7_lineAt_9 (by decide), up_cge _ _⟩) rfl ?_
  refine na_1 (q := 13) (⟨so_iload_n dX7_lineAt_12 rfl, up_iload _ _⟩) rfl ?_
  refine na_1 (q := 14) (⟨so_aload_n dX7_lineAt_13 rfl, up_aload _ _⟩) rfl ?_
  refine na_3 (q := 17) (⟨so_get kd_5 (k := 5) (by decide) dX7_lineAt_14 wd_258, up_get _ _ _⟩) rfl ?_
  refine na_1 (q := 18) (⟨so_alen dX7_lineAt_17 (Or.inl ⟨rfl, rfl⟩), up_alen _ _⟩) rfl ?_
  refine na_3 (q := 21) (⟨so_clt dX7_lineAt_18 (by decide), up_clt _ _⟩) rfl ?_
  refine na_3 (q := 24) (st_S rfl rfl (by decide) th_IndexOutOfBoundsException wd_450 (show (284, "there is no such index") ∈ nv_msgs by decide) dX7_lineAt_21 dX7_lineAt_24 (Or.inr ⟨dX7_lineAt_25, dX7_lineAt_28, dX7_lineAt_31⟩)) rfl ?_
  refine na_n (q := 25) rfl ?_
  refine na_n (q := 26) rfl ?_
  refine na_n (q := 27) rfl ?_
  refine na_n (q := 28) rfl ?_
  refine na_n (q := 29) rfl ?_
  refine na_n (q := 30) rfl ?_
  refine na_n (q := 31) rfl ?_
  refine na_n (q := 32) rfl ?_
  refine na_1 (q := 33) (⟨so_aload_n dX7_lineAt_32 rfl, up_aload _ _⟩) rfl ?_
  refine na_3 (q := 36) (⟨so_get kd_5 (k := 5) (by decide) dX7_lineAt_33 wd_258, up_get _ _ _⟩) rfl ?_
  refine na_1 (q := 37) (⟨so_iload_n dX7_lineAt_36 rfl, up_iload _ _⟩) rfl ?_
  refine na_1 (q := 38) (⟨so_cald dX7_lineAt_37, up_aldi _ _⟩) rfl ?_
  refine na_1 (q := 39) (⟨so_reti dX7_lineAt_38 rfl, up_reti _⟩) rfl ?_
  exact na_z
set_option maxRecDepth 100000 in
set_option maxHeartbeats 4000000 in
theorem ok_117 : nv_all 117 0 np_c117 := by
  unfold np_c117
  refine na_1 (q := 1) (⟨so_aload_n dX7_hitShare_0 rfl, up_aload _ _⟩) rfl ?_
  refine na_3 (q := 4) (⟨so_get kd_5 (k := 0) (by decide) dX7_hitShare_1 wd_253, up_get _ _ _⟩) rfl ?_
  refine na_3 (q := 7) (⟨so_getN kd_2 (k := 8) (by decide) dX7_hitShare_4 wd_167, up_get _ _ _⟩) rfl ?_
  refine na_3 (q := 10) (⟨so_ifne dX7_hitShare_7 (by decide), up_ifne _ _⟩) rfl ?_
  refine na_3 (q := 13) (st_S rfl rfl (by decide) th_ArithmeticException wd_1052 (show (289, "there was no shot") ∈ nv_msgs by decide) dX7_hitShare_10 dX7_hitShare_13 (Or.inr ⟨dX7_hitShare_14, dX7_hitShare_17, dX7_hitShare_20⟩)) rfl ?_
  refine na_n (q := 14) rfl ?_
  refine na_n (q := 15) rfl ?_
  refine na_n (q := 16) rfl ?_
  refine na_n (q := 17) rfl ?_
  refine na_n (q := 18) rfl ?_
  refine na_n (q := 19) rfl ?_
  refine na_n (q := 20) rfl ?_
  refine na_n (q := 21) rfl ?_
  refine na_1 (q := 22) (⟨so_aload_n dX7_hitShare_21 rfl, up_aload _ _⟩) rfl ?_
  refine na_3 (q := 25) (⟨so_get kd_5 (k := 0) (by decide) dX7_hitShare_22 wd_253, up_get _ _ _⟩) rfl ?_
  refine na_3 (q := 28) (⟨so_getN kd_2 (k := 9) (by decide) dX7_hitShare_25 wd_169, up_get _ _ _⟩) rfl ?_
  refine na_1 (q := 29) (⟨so_i2f dX7_hitShare_28, up_i2f _⟩) rfl ?_
  refine na_1 (q := 30) (⟨so_aload_n dX7_hitShare_29 rfl, up_aload _ _⟩) rfl ?_
  refine na_3 (q := 33) (⟨so_get kd_5 (k := 0) (by decide) dX7_hitShare_30 wd_253, up_get _ _ _⟩) rfl ?_
  refine na_3 (q := 36) (⟨so_getN kd_2 (k := 8) (by decide) dX7_hitShare_33 wd_167, up_get _ _ _⟩) rfl ?_
  refine na_1 (q := 37) (⟨so_i2f dX7_hitShare_36, up_i2f _⟩) rfl ?_
  refine na_1 (q := 38) (⟨so_fdiv dX7_hitShare_37, up_fdiv _⟩) rfl ?_
  refine na_1 (q := 39) (⟨so_retf dX7_hitShare_38 rfl, up_retf⟩) rfl ?_
  exact na_z
set_option maxRecDepth 100000 in
set_option maxHeartbeats 4000000 in
theorem ok_118 : nv_all 118 0 np_c118 := by
  unfold np_c118
  refine na_1 (q := 1) (⟨so_iload_n dX7_meanCubes_0 rfl, up_iload _ _⟩) rfl ?_
  refine na_3 (q := 4) (one_c rfl rfl (sc_S dX7_meanCubes_1 cw_X7_meanCubes_X7_requireFleet wd_921 wd_922)) rfl ?_
  refine na_1 (q := 5) (⟨so_aload_n dX7_meanCubes_4 rfl, up_aload _ _⟩) rfl ?_
  refine na_3 (q := 8) (⟨so_get kd_5 (k := 0) (by decide) dX7_meanCubes_5 wd_253, up_get _ _ _⟩) rfl ?_
  refine na_1 (q := 9) (⟨so_iload_n dX7_meanCubes_8 rfl, up_iload _ _⟩) rfl ?_
  refine na_3 (q := 12) (one_c rfl rfl (sc_V dX7_meanCubes_9 cw_X7_meanCubes_X4_accountOf rfl wd_926 wd_415 wd_416 (nv_rcO (ci := 2) rfl))) rfl ?_
  refine na_3 (q := 15) (⟨so_getN kd_0 (k := 1) (by decide) dX7_meanCubes_12 wd_73, up_get _ _ _⟩) rfl ?_
  refine na_1 (q := 16) (⟨so_istore_n dX7_meanCubes_15 rfl (by decide), up_istore _ _⟩) rfl ?_
  refine na_1 (q := 17) (⟨so_iload_n dX7_meanCubes_16 rfl, up_iload _ _⟩) rfl ?_
  refine na_3 (q := 20) (⟨so_ifne dX7_meanCubes_17 (by decide), up_ifne _ _⟩) rfl ?_
  refine na_3 (q := 23) (st_S rfl rfl (by decide) th_ArithmeticException wd_1052 (show (292, "no spoon of the fleet floats") ∈ nv_msgs by decide) dX7_meanCubes_20 dX7_meanCubes_23 (Or.inr ⟨dX7_meanCubes_24, dX7_meanCubes_27, dX7_meanCubes_30⟩)) rfl ?_
  refine na_n (q := 24) rfl ?_
  refine na_n (q := 25) rfl ?_
  refine na_n (q := 26) rfl ?_
  refine na_n (q := 27) rfl ?_
  refine na_n (q := 28) rfl ?_
  refine na_n (q := 29) rfl ?_
  refine na_n (q := 30) rfl ?_
  refine na_n (q := 31) rfl ?_
  refine na_1 (q := 32) (⟨so_aload_n dX7_meanCubes_31 rfl, up_aload _ _⟩) rfl ?_
  refine na_3 (q := 35) (⟨so_get kd_5 (k := 0) (by decide) dX7_meanCubes_32 wd_253, up_get _ _ _⟩) rfl ?_
  refine na_1 (q := 36) (⟨so_iload_n dX7_meanCubes_35 rfl, up_iload _ _⟩) rfl ?_
  refine na_3 (q := 39) (one_c rfl rfl (sc_V dX7_meanCubes_36 cw_X7_meanCubes_X4_cubesBySpoons rfl wd_1018 wd_1019 wd_1020 (nv_rcO (ci := 2) rfl))) rfl ?_
  refine na_1 (q := 40) (⟨so_i2d dX7_meanCubes_39, up_i2d _⟩) rfl ?_
  refine na_1 (q := 41) (⟨so_iload_n dX7_meanCubes_40 rfl, up_iload _ _⟩) rfl ?_
  refine na_1 (q := 42) (⟨so_i2d dX7_meanCubes_41, up_i2d _⟩) rfl ?_
  refine na_1 (q := 43) (⟨so_ddiv dX7_meanCubes_42, up_ddiv _⟩) rfl ?_
  refine na_1 (q := 44) (⟨so_retd dX7_meanCubes_43 rfl, up_retd⟩) rfl ?_
  exact na_z
set_option maxRecDepth 100000 in
set_option maxHeartbeats 4000000 in
theorem ok_119 : nv_all 119 0 np_c119 := by
  unfold np_c119
  refine na_1 (q := 1) (⟨so_aload_n dX7_isConsistent_0 rfl, up_aload _ _⟩) rfl ?_
  refine na_3 (q := 4) (⟨so_get kd_5 (k := 0) (by decide) dX7_isConsistent_1 wd_253, up_get _ _ _⟩) rfl ?_
  refine na_3 (q := 7) (one_c rfl rfl (sc_V dX7_isConsistent_4 cw_X7_isConsistent_X4_areTargetsEqual rfl wd_1068 wd_1069 wd_1070 (nv_rcO (ci := 2) rfl))) rfl ?_
  refine na_3 (q := 10) (⟨so_ifeq dX7_isConsistent_7 (by decide), up_ifeq _ _⟩) rfl ?_
  refine na_1 (q := 11) (⟨so_aload_n dX7_isConsistent_10 rfl, up_aload _ _⟩) rfl ?_
  refine na_3 (q := 14) (⟨so_get kd_5 (k := 0) (by decide) dX7_isConsistent_11 wd_253, up_get _ _ _⟩) rfl ?_
  refine na_3 (q := 17) (one_c rfl rfl (sc_V dX7_isConsistent_14 cw_X7_isConsistent_X4_areCubesEqual rfl wd_1084 wd_1085 wd_1086 (nv_rcO (ci := 2) rfl))) rfl ?_
  refine na_3 (q := 20) (⟨so_ifeq dX7_isConsistent_17 (by decide), up_ifeq _ _⟩) rfl ?_
  refine na_1 (q := 21) (⟨so_aload_n dX7_isConsistent_20 rfl, up_aload _ _⟩) rfl ?_
  refine na_3 (q := 24) (⟨so_get kd_5 (k := 0) (by decide) dX7_isConsistent_21 wd_253, up_get _ _ _⟩) rfl ?_
  refine na_3 (q := 27) (one_c rfl rfl (sc_V dX7_isConsistent_24 cw_X7_isConsistent_X4_areCellsSingle rfl wd_1090 wd_1091 wd_1092 (nv_rcO (ci := 2) rfl))) rfl ?_
  refine na_3 (q := 30) (⟨so_ifeq dX7_isConsistent_27 (by decide), up_ifeq _ _⟩) rfl ?_
  refine na_1 (q := 31) (⟨so_iconst dX7_isConsistent_30 (by decide), up_cst _ _⟩) rfl ?_
  refine na_3 (q := 34) (⟨so_goto dX7_isConsistent_31 (by decide), up_goto _⟩) rfl ?_
  refine na_1 (q := 35) (⟨so_iconst dX7_isConsistent_34 (by decide), up_cst _ _⟩) rfl ?_
  refine na_1 (q := 36) (⟨so_reti dX7_isConsistent_35 rfl, up_reti _⟩) rfl ?_
  exact na_z
set_option maxRecDepth 100000 in
set_option maxHeartbeats 4000000 in
theorem ok_120 : nv_all 120 0 np_c120 := by
  unfold np_c120
  refine na_1 (q := 1) (⟨so_aload_n dX7_undo_0 rfl, up_aload _ _⟩) rfl ?_
  refine na_3 (q := 4) (⟨so_get kd_5 (k := 3) (by decide) dX7_undo_1 wd_256, up_get _ _ _⟩) rfl ?_
  refine na_1 (q := 5) (⟨so_aload_n dX7_undo_4 rfl, up_aload _ _⟩) rfl ?_
  refine na_3 (q := 8) (⟨so_get kd_5 (k := 0) (by decide) dX7_undo_5 wd_253, up_get _ _ _⟩) rfl ?_
  refine na_3 (q := 11) (one_c rfl rfl (sc_V dX7_undo_8 cw_X7_undo_X5_pop rfl wd_803 wd_804 wd_805 (nv_rcO (ci := 3) rfl))) rfl ?_
  refine na_3 (q := 14) (⟨so_ifne dX7_undo_11 (by decide), up_ifne _ _⟩) rfl ?_
  refine na_3 (q := 17) (st_S rfl rfl (by decide) th_IllegalStateException wd_479 (show (307, "there is no change to undo") ∈ nv_msgs by decide) dX7_undo_14 dX7_undo_17 (Or.inr ⟨dX7_undo_18, dX7_undo_21, dX7_undo_24⟩)) rfl ?_
  refine na_n (q := 18) rfl ?_
  refine na_n (q := 19) rfl ?_
  refine na_n (q := 20) rfl ?_
  refine na_n (q := 21) rfl ?_
  refine na_n (q := 22) rfl ?_
  refine na_n (q := 23) rfl ?_
  refine na_n (q := 24) rfl ?_
  refine na_n (q := 25) rfl ?_
  refine na_1 (q := 26) (⟨so_aload_n dX7_undo_25 rfl, up_aload _ _⟩) rfl ?_
  refine na_3 (q := 29) (⟨so_get kd_5 (k := 3) (by decide) dX7_undo_26 wd_256, up_get _ _ _⟩) rfl ?_
  refine na_3 (q := 32) (⟨so_getN kd_3 (k := 2) (by decide) dX7_undo_29 wd_211, up_get _ _ _⟩) rfl ?_
  refine na_1 (q := 33) (⟨so_reti dX7_undo_32 rfl, up_reti _⟩) rfl ?_
  exact na_z
set_option maxRecDepth 100000 in
set_option maxHeartbeats 4000000 in
theorem ok_121 : nv_all 121 0 np_c121 := by
  unfold np_c121
  refine na_1 (q := 1) (⟨so_aload_n dX7_save_0 rfl, up_aload _ _⟩) rfl ?_
  refine na_3 (q := 4) (⟨so_get kd_5 (k := 2) (by decide) dX7_save_1 wd_255, up_get _ _ _⟩) rfl ?_
  refine na_1 (q := 5) (⟨so_aload_n dX7_save_4 rfl, up_aload _ _⟩) rfl ?_
  refine na_3 (q := 8) (⟨so_get kd_5 (k := 0) (by decide) dX7_save_5 wd_253, up_get _ _ _⟩) rfl ?_
  refine na_3 (q := 11) (one_c rfl rfl (sc_V dX7_save_8 cw_X7_save_X4_copyFrom rfl wd_291 wd_292 wd_293 (nv_rcO (ci := 2) rfl))) rfl ?_
  refine na_1 (q := 12) (⟨so_aload_n dX7_save_11 rfl, up_aload _ _⟩) rfl ?_
  refine na_1 (q := 13) (⟨so_iconst dX7_save_12 (by decide), up_cst _ _⟩) rfl ?_
  refine na_3 (q := 16) (⟨so_put kd_5 (k := 7) (by decide) dX7_save_13 (Or.inl wd_260) (Or.inl rfl), up_put _ _ _ _⟩) rfl ?_
  refine na_1 (q := 17) (⟨so_aload_n dX7_save_16 rfl, up_aload _ _⟩) rfl ?_
  refine na_3 (q := 20) (⟨so_get kd_5 (k := 0) (by decide) dX7_save_17 wd_253, up_get _ _ _⟩) rfl ?_
  refine na_3 (q := 23) (⟨so_getN kd_2 (k := 3) (by decide) dX7_save_20 wd_157, up_get _ _ _⟩) rfl ?_
  refine na_1 (q := 24) (⟨so_reti dX7_save_23 rfl, up_reti _⟩) rfl ?_
  exact na_z
set_option maxRecDepth 100000 in
set_option maxHeartbeats 4000000 in
theorem ok_122 : nv_all 122 0 np_c122 := by
  unfold np_c122
  refine na_1 (q := 1) (⟨so_aload_n dX7_restore_0 rfl, up_aload _ _⟩) rfl ?_
  refine na_3 (q := 4) (⟨so_get kd_5 (k := 7) (by decide) dX7_restore_1 wd_260, up_get _ _ _⟩) rfl ?_
  refine na_3 (q := 7) (⟨so_ifne dX7_restore_4 (by decide), up_ifne _ _⟩) rfl ?_
  refine na_3 (q := 10) (st_S rfl rfl (by decide) th_IllegalStateException wd_479 (show (312, "there is no snapshot") ∈ nv_msgs by decide) dX7_restore_7 dX7_restore_10 (Or.inr ⟨dX7_restore_11, dX7_restore_14, dX7_restore_17⟩)) rfl ?_
  refine na_n (q := 11) rfl ?_
  refine na_n (q := 12) rfl ?_
  refine na_n (q := 13) rfl ?_
  refine na_n (q := 14) rfl ?_
  refine na_n (q := 15) rfl ?_
  refine na_n (q := 16) rfl ?_
  refine na_n (q := 17) rfl ?_
  refine na_n (q := 18) rfl ?_
  refine na_1 (q := 19) (⟨so_aload_n dX7_restore_18 rfl, up_aload _ _⟩) rfl ?_
  refine na_3 (q := 22) (⟨so_get kd_5 (k := 0) (by decide) dX7_restore_19 wd_253, up_get _ _ _⟩) rfl ?_
  refine na_1 (q := 23) (⟨so_aload_n dX7_restore_22 rfl, up_aload _ _⟩) rfl ?_
  refine na_3 (q := 26) (⟨so_get kd_5 (k := 2) (by decide) dX7_restore_23 wd_255, up_get _ _ _⟩) rfl ?_
  refine na_3 (q := 29) (one_c rfl rfl (sc_V dX7_restore_26 cw_X7_restore_X4_copyFrom rfl wd_291 wd_292 wd_293 (nv_rcO (ci := 2) rfl))) rfl ?_
  refine na_1 (q := 30) (⟨so_aload_n dX7_restore_29 rfl, up_aload _ _⟩) rfl ?_
  refine na_3 (q := 33) (⟨so_get kd_5 (k := 3) (by decide) dX7_restore_30 wd_256, up_get _ _ _⟩) rfl ?_
  refine na_3 (q := 36) (one_c rfl rfl (sc_V dX7_restore_33 cw_X7_restore_X5_clear rfl wd_816 wd_817 wd_818 (nv_rcO (ci := 3) rfl))) rfl ?_
  refine na_1 (q := 37) (⟨so_aload_n dX7_restore_36 rfl, up_aload _ _⟩) rfl ?_
  refine na_3 (q := 40) (⟨so_get kd_5 (k := 0) (by decide) dX7_restore_37 wd_253, up_get _ _ _⟩) rfl ?_
  refine na_3 (q := 43) (⟨so_getN kd_2 (k := 3) (by decide) dX7_restore_40 wd_157, up_get _ _ _⟩) rfl ?_
  refine na_1 (q := 44) (⟨so_reti dX7_restore_43 rfl, up_reti _⟩) rfl ?_
  exact na_z
set_option maxRecDepth 100000 in
set_option maxHeartbeats 4000000 in
theorem ok_123 : nv_all 123 0 np_c123 := by
  unfold np_c123
  refine na_1 (q := 1) (⟨so_iload_n dX7_concluded_0 rfl, up_iload _ _⟩) rfl ?_
  refine na_3 (q := 4) (⟨so_iflt dX7_concluded_1 (by decide), up_iflt _ _⟩) rfl ?_
  refine na_1 (q := 5) (⟨so_aload_n dX7_concluded_4 rfl, up_aload _ _⟩) rfl ?_
  refine na_3 (q := 8) (⟨so_get kd_5 (k := 3) (by decide) dX7_concluded_5 wd_256, up_get _ _ _⟩) rfl ?_
  refine na_1 (q := 9) (⟨so_aload_n dX7_concluded_8 rfl, up_aload _ _⟩) rfl ?_
  refine na_3 (q := 12) (⟨so_get kd_5 (k := 1) (by decide) dX7_concluded_9 wd_254, up_get _ _ _⟩) rfl ?_
  refine na_3 (q := 15) (one_c rfl rfl (sc_V dX7_concluded_12 cw_X7_concluded_X5_push rfl wd_438 wd_439 wd_440 (nv_rcO (ci := 3) rfl))) rfl ?_
  refine na_1 (q := 16) (⟨so_iload_n dX7_concluded_15 rfl, up_iload _ _⟩) rfl ?_
  refine na_1 (q := 17) (⟨so_reti dX7_concluded_16 rfl, up_reti _⟩) rfl ?_
  refine na_1 (q := 18) (⟨so_aload_n dX7_concluded_17 rfl, up_aload _ _⟩) rfl ?_
  refine na_1 (q := 19) (⟨so_iload_n dX7_concluded_18 rfl, up_iload _ _⟩) rfl ?_
  refine na_3 (q := 22) (one_c rfl rfl (sc_V dX7_concluded_19 cw_X7_concluded_X7_keepReason rfl wd_446 wd_448 wd_2 (nv_rcO (ci := 5) rfl))) rfl ?_
  refine na_1 (q := 23) (⟨so_iload_n dX7_concluded_22 rfl, up_iload _ _⟩) rfl ?_
  refine na_3 (q := 26) (⟨so_tsw dX7_concluded_23 (by decide) (by decide) (by decide), up_tsw _ _ _⟩) rfl ?_
  refine na_n (q := 27) rfl ?_
  refine na_n (q := 28) rfl ?_
  refine na_n (q := 29) rfl ?_
  refine na_n (q := 30) rfl ?_
  refine na_n (q := 31) rfl ?_
  refine na_n (q := 32) rfl ?_
  refine na_n (q := 33) rfl ?_
  refine na_n (q := 34) rfl ?_
  refine na_n (q := 35) rfl ?_
  refine na_n (q := 36) rfl ?_
  refine na_n (q := 37) rfl ?_
  refine na_n (q := 38) rfl ?_
  refine na_n (q := 39) rfl ?_
  refine na_n (q := 40) rfl ?_
  refine na_n (q := 41) rfl ?_
  refine na_n (q := 42) rfl ?_
  refine na_n (q := 43) rfl ?_
  refine na_n (q := 44) rfl ?_
  refine na_n (q := 45) rfl ?_
  refine na_n (q := 46) rfl ?_
  refine na_n (q := 47) rfl ?_
  refine na_n (q := 48) rfl ?_
  refine na_n (q := 49) rfl ?_
  refine na_n (q := 50) rfl ?_
  refine na_n (q := 51) rfl ?_
  refine na_n (q := 52) rfl ?_
  refine na_3 (q := 55) (st_S rfl rfl (by decide) th_IndexOutOfBoundsException wd_450 (show (318, "there is no such spoon or fleet") ∈ nv_msgs by decide) dX7_concluded_52 dX7_concluded_55 (Or.inr ⟨dX7_concluded_56, dX7_concluded_59, dX7_concluded_62⟩)) rfl ?_
  refine na_n (q := 56) rfl ?_
  refine na_n (q := 57) rfl ?_
  refine na_n (q := 58) rfl ?_
  refine na_n (q := 59) rfl ?_
  refine na_n (q := 60) rfl ?_
  refine na_n (q := 61) rfl ?_
  refine na_n (q := 62) rfl ?_
  refine na_n (q := 63) rfl ?_
  refine na_3 (q := 66) (st_S rfl rfl (by decide) th_IllegalArgumentException wd_463 (show (320, "a number is out of range") ∈ nv_msgs by decide) dX7_concluded_63 dX7_concluded_66 (Or.inr ⟨dX7_concluded_67, dX7_concluded_70, dX7_concluded_73⟩)) rfl ?_
  refine na_n (q := 67) rfl ?_
  refine na_n (q := 68) rfl ?_
  refine na_n (q := 69) rfl ?_
  refine na_n (q := 70) rfl ?_
  refine na_n (q := 71) rfl ?_
  refine na_n (q := 72) rfl ?_
  refine na_n (q := 73) rfl ?_
  refine na_n (q := 74) rfl ?_
  refine na_3 (q := 77) (st_S rfl rfl (by decide) th_IllegalStateException wd_479 (show (322, "the game does not allow this now") ∈ nv_msgs by decide) dX7_concluded_74 dX7_concluded_77 (Or.inr ⟨dX7_concluded_78, dX7_concluded_81, dX7_concluded_84⟩)) rfl ?_
  refine na_n (q := 78) rfl ?_
  refine na_n (q := 79) rfl ?_
  refine na_n (q := 80) rfl ?_
  refine na_n (q := 81) rfl ?_
  refine na_n (q := 82) rfl ?_
  refine na_n (q := 83) rfl ?_
  refine na_n (q := 84) rfl ?_
  refine na_n (q := 85) rfl ?_
  refine na_3 (q := 88) (st_S rfl rfl (by decide) th_UnsupportedOperationException wd_495 (show (326, "a spoon is in the cell") ∈ nv_msgs by decide) dX7_concluded_85 dX7_concluded_88 (Or.inr ⟨dX7_concluded_89, dX7_concluded_92, dX7_concluded_95⟩)) rfl ?_
  refine na_n (q := 89) rfl ?_
  refine na_n (q := 90) rfl ?_
  refine na_n (q := 91) rfl ?_
  refine na_n (q := 92) rfl ?_
  refine na_n (q := 93) rfl ?_
  refine na_n (q := 94) rfl ?_
  refine na_n (q := 95) rfl ?_
  refine na_n (q := 96) rfl ?_
  refine na_1 (q := 97) (st_S rfl rfl (by decide) th_UnsupportedOperationException wd_495 (show (329, "the action is refused") ∈ nv_msgs by decide) dX7_concluded_96 dX7_concluded_99 (Or.inr ⟨dX7_concluded_100, dX7_concluded_103, dX7_concluded_106⟩)) rfl ?_
  exact na_z
set_option maxRecDepth 100000 in
set_option maxHeartbeats 4000000 in
theorem ok_124 : nv_all 124 0 np_c124 := by
  unfold np_c124
  refine na_1 (q := 1) (⟨so_iload_n dX7_keepReason_0 rfl, up_iload _ _⟩) rfl ?_
  refine na_2 (q := 3) (⟨so_bipush dX7_keepReason_1 (by decide), up_cst _ _⟩) rfl ?_
  refine na_3 (q := 6) (⟨so_cge dX7_keepReason_3 (by decide), up_cge _ _⟩) rfl ?_
  refine na_1 (q := 7) (⟨so_aload_n dX7_keepReason_6 rfl, up_aload _ _⟩) rfl ?_
  refine na_2 (q := 9) (⟨so_bipush dX7_keepReason_7 (by decide), up_cst _ _⟩) rfl ?_
  refine na_1 (q := 10) (⟨so_iload_n dX7_keepReason_9 rfl, up_iload _ _⟩) rfl ?_
  refine na_1 (q := 11) (⟨so_isub dX7_keepReason_10, up_i2 _ _⟩) rfl ?_
  refine na_3 (q := 14) (⟨so_put kd_5 (k := 8) (by decide) dX7_keepReason_11 (Or.inl wd_261) (Or.inl rfl), up_put _ _ _ _⟩) rfl ?_
  refine na_1 (q := 15) (⟨so_retv dX7_keepReason_14 rfl, up_retv⟩) rfl ?_
  exact na_z
set_option maxRecDepth 100000 in
set_option maxHeartbeats 4000000 in
theorem ok_125 : nv_all 125 0 np_c125 := by
  unfold np_c125
  refine na_1 (q := 1) (⟨so_aload_n dX7_firstFailure_0 rfl, up_aload _ _⟩) rfl ?_
  refine na_3 (q := 4) (⟨so_get kd_5 (k := 4) (by decide) dX7_firstFailure_1 wd_257, up_get _ _ _⟩) rfl ?_
  refine na_3 (q := 7) (one_c rfl rfl (sc_V dX7_firstFailure_4 cw_X7_firstFailure_X2_rewind rfl wd_693 wd_596 wd_597 (nv_rcO (ci := 1) rfl))) rfl ?_
  refine na_1 (q := 8) (⟨so_iconst dX7_firstFailure_7 (by decide), up_cst _ _⟩) rfl ?_
  refine na_1 (q := 9) (⟨so_istore_n dX7_firstFailure_8 rfl (by decide), up_istore _ _⟩) rfl ?_
  refine na_1 (q := 10) (⟨so_iload_n dX7_firstFailure_9 rfl, up_iload _ _⟩) rfl ?_
  refine na_1 (q := 11) (⟨so_iload_n dX7_firstFailure_10 rfl, up_iload _ _⟩) rfl ?_
  refine na_3 (q := 14) (⟨so_cge dX7_firstFailure_11 (by decide), up_cge _ _⟩) rfl ?_
  refine na_1 (q := 15) (⟨so_aload_n dX7_firstFailure_14 rfl, up_aload _ _⟩) rfl ?_
  refine na_3 (q := 18) (⟨so_get kd_5 (k := 4) (by decide) dX7_firstFailure_15 wd_257, up_get _ _ _⟩) rfl ?_
  refine na_3 (q := 21) (one_c rfl rfl (sc_V dX7_firstFailure_18 cw_X7_firstFailure_X2_readCommand rfl wd_694 wd_600 wd_601 (nv_rcO (ci := 1) rfl))) rfl ?_
  refine na_1 (q := 22) (⟨so_pop dX7_firstFailure_21, up_pop _⟩) rfl ?_
  refine na_1 (q := 23) (⟨so_aload_n dX7_firstFailure_22 rfl, up_aload _ _⟩) rfl ?_
  refine na_1 (q := 24) (⟨so_aload_n dX7_firstFailure_23 rfl, up_aload _ _⟩) rfl ?_
  refine na_3 (q := 27) (⟨so_get kd_5 (k := 4) (by decide) dX7_firstFailure_24 wd_257, up_get _ _ _⟩) rfl ?_
  refine na_3 (q := 30) (one_c rfl rfl (sc_V dX7_firstFailure_27 cw_X7_firstFailure_X7_carryOut rfl wd_695 wd_697 wd_11 (nv_rcO (ci := 5) rfl))) rfl ?_
  refine na_1 (q := 31) (⟨so_istore_n dX7_firstFailure_30 rfl (by decide), up_istore _ _⟩) rfl ?_
  refine na_1 (q := 32) (⟨so_iload_n dX7_firstFailure_31 rfl, up_iload _ _⟩) rfl ?_
  refine na_3 (q := 35) (⟨so_ifge dX7_firstFailure_32 (by decide), up_ifge _ _⟩) rfl ?_
  refine na_1 (q := 36) (⟨so_aload_n dX7_firstFailure_35 rfl, up_aload _ _⟩) rfl ?_
  refine na_1 (q := 37) (⟨so_iload_n dX7_firstFailure_36 rfl, up_iload _ _⟩) rfl ?_
  refine na_3 (q := 40) (one_c rfl rfl (sc_V dX7_firstFailure_37 cw_X7_firstFailure_X7_keepReason rfl wd_446 wd_448 wd_2 (nv_rcO (ci := 5) rfl))) rfl ?_
  refine na_1 (q := 41) (⟨so_iload_n dX7_firstFailure_40 rfl, up_iload _ _⟩) rfl ?_
  refine na_1 (q := 42) (⟨so_reti dX7_firstFailure_41 rfl, up_reti _⟩) rfl ?_
  refine na_1 (q := 43) (⟨so_aload_n dX7_firstFailure_42 rfl, up_aload _ _⟩) rfl ?_
  refine na_3 (q := 46) (⟨so_get kd_5 (k := 4) (by decide) dX7_firstFailure_43 wd_257, up_get _ _ _⟩) rfl ?_
  refine na_3 (q := 49) (one_c rfl rfl (sc_V dX7_firstFailure_46 cw_X7_firstFailure_X2_skipSeparator rfl wd_770 wd_681 wd_682 (nv_rcO (ci := 1) rfl))) rfl ?_
  refine na_1 (q := 50) (⟨so_pop dX7_firstFailure_49, up_pop _⟩) rfl ?_
  refine na_3 (q := 53) (⟨so_iinc dX7_firstFailure_50 (by decide) (by decide), up_iinc _ _ _⟩) rfl ?_
  refine na_3 (q := 56) (⟨so_goto dX7_firstFailure_53 (by decide), up_goto _⟩) rfl ?_
  refine na_1 (q := 57) (⟨so_iconst dX7_firstFailure_56 (by decide), up_cst _ _⟩) rfl ?_
  refine na_1 (q := 58) (⟨so_reti dX7_firstFailure_57 rfl, up_reti _⟩) rfl ?_
  exact na_z
