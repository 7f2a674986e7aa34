-- rows: every deed of these methods is sound (written by wip/p56/gen20.py)
theorem hl_50 : np_hls.getD 50 [] = [] := rfl
set_option maxRecDepth 100000 in
set_option maxHeartbeats 4000000 in
theorem ok_50 : nv_all np_M50 50 0 np_c50 := by
  unfold np_c50
  refine na_1 (q := 1) (one_d (so_aload_n (M := np_M50) (pc := 0) dX4_discover_0 rfl) (up_aload _ _)) rfl ?_
  refine na_3 (q := 4) (one_d (so_get (M := np_M50) (pc := 1) kd_2 (k := 0) (by decide) dX4_discover_1 wd_153) (up_get _ _ _)) rfl ?_
  refine na_1 (q := 5) (one_d (so_astore_n (M := np_M50) (pc := 4) dX4_discover_4 rfl (by decide)) (up_astore _ _)) rfl ?_
  refine na_1 (q := 6) (one_d (so_aload_n (M := np_M50) (pc := 5) dX4_discover_5 rfl) (up_aload _ _)) rfl ?_
  refine na_1 (q := 7) (one_d (so_alen (M := np_M50) (pc := 6) dX4_discover_6 (Or.inr (Or.inr (Or.inl ⟨rfl, rfl⟩)))) (up_alen _ _)) rfl ?_
  refine na_1 (q := 8) (one_d (so_istore_n (M := np_M50) (pc := 7) dX4_discover_7 rfl (by decide)) (up_istore _ _)) rfl ?_
  refine na_1 (q := 9) (one_d (so_iconst (M := np_M50) (pc := 8) dX4_discover_8 (by decide)) (up_cst _ _)) rfl ?_
  refine na_1 (q := 10) (one_d (so_istore_n (M := np_M50) (pc := 9) dX4_discover_9 rfl (by decide)) (up_istore _ _)) rfl ?_
  refine na_1 (q := 11) (one_d (so_iload_n (M := np_M50) (pc := 10) dX4_discover_10 rfl) (up_iload _ _)) rfl ?_
  refine na_1 (q := 12) (one_d (so_iload_n (M := np_M50) (pc := 11) dX4_discover_11 rfl) (up_iload _ _)) rfl ?_
  refine na_3 (q := 15) (one_d (so_cge (M := np_M50) (pc := 12) dX4_discover_12 (by decide)) (up_cge _ _)) rfl ?_
  refine na_1 (q := 16) (one_d (so_aload_n (M := np_M50) (pc := 15) dX4_discover_15 rfl) (up_aload _ _)) rfl ?_
  refine na_1 (q := 17) (one_d (so_iload_n (M := np_M50) (pc := 16) dX4_discover_16 rfl) (up_iload _ _)) rfl ?_
  refine na_1 (q := 18) (one_d (so_aldq (M := np_M50) (pc := 17) dX4_discover_17 (Or.inl ⟨rfl, rfl⟩)) (up_aldq _ _)) rfl ?_
  refine na_2 (q := 20) (one_d (so_astore (M := np_M50) (pc := 18) dX4_discover_18 (by decide)) (up_astore _ _)) rfl ?_
  refine na_2 (q := 22) (one_d (so_aload (M := np_M50) (pc := 20) dX4_discover_20) (up_aload _ _)) rfl ?_
  refine na_3 (q := 25) (one_c rfl mq_62 hl_50 rfl (sc_V (M := np_M50) (pc := 22) dX4_discover_22 cw_X4_discover_X6_isAfloat rfl wd_422 wd_423 wd_424 (nv_rcO (ci := 4) rfl))) rfl ?_
  refine na_3 (q := 28) (one_d (so_ifeq (M := np_M50) (pc := 25) dX4_discover_25 (by decide)) (up_ifeq _ _)) rfl ?_
  refine na_1 (q := 29) (one_d (so_aload_n (M := np_M50) (pc := 28) dX4_discover_28 rfl) (up_aload _ _)) rfl ?_
  refine na_2 (q := 31) (one_d (so_aload (M := np_M50) (pc := 29) dX4_discover_29) (up_aload _ _)) rfl ?_
  refine na_3 (q := 34) (one_c rfl mq_51 hl_50 rfl (sc_V (M := np_M50) (pc := 31) dX4_discover_31 cw_X4_discover_X4_isOpponentNear rfl wd_738 wd_740 wd_15 (nv_rcO (ci := 2) rfl))) rfl ?_
  refine na_3 (q := 37) (one_d (so_ifeq (M := np_M50) (pc := 34) dX4_discover_34 (by decide)) (up_ifeq _ _)) rfl ?_
  refine na_2 (q := 39) (one_d (so_aload (M := np_M50) (pc := 37) dX4_discover_37) (up_aload _ _)) rfl ?_
  refine na_3 (q := 42) (one_c rfl mq_68 hl_50 rfl (sc_V (M := np_M50) (pc := 39) dX4_discover_39 cw_X4_discover_X6_becomeKnown rfl wd_430 wd_431 wd_432 (nv_rcO (ci := 4) rfl))) rfl ?_
  refine na_3 (q := 45) (one_d (so_iinc (M := np_M50) (pc := 42) dX4_discover_42 (by decide) (by decide)) (up_iinc _ _ _)) rfl ?_
  refine na_3 (q := 48) (one_d (so_goto (M := np_M50) (pc := 45) dX4_discover_45 (by decide)) (up_goto _)) rfl ?_
  refine na_1 (q := 49) (one_d (so_retv (M := np_M50) (pc := 48) dX4_discover_48 rfl) (up_retv)) rfl ?_
  exact na_z
theorem hl_51 : np_hls.getD 51 [] = [] := rfl
set_option maxRecDepth 100000 in
set_option maxHeartbeats 4000000 in
theorem ok_51 : nv_all np_M51 51 0 np_c51 := by
  unfold np_c51
  refine na_1 (q := 1) (one_d (so_aload_n (M := np_M51) (pc := 0) dX4_isOpponentNear_0 rfl) (up_aload _ _)) rfl ?_
  refine na_3 (q := 4) (one_d (so_get (M := np_M51) (pc := 1) kd_2 (k := 0) (by decide) dX4_isOpponentNear_1 wd_153) (up_get _ _ _)) rfl ?_
  refine na_1 (q := 5) (one_d (so_astore_n (M := np_M51) (pc := 4) dX4_isOpponentNear_4 rfl (by decide)) (up_astore _ _)) rfl ?_
  refine na_1 (q := 6) (one_d (so_aload_n (M := np_M51) (pc := 5) dX4_isOpponentNear_5 rfl) (up_aload _ _)) rfl ?_
  refine na_1 (q := 7) (one_d (so_alen (M := np_M51) (pc := 6) dX4_isOpponentNear_6 (Or.inr (Or.inr (Or.inl ⟨rfl, rfl⟩)))) (up_alen _ _)) rfl ?_
  refine na_1 (q := 8) (one_d (so_istore_n (M := np_M51) (pc := 7) dX4_isOpponentNear_7 rfl (by decide)) (up_istore _ _)) rfl ?_
  refine na_1 (q := 9) (one_d (so_iconst (M := np_M51) (pc := 8) dX4_isOpponentNear_8 (by decide)) (up_cst _ _)) rfl ?_
  refine na_2 (q := 11) (one_d (so_istore (M := np_M51) (pc := 9) dX4_isOpponentNear_9 (by decide)) (up_istore _ _)) rfl ?_
  refine na_2 (q := 13) (one_d (so_iload (M := np_M51) (pc := 11) dX4_isOpponentNear_11) (up_iload _ _)) rfl ?_
  refine na_1 (q := 14) (one_d (so_iload_n (M := np_M51) (pc := 13) dX4_isOpponentNear_13 rfl) (up_iload _ _)) rfl ?_
  refine na_3 (q := 17) (one_d (so_cge (M := np_M51) (pc := 14) dX4_isOpponentNear_14 (by decide)) (up_cge _ _)) rfl ?_
  refine na_1 (q := 18) (one_d (so_aload_n (M := np_M51) (pc := 17) dX4_isOpponentNear_17 rfl) (up_aload _ _)) rfl ?_
  refine na_2 (q := 20) (one_d (so_iload (M := np_M51) (pc := 18) dX4_isOpponentNear_18) (up_iload _ _)) rfl ?_
  refine na_1 (q := 21) (one_d (so_aldq (M := np_M51) (pc := 20) dX4_isOpponentNear_20 (Or.inl ⟨rfl, rfl⟩)) (up_aldq _ _)) rfl ?_
  refine na_2 (q := 23) (one_d (so_astore (M := np_M51) (pc := 21) dX4_isOpponentNear_21 (by decide)) (up_astore _ _)) rfl ?_
  refine na_2 (q := 25) (one_d (so_aload (M := np_M51) (pc := 23) dX4_isOpponentNear_23) (up_aload _ _)) rfl ?_
  refine na_1 (q := 26) (one_d (so_iconst (M := np_M51) (pc := 25) dX4_isOpponentNear_25 (by decide)) (up_cst _ _)) rfl ?_
  refine na_1 (q := 27) (one_d (so_aload_n (M := np_M51) (pc := 26) dX4_isOpponentNear_26 rfl) (up_aload _ _)) rfl ?_
  refine na_3 (q := 30) (one_d (so_getN (M := np_M51) (pc := 27) kd_4 (k := 1) (by decide) dX4_isOpponentNear_27 wd_113) (up_get _ _ _)) rfl ?_
  refine na_1 (q := 31) (one_d (so_isub (M := np_M51) (pc := 30) dX4_isOpponentNear_30) (up_i2 _ _)) rfl ?_
  refine na_3 (q := 34) (one_c rfl mq_63 hl_51 rfl (sc_V (M := np_M51) (pc := 31) dX4_isOpponentNear_31 cw_X4_isOpponentNear_X6_isAfloatOf rfl wd_561 wd_562 wd_563 (nv_rcO (ci := 4) rfl))) rfl ?_
  refine na_3 (q := 37) (one_d (so_ifeq (M := np_M51) (pc := 34) dX4_isOpponentNear_34 (by decide)) (up_ifeq _ _)) rfl ?_
  refine na_2 (q := 39) (one_d (so_aload (M := np_M51) (pc := 37) dX4_isOpponentNear_37) (up_aload _ _)) rfl ?_
  refine na_1 (q := 40) (one_d (so_aload_n (M := np_M51) (pc := 39) dX4_isOpponentNear_39 rfl) (up_aload _ _)) rfl ?_
  refine na_3 (q := 43) (one_d (so_getN (M := np_M51) (pc := 40) kd_4 (k := 2) (by decide) dX4_isOpponentNear_40 wd_116) (up_get _ _ _)) rfl ?_
  refine na_1 (q := 44) (one_d (so_aload_n (M := np_M51) (pc := 43) dX4_isOpponentNear_43 rfl) (up_aload _ _)) rfl ?_
  refine na_3 (q := 47) (one_d (so_getN (M := np_M51) (pc := 44) kd_4 (k := 3) (by decide) dX4_isOpponentNear_44 wd_119) (up_get _ _ _)) rfl ?_
  refine na_3 (q := 50) (one_c rfl mq_65 hl_51 rfl (sc_V (M := np_M51) (pc := 47) dX4_isOpponentNear_47 cw_X4_isOpponentNear_X6_distanceTo rfl wd_742 wd_743 wd_744 (nv_rcO (ci := 4) rfl))) rfl ?_
  refine na_1 (q := 51) (one_d (so_iconst (M := np_M51) (pc := 50) dX4_isOpponentNear_50 (by decide)) (up_cst _ _)) rfl ?_
  refine na_3 (q := 54) (one_d (so_cgt (M := np_M51) (pc := 51) dX4_isOpponentNear_51 (by decide)) (up_cgt _ _)) rfl ?_
  refine na_1 (q := 55) (one_d (so_iconst (M := np_M51) (pc := 54) dX4_isOpponentNear_54 (by decide)) (up_cst _ _)) rfl ?_
  refine na_1 (q := 56) (one_d (so_reti (M := np_M51) (pc := 55) dX4_isOpponentNear_55 rfl) (up_reti _)) rfl ?_
  refine na_3 (q := 59) (one_d (so_iinc (M := np_M51) (pc := 56) dX4_isOpponentNear_56 (by decide) (by decide)) (up_iinc _ _ _)) rfl ?_
  refine na_3 (q := 62) (one_d (so_goto (M := np_M51) (pc := 59) dX4_isOpponentNear_59 (by decide)) (up_goto _)) rfl ?_
  refine na_1 (q := 63) (one_d (so_iconst (M := np_M51) (pc := 62) dX4_isOpponentNear_62 (by decide)) (up_cst _ _)) rfl ?_
  refine na_1 (q := 64) (one_d (so_reti (M := np_M51) (pc := 63) dX4_isOpponentNear_63 rfl) (up_reti _)) rfl ?_
  exact na_z
theorem hl_52 : np_hls.getD 52 [] = [] := rfl
set_option maxRecDepth 100000 in
set_option maxHeartbeats 4000000 in
theorem ok_52 : nv_all np_M52 52 0 np_c52 := by
  unfold np_c52
  refine na_1 (q := 1) (one_d (so_aload_n (M := np_M52) (pc := 0) dX4_shoot_0 rfl) (up_aload _ _)) rfl ?_
  refine na_1 (q := 2) (one_d (so_iload_n (M := np_M52) (pc := 1) dX4_shoot_1 rfl) (up_iload _ _)) rfl ?_
  refine na_3 (q := 5) (one_c rfl mq_28 hl_52 rfl (sc_V (M := np_M52) (pc := 2) dX4_shoot_2 cw_X4_shoot_X4_numbered rfl wd_553 wd_554 wd_555 (nv_rcO (ci := 2) rfl))) rfl ?_
  refine na_2 (q := 7) (one_d (so_astore (M := np_M52) (pc := 5) dX4_shoot_5 (by decide)) (up_astore _ _)) rfl ?_
  refine na_2 (q := 9) (one_d (so_aload (M := np_M52) (pc := 7) dX4_shoot_7) (up_aload _ _)) rfl ?_
  refine na_3 (q := 12) (one_d (so_ifnonnull (M := np_M52) (pc := 9) dX4_shoot_9 (by decide)) (up_ifnonnull _ _)) rfl ?_
  refine na_1 (q := 13) (one_d (so_iconst (M := np_M52) (pc := 12) dX4_shoot_12 (by decide)) (up_cst _ _)) rfl ?_
  refine na_1 (q := 14) (one_d (so_reti (M := np_M52) (pc := 13) dX4_shoot_13 rfl) (up_reti _)) rfl ?_
  refine na_1 (q := 15) (one_d (so_aload_n (M := np_M52) (pc := 14) dX4_shoot_14 rfl) (up_aload _ _)) rfl ?_
  refine na_2 (q := 17) (one_d (so_aload (M := np_M52) (pc := 15) dX4_shoot_15) (up_aload _ _)) rfl ?_
  refine na_1 (q := 18) (one_d (so_iload_n (M := np_M52) (pc := 17) dX4_shoot_17 rfl) (up_iload _ _)) rfl ?_
  refine na_1 (q := 19) (one_d (so_iload_n (M := np_M52) (pc := 18) dX4_shoot_18 rfl) (up_iload _ _)) rfl ?_
  refine na_3 (q := 22) (one_c rfl mq_133 hl_52 rfl (sc_SN (M := np_M52) (pc := 19) dX4_shoot_19 cw_X4_shoot_X7_isOnTray wd_405 wd_406)) rfl ?_
  refine na_3 (q := 25) (one_c rfl mq_55 hl_52 rfl (sc_V (M := np_M52) (pc := 22) dX4_shoot_22 cw_X4_shoot_X4_objectionTo rfl wd_557 wd_559 wd_3 (nv_rcO (ci := 2) rfl))) rfl ?_
  refine na_2 (q := 27) (one_d (so_istore (M := np_M52) (pc := 25) dX4_shoot_25 (by decide)) (up_istore _ _)) rfl ?_
  refine na_2 (q := 29) (one_d (so_iload (M := np_M52) (pc := 27) dX4_shoot_27) (up_iload _ _)) rfl ?_
  refine na_3 (q := 32) (one_d (so_ifeq (M := np_M52) (pc := 29) dX4_shoot_29 (by decide)) (up_ifeq _ _)) rfl ?_
  refine na_2 (q := 34) (one_d (so_iload (M := np_M52) (pc := 32) dX4_shoot_32) (up_iload _ _)) rfl ?_
  refine na_1 (q := 35) (one_d (so_reti (M := np_M52) (pc := 34) dX4_shoot_34 rfl) (up_reti _)) rfl ?_
  refine na_2 (q := 37) (one_d (so_aload (M := np_M52) (pc := 35) dX4_shoot_35) (up_aload _ _)) rfl ?_
  refine na_3 (q := 40) (one_d (so_getN (M := np_M52) (pc := 37) kd_4 (k := 6) (by decide) dX4_shoot_37 wd_128) (up_get _ _ _)) rfl ?_
  refine na_3 (q := 43) (one_d (so_ifne (M := np_M52) (pc := 40) dX4_shoot_40 (by decide)) (up_ifne _ _)) rfl ?_
  refine na_2 (q := 45) (one_d (so_bipush (M := np_M52) (pc := 43) dX4_shoot_43 (by decide)) (up_cst _ _)) rfl ?_
  refine na_1 (q := 46) (one_d (so_reti (M := np_M52) (pc := 45) dX4_shoot_45 rfl) (up_reti _)) rfl ?_
  refine na_2 (q := 48) (one_d (so_aload (M := np_M52) (pc := 46) dX4_shoot_46) (up_aload _ _)) rfl ?_
  refine na_1 (q := 49) (one_d (so_iload_n (M := np_M52) (pc := 48) dX4_shoot_48 rfl) (up_iload _ _)) rfl ?_
  refine na_1 (q := 50) (one_d (so_iload_n (M := np_M52) (pc := 49) dX4_shoot_49 rfl) (up_iload _ _)) rfl ?_
  refine na_3 (q := 53) (one_c rfl mq_66 hl_52 rfl (sc_V (M := np_M52) (pc := 50) dX4_shoot_50 cw_X4_shoot_X6_isInRange rfl wd_752 wd_753 wd_754 (nv_rcO (ci := 4) rfl))) rfl ?_
  refine na_3 (q := 56) (one_d (so_ifne (M := np_M52) (pc := 53) dX4_shoot_53 (by decide)) (up_ifne _ _)) rfl ?_
  refine na_2 (q := 58) (one_d (so_bipush (M := np_M52) (pc := 56) dX4_shoot_56 (by decide)) (up_cst _ _)) rfl ?_
  refine na_1 (q := 59) (one_d (so_reti (M := np_M52) (pc := 58) dX4_shoot_58 rfl) (up_reti _)) rfl ?_
  refine na_2 (q := 61) (one_d (so_aload (M := np_M52) (pc := 59) dX4_shoot_59) (up_aload _ _)) rfl ?_
  refine na_1 (q := 62) (one_d (so_iload_n (M := np_M52) (pc := 61) dX4_shoot_61 rfl) (up_iload _ _)) rfl ?_
  refine na_1 (q := 63) (one_d (so_iload_n (M := np_M52) (pc := 62) dX4_shoot_62 rfl) (up_iload _ _)) rfl ?_
  refine na_3 (q := 66) (one_c rfl mq_67 hl_52 rfl (sc_V (M := np_M52) (pc := 63) dX4_shoot_63 cw_X4_shoot_X6_reaches rfl wd_757 wd_758 wd_759 (nv_rcO (ci := 4) rfl))) rfl ?_
  refine na_3 (q := 69) (one_d (so_ifne (M := np_M52) (pc := 66) dX4_shoot_66 (by decide)) (up_ifne _ _)) rfl ?_
  refine na_2 (q := 71) (one_d (so_bipush (M := np_M52) (pc := 69) dX4_shoot_69 (by decide)) (up_cst _ _)) rfl ?_
  refine na_1 (q := 72) (one_d (so_reti (M := np_M52) (pc := 71) dX4_shoot_71 rfl) (up_reti _)) rfl ?_
  refine na_2 (q := 74) (one_d (so_aload (M := np_M52) (pc := 72) dX4_shoot_72) (up_aload _ _)) rfl ?_
  refine na_1 (q := 75) (one_d (so_dup (M := np_M52) (pc := 74) dX4_shoot_74) (up_dup _)) rfl ?_
  refine na_3 (q := 78) (one_d (so_getN (M := np_M52) (pc := 75) kd_4 (k := 6) (by decide) dX4_shoot_75 wd_128) (up_get _ _ _)) rfl ?_
  refine na_1 (q := 79) (one_d (so_iconst (M := np_M52) (pc := 78) dX4_shoot_78 (by decide)) (up_cst _ _)) rfl ?_
  refine na_1 (q := 80) (one_d (so_isub (M := np_M52) (pc := 79) dX4_shoot_79) (up_i2 _ _)) rfl ?_
  refine na_3 (q := 83) (one_d (so_put (M := np_M52) (pc := 80) kd_4 (k := 6) (by decide) dX4_shoot_80 (Or.inr ⟨_, wd_128⟩) (Or.inl rfl)) (up_put _ _ _ _)) rfl ?_
  refine na_1 (q := 84) (one_d (so_aload_n (M := np_M52) (pc := 83) dX4_shoot_83 rfl) (up_aload _ _)) rfl ?_
  refine na_2 (q := 86) (one_d (so_aload (M := np_M52) (pc := 84) dX4_shoot_84) (up_aload _ _)) rfl ?_
  refine na_3 (q := 89) (one_d (so_getN (M := np_M52) (pc := 86) kd_4 (k := 1) (by decide) dX4_shoot_86 wd_113) (up_get _ _ _)) rfl ?_
  refine na_3 (q := 92) (one_c rfl mq_29 hl_52 rfl (sc_V (M := np_M52) (pc := 89) dX4_shoot_89 cw_X4_shoot_X4_accountOf rfl wd_414 wd_415 wd_416 (nv_rcO (ci := 2) rfl))) rfl ?_
  refine na_1 (q := 93) (one_d (so_dup (M := np_M52) (pc := 92) dX4_shoot_92) (up_dup _)) rfl ?_
  refine na_3 (q := 96) (one_d (so_getN (M := np_M52) (pc := 93) kd_0 (k := 5) (by decide) dX4_shoot_93 wd_82) (up_get _ _ _)) rfl ?_
  refine na_1 (q := 97) (one_d (so_iconst (M := np_M52) (pc := 96) dX4_shoot_96 (by decide)) (up_cst _ _)) rfl ?_
  refine na_1 (q := 98) (one_d (so_iadd (M := np_M52) (pc := 97) dX4_shoot_97) (up_i2 _ _)) rfl ?_
  refine na_3 (q := 101) (one_d (so_put (M := np_M52) (pc := 98) kd_0 (k := 5) (by decide) dX4_shoot_98 (Or.inr ⟨_, wd_82⟩) (Or.inl rfl)) (up_put _ _ _ _)) rfl ?_
  refine na_2 (q := 103) (one_d (so_aload (M := np_M52) (pc := 101) dX4_shoot_101) (up_aload _ _)) rfl ?_
  refine na_3 (q := 106) (one_c rfl mq_68 hl_52 rfl (sc_V (M := np_M52) (pc := 103) dX4_shoot_103 cw_X4_shoot_X6_becomeKnown rfl wd_430 wd_431 wd_432 (nv_rcO (ci := 4) rfl))) rfl ?_
  refine na_1 (q := 107) (one_d (so_aload_n (M := np_M52) (pc := 106) dX4_shoot_106 rfl) (up_aload _ _)) rfl ?_
  refine na_1 (q := 108) (one_d (so_dup (M := np_M52) (pc := 107) dX4_shoot_107) (up_dup _)) rfl ?_
  refine na_3 (q := 111) (one_d (so_get (M := np_M52) (pc := 108) kd_2 (k := 8) (by decide) dX4_shoot_108 wd_166) (up_get _ _ _)) rfl ?_
  refine na_1 (q := 112) (one_d (so_iconst (M := np_M52) (pc := 111) dX4_shoot_111 (by decide)) (up_cst _ _)) rfl ?_
  refine na_1 (q := 113) (one_d (so_iadd (M := np_M52) (pc := 112) dX4_shoot_112) (up_i2 _ _)) rfl ?_
  refine na_3 (q := 116) (one_d (so_put (M := np_M52) (pc := 113) kd_2 (k := 8) (by decide) dX4_shoot_113 (Or.inl wd_166) (Or.inl rfl)) (up_put _ _ _ _)) rfl ?_
  refine na_1 (q := 117) (one_d (so_aload_n (M := np_M52) (pc := 116) dX4_shoot_116 rfl) (up_aload _ _)) rfl ?_
  refine na_1 (q := 118) (one_d (so_dup (M := np_M52) (pc := 117) dX4_shoot_117) (up_dup _)) rfl ?_
  refine na_3 (q := 121) (one_d (so_get (M := np_M52) (pc := 118) kd_2 (k := 6) (by decide) dX4_shoot_118 wd_162) (up_get _ _ _)) rfl ?_
  refine na_1 (q := 122) (one_d (so_iconst (M := np_M52) (pc := 121) dX4_shoot_121 (by decide)) (up_cst _ _)) rfl ?_
  refine na_1 (q := 123) (one_d (so_isub (M := np_M52) (pc := 122) dX4_shoot_122) (up_i2 _ _)) rfl ?_
  refine na_3 (q := 126) (one_d (so_put (M := np_M52) (pc := 123) kd_2 (k := 6) (by decide) dX4_shoot_123 (Or.inl wd_162) (Or.inl rfl)) (up_put _ _ _ _)) rfl ?_
  refine na_1 (q := 127) (one_d (so_aload_n (M := np_M52) (pc := 126) dX4_shoot_126 rfl) (up_aload _ _)) rfl ?_
  refine na_1 (q := 128) (one_d (so_iload_n (M := np_M52) (pc := 127) dX4_shoot_127 rfl) (up_iload _ _)) rfl ?_
  refine na_1 (q := 129) (one_d (so_iload_n (M := np_M52) (pc := 128) dX4_shoot_128 rfl) (up_iload _ _)) rfl ?_
  refine na_3 (q := 132) (one_c rfl mq_32 hl_52 rfl (sc_V (M := np_M52) (pc := 129) dX4_shoot_129 cw_X4_shoot_X4_spoonIn rfl wd_418 wd_419 wd_420 (nv_rcO (ci := 2) rfl))) rfl ?_
  refine na_2 (q := 134) (one_d (so_astore (M := np_M52) (pc := 132) dX4_shoot_132 (by decide)) (up_astore _ _)) rfl ?_
  refine na_2 (q := 136) (one_d (so_aload (M := np_M52) (pc := 134) dX4_shoot_134) (up_aload _ _)) rfl ?_
  refine na_3 (q := 139) (one_d (so_ifnonnull (M := np_M52) (pc := 136) dX4_shoot_136 (by decide)) (up_ifnonnull _ _)) rfl ?_
  refine na_1 (q := 140) (one_d (so_iconst (M := np_M52) (pc := 139) dX4_shoot_139 (by decide)) (up_cst _ _)) rfl ?_
  refine na_3 (q := 143) (one_d (so_goto (M := np_M52) (pc := 140) dX4_shoot_140 (by decide)) (up_goto _)) rfl ?_
  refine na_1 (q := 144) (one_d (so_aload_n (M := np_M52) (pc := 143) dX4_shoot_143 rfl) (up_aload _ _)) rfl ?_
  refine na_2 (q := 146) (one_d (so_aload (M := np_M52) (pc := 144) dX4_shoot_144) (up_aload _ _)) rfl ?_
  refine na_3 (q := 149) (one_c rfl mq_53 hl_52 rfl (sc_V (M := np_M52) (pc := 146) dX4_shoot_146 cw_X4_shoot_X4_hit rfl wd_766 wd_768 wd_16 (nv_rcO (ci := 2) rfl))) rfl ?_
  refine na_1 (q := 150) (one_d (so_reti (M := np_M52) (pc := 149) dX4_shoot_149 rfl) (up_reti _)) rfl ?_
  exact na_z
theorem hl_53 : np_hls.getD 53 [] = [] := rfl
set_option maxRecDepth 100000 in
set_option maxHeartbeats 4000000 in
theorem ok_53 : nv_all np_M53 53 0 np_c53 := by
  unfold np_c53
  refine na_1 (q := 1) (one_d (so_aload_n (M := np_M53) (pc := 0) dX4_hit_0 rfl) (up_aload _ _)) rfl ?_
  refine na_1 (q := 2) (one_d (so_dup (M := np_M53) (pc := 1) dX4_hit_1) (up_dup _)) rfl ?_
  refine na_3 (q := 5) (one_d (so_get (M := np_M53) (pc := 2) kd_2 (k := 9) (by decide) dX4_hit_2 wd_168) (up_get _ _ _)) rfl ?_
  refine na_1 (q := 6) (one_d (so_iconst (M := np_M53) (pc := 5) dX4_hit_5 (by decide)) (up_cst _ _)) rfl ?_
  refine na_1 (q := 7) (one_d (so_iadd (M := np_M53) (pc := 6) dX4_hit_6) (up_i2 _ _)) rfl ?_
  refine na_3 (q := 10) (one_d (so_put (M := np_M53) (pc := 7) kd_2 (k := 9) (by decide) dX4_hit_7 (Or.inl wd_168) (Or.inl rfl)) (up_put _ _ _ _)) rfl ?_
  refine na_1 (q := 11) (one_d (so_aload_n (M := np_M53) (pc := 10) dX4_hit_10 rfl) (up_aload _ _)) rfl ?_
  refine na_1 (q := 12) (one_d (so_dup (M := np_M53) (pc := 11) dX4_hit_11) (up_dup _)) rfl ?_
  refine na_3 (q := 15) (one_d (so_getN (M := np_M53) (pc := 12) kd_4 (k := 5) (by decide) dX4_hit_12 wd_125) (up_get _ _ _)) rfl ?_
  refine na_1 (q := 16) (one_d (so_iconst (M := np_M53) (pc := 15) dX4_hit_15 (by decide)) (up_cst _ _)) rfl ?_
  refine na_1 (q := 17) (one_d (so_isub (M := np_M53) (pc := 16) dX4_hit_16) (up_i2 _ _)) rfl ?_
  refine na_3 (q := 20) (one_d (so_put (M := np_M53) (pc := 17) kd_4 (k := 5) (by decide) dX4_hit_17 (Or.inr ⟨_, wd_125⟩) (Or.inl rfl)) (up_put _ _ _ _)) rfl ?_
  refine na_1 (q := 21) (one_d (so_aload_n (M := np_M53) (pc := 20) dX4_hit_20 rfl) (up_aload _ _)) rfl ?_
  refine na_3 (q := 24) (one_c rfl mq_68 hl_53 rfl (sc_V (M := np_M53) (pc := 21) dX4_hit_21 cw_X4_hit_X6_becomeKnown rfl wd_430 wd_431 wd_432 (nv_rcO (ci := 4) rfl))) rfl ?_
  refine na_1 (q := 25) (one_d (so_aload_n (M := np_M53) (pc := 24) dX4_hit_24 rfl) (up_aload _ _)) rfl ?_
  refine na_3 (q := 28) (one_c rfl mq_62 hl_53 rfl (sc_V (M := np_M53) (pc := 25) dX4_hit_25 cw_X4_hit_X6_isAfloat rfl wd_422 wd_423 wd_424 (nv_rcO (ci := 4) rfl))) rfl ?_
  refine na_3 (q := 31) (one_d (so_ifeq (M := np_M53) (pc := 28) dX4_hit_28 (by decide)) (up_ifeq _ _)) rfl ?_
  refine na_1 (q := 32) (one_d (so_iconst (M := np_M53) (pc := 31) dX4_hit_31 (by decide)) (up_cst _ _)) rfl ?_
  refine na_1 (q := 33) (one_d (so_reti (M := np_M53) (pc := 32) dX4_hit_32 rfl) (up_reti _)) rfl ?_
  refine na_1 (q := 34) (one_d (so_aload_n (M := np_M53) (pc := 33) dX4_hit_33 rfl) (up_aload _ _)) rfl ?_
  refine na_1 (q := 35) (one_d (so_aload_n (M := np_M53) (pc := 34) dX4_hit_34 rfl) (up_aload _ _)) rfl ?_
  refine na_3 (q := 38) (one_d (so_getN (M := np_M53) (pc := 35) kd_4 (k := 1) (by decide) dX4_hit_35 wd_113) (up_get _ _ _)) rfl ?_
  refine na_3 (q := 41) (one_c rfl mq_29 hl_53 rfl (sc_V (M := np_M53) (pc := 38) dX4_hit_38 cw_X4_hit_X4_accountOf rfl wd_414 wd_415 wd_416 (nv_rcO (ci := 2) rfl))) rfl ?_
  refine na_1 (q := 42) (one_d (so_astore_n (M := np_M53) (pc := 41) dX4_hit_41 rfl (by decide)) (up_astore _ _)) rfl ?_
  refine na_1 (q := 43) (one_d (so_aload_n (M := np_M53) (pc := 42) dX4_hit_42 rfl) (up_aload _ _)) rfl ?_
  refine na_1 (q := 44) (one_d (so_dup (M := np_M53) (pc := 43) dX4_hit_43) (up_dup _)) rfl ?_
  refine na_3 (q := 47) (one_d (so_getN (M := np_M53) (pc := 44) kd_0 (k := 1) (by decide) dX4_hit_44 wd_72) (up_get _ _ _)) rfl ?_
  refine na_1 (q := 48) (one_d (so_iconst (M := np_M53) (pc := 47) dX4_hit_47 (by decide)) (up_cst _ _)) rfl ?_
  refine na_1 (q := 49) (one_d (so_isub (M := np_M53) (pc := 48) dX4_hit_48) (up_i2 _ _)) rfl ?_
  refine na_3 (q := 52) (one_d (so_put (M := np_M53) (pc := 49) kd_0 (k := 1) (by decide) dX4_hit_49 (Or.inr ⟨_, wd_72⟩) (Or.inl rfl)) (up_put _ _ _ _)) rfl ?_
  refine na_1 (q := 53) (one_d (so_aload_n (M := np_M53) (pc := 52) dX4_hit_52 rfl) (up_aload _ _)) rfl ?_
  refine na_1 (q := 54) (one_d (so_dup (M := np_M53) (pc := 53) dX4_hit_53) (up_dup _)) rfl ?_
  refine na_3 (q := 57) (one_d (so_getN (M := np_M53) (pc := 54) kd_0 (k := 7) (by decide) dX4_hit_54 wd_86) (up_get _ _ _)) rfl ?_
  refine na_1 (q := 58) (one_d (so_aload_n (M := np_M53) (pc := 57) dX4_hit_57 rfl) (up_aload _ _)) rfl ?_
  refine na_3 (q := 61) (one_d (so_getN (M := np_M53) (pc := 58) kd_4 (k := 6) (by decide) dX4_hit_58 wd_128) (up_get _ _ _)) rfl ?_
  refine na_1 (q := 62) (one_d (so_iadd (M := np_M53) (pc := 61) dX4_hit_61) (up_i2 _ _)) rfl ?_
  refine na_3 (q := 65) (one_d (so_put (M := np_M53) (pc := 62) kd_0 (k := 7) (by decide) dX4_hit_62 (Or.inr ⟨_, wd_86⟩) (Or.inl rfl)) (up_put _ _ _ _)) rfl ?_
  refine na_1 (q := 66) (one_d (so_aload_n (M := np_M53) (pc := 65) dX4_hit_65 rfl) (up_aload _ _)) rfl ?_
  refine na_1 (q := 67) (one_d (so_iconst (M := np_M53) (pc := 66) dX4_hit_66 (by decide)) (up_cst _ _)) rfl ?_
  refine na_3 (q := 70) (one_d (so_put (M := np_M53) (pc := 67) kd_4 (k := 6) (by decide) dX4_hit_67 (Or.inr ⟨_, wd_128⟩) (Or.inl rfl)) (up_put _ _ _ _)) rfl ?_
  refine na_1 (q := 71) (one_d (so_iconst (M := np_M53) (pc := 70) dX4_hit_70 (by decide)) (up_cst _ _)) rfl ?_
  refine na_1 (q := 72) (one_d (so_reti (M := np_M53) (pc := 71) dX4_hit_71 rfl) (up_reti _)) rfl ?_
  exact na_z
theorem hl_54 : np_hls.getD 54 [] = [] := rfl
set_option maxRecDepth 100000 in
set_option maxHeartbeats 4000000 in
theorem ok_54 : nv_all np_M54 54 0 np_c54 := by
  unfold np_c54
  refine na_1 (q := 1) (one_d (so_aload_n (M := np_M54) (pc := 0) dX4_fill_0 rfl) (up_aload _ _)) rfl ?_
  refine na_1 (q := 2) (one_d (so_iload_n (M := np_M54) (pc := 1) dX4_fill_1 rfl) (up_iload _ _)) rfl ?_
  refine na_3 (q := 5) (one_c rfl mq_28 hl_54 rfl (sc_V (M := np_M54) (pc := 2) dX4_fill_2 cw_X4_fill_X4_numbered rfl wd_553 wd_554 wd_555 (nv_rcO (ci := 2) rfl))) rfl ?_
  refine na_1 (q := 6) (one_d (so_astore_n (M := np_M54) (pc := 5) dX4_fill_5 rfl (by decide)) (up_astore _ _)) rfl ?_
  refine na_1 (q := 7) (one_d (so_aload_n (M := np_M54) (pc := 6) dX4_fill_6 rfl) (up_aload _ _)) rfl ?_
  refine na_3 (q := 10) (one_d (so_ifnonnull (M := np_M54) (pc := 7) dX4_fill_7 (by decide)) (up_ifnonnull _ _)) rfl ?_
  refine na_1 (q := 11) (one_d (so_iconst (M := np_M54) (pc := 10) dX4_fill_10 (by decide)) (up_cst _ _)) rfl ?_
  refine na_1 (q := 12) (one_d (so_reti (M := np_M54) (pc := 11) dX4_fill_11 rfl) (up_reti _)) rfl ?_
  refine na_1 (q := 13) (one_d (so_aload_n (M := np_M54) (pc := 12) dX4_fill_12 rfl) (up_aload _ _)) rfl ?_
  refine na_1 (q := 14) (one_d (so_aload_n (M := np_M54) (pc := 13) dX4_fill_13 rfl) (up_aload _ _)) rfl ?_
  refine na_1 (q := 15) (one_d (so_iload_n (M := np_M54) (pc := 14) dX4_fill_14 rfl) (up_iload _ _)) rfl ?_
  refine na_3 (q := 18) (one_c rfl mq_135 hl_54 rfl (sc_SN (M := np_M54) (pc := 15) dX4_fill_15 cw_X4_fill_X7_isCubeNumber wd_411 wd_412)) rfl ?_
  refine na_3 (q := 21) (one_c rfl mq_55 hl_54 rfl (sc_V (M := np_M54) (pc := 18) dX4_fill_18 cw_X4_fill_X4_objectionTo rfl wd_557 wd_559 wd_3 (nv_rcO (ci := 2) rfl))) rfl ?_
  refine na_2 (q := 23) (one_d (so_istore (M := np_M54) (pc := 21) dX4_fill_21 (by decide)) (up_istore _ _)) rfl ?_
  refine na_2 (q := 25) (one_d (so_iload (M := np_M54) (pc := 23) dX4_fill_23) (up_iload _ _)) rfl ?_
  refine na_3 (q := 28) (one_d (so_ifeq (M := np_M54) (pc := 25) dX4_fill_25 (by decide)) (up_ifeq _ _)) rfl ?_
  refine na_2 (q := 30) (one_d (so_iload (M := np_M54) (pc := 28) dX4_fill_28) (up_iload _ _)) rfl ?_
  refine na_1 (q := 31) (one_d (so_reti (M := np_M54) (pc := 30) dX4_fill_30 rfl) (up_reti _)) rfl ?_
  refine na_1 (q := 32) (one_d (so_aload_n (M := np_M54) (pc := 31) dX4_fill_31 rfl) (up_aload _ _)) rfl ?_
  refine na_1 (q := 33) (one_d (so_aload_n (M := np_M54) (pc := 32) dX4_fill_32 rfl) (up_aload _ _)) rfl ?_
  refine na_3 (q := 36) (one_d (so_getN (M := np_M54) (pc := 33) kd_4 (k := 1) (by decide) dX4_fill_33 wd_113) (up_get _ _ _)) rfl ?_
  refine na_3 (q := 39) (one_c rfl mq_29 hl_54 rfl (sc_V (M := np_M54) (pc := 36) dX4_fill_36 cw_X4_fill_X4_accountOf rfl wd_414 wd_415 wd_416 (nv_rcO (ci := 2) rfl))) rfl ?_
  refine na_2 (q := 41) (one_d (so_astore (M := np_M54) (pc := 39) dX4_fill_39 (by decide)) (up_astore _ _)) rfl ?_
  refine na_2 (q := 43) (one_d (so_aload (M := np_M54) (pc := 41) dX4_fill_41) (up_aload _ _)) rfl ?_
  refine na_3 (q := 46) (one_d (so_getN (M := np_M54) (pc := 43) kd_0 (k := 2) (by decide) dX4_fill_43 wd_75) (up_get _ _ _)) rfl ?_
  refine na_1 (q := 47) (one_d (so_iload_n (M := np_M54) (pc := 46) dX4_fill_46 rfl) (up_iload _ _)) rfl ?_
  refine na_3 (q := 50) (one_d (so_clt (M := np_M54) (pc := 47) dX4_fill_47 (by decide)) (up_clt _ _)) rfl ?_
  refine na_1 (q := 51) (one_d (so_aload_n (M := np_M54) (pc := 50) dX4_fill_50 rfl) (up_aload _ _)) rfl ?_
  refine na_3 (q := 54) (one_d (so_getN (M := np_M54) (pc := 51) kd_4 (k := 6) (by decide) dX4_fill_51 wd_128) (up_get _ _ _)) rfl ?_
  refine na_1 (q := 55) (one_d (so_iload_n (M := np_M54) (pc := 54) dX4_fill_54 rfl) (up_iload _ _)) rfl ?_
  refine na_1 (q := 56) (one_d (so_iadd (M := np_M54) (pc := 55) dX4_fill_55) (up_i2 _ _)) rfl ?_
  refine na_2 (q := 58) (one_d (so_bipush (M := np_M54) (pc := 56) dX4_fill_56 (by decide)) (up_cst _ _)) rfl ?_
  refine na_3 (q := 61) (one_d (so_cle (M := np_M54) (pc := 58) dX4_fill_58 (by decide)) (up_cle _ _)) rfl ?_
  refine na_2 (q := 63) (one_d (so_bipush (M := np_M54) (pc := 61) dX4_fill_61 (by decide)) (up_cst _ _)) rfl ?_
  refine na_1 (q := 64) (one_d (so_reti (M := np_M54) (pc := 63) dX4_fill_63 rfl) (up_reti _)) rfl ?_
  refine na_2 (q := 66) (one_d (so_aload (M := np_M54) (pc := 64) dX4_fill_64) (up_aload _ _)) rfl ?_
  refine na_1 (q := 67) (one_d (so_dup (M := np_M54) (pc := 66) dX4_fill_66) (up_dup _)) rfl ?_
  refine na_3 (q := 70) (one_d (so_getN (M := np_M54) (pc := 67) kd_0 (k := 2) (by decide) dX4_fill_67 wd_75) (up_get _ _ _)) rfl ?_
  refine na_1 (q := 71) (one_d (so_iload_n (M := np_M54) (pc := 70) dX4_fill_70 rfl) (up_iload _ _)) rfl ?_
  refine na_1 (q := 72) (one_d (so_isub (M := np_M54) (pc := 71) dX4_fill_71) (up_i2 _ _)) rfl ?_
  refine na_3 (q := 75) (one_d (so_put (M := np_M54) (pc := 72) kd_0 (k := 2) (by decide) dX4_fill_72 (Or.inr ⟨_, wd_75⟩) (Or.inl rfl)) (up_put _ _ _ _)) rfl ?_
  refine na_2 (q := 77) (one_d (so_aload (M := np_M54) (pc := 75) dX4_fill_75) (up_aload _ _)) rfl ?_
  refine na_1 (q := 78) (one_d (so_dup (M := np_M54) (pc := 77) dX4_fill_77) (up_dup _)) rfl ?_
  refine na_3 (q := 81) (one_d (so_getN (M := np_M54) (pc := 78) kd_0 (k := 4) (by decide) dX4_fill_78 wd_80) (up_get _ _ _)) rfl ?_
  refine na_1 (q := 82) (one_d (so_iload_n (M := np_M54) (pc := 81) dX4_fill_81 rfl) (up_iload _ _)) rfl ?_
  refine na_1 (q := 83) (one_d (so_iadd (M := np_M54) (pc := 82) dX4_fill_82) (up_i2 _ _)) rfl ?_
  refine na_3 (q := 86) (one_d (so_put (M := np_M54) (pc := 83) kd_0 (k := 4) (by decide) dX4_fill_83 (Or.inr ⟨_, wd_80⟩) (Or.inl rfl)) (up_put _ _ _ _)) rfl ?_
  refine na_1 (q := 87) (one_d (so_aload_n (M := np_M54) (pc := 86) dX4_fill_86 rfl) (up_aload _ _)) rfl ?_
  refine na_1 (q := 88) (one_d (so_dup (M := np_M54) (pc := 87) dX4_fill_87) (up_dup _)) rfl ?_
  refine na_3 (q := 91) (one_d (so_getN (M := np_M54) (pc := 88) kd_4 (k := 6) (by decide) dX4_fill_88 wd_128) (up_get _ _ _)) rfl ?_
  refine na_1 (q := 92) (one_d (so_iload_n (M := np_M54) (pc := 91) dX4_fill_91 rfl) (up_iload _ _)) rfl ?_
  refine na_1 (q := 93) (one_d (so_iadd (M := np_M54) (pc := 92) dX4_fill_92) (up_i2 _ _)) rfl ?_
  refine na_3 (q := 96) (one_d (so_put (M := np_M54) (pc := 93) kd_4 (k := 6) (by decide) dX4_fill_93 (Or.inr ⟨_, wd_128⟩) (Or.inl rfl)) (up_put _ _ _ _)) rfl ?_
  refine na_1 (q := 97) (one_d (so_aload_n (M := np_M54) (pc := 96) dX4_fill_96 rfl) (up_aload _ _)) rfl ?_
  refine na_1 (q := 98) (one_d (so_dup (M := np_M54) (pc := 97) dX4_fill_97) (up_dup _)) rfl ?_
  refine na_3 (q := 101) (one_d (so_get (M := np_M54) (pc := 98) kd_2 (k := 6) (by decide) dX4_fill_98 wd_162) (up_get _ _ _)) rfl ?_
  refine na_1 (q := 102) (one_d (so_iconst (M := np_M54) (pc := 101) dX4_fill_101 (by decide)) (up_cst _ _)) rfl ?_
  refine na_1 (q := 103) (one_d (so_isub (M := np_M54) (pc := 102) dX4_fill_102) (up_i2 _ _)) rfl ?_
  refine na_3 (q := 106) (one_d (so_put (M := np_M54) (pc := 103) kd_2 (k := 6) (by decide) dX4_fill_103 (Or.inl wd_162) (Or.inl rfl)) (up_put _ _ _ _)) rfl ?_
  refine na_1 (q := 107) (one_d (so_aload_n (M := np_M54) (pc := 106) dX4_fill_106 rfl) (up_aload _ _)) rfl ?_
  refine na_3 (q := 110) (one_d (so_getN (M := np_M54) (pc := 107) kd_4 (k := 6) (by decide) dX4_fill_107 wd_128) (up_get _ _ _)) rfl ?_
  refine na_1 (q := 111) (one_d (so_reti (M := np_M54) (pc := 110) dX4_fill_110 rfl) (up_reti _)) rfl ?_
  exact na_z
theorem hl_55 : np_hls.getD 55 [] = [] := rfl
set_option maxRecDepth 100000 in
set_option maxHeartbeats 4000000 in
theorem ok_55 : nv_all np_M55 55 0 np_c55 := by
  unfold np_c55
  refine na_1 (q := 1) (one_d (so_iload_n (M := np_M55) (pc := 0) dX4_objectionTo_0 rfl) (up_iload _ _)) rfl ?_
  refine na_3 (q := 4) (one_d (so_ifne (M := np_M55) (pc := 1) dX4_objectionTo_1 (by decide)) (up_ifne _ _)) rfl ?_
  refine na_2 (q := 6) (one_d (so_bipush (M := np_M55) (pc := 4) dX4_objectionTo_4 (by decide)) (up_cst _ _)) rfl ?_
  refine na_1 (q := 7) (one_d (so_reti (M := np_M55) (pc := 6) dX4_objectionTo_6 rfl) (up_reti _)) rfl ?_
  refine na_1 (q := 8) (one_d (so_aload_n (M := np_M55) (pc := 7) dX4_objectionTo_7 rfl) (up_aload _ _)) rfl ?_
  refine na_3 (q := 11) (one_c rfl mq_31 hl_55 rfl (sc_V (M := np_M55) (pc := 8) dX4_objectionTo_8 cw_X4_objectionTo_X4_isGoingOn rfl wd_534 wd_535 wd_536 (nv_rcO (ci := 2) rfl))) rfl ?_
  refine na_3 (q := 14) (one_d (so_ifeq (M := np_M55) (pc := 11) dX4_objectionTo_11 (by decide)) (up_ifeq _ _)) rfl ?_
  refine na_1 (q := 15) (one_d (so_aload_n (M := np_M55) (pc := 14) dX4_objectionTo_14 rfl) (up_aload _ _)) rfl ?_
  refine na_1 (q := 16) (one_d (so_aload_n (M := np_M55) (pc := 15) dX4_objectionTo_15 rfl) (up_aload _ _)) rfl ?_
  refine na_3 (q := 19) (one_d (so_get (M := np_M55) (pc := 16) kd_2 (k := 5) (by decide) dX4_objectionTo_16 wd_160) (up_get _ _ _)) rfl ?_
  refine na_3 (q := 22) (one_c rfl mq_63 hl_55 rfl (sc_V (M := np_M55) (pc := 19) dX4_objectionTo_19 cw_X4_objectionTo_X6_isAfloatOf rfl wd_561 wd_562 wd_563 (nv_rcO (ci := 4) rfl))) rfl ?_
  refine na_3 (q := 25) (one_d (so_ifne (M := np_M55) (pc := 22) dX4_objectionTo_22 (by decide)) (up_ifne _ _)) rfl ?_
  refine na_2 (q := 27) (one_d (so_bipush (M := np_M55) (pc := 25) dX4_objectionTo_25 (by decide)) (up_cst _ _)) rfl ?_
  refine na_1 (q := 28) (one_d (so_reti (M := np_M55) (pc := 27) dX4_objectionTo_27 rfl) (up_reti _)) rfl ?_
  refine na_1 (q := 29) (one_d (so_aload_n (M := np_M55) (pc := 28) dX4_objectionTo_28 rfl) (up_aload _ _)) rfl ?_
  refine na_3 (q := 32) (one_d (so_get (M := np_M55) (pc := 29) kd_2 (k := 6) (by decide) dX4_objectionTo_29 wd_162) (up_get _ _ _)) rfl ?_
  refine na_3 (q := 35) (one_d (so_ifne (M := np_M55) (pc := 32) dX4_objectionTo_32 (by decide)) (up_ifne _ _)) rfl ?_
  refine na_2 (q := 37) (one_d (so_bipush (M := np_M55) (pc := 35) dX4_objectionTo_35 (by decide)) (up_cst _ _)) rfl ?_
  refine na_3 (q := 40) (one_d (so_goto (M := np_M55) (pc := 37) dX4_objectionTo_37 (by decide)) (up_goto _)) rfl ?_
  refine na_1 (q := 41) (one_d (so_iconst (M := np_M55) (pc := 40) dX4_objectionTo_40 (by decide)) (up_cst _ _)) rfl ?_
  refine na_1 (q := 42) (one_d (so_reti (M := np_M55) (pc := 41) dX4_objectionTo_41 rfl) (up_reti _)) rfl ?_
  exact na_z
theorem hl_56 : np_hls.getD 56 [] = [] := rfl
set_option maxRecDepth 100000 in
set_option maxHeartbeats 4000000 in
theorem ok_56 : nv_all np_M56 56 0 np_c56 := by
  unfold np_c56
  refine na_1 (q := 1) (one_d (so_aload_n (M := np_M56) (pc := 0) dX5_init_0 rfl) (up_aload _ _)) rfl ?_
  refine na_3 (q := 4) (one_d (so_oinit (M := np_M56) (pc := 1) dX5_init_1 wd_204 wd_53 cd_obj (by decide)) (up_oinit _)) rfl ?_
  refine na_1 (q := 5) (one_d (so_aload_n (M := np_M56) (pc := 4) dX5_init_4 rfl) (up_aload _ _)) rfl ?_
  refine na_2 (q := 7) (one_d (so_bipush (M := np_M56) (pc := 5) dX5_init_5 (by decide)) (up_cst _ _)) rfl ?_
  refine na_3 (q := 10) (one_d (so_newq (M := np_M56) (pc := 7) dX5_init_7 (Or.inr ⟨rfl, rfl⟩) wd_205) (up_newq _ _)) rfl ?_
  refine na_3 (q := 13) (one_d (so_put (M := np_M56) (pc := 10) kd_3 (k := 0) (by decide) dX5_init_10 (Or.inl wd_208) (Or.inr ⟨rfl, rfl, rfl, wd_208⟩)) (up_put _ _ _ _)) rfl ?_
  refine na_1 (q := 14) (one_d (so_aload_n (M := np_M56) (pc := 13) dX5_init_13 rfl) (up_aload _ _)) rfl ?_
  refine na_1 (q := 15) (one_d (so_iconst (M := np_M56) (pc := 14) dX5_init_14 (by decide)) (up_cst _ _)) rfl ?_
  refine na_3 (q := 18) (one_d (so_put (M := np_M56) (pc := 15) kd_3 (k := 1) (by decide) dX5_init_15 (Or.inl wd_209) (Or.inl rfl)) (up_put _ _ _ _)) rfl ?_
  refine na_1 (q := 19) (one_d (so_aload_n (M := np_M56) (pc := 18) dX5_init_18 rfl) (up_aload _ _)) rfl ?_
  refine na_1 (q := 20) (one_d (so_iconst (M := np_M56) (pc := 19) dX5_init_19 (by decide)) (up_cst _ _)) rfl ?_
  refine na_3 (q := 23) (one_d (so_put (M := np_M56) (pc := 20) kd_3 (k := 2) (by decide) dX5_init_20 (Or.inl wd_210) (Or.inl rfl)) (up_put _ _ _ _)) rfl ?_
  refine na_1 (q := 24) (one_d (so_iconst (M := np_M56) (pc := 23) dX5_init_23 (by decide)) (up_cst _ _)) rfl ?_
  refine na_1 (q := 25) (one_d (so_istore_n (M := np_M56) (pc := 24) dX5_init_24 rfl (by decide)) (up_istore _ _)) rfl ?_
  refine na_1 (q := 26) (one_d (so_iload_n (M := np_M56) (pc := 25) dX5_init_25 rfl) (up_iload _ _)) rfl ?_
  refine na_1 (q := 27) (one_d (so_aload_n (M := np_M56) (pc := 26) dX5_init_26 rfl) (up_aload _ _)) rfl ?_
  refine na_3 (q := 30) (one_d (so_get (M := np_M56) (pc := 27) kd_3 (k := 0) (by decide) dX5_init_27 wd_208) (up_get _ _ _)) rfl ?_
  refine na_1 (q := 31) (one_d (so_alen (M := np_M56) (pc := 30) dX5_init_30 (Or.inr (Or.inr (Or.inr ⟨rfl, rfl⟩)))) (up_alen _ _)) rfl ?_
  refine na_3 (q := 34) (one_d (so_cge (M := np_M56) (pc := 31) dX5_init_31 (by decide)) (up_cge _ _)) rfl ?_
  refine na_1 (q := 35) (one_d (so_aload_n (M := np_M56) (pc := 34) dX5_init_34 rfl) (up_aload _ _)) rfl ?_
  refine na_3 (q := 38) (one_d (so_get (M := np_M56) (pc := 35) kd_3 (k := 0) (by decide) dX5_init_35 wd_208) (up_get _ _ _)) rfl ?_
  refine na_1 (q := 39) (one_d (so_iload_n (M := np_M56) (pc := 38) dX5_init_38 rfl) (up_iload _ _)) rfl ?_
  refine na_3 (q := 42) (one_d (so_new (M := np_M56) (pc := 39) kd_2 dX5_init_39 wd_205 wd_56 wd_24 rfl df_2) (up_new _ _ _)) rfl ?_
  refine na_1 (q := 43) (one_d (so_dup (M := np_M56) (pc := 42) dX5_init_42) (up_dup _)) rfl ?_
  refine na_3 (q := 46) (one_c rfl mq_26 hl_56 rfl (sc_I (M := np_M56) (pc := 43) (ci := 2) rfl dX5_init_43 cw_X5_init_X4_init rfl rfl (Or.inl wd_207) wd_58)) rfl ?_
  refine na_1 (q := 47) (one_d (so_astq (M := np_M56) (pc := 46) dX5_init_46 (Or.inr ⟨rfl, rfl⟩) rfl) (up_astq _ _ _)) rfl ?_
  refine na_3 (q := 50) (one_d (so_iinc (M := np_M56) (pc := 47) dX5_init_47 (by decide) (by decide)) (up_iinc _ _ _)) rfl ?_
  refine na_3 (q := 53) (one_d (so_goto (M := np_M56) (pc := 50) dX5_init_50 (by decide)) (up_goto _)) rfl ?_
  refine na_1 (q := 54) (one_d (so_retv (M := np_M56) (pc := 53) dX5_init_53 rfl) (up_retv)) rfl ?_
  exact na_z
theorem hl_57 : np_hls.getD 57 [] = [] := rfl
set_option maxRecDepth 100000 in
set_option maxHeartbeats 4000000 in
theorem ok_57 : nv_all np_M57 57 0 np_c57 := by
  unfold np_c57
  refine na_1 (q := 1) (one_d (so_aload_n (M := np_M57) (pc := 0) dX5_push_0 rfl) (up_aload _ _)) rfl ?_
  refine na_3 (q := 4) (one_d (so_get (M := np_M57) (pc := 1) kd_3 (k := 1) (by decide) dX5_push_1 wd_209) (up_get _ _ _)) rfl ?_
  refine na_3 (q := 7) (one_d (so_iflt (M := np_M57) (pc := 4) dX5_push_4 (by decide)) (up_iflt _ _)) rfl ?_
  refine na_1 (q := 8) (one_d (so_aload_n (M := np_M57) (pc := 7) dX5_push_7 rfl) (up_aload _ _)) rfl ?_
  refine na_3 (q := 11) (one_d (so_get (M := np_M57) (pc := 8) kd_3 (k := 1) (by decide) dX5_push_8 wd_209) (up_get _ _ _)) rfl ?_
  refine na_1 (q := 12) (one_d (so_aload_n (M := np_M57) (pc := 11) dX5_push_11 rfl) (up_aload _ _)) rfl ?_
  refine na_3 (q := 15) (one_d (so_get (M := np_M57) (pc := 12) kd_3 (k := 0) (by decide) dX5_push_12 wd_208) (up_get _ _ _)) rfl ?_
  refine na_1 (q := 16) (one_d (so_alen (M := np_M57) (pc := 15) dX5_push_15 (Or.inr (Or.inr (Or.inr ⟨rfl, rfl⟩)))) (up_alen _ _)) rfl ?_
  refine na_3 (q := 19) (one_d (so_clt (M := np_M57) (pc := 16) dX5_push_16 (by decide)) (up_clt _ _)) rfl ?_
  refine na_1 (q := 20) (one_d (so_retv (M := np_M57) (pc := 19) dX5_push_19 rfl) (up_retv)) rfl ?_
  refine na_1 (q := 21) (one_d (so_aload_n (M := np_M57) (pc := 20) dX5_push_20 rfl) (up_aload _ _)) rfl ?_
  refine na_3 (q := 24) (one_d (so_get (M := np_M57) (pc := 21) kd_3 (k := 0) (by decide) dX5_push_21 wd_208) (up_get _ _ _)) rfl ?_
  refine na_1 (q := 25) (one_d (so_aload_n (M := np_M57) (pc := 24) dX5_push_24 rfl) (up_aload _ _)) rfl ?_
  refine na_3 (q := 28) (one_d (so_get (M := np_M57) (pc := 25) kd_3 (k := 1) (by decide) dX5_push_25 wd_209) (up_get _ _ _)) rfl ?_
  refine na_1 (q := 29) (one_d (so_aldq (M := np_M57) (pc := 28) dX5_push_28 (Or.inr ⟨rfl, rfl⟩)) (up_aldq _ _)) rfl ?_
  refine na_1 (q := 30) (one_d (so_aload_n (M := np_M57) (pc := 29) dX5_push_29 rfl) (up_aload _ _)) rfl ?_
  refine na_3 (q := 33) (one_c rfl mq_27 hl_57 rfl (sc_V (M := np_M57) (pc := 30) dX5_push_30 cw_X5_push_X4_copyFrom rfl wd_442 wd_292 wd_293 (nv_rcO (ci := 2) rfl))) rfl ?_
  refine na_1 (q := 34) (one_d (so_aload_n (M := np_M57) (pc := 33) dX5_push_33 rfl) (up_aload _ _)) rfl ?_
  refine na_1 (q := 35) (one_d (so_aload_n (M := np_M57) (pc := 34) dX5_push_34 rfl) (up_aload _ _)) rfl ?_
  refine na_3 (q := 38) (one_d (so_get (M := np_M57) (pc := 35) kd_3 (k := 1) (by decide) dX5_push_35 wd_209) (up_get _ _ _)) rfl ?_
  refine na_1 (q := 39) (one_d (so_iconst (M := np_M57) (pc := 38) dX5_push_38 (by decide)) (up_cst _ _)) rfl ?_
  refine na_1 (q := 40) (one_d (so_iadd (M := np_M57) (pc := 39) dX5_push_39) (up_i2 _ _)) rfl ?_
  refine na_1 (q := 41) (one_d (so_aload_n (M := np_M57) (pc := 40) dX5_push_40 rfl) (up_aload _ _)) rfl ?_
  refine na_3 (q := 44) (one_d (so_get (M := np_M57) (pc := 41) kd_3 (k := 0) (by decide) dX5_push_41 wd_208) (up_get _ _ _)) rfl ?_
  refine na_1 (q := 45) (one_d (so_alen (M := np_M57) (pc := 44) dX5_push_44 (Or.inr (Or.inr (Or.inr ⟨rfl, rfl⟩)))) (up_alen _ _)) rfl ?_
  refine na_3 (q := 48) (one_d (so_cge (M := np_M57) (pc := 45) dX5_push_45 (by decide)) (up_cge _ _)) rfl ?_
  refine na_1 (q := 49) (one_d (so_aload_n (M := np_M57) (pc := 48) dX5_push_48 rfl) (up_aload _ _)) rfl ?_
  refine na_3 (q := 52) (one_d (so_get (M := np_M57) (pc := 49) kd_3 (k := 1) (by decide) dX5_push_49 wd_209) (up_get _ _ _)) rfl ?_
  refine na_1 (q := 53) (one_d (so_iconst (M := np_M57) (pc := 52) dX5_push_52 (by decide)) (up_cst _ _)) rfl ?_
  refine na_1 (q := 54) (one_d (so_iadd (M := np_M57) (pc := 53) dX5_push_53) (up_i2 _ _)) rfl ?_
  refine na_3 (q := 57) (one_d (so_goto (M := np_M57) (pc := 54) dX5_push_54 (by decide)) (up_goto _)) rfl ?_
  refine na_1 (q := 58) (one_d (so_iconst (M := np_M57) (pc := 57) dX5_push_57 (by decide)) (up_cst _ _)) rfl ?_
  refine na_3 (q := 61) (one_d (so_put (M := np_M57) (pc := 58) kd_3 (k := 1) (by decide) dX5_push_58 (Or.inl wd_209) (Or.inl rfl)) (up_put _ _ _ _)) rfl ?_
  refine na_1 (q := 62) (one_d (so_aload_n (M := np_M57) (pc := 61) dX5_push_61 rfl) (up_aload _ _)) rfl ?_
  refine na_1 (q := 63) (one_d (so_aload_n (M := np_M57) (pc := 62) dX5_push_62 rfl) (up_aload _ _)) rfl ?_
  refine na_3 (q := 66) (one_d (so_get (M := np_M57) (pc := 63) kd_3 (k := 2) (by decide) dX5_push_63 wd_210) (up_get _ _ _)) rfl ?_
  refine na_1 (q := 67) (one_d (so_iconst (M := np_M57) (pc := 66) dX5_push_66 (by decide)) (up_cst _ _)) rfl ?_
  refine na_1 (q := 68) (one_d (so_iadd (M := np_M57) (pc := 67) dX5_push_67) (up_i2 _ _)) rfl ?_
  refine na_1 (q := 69) (one_d (so_aload_n (M := np_M57) (pc := 68) dX5_push_68 rfl) (up_aload _ _)) rfl ?_
  refine na_3 (q := 72) (one_d (so_get (M := np_M57) (pc := 69) kd_3 (k := 0) (by decide) dX5_push_69 wd_208) (up_get _ _ _)) rfl ?_
  refine na_1 (q := 73) (one_d (so_alen (M := np_M57) (pc := 72) dX5_push_72 (Or.inr (Or.inr (Or.inr ⟨rfl, rfl⟩)))) (up_alen _ _)) rfl ?_
  refine na_3 (q := 76) (one_d (so_min (M := np_M57) (pc := 73) dX5_push_73 wd_443 wd_444 wd_37 cd_min (by decide)) (up_min _)) rfl ?_
  refine na_3 (q := 79) (one_d (so_put (M := np_M57) (pc := 76) kd_3 (k := 2) (by decide) dX5_push_76 (Or.inl wd_210) (Or.inl rfl)) (up_put _ _ _ _)) rfl ?_
  refine na_1 (q := 80) (one_d (so_retv (M := np_M57) (pc := 79) dX5_push_79 rfl) (up_retv)) rfl ?_
  exact na_z
theorem hl_58 : np_hls.getD 58 [] = [] := rfl
set_option maxRecDepth 100000 in
set_option maxHeartbeats 4000000 in
theorem ok_58 : nv_all np_M58 58 0 np_c58 := by
  unfold np_c58
  refine na_1 (q := 1) (one_d (so_aload_n (M := np_M58) (pc := 0) dX5_pop_0 rfl) (up_aload _ _)) rfl ?_
  refine na_3 (q := 4) (one_d (so_get (M := np_M58) (pc := 1) kd_3 (k := 1) (by decide) dX5_pop_1 wd_209) (up_get _ _ _)) rfl ?_
  refine na_3 (q := 7) (one_d (so_ifle (M := np_M58) (pc := 4) dX5_pop_4 (by decide)) (up_ifle _ _)) rfl ?_
  refine na_1 (q := 8) (one_d (so_aload_n (M := np_M58) (pc := 7) dX5_pop_7 rfl) (up_aload _ _)) rfl ?_
  refine na_3 (q := 11) (one_d (so_get (M := np_M58) (pc := 8) kd_3 (k := 1) (by decide) dX5_pop_8 wd_209) (up_get _ _ _)) rfl ?_
  refine na_1 (q := 12) (one_d (so_iconst (M := np_M58) (pc := 11) dX5_pop_11 (by decide)) (up_cst _ _)) rfl ?_
  refine na_1 (q := 13) (one_d (so_isub (M := np_M58) (pc := 12) dX5_pop_12) (up_i2 _ _)) rfl ?_
  refine na_3 (q := 16) (one_d (so_goto (M := np_M58) (pc := 13) dX5_pop_13 (by decide)) (up_goto _)) rfl ?_
  refine na_1 (q := 17) (one_d (so_aload_n (M := np_M58) (pc := 16) dX5_pop_16 rfl) (up_aload _ _)) rfl ?_
  refine na_3 (q := 20) (one_d (so_get (M := np_M58) (pc := 17) kd_3 (k := 0) (by decide) dX5_pop_17 wd_208) (up_get _ _ _)) rfl ?_
  refine na_1 (q := 21) (one_d (so_alen (M := np_M58) (pc := 20) dX5_pop_20 (Or.inr (Or.inr (Or.inr ⟨rfl, rfl⟩)))) (up_alen _ _)) rfl ?_
  refine na_1 (q := 22) (one_d (so_iconst (M := np_M58) (pc := 21) dX5_pop_21 (by decide)) (up_cst _ _)) rfl ?_
  refine na_1 (q := 23) (one_d (so_isub (M := np_M58) (pc := 22) dX5_pop_22) (up_i2 _ _)) rfl ?_
  refine na_1 (q := 24) (one_d (so_istore_n (M := np_M58) (pc := 23) dX5_pop_23 rfl (by decide)) (up_istore _ _)) rfl ?_
  refine na_1 (q := 25) (one_d (so_aload_n (M := np_M58) (pc := 24) dX5_pop_24 rfl) (up_aload _ _)) rfl ?_
  refine na_3 (q := 28) (one_d (so_get (M := np_M58) (pc := 25) kd_3 (k := 2) (by decide) dX5_pop_25 wd_210) (up_get _ _ _)) rfl ?_
  refine na_3 (q := 31) (one_d (so_ifeq (M := np_M58) (pc := 28) dX5_pop_28 (by decide)) (up_ifeq _ _)) rfl ?_
  refine na_1 (q := 32) (one_d (so_iload_n (M := np_M58) (pc := 31) dX5_pop_31 rfl) (up_iload _ _)) rfl ?_
  refine na_3 (q := 35) (one_d (so_iflt (M := np_M58) (pc := 32) dX5_pop_32 (by decide)) (up_iflt _ _)) rfl ?_
  refine na_1 (q := 36) (one_d (so_iload_n (M := np_M58) (pc := 35) dX5_pop_35 rfl) (up_iload _ _)) rfl ?_
  refine na_1 (q := 37) (one_d (so_aload_n (M := np_M58) (pc := 36) dX5_pop_36 rfl) (up_aload _ _)) rfl ?_
  refine na_3 (q := 40) (one_d (so_get (M := np_M58) (pc := 37) kd_3 (k := 0) (by decide) dX5_pop_37 wd_208) (up_get _ _ _)) rfl ?_
  refine na_1 (q := 41) (one_d (so_alen (M := np_M58) (pc := 40) dX5_pop_40 (Or.inr (Or.inr (Or.inr ⟨rfl, rfl⟩)))) (up_alen _ _)) rfl ?_
  refine na_3 (q := 44) (one_d (so_clt (M := np_M58) (pc := 41) dX5_pop_41 (by decide)) (up_clt _ _)) rfl ?_
  refine na_1 (q := 45) (one_d (so_iconst (M := np_M58) (pc := 44) dX5_pop_44 (by decide)) (up_cst _ _)) rfl ?_
  refine na_1 (q := 46) (one_d (so_reti (M := np_M58) (pc := 45) dX5_pop_45 rfl) (up_reti _)) rfl ?_
  refine na_1 (q := 47) (one_d (so_aload_n (M := np_M58) (pc := 46) dX5_pop_46 rfl) (up_aload _ _)) rfl ?_
  refine na_1 (q := 48) (one_d (so_aload_n (M := np_M58) (pc := 47) dX5_pop_47 rfl) (up_aload _ _)) rfl ?_
  refine na_3 (q := 51) (one_d (so_get (M := np_M58) (pc := 48) kd_3 (k := 0) (by decide) dX5_pop_48 wd_208) (up_get _ _ _)) rfl ?_
  refine na_1 (q := 52) (one_d (so_iload_n (M := np_M58) (pc := 51) dX5_pop_51 rfl) (up_iload _ _)) rfl ?_
  refine na_1 (q := 53) (one_d (so_aldq (M := np_M58) (pc := 52) dX5_pop_52 (Or.inr ⟨rfl, rfl⟩)) (up_aldq _ _)) rfl ?_
  refine na_3 (q := 56) (one_c rfl mq_27 hl_58 rfl (sc_V (M := np_M58) (pc := 53) dX5_pop_53 cw_X5_pop_X4_copyFrom rfl wd_442 wd_292 wd_293 (nv_rcO (ci := 2) rfl))) rfl ?_
  refine na_1 (q := 57) (one_d (so_aload_n (M := np_M58) (pc := 56) dX5_pop_56 rfl) (up_aload _ _)) rfl ?_
  refine na_1 (q := 58) (one_d (so_iload_n (M := np_M58) (pc := 57) dX5_pop_57 rfl) (up_iload _ _)) rfl ?_
  refine na_3 (q := 61) (one_d (so_put (M := np_M58) (pc := 58) kd_3 (k := 1) (by decide) dX5_pop_58 (Or.inl wd_209) (Or.inl rfl)) (up_put _ _ _ _)) rfl ?_
  refine na_1 (q := 62) (one_d (so_aload_n (M := np_M58) (pc := 61) dX5_pop_61 rfl) (up_aload _ _)) rfl ?_
  refine na_1 (q := 63) (one_d (so_dup (M := np_M58) (pc := 62) dX5_pop_62) (up_dup _)) rfl ?_
  refine na_3 (q := 66) (one_d (so_get (M := np_M58) (pc := 63) kd_3 (k := 2) (by decide) dX5_pop_63 wd_210) (up_get _ _ _)) rfl ?_
  refine na_1 (q := 67) (one_d (so_iconst (M := np_M58) (pc := 66) dX5_pop_66 (by decide)) (up_cst _ _)) rfl ?_
  refine na_1 (q := 68) (one_d (so_isub (M := np_M58) (pc := 67) dX5_pop_67) (up_i2 _ _)) rfl ?_
  refine na_3 (q := 71) (one_d (so_put (M := np_M58) (pc := 68) kd_3 (k := 2) (by decide) dX5_pop_68 (Or.inl wd_210) (Or.inl rfl)) (up_put _ _ _ _)) rfl ?_
  refine na_1 (q := 72) (one_d (so_iconst (M := np_M58) (pc := 71) dX5_pop_71 (by decide)) (up_cst _ _)) rfl ?_
  refine na_1 (q := 73) (one_d (so_reti (M := np_M58) (pc := 72) dX5_pop_72 rfl) (up_reti _)) rfl ?_
  exact na_z
theorem hl_59 : np_hls.getD 59 [] = [] := rfl
set_option maxRecDepth 100000 in
set_option maxHeartbeats 4000000 in
theorem ok_59 : nv_all np_M59 59 0 np_c59 := by
  unfold np_c59
  refine na_1 (q := 1) (one_d (so_aload_n (M := np_M59) (pc := 0) dX5_clear_0 rfl) (up_aload _ _)) rfl ?_
  refine na_1 (q := 2) (one_d (so_iconst (M := np_M59) (pc := 1) dX5_clear_1 (by decide)) (up_cst _ _)) rfl ?_
  refine na_3 (q := 5) (one_d (so_put (M := np_M59) (pc := 2) kd_3 (k := 2) (by decide) dX5_clear_2 (Or.inl wd_210) (Or.inl rfl)) (up_put _ _ _ _)) rfl ?_
  refine na_1 (q := 6) (one_d (so_retv (M := np_M59) (pc := 5) dX5_clear_5 rfl) (up_retv)) rfl ?_
  exact na_z
theorem hl_60 : np_hls.getD 60 [] = [] := rfl
set_option maxRecDepth 100000 in
set_option maxHeartbeats 4000000 in
theorem ok_60 : nv_all np_M60 60 0 np_c60 := by
  unfold np_c60
  refine na_1 (q := 1) (one_d (so_aload_n (M := np_M60) (pc := 0) dX6_init_0 rfl) (up_aload _ _)) rfl ?_
  refine na_3 (q := 4) (one_d (so_oinit (M := np_M60) (pc := 1) dX6_init_1 wd_108 wd_53 cd_obj (by decide)) (up_oinit _)) rfl ?_
  refine na_1 (q := 5) (one_d (so_aload_n (M := np_M60) (pc := 4) dX6_init_4 rfl) (up_aload _ _)) rfl ?_
  refine na_1 (q := 6) (one_d (so_iload_n (M := np_M60) (pc := 5) dX6_init_5 rfl) (up_iload _ _)) rfl ?_
  refine na_3 (q := 9) (one_d (so_put (M := np_M60) (pc := 6) kd_4 (k := 0) (by decide) dX6_init_6 (Or.inl wd_109) (Or.inr ⟨rfl, rfl, rfl, wd_109⟩)) (up_put _ _ _ _)) rfl ?_
  refine na_1 (q := 10) (one_d (so_retv (M := np_M60) (pc := 9) dX6_init_9 rfl) (up_retv)) rfl ?_
  exact na_z
theorem hl_61 : np_hls.getD 61 [] = [] := rfl
set_option maxRecDepth 100000 in
set_option maxHeartbeats 4000000 in
theorem ok_61 : nv_all np_M61 61 0 np_c61 := by
  unfold np_c61
  refine na_1 (q := 1) (one_d (so_aload_n (M := np_M61) (pc := 0) dX6_copyFrom_0 rfl) (up_aload _ _)) rfl ?_
  refine na_1 (q := 2) (one_d (so_aload_n (M := np_M61) (pc := 1) dX6_copyFrom_1 rfl) (up_aload _ _)) rfl ?_
  refine na_3 (q := 5) (one_d (so_get (M := np_M61) (pc := 2) kd_4 (k := 1) (by decide) dX6_copyFrom_2 wd_112) (up_get _ _ _)) rfl ?_
  refine na_3 (q := 8) (one_d (so_put (M := np_M61) (pc := 5) kd_4 (k := 1) (by decide) dX6_copyFrom_5 (Or.inl wd_112) (Or.inl rfl)) (up_put _ _ _ _)) rfl ?_
  refine na_1 (q := 9) (one_d (so_aload_n (M := np_M61) (pc := 8) dX6_copyFrom_8 rfl) (up_aload _ _)) rfl ?_
  refine na_1 (q := 10) (one_d (so_aload_n (M := np_M61) (pc := 9) dX6_copyFrom_9 rfl) (up_aload _ _)) rfl ?_
  refine na_3 (q := 13) (one_d (so_get (M := np_M61) (pc := 10) kd_4 (k := 2) (by decide) dX6_copyFrom_10 wd_115) (up_get _ _ _)) rfl ?_
  refine na_3 (q := 16) (one_d (so_put (M := np_M61) (pc := 13) kd_4 (k := 2) (by decide) dX6_copyFrom_13 (Or.inl wd_115) (Or.inl rfl)) (up_put _ _ _ _)) rfl ?_
  refine na_1 (q := 17) (one_d (so_aload_n (M := np_M61) (pc := 16) dX6_copyFrom_16 rfl) (up_aload _ _)) rfl ?_
  refine na_1 (q := 18) (one_d (so_aload_n (M := np_M61) (pc := 17) dX6_copyFrom_17 rfl) (up_aload _ _)) rfl ?_
  refine na_3 (q := 21) (one_d (so_get (M := np_M61) (pc := 18) kd_4 (k := 3) (by decide) dX6_copyFrom_18 wd_118) (up_get _ _ _)) rfl ?_
  refine na_3 (q := 24) (one_d (so_put (M := np_M61) (pc := 21) kd_4 (k := 3) (by decide) dX6_copyFrom_21 (Or.inl wd_118) (Or.inl rfl)) (up_put _ _ _ _)) rfl ?_
  refine na_1 (q := 25) (one_d (so_aload_n (M := np_M61) (pc := 24) dX6_copyFrom_24 rfl) (up_aload _ _)) rfl ?_
  refine na_1 (q := 26) (one_d (so_aload_n (M := np_M61) (pc := 25) dX6_copyFrom_25 rfl) (up_aload _ _)) rfl ?_
  refine na_3 (q := 29) (one_d (so_get (M := np_M61) (pc := 26) kd_4 (k := 4) (by decide) dX6_copyFrom_26 wd_121) (up_get _ _ _)) rfl ?_
  refine na_3 (q := 32) (one_d (so_put (M := np_M61) (pc := 29) kd_4 (k := 4) (by decide) dX6_copyFrom_29 (Or.inl wd_121) (Or.inl rfl)) (up_put _ _ _ _)) rfl ?_
  refine na_1 (q := 33) (one_d (so_aload_n (M := np_M61) (pc := 32) dX6_copyFrom_32 rfl) (up_aload _ _)) rfl ?_
  refine na_1 (q := 34) (one_d (so_aload_n (M := np_M61) (pc := 33) dX6_copyFrom_33 rfl) (up_aload _ _)) rfl ?_
  refine na_3 (q := 37) (one_d (so_get (M := np_M61) (pc := 34) kd_4 (k := 5) (by decide) dX6_copyFrom_34 wd_124) (up_get _ _ _)) rfl ?_
  refine na_3 (q := 40) (one_d (so_put (M := np_M61) (pc := 37) kd_4 (k := 5) (by decide) dX6_copyFrom_37 (Or.inl wd_124) (Or.inl rfl)) (up_put _ _ _ _)) rfl ?_
  refine na_1 (q := 41) (one_d (so_aload_n (M := np_M61) (pc := 40) dX6_copyFrom_40 rfl) (up_aload _ _)) rfl ?_
  refine na_1 (q := 42) (one_d (so_aload_n (M := np_M61) (pc := 41) dX6_copyFrom_41 rfl) (up_aload _ _)) rfl ?_
  refine na_3 (q := 45) (one_d (so_get (M := np_M61) (pc := 42) kd_4 (k := 6) (by decide) dX6_copyFrom_42 wd_127) (up_get _ _ _)) rfl ?_
  refine na_3 (q := 48) (one_d (so_put (M := np_M61) (pc := 45) kd_4 (k := 6) (by decide) dX6_copyFrom_45 (Or.inl wd_127) (Or.inl rfl)) (up_put _ _ _ _)) rfl ?_
  refine na_1 (q := 49) (one_d (so_aload_n (M := np_M61) (pc := 48) dX6_copyFrom_48 rfl) (up_aload _ _)) rfl ?_
  refine na_1 (q := 50) (one_d (so_aload_n (M := np_M61) (pc := 49) dX6_copyFrom_49 rfl) (up_aload _ _)) rfl ?_
  refine na_3 (q := 53) (one_d (so_get (M := np_M61) (pc := 50) kd_4 (k := 7) (by decide) dX6_copyFrom_50 wd_130) (up_get _ _ _)) rfl ?_
  refine na_3 (q := 56) (one_d (so_put (M := np_M61) (pc := 53) kd_4 (k := 7) (by decide) dX6_copyFrom_53 (Or.inl wd_130) (Or.inl rfl)) (up_put _ _ _ _)) rfl ?_
  refine na_1 (q := 57) (one_d (so_aload_n (M := np_M61) (pc := 56) dX6_copyFrom_56 rfl) (up_aload _ _)) rfl ?_
  refine na_1 (q := 58) (one_d (so_aload_n (M := np_M61) (pc := 57) dX6_copyFrom_57 rfl) (up_aload _ _)) rfl ?_
  refine na_3 (q := 61) (one_d (so_get (M := np_M61) (pc := 58) kd_4 (k := 8) (by decide) dX6_copyFrom_58 wd_132) (up_get _ _ _)) rfl ?_
  refine na_3 (q := 64) (one_d (so_put (M := np_M61) (pc := 61) kd_4 (k := 8) (by decide) dX6_copyFrom_61 (Or.inl wd_132) (Or.inl rfl)) (up_put _ _ _ _)) rfl ?_
  refine na_1 (q := 65) (one_d (so_retv (M := np_M61) (pc := 64) dX6_copyFrom_64 rfl) (up_retv)) rfl ?_
  exact na_z
theorem hl_62 : np_hls.getD 62 [] = [] := rfl
set_option maxRecDepth 100000 in
set_option maxHeartbeats 4000000 in
theorem ok_62 : nv_all np_M62 62 0 np_c62 := by
  unfold np_c62
  refine na_1 (q := 1) (one_d (so_aload_n (M := np_M62) (pc := 0) dX6_isAfloat_0 rfl) (up_aload _ _)) rfl ?_
  refine na_3 (q := 4) (one_d (so_get (M := np_M62) (pc := 1) kd_4 (k := 5) (by decide) dX6_isAfloat_1 wd_124) (up_get _ _ _)) rfl ?_
  refine na_3 (q := 7) (one_d (so_ifle (M := np_M62) (pc := 4) dX6_isAfloat_4 (by decide)) (up_ifle _ _)) rfl ?_
  refine na_1 (q := 8) (one_d (so_iconst (M := np_M62) (pc := 7) dX6_isAfloat_7 (by decide)) (up_cst _ _)) rfl ?_
  refine na_3 (q := 11) (one_d (so_goto (M := np_M62) (pc := 8) dX6_isAfloat_8 (by decide)) (up_goto _)) rfl ?_
  refine na_1 (q := 12) (one_d (so_iconst (M := np_M62) (pc := 11) dX6_isAfloat_11 (by decide)) (up_cst _ _)) rfl ?_
  refine na_1 (q := 13) (one_d (so_reti (M := np_M62) (pc := 12) dX6_isAfloat_12 rfl) (up_reti _)) rfl ?_
  exact na_z
theorem hl_63 : np_hls.getD 63 [] = [] := rfl
set_option maxRecDepth 100000 in
set_option maxHeartbeats 4000000 in
theorem ok_63 : nv_all np_M63 63 0 np_c63 := by
  unfold np_c63
  refine na_1 (q := 1) (one_d (so_aload_n (M := np_M63) (pc := 0) dX6_isAfloatOf_0 rfl) (up_aload _ _)) rfl ?_
  refine na_3 (q := 4) (one_c rfl mq_62 hl_63 rfl (sc_V (M := np_M63) (pc := 1) dX6_isAfloatOf_1 cw_X6_isAfloatOf_X6_isAfloat rfl wd_565 wd_423 wd_424 (nv_rcO (ci := 4) rfl))) rfl ?_
  refine na_3 (q := 7) (one_d (so_ifeq (M := np_M63) (pc := 4) dX6_isAfloatOf_4 (by decide)) (up_ifeq _ _)) rfl ?_
  refine na_1 (q := 8) (one_d (so_aload_n (M := np_M63) (pc := 7) dX6_isAfloatOf_7 rfl) (up_aload _ _)) rfl ?_
  refine na_3 (q := 11) (one_d (so_get (M := np_M63) (pc := 8) kd_4 (k := 1) (by decide) dX6_isAfloatOf_8 wd_112) (up_get _ _ _)) rfl ?_
  refine na_1 (q := 12) (one_d (so_iload_n (M := np_M63) (pc := 11) dX6_isAfloatOf_11 rfl) (up_iload _ _)) rfl ?_
  refine na_3 (q := 15) (one_d (so_cne (M := np_M63) (pc := 12) dX6_isAfloatOf_12 (by decide)) (up_cne _ _)) rfl ?_
  refine na_1 (q := 16) (one_d (so_iconst (M := np_M63) (pc := 15) dX6_isAfloatOf_15 (by decide)) (up_cst _ _)) rfl ?_
  refine na_3 (q := 19) (one_d (so_goto (M := np_M63) (pc := 16) dX6_isAfloatOf_16 (by decide)) (up_goto _)) rfl ?_
  refine na_1 (q := 20) (one_d (so_iconst (M := np_M63) (pc := 19) dX6_isAfloatOf_19 (by decide)) (up_cst _ _)) rfl ?_
  refine na_1 (q := 21) (one_d (so_reti (M := np_M63) (pc := 20) dX6_isAfloatOf_20 rfl) (up_reti _)) rfl ?_
  exact na_z
theorem hl_64 : np_hls.getD 64 [] = [] := rfl
set_option maxRecDepth 100000 in
set_option maxHeartbeats 4000000 in
theorem ok_64 : nv_all np_M64 64 0 np_c64 := by
  unfold np_c64
  refine na_1 (q := 1) (one_d (so_aload_n (M := np_M64) (pc := 0) dX6_isIn_0 rfl) (up_aload _ _)) rfl ?_
  refine na_3 (q := 4) (one_d (so_get (M := np_M64) (pc := 1) kd_4 (k := 2) (by decide) dX6_isIn_1 wd_115) (up_get _ _ _)) rfl ?_
  refine na_1 (q := 5) (one_d (so_iload_n (M := np_M64) (pc := 4) dX6_isIn_4 rfl) (up_iload _ _)) rfl ?_
  refine na_3 (q := 8) (one_d (so_cne (M := np_M64) (pc := 5) dX6_isIn_5 (by decide)) (up_cne _ _)) rfl ?_
  refine na_1 (q := 9) (one_d (so_aload_n (M := np_M64) (pc := 8) dX6_isIn_8 rfl) (up_aload _ _)) rfl ?_
  refine na_3 (q := 12) (one_d (so_get (M := np_M64) (pc := 9) kd_4 (k := 3) (by decide) dX6_isIn_9 wd_118) (up_get _ _ _)) rfl ?_
  refine na_1 (q := 13) (one_d (so_iload_n (M := np_M64) (pc := 12) dX6_isIn_12 rfl) (up_iload _ _)) rfl ?_
  refine na_3 (q := 16) (one_d (so_cne (M := np_M64) (pc := 13) dX6_isIn_13 (by decide)) (up_cne _ _)) rfl ?_
  refine na_1 (q := 17) (one_d (so_iconst (M := np_M64) (pc := 16) dX6_isIn_16 (by decide)) (up_cst _ _)) rfl ?_
  refine na_3 (q := 20) (one_d (so_goto (M := np_M64) (pc := 17) dX6_isIn_17 (by decide)) (up_goto _)) rfl ?_
  refine na_1 (q := 21) (one_d (so_iconst (M := np_M64) (pc := 20) dX6_isIn_20 (by decide)) (up_cst _ _)) rfl ?_
  refine na_1 (q := 22) (one_d (so_reti (M := np_M64) (pc := 21) dX6_isIn_21 rfl) (up_reti _)) rfl ?_
  exact na_z
theorem hl_65 : np_hls.getD 65 [] = [] := rfl
set_option maxRecDepth 100000 in
set_option maxHeartbeats 4000000 in
theorem ok_65 : nv_all np_M65 65 0 np_c65 := by
  unfold np_c65
  refine na_1 (q := 1) (one_d (so_iload_n (M := np_M65) (pc := 0) dX6_distanceTo_0 rfl) (up_iload _ _)) rfl ?_
  refine na_1 (q := 2) (one_d (so_aload_n (M := np_M65) (pc := 1) dX6_distanceTo_1 rfl) (up_aload _ _)) rfl ?_
  refine na_3 (q := 5) (one_d (so_get (M := np_M65) (pc := 2) kd_4 (k := 2) (by decide) dX6_distanceTo_2 wd_115) (up_get _ _ _)) rfl ?_
  refine na_1 (q := 6) (one_d (so_isub (M := np_M65) (pc := 5) dX6_distanceTo_5) (up_i2 _ _)) rfl ?_
  refine na_3 (q := 9) (one_d (so_abs (M := np_M65) (pc := 6) dX6_distanceTo_6 wd_746 wd_570 wd_37 cd_abs (by decide)) (up_abs _)) rfl ?_
  refine na_1 (q := 10) (one_d (so_iload_n (M := np_M65) (pc := 9) dX6_distanceTo_9 rfl) (up_iload _ _)) rfl ?_
  refine na_1 (q := 11) (one_d (so_aload_n (M := np_M65) (pc := 10) dX6_distanceTo_10 rfl) (up_aload _ _)) rfl ?_
  refine na_3 (q := 14) (one_d (so_get (M := np_M65) (pc := 11) kd_4 (k := 3) (by decide) dX6_distanceTo_11 wd_118) (up_get _ _ _)) rfl ?_
  refine na_1 (q := 15) (one_d (so_isub (M := np_M65) (pc := 14) dX6_distanceTo_14) (up_i2 _ _)) rfl ?_
  refine na_3 (q := 18) (one_d (so_abs (M := np_M65) (pc := 15) dX6_distanceTo_15 wd_746 wd_570 wd_37 cd_abs (by decide)) (up_abs _)) rfl ?_
  refine na_3 (q := 21) (one_d (so_max (M := np_M65) (pc := 18) dX6_distanceTo_18 wd_747 wd_678 wd_37 cd_max (by decide)) (up_max _)) rfl ?_
  refine na_1 (q := 22) (one_d (so_reti (M := np_M65) (pc := 21) dX6_distanceTo_21 rfl) (up_reti _)) rfl ?_
  exact na_z
theorem hl_66 : np_hls.getD 66 [] = [] := rfl
set_option maxRecDepth 100000 in
set_option maxHeartbeats 4000000 in
theorem ok_66 : nv_all np_M66 66 0 np_c66 := by
  unfold np_c66
  refine na_1 (q := 1) (one_d (so_aload_n (M := np_M66) (pc := 0) dX6_isInRange_0 rfl) (up_aload _ _)) rfl ?_
  refine na_1 (q := 2) (one_d (so_iload_n (M := np_M66) (pc := 1) dX6_isInRange_1 rfl) (up_iload _ _)) rfl ?_
  refine na_1 (q := 3) (one_d (so_iload_n (M := np_M66) (pc := 2) dX6_isInRange_2 rfl) (up_iload _ _)) rfl ?_
  refine na_3 (q := 6) (one_c rfl mq_65 hl_66 rfl (sc_V (M := np_M66) (pc := 3) dX6_isInRange_3 cw_X6_isInRange_X6_distanceTo rfl wd_756 wd_743 wd_744 (nv_rcO (ci := 4) rfl))) rfl ?_
  refine na_1 (q := 7) (one_d (so_istore_n (M := np_M66) (pc := 6) dX6_isInRange_6 rfl (by decide)) (up_istore _ _)) rfl ?_
  refine na_1 (q := 8) (one_d (so_iload_n (M := np_M66) (pc := 7) dX6_isInRange_7 rfl) (up_iload _ _)) rfl ?_
  refine na_1 (q := 9) (one_d (so_iconst (M := np_M66) (pc := 8) dX6_isInRange_8 (by decide)) (up_cst _ _)) rfl ?_
  refine na_3 (q := 12) (one_d (so_clt (M := np_M66) (pc := 9) dX6_isInRange_9 (by decide)) (up_clt _ _)) rfl ?_
  refine na_1 (q := 13) (one_d (so_iload_n (M := np_M66) (pc := 12) dX6_isInRange_12 rfl) (up_iload _ _)) rfl ?_
  refine na_1 (q := 14) (one_d (so_aload_n (M := np_M66) (pc := 13) dX6_isInRange_13 rfl) (up_aload _ _)) rfl ?_
  refine na_3 (q := 17) (one_d (so_get (M := np_M66) (pc := 14) kd_4 (k := 6) (by decide) dX6_isInRange_14 wd_127) (up_get _ _ _)) rfl ?_
  refine na_3 (q := 20) (one_d (so_cgt (M := np_M66) (pc := 17) dX6_isInRange_17 (by decide)) (up_cgt _ _)) rfl ?_
  refine na_1 (q := 21) (one_d (so_iconst (M := np_M66) (pc := 20) dX6_isInRange_20 (by decide)) (up_cst _ _)) rfl ?_
  refine na_3 (q := 24) (one_d (so_goto (M := np_M66) (pc := 21) dX6_isInRange_21 (by decide)) (up_goto _)) rfl ?_
  refine na_1 (q := 25) (one_d (so_iconst (M := np_M66) (pc := 24) dX6_isInRange_24 (by decide)) (up_cst _ _)) rfl ?_
  refine na_1 (q := 26) (one_d (so_reti (M := np_M66) (pc := 25) dX6_isInRange_25 rfl) (up_reti _)) rfl ?_
  exact na_z
theorem hl_67 : np_hls.getD 67 [] = [] := rfl
set_option maxRecDepth 100000 in
set_option maxHeartbeats 4000000 in
theorem ok_67 : nv_all np_M67 67 0 np_c67 := by
  unfold np_c67
  refine na_1 (q := 1) (one_d (so_aload_n (M := np_M67) (pc := 0) dX6_reaches_0 rfl) (up_aload _ _)) rfl ?_
  refine na_3 (q := 4) (one_c rfl mq_62 hl_67 rfl (sc_V (M := np_M67) (pc := 1) dX6_reaches_1 cw_X6_reaches_X6_isAfloat rfl wd_565 wd_423 wd_424 (nv_rcO (ci := 4) rfl))) rfl ?_
  refine na_3 (q := 7) (one_d (so_ifeq (M := np_M67) (pc := 4) dX6_reaches_4 (by decide)) (up_ifeq _ _)) rfl ?_
  refine na_1 (q := 8) (one_d (so_aload_n (M := np_M67) (pc := 7) dX6_reaches_7 rfl) (up_aload _ _)) rfl ?_
  refine na_1 (q := 9) (one_d (so_iload_n (M := np_M67) (pc := 8) dX6_reaches_8 rfl) (up_iload _ _)) rfl ?_
  refine na_1 (q := 10) (one_d (so_iload_n (M := np_M67) (pc := 9) dX6_reaches_9 rfl) (up_iload _ _)) rfl ?_
  refine na_3 (q := 13) (one_c rfl mq_66 hl_67 rfl (sc_V (M := np_M67) (pc := 10) dX6_reaches_10 cw_X6_reaches_X6_isInRange rfl wd_761 wd_753 wd_754 (nv_rcO (ci := 4) rfl))) rfl ?_
  refine na_3 (q := 16) (one_d (so_ifeq (M := np_M67) (pc := 13) dX6_reaches_13 (by decide)) (up_ifeq _ _)) rfl ?_
  refine na_1 (q := 17) (one_d (so_aload_n (M := np_M67) (pc := 16) dX6_reaches_16 rfl) (up_aload _ _)) rfl ?_
  refine na_3 (q := 20) (one_d (so_get (M := np_M67) (pc := 17) kd_4 (k := 4) (by decide) dX6_reaches_17 wd_121) (up_get _ _ _)) rfl ?_
  refine na_1 (q := 21) (one_d (so_iload_n (M := np_M67) (pc := 20) dX6_reaches_20 rfl) (up_iload _ _)) rfl ?_
  refine na_1 (q := 22) (one_d (so_aload_n (M := np_M67) (pc := 21) dX6_reaches_21 rfl) (up_aload _ _)) rfl ?_
  refine na_3 (q := 25) (one_d (so_get (M := np_M67) (pc := 22) kd_4 (k := 2) (by decide) dX6_reaches_22 wd_115) (up_get _ _ _)) rfl ?_
  refine na_1 (q := 26) (one_d (so_isub (M := np_M67) (pc := 25) dX6_reaches_25) (up_i2 _ _)) rfl ?_
  refine na_1 (q := 27) (one_d (so_iload_n (M := np_M67) (pc := 26) dX6_reaches_26 rfl) (up_iload _ _)) rfl ?_
  refine na_1 (q := 28) (one_d (so_aload_n (M := np_M67) (pc := 27) dX6_reaches_27 rfl) (up_aload _ _)) rfl ?_
  refine na_3 (q := 31) (one_d (so_get (M := np_M67) (pc := 28) kd_4 (k := 3) (by decide) dX6_reaches_28 wd_118) (up_get _ _ _)) rfl ?_
  refine na_1 (q := 32) (one_d (so_isub (M := np_M67) (pc := 31) dX6_reaches_31) (up_i2 _ _)) rfl ?_
  refine na_3 (q := 35) (one_c rfl mq_138 hl_67 rfl (sc_SN (M := np_M67) (pc := 32) dX6_reaches_32 cw_X6_reaches_X7_directionOf wd_762 wd_763)) rfl ?_
  refine na_3 (q := 38) (one_c rfl mq_139 hl_67 rfl (sc_SN (M := np_M67) (pc := 35) dX6_reaches_35 cw_X6_reaches_X7_stepsBetween wd_765 wd_567)) rfl ?_
  refine na_1 (q := 39) (one_d (so_iconst (M := np_M67) (pc := 38) dX6_reaches_38 (by decide)) (up_cst _ _)) rfl ?_
  refine na_3 (q := 42) (one_d (so_cgt (M := np_M67) (pc := 39) dX6_reaches_39 (by decide)) (up_cgt _ _)) rfl ?_
  refine na_1 (q := 43) (one_d (so_iconst (M := np_M67) (pc := 42) dX6_reaches_42 (by decide)) (up_cst _ _)) rfl ?_
  refine na_3 (q := 46) (one_d (so_goto (M := np_M67) (pc := 43) dX6_reaches_43 (by decide)) (up_goto _)) rfl ?_
  refine na_1 (q := 47) (one_d (so_iconst (M := np_M67) (pc := 46) dX6_reaches_46 (by decide)) (up_cst _ _)) rfl ?_
  refine na_1 (q := 48) (one_d (so_reti (M := np_M67) (pc := 47) dX6_reaches_47 rfl) (up_reti _)) rfl ?_
  exact na_z
theorem hl_68 : np_hls.getD 68 [] = [] := rfl
set_option maxRecDepth 100000 in
set_option maxHeartbeats 4000000 in
theorem ok_68 : nv_all np_M68 68 0 np_c68 := by
  unfold np_c68
  refine na_1 (q := 1) (one_d (so_aload_n (M := np_M68) (pc := 0) dX6_becomeKnown_0 rfl) (up_aload _ _)) rfl ?_
  refine na_1 (q := 2) (one_d (so_aload_n (M := np_M68) (pc := 1) dX6_becomeKnown_1 rfl) (up_aload _ _)) rfl ?_
  refine na_3 (q := 5) (one_d (so_get (M := np_M68) (pc := 2) kd_4 (k := 2) (by decide) dX6_becomeKnown_2 wd_115) (up_get _ _ _)) rfl ?_
  refine na_3 (q := 8) (one_d (so_put (M := np_M68) (pc := 5) kd_4 (k := 7) (by decide) dX6_becomeKnown_5 (Or.inl wd_130) (Or.inl rfl)) (up_put _ _ _ _)) rfl ?_
  refine na_1 (q := 9) (one_d (so_aload_n (M := np_M68) (pc := 8) dX6_becomeKnown_8 rfl) (up_aload _ _)) rfl ?_
  refine na_1 (q := 10) (one_d (so_aload_n (M := np_M68) (pc := 9) dX6_becomeKnown_9 rfl) (up_aload _ _)) rfl ?_
  refine na_3 (q := 13) (one_d (so_get (M := np_M68) (pc := 10) kd_4 (k := 3) (by decide) dX6_becomeKnown_10 wd_118) (up_get _ _ _)) rfl ?_
  refine na_3 (q := 16) (one_d (so_put (M := np_M68) (pc := 13) kd_4 (k := 8) (by decide) dX6_becomeKnown_13 (Or.inl wd_132) (Or.inl rfl)) (up_put _ _ _ _)) rfl ?_
  refine na_1 (q := 17) (one_d (so_retv (M := np_M68) (pc := 16) dX6_becomeKnown_16 rfl) (up_retv)) rfl ?_
  exact na_z
theorem hl_69 : np_hls.getD 69 [] = [] := rfl
set_option maxRecDepth 100000 in
set_option maxHeartbeats 4000000 in
theorem ok_69 : nv_all np_M69 69 0 np_c69 := by
  unfold np_c69
  refine na_1 (q := 1) (one_d (so_aload_n (M := np_M69) (pc := 0) dX6_ranksBefore_0 rfl) (up_aload _ _)) rfl ?_
  refine na_3 (q := 4) (one_d (so_get (M := np_M69) (pc := 1) kd_4 (k := 6) (by decide) dX6_ranksBefore_1 wd_127) (up_get _ _ _)) rfl ?_
  refine na_1 (q := 5) (one_d (so_aload_n (M := np_M69) (pc := 4) dX6_ranksBefore_4 rfl) (up_aload _ _)) rfl ?_
  refine na_3 (q := 8) (one_d (so_get (M := np_M69) (pc := 5) kd_4 (k := 6) (by decide) dX6_ranksBefore_5 wd_127) (up_get _ _ _)) rfl ?_
  refine na_3 (q := 11) (one_d (so_ceq (M := np_M69) (pc := 8) dX6_ranksBefore_8 (by decide)) (up_ceq _ _)) rfl ?_
  refine na_1 (q := 12) (one_d (so_aload_n (M := np_M69) (pc := 11) dX6_ranksBefore_11 rfl) (up_aload _ _)) rfl ?_
  refine na_3 (q := 15) (one_d (so_get (M := np_M69) (pc := 12) kd_4 (k := 6) (by decide) dX6_ranksBefore_12 wd_127) (up_get _ _ _)) rfl ?_
  refine na_1 (q := 16) (one_d (so_aload_n (M := np_M69) (pc := 15) dX6_ranksBefore_15 rfl) (up_aload _ _)) rfl ?_
  refine na_3 (q := 19) (one_d (so_get (M := np_M69) (pc := 16) kd_4 (k := 6) (by decide) dX6_ranksBefore_16 wd_127) (up_get _ _ _)) rfl ?_
  refine na_3 (q := 22) (one_d (so_cle (M := np_M69) (pc := 19) dX6_ranksBefore_19 (by decide)) (up_cle _ _)) rfl ?_
  refine na_1 (q := 23) (one_d (so_iconst (M := np_M69) (pc := 22) dX6_ranksBefore_22 (by decide)) (up_cst _ _)) rfl ?_
  refine na_3 (q := 26) (one_d (so_goto (M := np_M69) (pc := 23) dX6_ranksBefore_23 (by decide)) (up_goto _)) rfl ?_
  refine na_1 (q := 27) (one_d (so_iconst (M := np_M69) (pc := 26) dX6_ranksBefore_26 (by decide)) (up_cst _ _)) rfl ?_
  refine na_1 (q := 28) (one_d (so_reti (M := np_M69) (pc := 27) dX6_ranksBefore_27 rfl) (up_reti _)) rfl ?_
  refine na_1 (q := 29) (one_d (so_aload_n (M := np_M69) (pc := 28) dX6_ranksBefore_28 rfl) (up_aload _ _)) rfl ?_
  refine na_3 (q := 32) (one_d (so_get (M := np_M69) (pc := 29) kd_4 (k := 5) (by decide) dX6_ranksBefore_29 wd_124) (up_get _ _ _)) rfl ?_
  refine na_1 (q := 33) (one_d (so_aload_n (M := np_M69) (pc := 32) dX6_ranksBefore_32 rfl) (up_aload _ _)) rfl ?_
  refine na_3 (q := 36) (one_d (so_get (M := np_M69) (pc := 33) kd_4 (k := 5) (by decide) dX6_ranksBefore_33 wd_124) (up_get _ _ _)) rfl ?_
  refine na_3 (q := 39) (one_d (so_ceq (M := np_M69) (pc := 36) dX6_ranksBefore_36 (by decide)) (up_ceq _ _)) rfl ?_
  refine na_1 (q := 40) (one_d (so_aload_n (M := np_M69) (pc := 39) dX6_ranksBefore_39 rfl) (up_aload _ _)) rfl ?_
  refine na_3 (q := 43) (one_d (so_get (M := np_M69) (pc := 40) kd_4 (k := 5) (by decide) dX6_ranksBefore_40 wd_124) (up_get _ _ _)) rfl ?_
  refine na_1 (q := 44) (one_d (so_aload_n (M := np_M69) (pc := 43) dX6_ranksBefore_43 rfl) (up_aload _ _)) rfl ?_
  refine na_3 (q := 47) (one_d (so_get (M := np_M69) (pc := 44) kd_4 (k := 5) (by decide) dX6_ranksBefore_44 wd_124) (up_get _ _ _)) rfl ?_
  refine na_3 (q := 50) (one_d (so_cle (M := np_M69) (pc := 47) dX6_ranksBefore_47 (by decide)) (up_cle _ _)) rfl ?_
  refine na_1 (q := 51) (one_d (so_iconst (M := np_M69) (pc := 50) dX6_ranksBefore_50 (by decide)) (up_cst _ _)) rfl ?_
  refine na_3 (q := 54) (one_d (so_goto (M := np_M69) (pc := 51) dX6_ranksBefore_51 (by decide)) (up_goto _)) rfl ?_
  refine na_1 (q := 55) (one_d (so_iconst (M := np_M69) (pc := 54) dX6_ranksBefore_54 (by decide)) (up_cst _ _)) rfl ?_
  refine na_1 (q := 56) (one_d (so_reti (M := np_M69) (pc := 55) dX6_ranksBefore_55 rfl) (up_reti _)) rfl ?_
  refine na_1 (q := 57) (one_d (so_aload_n (M := np_M69) (pc := 56) dX6_ranksBefore_56 rfl) (up_aload _ _)) rfl ?_
  refine na_3 (q := 60) (one_d (so_get (M := np_M69) (pc := 57) kd_4 (k := 0) (by decide) dX6_ranksBefore_57 wd_109) (up_get _ _ _)) rfl ?_
  refine na_1 (q := 61) (one_d (so_aload_n (M := np_M69) (pc := 60) dX6_ranksBefore_60 rfl) (up_aload _ _)) rfl ?_
  refine na_3 (q := 64) (one_d (so_get (M := np_M69) (pc := 61) kd_4 (k := 0) (by decide) dX6_ranksBefore_61 wd_109) (up_get _ _ _)) rfl ?_
  refine na_3 (q := 67) (one_d (so_cge (M := np_M69) (pc := 64) dX6_ranksBefore_64 (by decide)) (up_cge _ _)) rfl ?_
  refine na_1 (q := 68) (one_d (so_iconst (M := np_M69) (pc := 67) dX6_ranksBefore_67 (by decide)) (up_cst _ _)) rfl ?_
  refine na_3 (q := 71) (one_d (so_goto (M := np_M69) (pc := 68) dX6_ranksBefore_68 (by decide)) (up_goto _)) rfl ?_
  refine na_1 (q := 72) (one_d (so_iconst (M := np_M69) (pc := 71) dX6_ranksBefore_71 (by decide)) (up_cst _ _)) rfl ?_
  refine na_1 (q := 73) (one_d (so_reti (M := np_M69) (pc := 72) dX6_ranksBefore_72 rfl) (up_reti _)) rfl ?_
  exact na_z
theorem hl_70 : np_hls.getD 70 [] = [] := rfl
set_option maxRecDepth 100000 in
set_option maxHeartbeats 4000000 in
theorem ok_70 : nv_all np_M70 70 0 np_c70 := by
  unfold np_c70
  refine na_1 (q := 1) (one_d (so_aload_n (M := np_M70) (pc := 0) dX6_letter_0 rfl) (up_aload _ _)) rfl ?_
  refine na_3 (q := 4) (one_d (so_get (M := np_M70) (pc := 1) kd_4 (k := 1) (by decide) dX6_letter_1 wd_112) (up_get _ _ _)) rfl ?_
  refine na_3 (q := 7) (one_d (so_ifne (M := np_M70) (pc := 4) dX6_letter_4 (by decide)) (up_ifne _ _)) rfl ?_
  refine na_2 (q := 9) (one_d (so_bipush (M := np_M70) (pc := 7) dX6_letter_7 (by decide)) (up_cst _ _)) rfl ?_
  refine na_3 (q := 12) (one_d (so_goto (M := np_M70) (pc := 9) dX6_letter_9 (by decide)) (up_goto _)) rfl ?_
  refine na_2 (q := 14) (one_d (so_bipush (M := np_M70) (pc := 12) dX6_letter_12 (by decide)) (up_cst _ _)) rfl ?_
  refine na_1 (q := 15) (one_d (so_aload_n (M := np_M70) (pc := 14) dX6_letter_14 rfl) (up_aload _ _)) rfl ?_
  refine na_3 (q := 18) (one_d (so_get (M := np_M70) (pc := 15) kd_4 (k := 0) (by decide) dX6_letter_15 wd_109) (up_get _ _ _)) rfl ?_
  refine na_1 (q := 19) (one_d (so_iadd (M := np_M70) (pc := 18) dX6_letter_18) (up_i2 _ _)) rfl ?_
  refine na_1 (q := 20) (one_d (so_i2c (M := np_M70) (pc := 19) dX6_letter_19) (up_i2c _)) rfl ?_
  refine na_1 (q := 21) (one_d (so_reti (M := np_M70) (pc := 20) dX6_letter_20 rfl) (up_reti _)) rfl ?_
  exact na_z
theorem hl_71 : np_hls.getD 71 [] = [] := rfl
set_option maxRecDepth 100000 in
set_option maxHeartbeats 4000000 in
theorem ok_71 : nv_all np_M71 71 0 np_c71 := by
  unfold np_c71
  refine na_1 (q := 1) (one_d (so_aload_n (M := np_M71) (pc := 0) dX7_init_0 rfl) (up_aload _ _)) rfl ?_
  refine na_3 (q := 4) (one_d (so_oinit (M := np_M71) (pc := 1) dX7_init_1 wd_52 wd_53 cd_obj (by decide)) (up_oinit _)) rfl ?_
  refine na_1 (q := 5) (one_d (so_aload_n (M := np_M71) (pc := 4) dX7_init_4 rfl) (up_aload _ _)) rfl ?_
  refine na_3 (q := 8) (one_d (so_new (M := np_M71) (pc := 5) kd_2 dX7_init_5 wd_55 wd_56 wd_24 rfl df_2) (up_new _ _ _)) rfl ?_
  refine na_1 (q := 9) (one_d (so_dup (M := np_M71) (pc := 8) dX7_init_8) (up_dup _)) rfl ?_
  refine na_3 (q := 12) (one_c rfl mq_26 hl_71 rfl (sc_I (M := np_M71) (pc := 9) (ci := 2) rfl dX7_init_9 cw_X7_init_X4_init rfl rfl (Or.inl wd_57) wd_58)) rfl ?_
  refine na_3 (q := 15) (one_d (so_put (M := np_M71) (pc := 12) kd_5 (k := 0) (by decide) dX7_init_12 (Or.inl wd_253) (Or.inr ⟨rfl, rfl, rfl, wd_253⟩)) (up_put _ _ _ _)) rfl ?_
  refine na_1 (q := 16) (one_d (so_aload_n (M := np_M71) (pc := 15) dX7_init_15 rfl) (up_aload _ _)) rfl ?_
  refine na_3 (q := 19) (one_d (so_new (M := np_M71) (pc := 16) kd_2 dX7_init_16 wd_55 wd_56 wd_24 rfl df_2) (up_new _ _ _)) rfl ?_
  refine na_1 (q := 20) (one_d (so_dup (M := np_M71) (pc := 19) dX7_init_19) (up_dup _)) rfl ?_
  refine na_3 (q := 23) (one_c rfl mq_26 hl_71 rfl (sc_I (M := np_M71) (pc := 20) (ci := 2) rfl dX7_init_20 cw_X7_init_X4_init rfl rfl (Or.inl wd_57) wd_58)) rfl ?_
  refine na_3 (q := 26) (one_d (so_put (M := np_M71) (pc := 23) kd_5 (k := 1) (by decide) dX7_init_23 (Or.inl wd_254) (Or.inr ⟨rfl, rfl, rfl, wd_254⟩)) (up_put _ _ _ _)) rfl ?_
  refine na_1 (q := 27) (one_d (so_aload_n (M := np_M71) (pc := 26) dX7_init_26 rfl) (up_aload _ _)) rfl ?_
  refine na_3 (q := 30) (one_d (so_new (M := np_M71) (pc := 27) kd_2 dX7_init_27 wd_55 wd_56 wd_24 rfl df_2) (up_new _ _ _)) rfl ?_
  refine na_1 (q := 31) (one_d (so_dup (M := np_M71) (pc := 30) dX7_init_30) (up_dup _)) rfl ?_
  refine na_3 (q := 34) (one_c rfl mq_26 hl_71 rfl (sc_I (M := np_M71) (pc := 31) (ci := 2) rfl dX7_init_31 cw_X7_init_X4_init rfl rfl (Or.inl wd_57) wd_58)) rfl ?_
  refine na_3 (q := 37) (one_d (so_put (M := np_M71) (pc := 34) kd_5 (k := 2) (by decide) dX7_init_34 (Or.inl wd_255) (Or.inr ⟨rfl, rfl, rfl, wd_255⟩)) (up_put _ _ _ _)) rfl ?_
  refine na_1 (q := 38) (one_d (so_aload_n (M := np_M71) (pc := 37) dX7_init_37 rfl) (up_aload _ _)) rfl ?_
  refine na_3 (q := 41) (one_d (so_new (M := np_M71) (pc := 38) kd_3 dX7_init_38 wd_199 wd_200 wd_27 rfl df_3) (up_new _ _ _)) rfl ?_
  refine na_1 (q := 42) (one_d (so_dup (M := np_M71) (pc := 41) dX7_init_41) (up_dup _)) rfl ?_
  refine na_3 (q := 45) (one_c rfl mq_56 hl_71 rfl (sc_I (M := np_M71) (pc := 42) (ci := 3) rfl dX7_init_42 cw_X7_init_X5_init rfl rfl (Or.inl wd_201) wd_202)) rfl ?_
  refine na_3 (q := 48) (one_d (so_put (M := np_M71) (pc := 45) kd_5 (k := 3) (by decide) dX7_init_45 (Or.inl wd_256) (Or.inr ⟨rfl, rfl, rfl, wd_256⟩)) (up_put _ _ _ _)) rfl ?_
  refine na_1 (q := 49) (one_d (so_aload_n (M := np_M71) (pc := 48) dX7_init_48 rfl) (up_aload _ _)) rfl ?_
  refine na_3 (q := 52) (one_d (so_new (M := np_M71) (pc := 49) kd_1 dX7_init_49 wd_219 wd_220 wd_28 rfl df_1) (up_new _ _ _)) rfl ?_
  refine na_1 (q := 53) (one_d (so_dup (M := np_M71) (pc := 52) dX7_init_52) (up_dup _)) rfl ?_
  refine na_3 (q := 56) (one_c rfl mq_11 hl_71 rfl (sc_I (M := np_M71) (pc := 53) (ci := 1) rfl dX7_init_53 cw_X7_init_X2_init rfl rfl (Or.inr ⟨_, wd_221⟩) wd_222)) rfl ?_
  refine na_3 (q := 59) (one_d (so_put (M := np_M71) (pc := 56) kd_5 (k := 4) (by decide) dX7_init_56 (Or.inl wd_257) (Or.inr ⟨rfl, rfl, rfl, wd_257⟩)) (up_put _ _ _ _)) rfl ?_
  refine na_1 (q := 60) (one_d (so_aload_n (M := np_M71) (pc := 59) dX7_init_59 rfl) (up_aload _ _)) rfl ?_
  refine na_2 (q := 62) (one_d (so_bipush (M := np_M71) (pc := 60) dX7_init_60 (by decide)) (up_cst _ _)) rfl ?_
  refine na_2 (q := 64) (one_d (so_newi (M := np_M71) (pc := 62) (ty := .char) dX7_init_62 rfl (Or.inl ⟨rfl, rfl⟩) wd_251) (up_newi _ _)) rfl ?_
  refine na_3 (q := 67) (one_d (so_put (M := np_M71) (pc := 64) kd_5 (k := 5) (by decide) dX7_init_64 (Or.inl wd_258) (Or.inr ⟨rfl, rfl, rfl, wd_258⟩)) (up_put _ _ _ _)) rfl ?_
  refine na_1 (q := 68) (one_d (so_aload_n (M := np_M71) (pc := 67) dX7_init_67 rfl) (up_aload _ _)) rfl ?_
  refine na_1 (q := 69) (one_d (so_iconst (M := np_M71) (pc := 68) dX7_init_68 (by decide)) (up_cst _ _)) rfl ?_
  refine na_3 (q := 72) (one_d (so_put (M := np_M71) (pc := 69) kd_5 (k := 6) (by decide) dX7_init_69 (Or.inl wd_259) (Or.inl rfl)) (up_put _ _ _ _)) rfl ?_
  refine na_1 (q := 73) (one_d (so_aload_n (M := np_M71) (pc := 72) dX7_init_72 rfl) (up_aload _ _)) rfl ?_
  refine na_1 (q := 74) (one_d (so_iconst (M := np_M71) (pc := 73) dX7_init_73 (by decide)) (up_cst _ _)) rfl ?_
  refine na_3 (q := 77) (one_d (so_put (M := np_M71) (pc := 74) kd_5 (k := 7) (by decide) dX7_init_74 (Or.inl wd_260) (Or.inl rfl)) (up_put _ _ _ _)) rfl ?_
  refine na_1 (q := 78) (one_d (so_aload_n (M := np_M71) (pc := 77) dX7_init_77 rfl) (up_aload _ _)) rfl ?_
  refine na_1 (q := 79) (one_d (so_iconst (M := np_M71) (pc := 78) dX7_init_78 (by decide)) (up_cst _ _)) rfl ?_
  refine na_3 (q := 82) (one_d (so_put (M := np_M71) (pc := 79) kd_5 (k := 8) (by decide) dX7_init_79 (Or.inl wd_261) (Or.inl rfl)) (up_put _ _ _ _)) rfl ?_
  refine na_1 (q := 83) (one_d (so_aload_n (M := np_M71) (pc := 82) dX7_init_82 rfl) (up_aload _ _)) rfl ?_
  refine na_1 (q := 84) (one_d (so_iconst (M := np_M71) (pc := 83) dX7_init_83 (by decide)) (up_cst _ _)) rfl ?_
  refine na_3 (q := 87) (one_d (so_put (M := np_M71) (pc := 84) kd_5 (k := 9) (by decide) dX7_init_84 (Or.inl wd_262) (Or.inl rfl)) (up_put _ _ _ _)) rfl ?_
  refine na_1 (q := 88) (one_d (so_aload_n (M := np_M71) (pc := 87) dX7_init_87 rfl) (up_aload _ _)) rfl ?_
  refine na_1 (q := 89) (one_d (so_iconst (M := np_M71) (pc := 88) dX7_init_88 (by decide)) (up_cst _ _)) rfl ?_
  refine na_3 (q := 92) (one_d (so_put (M := np_M71) (pc := 89) kd_5 (k := 10) (by decide) dX7_init_89 (Or.inl wd_263) (Or.inl rfl)) (up_put _ _ _ _)) rfl ?_
  refine na_1 (q := 93) (one_d (so_retv (M := np_M71) (pc := 92) dX7_init_92 rfl) (up_retv)) rfl ?_
  exact na_z
theorem hl_72 : np_hls.getD 72 [] = [] := rfl
set_option maxRecDepth 100000 in
set_option maxHeartbeats 4000000 in
theorem ok_72 : nv_all np_M72 72 0 np_c72 := by
  unfold np_c72
  refine na_1 (q := 1) (one_d (so_aload_n (M := np_M72) (pc := 0) dX7_addSpoon_0 rfl) (up_aload _ _)) rfl ?_
  refine na_3 (q := 4) (one_d (so_get (M := np_M72) (pc := 1) kd_5 (k := 1) (by decide) dX7_addSpoon_1 wd_254) (up_get _ _ _)) rfl ?_
  refine na_1 (q := 5) (one_d (so_aload_n (M := np_M72) (pc := 4) dX7_addSpoon_4 rfl) (up_aload _ _)) rfl ?_
  refine na_3 (q := 8) (one_d (so_get (M := np_M72) (pc := 5) kd_5 (k := 0) (by decide) dX7_addSpoon_5 wd_253) (up_get _ _ _)) rfl ?_
  refine na_3 (q := 11) (one_c rfl mq_27 hl_72 rfl (sc_V (M := np_M72) (pc := 8) dX7_addSpoon_8 cw_X7_addSpoon_X4_copyFrom rfl wd_291 wd_292 wd_293 (nv_rcO (ci := 2) rfl))) rfl ?_
  refine na_1 (q := 12) (one_d (so_aload_n (M := np_M72) (pc := 11) dX7_addSpoon_11 rfl) (up_aload _ _)) rfl ?_
  refine na_1 (q := 13) (one_d (so_aload_n (M := np_M72) (pc := 12) dX7_addSpoon_12 rfl) (up_aload _ _)) rfl ?_
  refine na_3 (q := 16) (one_d (so_get (M := np_M72) (pc := 13) kd_5 (k := 0) (by decide) dX7_addSpoon_13 wd_253) (up_get _ _ _)) rfl ?_
  refine na_1 (q := 17) (one_d (so_iload_n (M := np_M72) (pc := 16) dX7_addSpoon_16 rfl) (up_iload _ _)) rfl ?_
  refine na_1 (q := 18) (one_d (so_iload_n (M := np_M72) (pc := 17) dX7_addSpoon_17 rfl) (up_iload _ _)) rfl ?_
  refine na_1 (q := 19) (one_d (so_iload_n (M := np_M72) (pc := 18) dX7_addSpoon_18 rfl) (up_iload _ _)) rfl ?_
  refine na_2 (q := 21) (one_d (so_iload (M := np_M72) (pc := 19) dX7_addSpoon_19) (up_iload _ _)) rfl ?_
  refine na_2 (q := 23) (one_d (so_iload (M := np_M72) (pc := 21) dX7_addSpoon_21) (up_iload _ _)) rfl ?_
  refine na_3 (q := 26) (one_c rfl mq_44 hl_72 rfl (sc_V (M := np_M72) (pc := 23) dX7_addSpoon_23 cw_X7_addSpoon_X4_place rfl wd_398 wd_399 wd_400 (nv_rcO (ci := 2) rfl))) rfl ?_
  refine na_3 (q := 29) (one_c rfl mq_123 hl_72 rfl (sc_V (M := np_M72) (pc := 26) dX7_addSpoon_26 cw_X7_addSpoon_X7_concluded rfl wd_434 wd_436 wd_1 (nv_rcO (ci := 5) rfl))) rfl ?_
  refine na_1 (q := 30) (one_d (so_reti (M := np_M72) (pc := 29) dX7_addSpoon_29 rfl) (up_reti _)) rfl ?_
  exact na_z
theorem hl_73 : np_hls.getD 73 [] = [] := rfl
set_option maxRecDepth 100000 in
set_option maxHeartbeats 4000000 in
theorem ok_73 : nv_all np_M73 73 0 np_c73 := by
  unfold np_c73
  refine na_1 (q := 1) (one_d (so_aload_n (M := np_M73) (pc := 0) dX7_start_0 rfl) (up_aload _ _)) rfl ?_
  refine na_3 (q := 4) (one_d (so_get (M := np_M73) (pc := 1) kd_5 (k := 1) (by decide) dX7_start_1 wd_254) (up_get _ _ _)) rfl ?_
  refine na_1 (q := 5) (one_d (so_aload_n (M := np_M73) (pc := 4) dX7_start_4 rfl) (up_aload _ _)) rfl ?_
  refine na_3 (q := 8) (one_d (so_get (M := np_M73) (pc := 5) kd_5 (k := 0) (by decide) dX7_start_5 wd_253) (up_get _ _ _)) rfl ?_
  refine na_3 (q := 11) (one_c rfl mq_27 hl_73 rfl (sc_V (M := np_M73) (pc := 8) dX7_start_8 cw_X7_start_X4_copyFrom rfl wd_291 wd_292 wd_293 (nv_rcO (ci := 2) rfl))) rfl ?_
  refine na_1 (q := 12) (one_d (so_aload_n (M := np_M73) (pc := 11) dX7_start_11 rfl) (up_aload _ _)) rfl ?_
  refine na_1 (q := 13) (one_d (so_aload_n (M := np_M73) (pc := 12) dX7_start_12 rfl) (up_aload _ _)) rfl ?_
  refine na_3 (q := 16) (one_d (so_get (M := np_M73) (pc := 13) kd_5 (k := 0) (by decide) dX7_start_13 wd_253) (up_get _ _ _)) rfl ?_
  refine na_3 (q := 19) (one_c rfl mq_45 hl_73 rfl (sc_V (M := np_M73) (pc := 16) dX7_start_16 cw_X7_start_X4_begin rfl wd_519 wd_520 wd_521 (nv_rcO (ci := 2) rfl))) rfl ?_
  refine na_3 (q := 22) (one_c rfl mq_123 hl_73 rfl (sc_V (M := np_M73) (pc := 19) dX7_start_19 cw_X7_start_X7_concluded rfl wd_434 wd_436 wd_1 (nv_rcO (ci := 5) rfl))) rfl ?_
  refine na_1 (q := 23) (one_d (so_reti (M := np_M73) (pc := 22) dX7_start_22 rfl) (up_reti _)) rfl ?_
  exact na_z
theorem hl_74 : np_hls.getD 74 [] = [] := rfl
set_option maxRecDepth 100000 in
set_option maxHeartbeats 4000000 in
theorem ok_74 : nv_all np_M74 74 0 np_c74 := by
  unfold np_c74
  refine na_1 (q := 1) (one_d (so_aload_n (M := np_M74) (pc := 0) dX7_endTurn_0 rfl) (up_aload _ _)) rfl ?_
  refine na_3 (q := 4) (one_d (so_get (M := np_M74) (pc := 1) kd_5 (k := 1) (by decide) dX7_endTurn_1 wd_254) (up_get _ _ _)) rfl ?_
  refine na_1 (q := 5) (one_d (so_aload_n (M := np_M74) (pc := 4) dX7_endTurn_4 rfl) (up_aload _ _)) rfl ?_
  refine na_3 (q := 8) (one_d (so_get (M := np_M74) (pc := 5) kd_5 (k := 0) (by decide) dX7_endTurn_5 wd_253) (up_get _ _ _)) rfl ?_
  refine na_3 (q := 11) (one_c rfl mq_27 hl_74 rfl (sc_V (M := np_M74) (pc := 8) dX7_endTurn_8 cw_X7_endTurn_X4_copyFrom rfl wd_291 wd_292 wd_293 (nv_rcO (ci := 2) rfl))) rfl ?_
  refine na_1 (q := 12) (one_d (so_aload_n (M := np_M74) (pc := 11) dX7_endTurn_11 rfl) (up_aload _ _)) rfl ?_
  refine na_1 (q := 13) (one_d (so_aload_n (M := np_M74) (pc := 12) dX7_endTurn_12 rfl) (up_aload _ _)) rfl ?_
  refine na_3 (q := 16) (one_d (so_get (M := np_M74) (pc := 13) kd_5 (k := 0) (by decide) dX7_endTurn_13 wd_253) (up_get _ _ _)) rfl ?_
  refine na_3 (q := 19) (one_c rfl mq_46 hl_74 rfl (sc_V (M := np_M74) (pc := 16) dX7_endTurn_16 cw_X7_endTurn_X4_passTurn rfl wd_530 wd_531 wd_532 (nv_rcO (ci := 2) rfl))) rfl ?_
  refine na_3 (q := 22) (one_c rfl mq_123 hl_74 rfl (sc_V (M := np_M74) (pc := 19) dX7_endTurn_19 cw_X7_endTurn_X7_concluded rfl wd_434 wd_436 wd_1 (nv_rcO (ci := 5) rfl))) rfl ?_
  refine na_1 (q := 23) (one_d (so_reti (M := np_M74) (pc := 22) dX7_endTurn_22 rfl) (up_reti _)) rfl ?_
  exact na_z
theorem hl_75 : np_hls.getD 75 [] = [] := rfl
set_option maxRecDepth 100000 in
set_option maxHeartbeats 4000000 in
theorem ok_75 : nv_all np_M75 75 0 np_c75 := by
  unfold np_c75
  refine na_1 (q := 1) (one_d (so_aload_n (M := np_M75) (pc := 0) dX7_isStarted_0 rfl) (up_aload _ _)) rfl ?_
  refine na_3 (q := 4) (one_d (so_get (M := np_M75) (pc := 1) kd_5 (k := 0) (by decide) dX7_isStarted_1 wd_253) (up_get _ _ _)) rfl ?_
  refine na_3 (q := 7) (one_d (so_getN (M := np_M75) (pc := 4) kd_2 (k := 4) (by decide) dX7_isStarted_4 wd_159) (up_get _ _ _)) rfl ?_
  refine na_1 (q := 8) (one_d (so_reti (M := np_M75) (pc := 7) dX7_isStarted_7 rfl) (up_reti _)) rfl ?_
  exact na_z
theorem hl_76 : np_hls.getD 76 [] = [] := rfl
set_option maxRecDepth 100000 in
set_option maxHeartbeats 4000000 in
theorem ok_76 : nv_all np_M76 76 0 np_c76 := by
  unfold np_c76
  refine na_1 (q := 1) (one_d (so_aload_n (M := np_M76) (pc := 0) dX7_isFinished_0 rfl) (up_aload _ _)) rfl ?_
  refine na_3 (q := 4) (one_d (so_get (M := np_M76) (pc := 1) kd_5 (k := 0) (by decide) dX7_isFinished_1 wd_253) (up_get _ _ _)) rfl ?_
  refine na_3 (q := 7) (one_c rfl mq_30 hl_76 rfl (sc_V (M := np_M76) (pc := 4) dX7_isFinished_4 cw_X7_isFinished_X4_isOver rfl wd_957 wd_539 wd_540 (nv_rcO (ci := 2) rfl))) rfl ?_
  refine na_1 (q := 8) (one_d (so_reti (M := np_M76) (pc := 7) dX7_isFinished_7 rfl) (up_reti _)) rfl ?_
  exact na_z
theorem hl_77 : np_hls.getD 77 [] = [] := rfl
set_option maxRecDepth 100000 in
set_option maxHeartbeats 4000000 in
theorem ok_77 : nv_all np_M77 77 0 np_c77 := by
  unfold np_c77
  refine na_1 (q := 1) (one_d (so_aload_n (M := np_M77) (pc := 0) dX7_winner_0 rfl) (up_aload _ _)) rfl ?_
  refine na_3 (q := 4) (one_d (so_get (M := np_M77) (pc := 1) kd_5 (k := 0) (by decide) dX7_winner_1 wd_253) (up_get _ _ _)) rfl ?_
  refine na_3 (q := 7) (one_c rfl mq_30 hl_77 rfl (sc_V (M := np_M77) (pc := 4) dX7_winner_4 cw_X7_winner_X4_isOver rfl wd_957 wd_539 wd_540 (nv_rcO (ci := 2) rfl))) rfl ?_
  refine na_3 (q := 10) (one_d (so_ifne (M := np_M77) (pc := 7) dX7_winner_7 (by decide)) (up_ifne _ _)) rfl ?_
  refine na_3 (q := 13) (st_S (M := np_M77) (pc := 10) rfl rfl (by decide) th_IllegalStateException wd_479 (show (85, "the game is not finished") ∈ nv_msgs by decide) dX7_winner_10 dX7_winner_13 (Or.inl ⟨dX7_winner_14, dX7_winner_16, dX7_winner_19⟩)) rfl ?_
  refine na_n (q := 14) rfl ?_
  refine na_n (q := 15) rfl ?_
  refine na_n (q := 16) rfl ?_
  refine na_n (q := 17) rfl ?_
  refine na_n (q := 18) rfl ?_
  refine na_n (q := 19) rfl ?_
  refine na_n (q := 20) rfl ?_
  refine na_1 (q := 21) (one_d (so_aload_n (M := np_M77) (pc := 20) dX7_winner_20 rfl) (up_aload _ _)) rfl ?_
  refine na_3 (q := 24) (one_d (so_get (M := np_M77) (pc := 21) kd_5 (k := 0) (by decide) dX7_winner_21 wd_253) (up_get _ _ _)) rfl ?_
  refine na_1 (q := 25) (one_d (so_iconst (M := np_M77) (pc := 24) dX7_winner_24 (by decide)) (up_cst _ _)) rfl ?_
  refine na_3 (q := 28) (one_c rfl mq_29 hl_77 rfl (sc_V (M := np_M77) (pc := 25) dX7_winner_25 cw_X7_winner_X4_accountOf rfl wd_926 wd_415 wd_416 (nv_rcO (ci := 2) rfl))) rfl ?_
  refine na_3 (q := 31) (one_d (so_getN (M := np_M77) (pc := 28) kd_0 (k := 1) (by decide) dX7_winner_28 wd_73) (up_get _ _ _)) rfl ?_
  refine na_3 (q := 34) (one_d (so_ifle (M := np_M77) (pc := 31) dX7_winner_31 (by decide)) (up_ifle _ _)) rfl ?_
  refine na_1 (q := 35) (one_d (so_iconst (M := np_M77) (pc := 34) dX7_winner_34 (by decide)) (up_cst _ _)) rfl ?_
  refine na_3 (q := 38) (one_d (so_goto (M := np_M77) (pc := 35) dX7_winner_35 (by decide)) (up_goto _)) rfl ?_
  refine na_1 (q := 39) (one_d (so_iconst (M := np_M77) (pc := 38) dX7_winner_38 (by decide)) (up_cst _ _)) rfl ?_
  refine na_1 (q := 40) (one_d (so_reti (M := np_M77) (pc := 39) dX7_winner_39 rfl) (up_reti _)) rfl ?_
  exact na_z
theorem hl_78 : np_hls.getD 78 [] = [] := rfl
set_option maxRecDepth 100000 in
set_option maxHeartbeats 4000000 in
theorem ok_78 : nv_all np_M78 78 0 np_c78 := by
  unfold np_c78
  refine na_1 (q := 1) (one_d (so_aload_n (M := np_M78) (pc := 0) dX7_activeFleet_0 rfl) (up_aload _ _)) rfl ?_
  refine na_3 (q := 4) (one_c rfl mq_129 hl_78 rfl (sc_V (M := np_M78) (pc := 1) dX7_activeFleet_1 cw_X7_activeFleet_X7_requireGoingOn rfl wd_935 wd_937 wd_19 (nv_rcO (ci := 5) rfl))) rfl ?_
  refine na_1 (q := 5) (one_d (so_aload_n (M := np_M78) (pc := 4) dX7_activeFleet_4 rfl) (up_aload _ _)) rfl ?_
  refine na_3 (q := 8) (one_d (so_get (M := np_M78) (pc := 5) kd_5 (k := 0) (by decide) dX7_activeFleet_5 wd_253) (up_get _ _ _)) rfl ?_
  refine na_3 (q := 11) (one_d (so_getN (M := np_M78) (pc := 8) kd_2 (k := 5) (by decide) dX7_activeFleet_8 wd_161) (up_get _ _ _)) rfl ?_
  refine na_1 (q := 12) (one_d (so_reti (M := np_M78) (pc := 11) dX7_activeFleet_11 rfl) (up_reti _)) rfl ?_
  exact na_z
theorem hl_79 : np_hls.getD 79 [] = [] := rfl
set_option maxRecDepth 100000 in
set_option maxHeartbeats 4000000 in
theorem ok_79 : nv_all np_M79 79 0 np_c79 := by
  unfold np_c79
  refine na_1 (q := 1) (one_d (so_aload_n (M := np_M79) (pc := 0) dX7_actionsLeft_0 rfl) (up_aload _ _)) rfl ?_
  refine na_3 (q := 4) (one_c rfl mq_129 hl_79 rfl (sc_V (M := np_M79) (pc := 1) dX7_actionsLeft_1 cw_X7_actionsLeft_X7_requireGoingOn rfl wd_935 wd_937 wd_19 (nv_rcO (ci := 5) rfl))) rfl ?_
  refine na_1 (q := 5) (one_d (so_aload_n (M := np_M79) (pc := 4) dX7_actionsLeft_4 rfl) (up_aload _ _)) rfl ?_
  refine na_3 (q := 8) (one_d (so_get (M := np_M79) (pc := 5) kd_5 (k := 0) (by decide) dX7_actionsLeft_5 wd_253) (up_get _ _ _)) rfl ?_
  refine na_3 (q := 11) (one_d (so_getN (M := np_M79) (pc := 8) kd_2 (k := 6) (by decide) dX7_actionsLeft_8 wd_163) (up_get _ _ _)) rfl ?_
  refine na_1 (q := 12) (one_d (so_reti (M := np_M79) (pc := 11) dX7_actionsLeft_11 rfl) (up_reti _)) rfl ?_
  exact na_z
theorem hl_80 : np_hls.getD 80 [] = [] := rfl
set_option maxRecDepth 100000 in
set_option maxHeartbeats 4000000 in
theorem ok_80 : nv_all np_M80 80 0 np_c80 := by
  unfold np_c80
  refine na_1 (q := 1) (one_d (so_aload_n (M := np_M80) (pc := 0) dX7_turnCount_0 rfl) (up_aload _ _)) rfl ?_
  refine na_3 (q := 4) (one_d (so_get (M := np_M80) (pc := 1) kd_5 (k := 0) (by decide) dX7_turnCount_1 wd_253) (up_get _ _ _)) rfl ?_
  refine na_3 (q := 7) (one_d (so_getN (M := np_M80) (pc := 4) kd_2 (k := 7) (by decide) dX7_turnCount_4 wd_165) (up_get _ _ _)) rfl ?_
  refine na_1 (q := 8) (one_d (so_reti (M := np_M80) (pc := 7) dX7_turnCount_7 rfl) (up_reti _)) rfl ?_
  exact na_z
theorem hl_81 : np_hls.getD 81 [] = [] := rfl
set_option maxRecDepth 100000 in
set_option maxHeartbeats 4000000 in
theorem ok_81 : nv_all np_M81 81 0 np_c81 := by
  unfold np_c81
  refine na_1 (q := 1) (one_d (so_aload_n (M := np_M81) (pc := 0) dX7_turnTo_0 rfl) (up_aload _ _)) rfl ?_
  refine na_3 (q := 4) (one_d (so_get (M := np_M81) (pc := 1) kd_5 (k := 1) (by decide) dX7_turnTo_1 wd_254) (up_get _ _ _)) rfl ?_
  refine na_1 (q := 5) (one_d (so_aload_n (M := np_M81) (pc := 4) dX7_turnTo_4 rfl) (up_aload _ _)) rfl ?_
  refine na_3 (q := 8) (one_d (so_get (M := np_M81) (pc := 5) kd_5 (k := 0) (by decide) dX7_turnTo_5 wd_253) (up_get _ _ _)) rfl ?_
  refine na_3 (q := 11) (one_c rfl mq_27 hl_81 rfl (sc_V (M := np_M81) (pc := 8) dX7_turnTo_8 cw_X7_turnTo_X4_copyFrom rfl wd_291 wd_292 wd_293 (nv_rcO (ci := 2) rfl))) rfl ?_
  refine na_1 (q := 12) (one_d (so_aload_n (M := np_M81) (pc := 11) dX7_turnTo_11 rfl) (up_aload _ _)) rfl ?_
  refine na_1 (q := 13) (one_d (so_aload_n (M := np_M81) (pc := 12) dX7_turnTo_12 rfl) (up_aload _ _)) rfl ?_
  refine na_3 (q := 16) (one_d (so_get (M := np_M81) (pc := 13) kd_5 (k := 0) (by decide) dX7_turnTo_13 wd_253) (up_get _ _ _)) rfl ?_
  refine na_1 (q := 17) (one_d (so_iload_n (M := np_M81) (pc := 16) dX7_turnTo_16 rfl) (up_iload _ _)) rfl ?_
  refine na_1 (q := 18) (one_d (so_iload_n (M := np_M81) (pc := 17) dX7_turnTo_17 rfl) (up_iload _ _)) rfl ?_
  refine na_3 (q := 21) (one_c rfl mq_47 hl_81 rfl (sc_V (M := np_M81) (pc := 18) dX7_turnTo_18 cw_X7_turnTo_X4_rotate rfl wd_549 wd_550 wd_551 (nv_rcO (ci := 2) rfl))) rfl ?_
  refine na_3 (q := 24) (one_c rfl mq_123 hl_81 rfl (sc_V (M := np_M81) (pc := 21) dX7_turnTo_21 cw_X7_turnTo_X7_concluded rfl wd_434 wd_436 wd_1 (nv_rcO (ci := 5) rfl))) rfl ?_
  refine na_1 (q := 25) (one_d (so_reti (M := np_M81) (pc := 24) dX7_turnTo_24 rfl) (up_reti _)) rfl ?_
  exact na_z
theorem hl_82 : np_hls.getD 82 [] = [] := rfl
set_option maxRecDepth 100000 in
set_option maxHeartbeats 4000000 in
theorem ok_82 : nv_all np_M82 82 0 np_c82 := by
  unfold np_c82
  refine na_1 (q := 1) (one_d (so_aload_n (M := np_M82) (pc := 0) dX7_sail_0 rfl) (up_aload _ _)) rfl ?_
  refine na_3 (q := 4) (one_d (so_get (M := np_M82) (pc := 1) kd_5 (k := 1) (by decide) dX7_sail_1 wd_254) (up_get _ _ _)) rfl ?_
  refine na_1 (q := 5) (one_d (so_aload_n (M := np_M82) (pc := 4) dX7_sail_4 rfl) (up_aload _ _)) rfl ?_
  refine na_3 (q := 8) (one_d (so_get (M := np_M82) (pc := 5) kd_5 (k := 0) (by decide) dX7_sail_5 wd_253) (up_get _ _ _)) rfl ?_
  refine na_3 (q := 11) (one_c rfl mq_27 hl_82 rfl (sc_V (M := np_M82) (pc := 8) dX7_sail_8 cw_X7_sail_X4_copyFrom rfl wd_291 wd_292 wd_293 (nv_rcO (ci := 2) rfl))) rfl ?_
  refine na_1 (q := 12) (one_d (so_aload_n (M := np_M82) (pc := 11) dX7_sail_11 rfl) (up_aload _ _)) rfl ?_
  refine na_1 (q := 13) (one_d (so_aload_n (M := np_M82) (pc := 12) dX7_sail_12 rfl) (up_aload _ _)) rfl ?_
  refine na_3 (q := 16) (one_d (so_get (M := np_M82) (pc := 13) kd_5 (k := 0) (by decide) dX7_sail_13 wd_253) (up_get _ _ _)) rfl ?_
  refine na_1 (q := 17) (one_d (so_iload_n (M := np_M82) (pc := 16) dX7_sail_16 rfl) (up_iload _ _)) rfl ?_
  refine na_1 (q := 18) (one_d (so_iload_n (M := np_M82) (pc := 17) dX7_sail_17 rfl) (up_iload _ _)) rfl ?_
  refine na_1 (q := 19) (one_d (so_iload_n (M := np_M82) (pc := 18) dX7_sail_18 rfl) (up_iload _ _)) rfl ?_
  refine na_3 (q := 22) (one_c rfl mq_48 hl_82 rfl (sc_V (M := np_M82) (pc := 19) dX7_sail_19 cw_X7_sail_X4_move rfl wd_711 wd_712 wd_713 (nv_rcO (ci := 2) rfl))) rfl ?_
  refine na_3 (q := 25) (one_c rfl mq_123 hl_82 rfl (sc_V (M := np_M82) (pc := 22) dX7_sail_22 cw_X7_sail_X7_concluded rfl wd_434 wd_436 wd_1 (nv_rcO (ci := 5) rfl))) rfl ?_
  refine na_1 (q := 26) (one_d (so_reti (M := np_M82) (pc := 25) dX7_sail_25 rfl) (up_reti _)) rfl ?_
  exact na_z
theorem hl_83 : np_hls.getD 83 [] = [] := rfl
set_option maxRecDepth 100000 in
set_option maxHeartbeats 4000000 in
theorem ok_83 : nv_all np_M83 83 0 np_c83 := by
  unfold np_c83
  refine na_1 (q := 1) (one_d (so_aload_n (M := np_M83) (pc := 0) dX7_fire_0 rfl) (up_aload _ _)) rfl ?_
  refine na_3 (q := 4) (one_d (so_get (M := np_M83) (pc := 1) kd_5 (k := 1) (by decide) dX7_fire_1 wd_254) (up_get _ _ _)) rfl ?_
  refine na_1 (q := 5) (one_d (so_aload_n (M := np_M83) (pc := 4) dX7_fire_4 rfl) (up_aload _ _)) rfl ?_
  refine na_3 (q := 8) (one_d (so_get (M := np_M83) (pc := 5) kd_5 (k := 0) (by decide) dX7_fire_5 wd_253) (up_get _ _ _)) rfl ?_
  refine na_3 (q := 11) (one_c rfl mq_27 hl_83 rfl (sc_V (M := np_M83) (pc := 8) dX7_fire_8 cw_X7_fire_X4_copyFrom rfl wd_291 wd_292 wd_293 (nv_rcO (ci := 2) rfl))) rfl ?_
  refine na_1 (q := 12) (one_d (so_aload_n (M := np_M83) (pc := 11) dX7_fire_11 rfl) (up_aload _ _)) rfl ?_
  refine na_1 (q := 13) (one_d (so_aload_n (M := np_M83) (pc := 12) dX7_fire_12 rfl) (up_aload _ _)) rfl ?_
  refine na_3 (q := 16) (one_d (so_get (M := np_M83) (pc := 13) kd_5 (k := 0) (by decide) dX7_fire_13 wd_253) (up_get _ _ _)) rfl ?_
  refine na_1 (q := 17) (one_d (so_iload_n (M := np_M83) (pc := 16) dX7_fire_16 rfl) (up_iload _ _)) rfl ?_
  refine na_1 (q := 18) (one_d (so_iload_n (M := np_M83) (pc := 17) dX7_fire_17 rfl) (up_iload _ _)) rfl ?_
  refine na_1 (q := 19) (one_d (so_iload_n (M := np_M83) (pc := 18) dX7_fire_18 rfl) (up_iload _ _)) rfl ?_
  refine na_3 (q := 22) (one_c rfl mq_52 hl_83 rfl (sc_V (M := np_M83) (pc := 19) dX7_fire_19 cw_X7_fire_X4_shoot rfl wd_748 wd_749 wd_750 (nv_rcO (ci := 2) rfl))) rfl ?_
  refine na_3 (q := 25) (one_c rfl mq_123 hl_83 rfl (sc_V (M := np_M83) (pc := 22) dX7_fire_22 cw_X7_fire_X7_concluded rfl wd_434 wd_436 wd_1 (nv_rcO (ci := 5) rfl))) rfl ?_
  refine na_1 (q := 26) (one_d (so_reti (M := np_M83) (pc := 25) dX7_fire_25 rfl) (up_reti _)) rfl ?_
  exact na_z
theorem hl_84 : np_hls.getD 84 [] = [] := rfl
set_option maxRecDepth 100000 in
set_option maxHeartbeats 4000000 in
theorem ok_84 : nv_all np_M84 84 0 np_c84 := by
  unfold np_c84
  refine na_1 (q := 1) (one_d (so_aload_n (M := np_M84) (pc := 0) dX7_load_0 rfl) (up_aload _ _)) rfl ?_
  refine na_3 (q := 4) (one_d (so_get (M := np_M84) (pc := 1) kd_5 (k := 1) (by decide) dX7_load_1 wd_254) (up_get _ _ _)) rfl ?_
  refine na_1 (q := 5) (one_d (so_aload_n (M := np_M84) (pc := 4) dX7_load_4 rfl) (up_aload _ _)) rfl ?_
  refine na_3 (q := 8) (one_d (so_get (M := np_M84) (pc := 5) kd_5 (k := 0) (by decide) dX7_load_5 wd_253) (up_get _ _ _)) rfl ?_
  refine na_3 (q := 11) (one_c rfl mq_27 hl_84 rfl (sc_V (M := np_M84) (pc := 8) dX7_load_8 cw_X7_load_X4_copyFrom rfl wd_291 wd_292 wd_293 (nv_rcO (ci := 2) rfl))) rfl ?_
  refine na_1 (q := 12) (one_d (so_aload_n (M := np_M84) (pc := 11) dX7_load_11 rfl) (up_aload _ _)) rfl ?_
  refine na_1 (q := 13) (one_d (so_aload_n (M := np_M84) (pc := 12) dX7_load_12 rfl) (up_aload _ _)) rfl ?_
  refine na_3 (q := 16) (one_d (so_get (M := np_M84) (pc := 13) kd_5 (k := 0) (by decide) dX7_load_13 wd_253) (up_get _ _ _)) rfl ?_
  refine na_1 (q := 17) (one_d (so_iload_n (M := np_M84) (pc := 16) dX7_load_16 rfl) (up_iload _ _)) rfl ?_
  refine na_1 (q := 18) (one_d (so_iload_n (M := np_M84) (pc := 17) dX7_load_17 rfl) (up_iload _ _)) rfl ?_
  refine na_3 (q := 21) (one_c rfl mq_54 hl_84 rfl (sc_V (M := np_M84) (pc := 18) dX7_load_18 cw_X7_load_X4_fill rfl wd_580 wd_581 wd_582 (nv_rcO (ci := 2) rfl))) rfl ?_
  refine na_3 (q := 24) (one_c rfl mq_123 hl_84 rfl (sc_V (M := np_M84) (pc := 21) dX7_load_21 cw_X7_load_X7_concluded rfl wd_434 wd_436 wd_1 (nv_rcO (ci := 5) rfl))) rfl ?_
  refine na_1 (q := 25) (one_d (so_reti (M := np_M84) (pc := 24) dX7_load_24 rfl) (up_reti _)) rfl ?_
  exact na_z
theorem hl_85 : np_hls.getD 85 [] = [] := rfl
set_option maxRecDepth 100000 in
set_option maxHeartbeats 4000000 in
theorem ok_85 : nv_all np_M85 85 0 np_c85 := by
  unfold np_c85
  refine na_1 (q := 1) (one_d (so_aload_n (M := np_M85) (pc := 0) dX7_spoonCount_0 rfl) (up_aload _ _)) rfl ?_
  refine na_3 (q := 4) (one_d (so_get (M := np_M85) (pc := 1) kd_5 (k := 0) (by decide) dX7_spoonCount_1 wd_253) (up_get _ _ _)) rfl ?_
  refine na_3 (q := 7) (one_d (so_getN (M := np_M85) (pc := 4) kd_2 (k := 3) (by decide) dX7_spoonCount_4 wd_157) (up_get _ _ _)) rfl ?_
  refine na_1 (q := 8) (one_d (so_reti (M := np_M85) (pc := 7) dX7_spoonCount_7 rfl) (up_reti _)) rfl ?_
  exact na_z
theorem hl_86 : np_hls.getD 86 [] = [] := rfl
set_option maxRecDepth 100000 in
set_option maxHeartbeats 4000000 in
theorem ok_86 : nv_all np_M86 86 0 np_c86 := by
  unfold np_c86
  refine na_1 (q := 1) (one_d (so_aload_n (M := np_M86) (pc := 0) dX7_fleetOf_0 rfl) (up_aload _ _)) rfl ?_
  refine na_1 (q := 2) (one_d (so_iload_n (M := np_M86) (pc := 1) dX7_fleetOf_1 rfl) (up_iload _ _)) rfl ?_
  refine na_3 (q := 5) (one_c rfl mq_127 hl_86 rfl (sc_V (M := np_M86) (pc := 2) dX7_fleetOf_2 cw_X7_fleetOf_X7_existing rfl wd_863 wd_865 wd_18 (nv_rcO (ci := 5) rfl))) rfl ?_
  refine na_3 (q := 8) (one_d (so_getN (M := np_M86) (pc := 5) kd_4 (k := 1) (by decide) dX7_fleetOf_5 wd_114) (up_get _ _ _)) rfl ?_
  refine na_1 (q := 9) (one_d (so_reti (M := np_M86) (pc := 8) dX7_fleetOf_8 rfl) (up_reti _)) rfl ?_
  exact na_z
theorem hl_87 : np_hls.getD 87 [] = [] := rfl
set_option maxRecDepth 100000 in
set_option maxHeartbeats 4000000 in
theorem ok_87 : nv_all np_M87 87 0 np_c87 := by
  unfold np_c87
  refine na_1 (q := 1) (one_d (so_aload_n (M := np_M87) (pc := 0) dX7_xOf_0 rfl) (up_aload _ _)) rfl ?_
  refine na_1 (q := 2) (one_d (so_iload_n (M := np_M87) (pc := 1) dX7_xOf_1 rfl) (up_iload _ _)) rfl ?_
  refine na_3 (q := 5) (one_c rfl mq_128 hl_87 rfl (sc_V (M := np_M87) (pc := 2) dX7_xOf_2 cw_X7_xOf_X7_existingAfloat rfl wd_859 wd_861 wd_17 (nv_rcO (ci := 5) rfl))) rfl ?_
  refine na_3 (q := 8) (one_d (so_getN (M := np_M87) (pc := 5) kd_4 (k := 2) (by decide) dX7_xOf_5 wd_117) (up_get _ _ _)) rfl ?_
  refine na_1 (q := 9) (one_d (so_reti (M := np_M87) (pc := 8) dX7_xOf_8 rfl) (up_reti _)) rfl ?_
  exact na_z
theorem hl_88 : np_hls.getD 88 [] = [] := rfl
set_option maxRecDepth 100000 in
set_option maxHeartbeats 4000000 in
theorem ok_88 : nv_all np_M88 88 0 np_c88 := by
  unfold np_c88
  refine na_1 (q := 1) (one_d (so_aload_n (M := np_M88) (pc := 0) dX7_yOf_0 rfl) (up_aload _ _)) rfl ?_
  refine na_1 (q := 2) (one_d (so_iload_n (M := np_M88) (pc := 1) dX7_yOf_1 rfl) (up_iload _ _)) rfl ?_
  refine na_3 (q := 5) (one_c rfl mq_128 hl_88 rfl (sc_V (M := np_M88) (pc := 2) dX7_yOf_2 cw_X7_yOf_X7_existingAfloat rfl wd_859 wd_861 wd_17 (nv_rcO (ci := 5) rfl))) rfl ?_
  refine na_3 (q := 8) (one_d (so_getN (M := np_M88) (pc := 5) kd_4 (k := 3) (by decide) dX7_yOf_5 wd_120) (up_get _ _ _)) rfl ?_
  refine na_1 (q := 9) (one_d (so_reti (M := np_M88) (pc := 8) dX7_yOf_8 rfl) (up_reti _)) rfl ?_
  exact na_z
theorem hl_89 : np_hls.getD 89 [] = [] := rfl
set_option maxRecDepth 100000 in
set_option maxHeartbeats 4000000 in
theorem ok_89 : nv_all np_M89 89 0 np_c89 := by
  unfold np_c89
  refine na_1 (q := 1) (one_d (so_aload_n (M := np_M89) (pc := 0) dX7_bearingOf_0 rfl) (up_aload _ _)) rfl ?_
  refine na_1 (q := 2) (one_d (so_iload_n (M := np_M89) (pc := 1) dX7_bearingOf_1 rfl) (up_iload _ _)) rfl ?_
  refine na_3 (q := 5) (one_c rfl mq_127 hl_89 rfl (sc_V (M := np_M89) (pc := 2) dX7_bearingOf_2 cw_X7_bearingOf_X7_existing rfl wd_863 wd_865 wd_18 (nv_rcO (ci := 5) rfl))) rfl ?_
  refine na_3 (q := 8) (one_d (so_getN (M := np_M89) (pc := 5) kd_4 (k := 4) (by decide) dX7_bearingOf_5 wd_123) (up_get _ _ _)) rfl ?_
  refine na_1 (q := 9) (one_d (so_reti (M := np_M89) (pc := 8) dX7_bearingOf_8 rfl) (up_reti _)) rfl ?_
  exact na_z
theorem hl_90 : np_hls.getD 90 [] = [] := rfl
set_option maxRecDepth 100000 in
set_option maxHeartbeats 4000000 in
theorem ok_90 : nv_all np_M90 90 0 np_c90 := by
  unfold np_c90
  refine na_1 (q := 1) (one_d (so_aload_n (M := np_M90) (pc := 0) dX7_cubesOf_0 rfl) (up_aload _ _)) rfl ?_
  refine na_1 (q := 2) (one_d (so_iload_n (M := np_M90) (pc := 1) dX7_cubesOf_1 rfl) (up_iload _ _)) rfl ?_
  refine na_3 (q := 5) (one_c rfl mq_127 hl_90 rfl (sc_V (M := np_M90) (pc := 2) dX7_cubesOf_2 cw_X7_cubesOf_X7_existing rfl wd_863 wd_865 wd_18 (nv_rcO (ci := 5) rfl))) rfl ?_
  refine na_3 (q := 8) (one_d (so_getN (M := np_M90) (pc := 5) kd_4 (k := 6) (by decide) dX7_cubesOf_5 wd_129) (up_get _ _ _)) rfl ?_
  refine na_1 (q := 9) (one_d (so_reti (M := np_M90) (pc := 8) dX7_cubesOf_8 rfl) (up_reti _)) rfl ?_
  exact na_z
theorem hl_91 : np_hls.getD 91 [] = [] := rfl
set_option maxRecDepth 100000 in
set_option maxHeartbeats 4000000 in
theorem ok_91 : nv_all np_M91 91 0 np_c91 := by
  unfold np_c91
  refine na_1 (q := 1) (one_d (so_aload_n (M := np_M91) (pc := 0) dX7_hullOf_0 rfl) (up_aload _ _)) rfl ?_
  refine na_1 (q := 2) (one_d (so_iload_n (M := np_M91) (pc := 1) dX7_hullOf_1 rfl) (up_iload _ _)) rfl ?_
  refine na_3 (q := 5) (one_c rfl mq_127 hl_91 rfl (sc_V (M := np_M91) (pc := 2) dX7_hullOf_2 cw_X7_hullOf_X7_existing rfl wd_863 wd_865 wd_18 (nv_rcO (ci := 5) rfl))) rfl ?_
  refine na_3 (q := 8) (one_d (so_getN (M := np_M91) (pc := 5) kd_4 (k := 5) (by decide) dX7_hullOf_5 wd_126) (up_get _ _ _)) rfl ?_
  refine na_1 (q := 9) (one_d (so_reti (M := np_M91) (pc := 8) dX7_hullOf_8 rfl) (up_reti _)) rfl ?_
  exact na_z
theorem hl_92 : np_hls.getD 92 [] = [] := rfl
set_option maxRecDepth 100000 in
set_option maxHeartbeats 4000000 in
theorem ok_92 : nv_all np_M92 92 0 np_c92 := by
  unfold np_c92
  refine na_1 (q := 1) (one_d (so_aload_n (M := np_M92) (pc := 0) dX7_isSunk_0 rfl) (up_aload _ _)) rfl ?_
  refine na_1 (q := 2) (one_d (so_iload_n (M := np_M92) (pc := 1) dX7_isSunk_1 rfl) (up_iload _ _)) rfl ?_
  refine na_3 (q := 5) (one_c rfl mq_127 hl_92 rfl (sc_V (M := np_M92) (pc := 2) dX7_isSunk_2 cw_X7_isSunk_X7_existing rfl wd_863 wd_865 wd_18 (nv_rcO (ci := 5) rfl))) rfl ?_
  refine na_3 (q := 8) (one_c rfl mq_62 hl_92 rfl (sc_V (M := np_M92) (pc := 5) dX7_isSunk_5 cw_X7_isSunk_X6_isAfloat rfl wd_869 wd_423 wd_424 (nv_rcO (ci := 4) rfl))) rfl ?_
  refine na_3 (q := 11) (one_d (so_ifne (M := np_M92) (pc := 8) dX7_isSunk_8 (by decide)) (up_ifne _ _)) rfl ?_
  refine na_1 (q := 12) (one_d (so_iconst (M := np_M92) (pc := 11) dX7_isSunk_11 (by decide)) (up_cst _ _)) rfl ?_
  refine na_3 (q := 15) (one_d (so_goto (M := np_M92) (pc := 12) dX7_isSunk_12 (by decide)) (up_goto _)) rfl ?_
  refine na_1 (q := 16) (one_d (so_iconst (M := np_M92) (pc := 15) dX7_isSunk_15 (by decide)) (up_cst _ _)) rfl ?_
  refine na_1 (q := 17) (one_d (so_reti (M := np_M92) (pc := 16) dX7_isSunk_16 rfl) (up_reti _)) rfl ?_
  exact na_z
theorem hl_93 : np_hls.getD 93 [] = [] := rfl
set_option maxRecDepth 100000 in
set_option maxHeartbeats 4000000 in
theorem ok_93 : nv_all np_M93 93 0 np_c93 := by
  unfold np_c93
  refine na_1 (q := 1) (one_d (so_iload_n (M := np_M93) (pc := 0) dX7_spoonAt_0 rfl) (up_iload _ _)) rfl ?_
  refine na_1 (q := 2) (one_d (so_iload_n (M := np_M93) (pc := 1) dX7_spoonAt_1 rfl) (up_iload _ _)) rfl ?_
  refine na_3 (q := 5) (one_c rfl mq_131 hl_93 rfl (sc_S (M := np_M93) (pc := 2) dX7_spoonAt_2 cw_X7_spoonAt_X7_requireCell wd_1101 wd_1102)) rfl ?_
  refine na_1 (q := 6) (one_d (so_aload_n (M := np_M93) (pc := 5) dX7_spoonAt_5 rfl) (up_aload _ _)) rfl ?_
  refine na_3 (q := 9) (one_d (so_get (M := np_M93) (pc := 6) kd_5 (k := 0) (by decide) dX7_spoonAt_6 wd_253) (up_get _ _ _)) rfl ?_
  refine na_1 (q := 10) (one_d (so_iload_n (M := np_M93) (pc := 9) dX7_spoonAt_9 rfl) (up_iload _ _)) rfl ?_
  refine na_1 (q := 11) (one_d (so_iload_n (M := np_M93) (pc := 10) dX7_spoonAt_10 rfl) (up_iload _ _)) rfl ?_
  refine na_3 (q := 14) (one_c rfl mq_32 hl_93 rfl (sc_V (M := np_M93) (pc := 11) dX7_spoonAt_11 cw_X7_spoonAt_X4_spoonIn rfl wd_1106 wd_419 wd_420 (nv_rcO (ci := 2) rfl))) rfl ?_
  refine na_1 (q := 15) (one_d (so_astore_n (M := np_M93) (pc := 14) dX7_spoonAt_14 rfl (by decide)) (up_astore _ _)) rfl ?_
  refine na_1 (q := 16) (one_d (so_aload_n (M := np_M93) (pc := 15) dX7_spoonAt_15 rfl) (up_aload _ _)) rfl ?_
  refine na_3 (q := 19) (one_d (so_ifnonnull (M := np_M93) (pc := 16) dX7_spoonAt_16 (by decide)) (up_ifnonnull _ _)) rfl ?_
  refine na_3 (q := 22) (st_X (M := np_M93) (pc := 19) rfl rfl (by decide) th_NoSuchElementException wd_780 (show (172, "no spoon is in the cell") ∈ nv_msgs by decide) dX7_spoonAt_19 dX7_spoonAt_22 (Or.inl ⟨dX7_spoonAt_23, dX7_spoonAt_25, dX7_spoonAt_28⟩)) rfl ?_
  refine na_n (q := 23) rfl ?_
  refine na_n (q := 24) rfl ?_
  refine na_n (q := 25) rfl ?_
  refine na_n (q := 26) rfl ?_
  refine na_n (q := 27) rfl ?_
  refine na_n (q := 28) rfl ?_
  refine na_n (q := 29) rfl ?_
  refine na_1 (q := 30) (one_d (so_aload_n (M := np_M93) (pc := 29) dX7_spoonAt_29 rfl) (up_aload _ _)) rfl ?_
  refine na_3 (q := 33) (one_d (so_getN (M := np_M93) (pc := 30) kd_4 (k := 0) (by decide) dX7_spoonAt_30 wd_111) (up_get _ _ _)) rfl ?_
  refine na_1 (q := 34) (one_d (so_reti (M := np_M93) (pc := 33) dX7_spoonAt_33 rfl) (up_reti _)) rfl ?_
  exact na_z
theorem hl_94 : np_hls.getD 94 [] = [] := rfl
set_option maxRecDepth 100000 in
set_option maxHeartbeats 4000000 in
theorem ok_94 : nv_all np_M94 94 0 np_c94 := by
  unfold np_c94
  refine na_1 (q := 1) (one_d (so_aload_n (M := np_M94) (pc := 0) dX7_knownX_0 rfl) (up_aload _ _)) rfl ?_
  refine na_1 (q := 2) (one_d (so_iload_n (M := np_M94) (pc := 1) dX7_knownX_1 rfl) (up_iload _ _)) rfl ?_
  refine na_3 (q := 5) (one_c rfl mq_128 hl_94 rfl (sc_V (M := np_M94) (pc := 2) dX7_knownX_2 cw_X7_knownX_X7_existingAfloat rfl wd_859 wd_861 wd_17 (nv_rcO (ci := 5) rfl))) rfl ?_
  refine na_3 (q := 8) (one_d (so_getN (M := np_M94) (pc := 5) kd_4 (k := 7) (by decide) dX7_knownX_5 wd_131) (up_get _ _ _)) rfl ?_
  refine na_1 (q := 9) (one_d (so_reti (M := np_M94) (pc := 8) dX7_knownX_8 rfl) (up_reti _)) rfl ?_
  exact na_z
theorem hl_95 : np_hls.getD 95 [] = [] := rfl
set_option maxRecDepth 100000 in
set_option maxHeartbeats 4000000 in
theorem ok_95 : nv_all np_M95 95 0 np_c95 := by
  unfold np_c95
  refine na_1 (q := 1) (one_d (so_aload_n (M := np_M95) (pc := 0) dX7_knownY_0 rfl) (up_aload _ _)) rfl ?_
  refine na_1 (q := 2) (one_d (so_iload_n (M := np_M95) (pc := 1) dX7_knownY_1 rfl) (up_iload _ _)) rfl ?_
  refine na_3 (q := 5) (one_c rfl mq_128 hl_95 rfl (sc_V (M := np_M95) (pc := 2) dX7_knownY_2 cw_X7_knownY_X7_existingAfloat rfl wd_859 wd_861 wd_17 (nv_rcO (ci := 5) rfl))) rfl ?_
  refine na_3 (q := 8) (one_d (so_getN (M := np_M95) (pc := 5) kd_4 (k := 8) (by decide) dX7_knownY_5 wd_133) (up_get _ _ _)) rfl ?_
  refine na_1 (q := 9) (one_d (so_reti (M := np_M95) (pc := 8) dX7_knownY_8 rfl) (up_reti _)) rfl ?_
  exact na_z
theorem hl_96 : np_hls.getD 96 [] = [] := rfl
set_option maxRecDepth 100000 in
set_option maxHeartbeats 4000000 in
theorem ok_96 : nv_all np_M96 96 0 np_c96 := by
  unfold np_c96
  refine na_1 (q := 1) (one_d (so_aload_n (M := np_M96) (pc := 0) dX7_isHidden_0 rfl) (up_aload _ _)) rfl ?_
  refine na_1 (q := 2) (one_d (so_iload_n (M := np_M96) (pc := 1) dX7_isHidden_1 rfl) (up_iload _ _)) rfl ?_
  refine na_3 (q := 5) (one_c rfl mq_127 hl_96 rfl (sc_V (M := np_M96) (pc := 2) dX7_isHidden_2 cw_X7_isHidden_X7_existing rfl wd_863 wd_865 wd_18 (nv_rcO (ci := 5) rfl))) rfl ?_
  refine na_1 (q := 6) (one_d (so_astore_n (M := np_M96) (pc := 5) dX7_isHidden_5 rfl (by decide)) (up_astore _ _)) rfl ?_
  refine na_1 (q := 7) (one_d (so_aload_n (M := np_M96) (pc := 6) dX7_isHidden_6 rfl) (up_aload _ _)) rfl ?_
  refine na_3 (q := 10) (one_c rfl mq_62 hl_96 rfl (sc_V (M := np_M96) (pc := 7) dX7_isHidden_7 cw_X7_isHidden_X6_isAfloat rfl wd_869 wd_423 wd_424 (nv_rcO (ci := 4) rfl))) rfl ?_
  refine na_3 (q := 13) (one_d (so_ifeq (M := np_M96) (pc := 10) dX7_isHidden_10 (by decide)) (up_ifeq _ _)) rfl ?_
  refine na_1 (q := 14) (one_d (so_aload_n (M := np_M96) (pc := 13) dX7_isHidden_13 rfl) (up_aload _ _)) rfl ?_
  refine na_3 (q := 17) (one_d (so_getN (M := np_M96) (pc := 14) kd_4 (k := 7) (by decide) dX7_isHidden_14 wd_131) (up_get _ _ _)) rfl ?_
  refine na_1 (q := 18) (one_d (so_aload_n (M := np_M96) (pc := 17) dX7_isHidden_17 rfl) (up_aload _ _)) rfl ?_
  refine na_3 (q := 21) (one_d (so_getN (M := np_M96) (pc := 18) kd_4 (k := 2) (by decide) dX7_isHidden_18 wd_117) (up_get _ _ _)) rfl ?_
  refine na_3 (q := 24) (one_d (so_cne (M := np_M96) (pc := 21) dX7_isHidden_21 (by decide)) (up_cne _ _)) rfl ?_
  refine na_1 (q := 25) (one_d (so_aload_n (M := np_M96) (pc := 24) dX7_isHidden_24 rfl) (up_aload _ _)) rfl ?_
  refine na_3 (q := 28) (one_d (so_getN (M := np_M96) (pc := 25) kd_4 (k := 8) (by decide) dX7_isHidden_25 wd_133) (up_get _ _ _)) rfl ?_
  refine na_1 (q := 29) (one_d (so_aload_n (M := np_M96) (pc := 28) dX7_isHidden_28 rfl) (up_aload _ _)) rfl ?_
  refine na_3 (q := 32) (one_d (so_getN (M := np_M96) (pc := 29) kd_4 (k := 3) (by decide) dX7_isHidden_29 wd_120) (up_get _ _ _)) rfl ?_
  refine na_3 (q := 35) (one_d (so_ceq (M := np_M96) (pc := 32) dX7_isHidden_32 (by decide)) (up_ceq _ _)) rfl ?_
  refine na_1 (q := 36) (one_d (so_iconst (M := np_M96) (pc := 35) dX7_isHidden_35 (by decide)) (up_cst _ _)) rfl ?_
  refine na_3 (q := 39) (one_d (so_goto (M := np_M96) (pc := 36) dX7_isHidden_36 (by decide)) (up_goto _)) rfl ?_
  refine na_1 (q := 40) (one_d (so_iconst (M := np_M96) (pc := 39) dX7_isHidden_39 (by decide)) (up_cst _ _)) rfl ?_
  refine na_1 (q := 41) (one_d (so_reti (M := np_M96) (pc := 40) dX7_isHidden_40 rfl) (up_reti _)) rfl ?_
  exact na_z
theorem hl_97 : np_hls.getD 97 [] = [] := rfl
set_option maxRecDepth 100000 in
set_option maxHeartbeats 4000000 in
theorem ok_97 : nv_all np_M97 97 0 np_c97 := by
  unfold np_c97
  refine na_1 (q := 1) (one_d (so_iload_n (M := np_M97) (pc := 0) dX7_floating_0 rfl) (up_iload _ _)) rfl ?_
  refine na_3 (q := 4) (one_c rfl mq_130 hl_97 rfl (sc_S (M := np_M97) (pc := 1) dX7_floating_1 cw_X7_floating_X7_requireFleet wd_921 wd_922)) rfl ?_
  refine na_1 (q := 5) (one_d (so_aload_n (M := np_M97) (pc := 4) dX7_floating_4 rfl) (up_aload _ _)) rfl ?_
  refine na_3 (q := 8) (one_d (so_get (M := np_M97) (pc := 5) kd_5 (k := 0) (by decide) dX7_floating_5 wd_253) (up_get _ _ _)) rfl ?_
  refine na_1 (q := 9) (one_d (so_iload_n (M := np_M97) (pc := 8) dX7_floating_8 rfl) (up_iload _ _)) rfl ?_
  refine na_3 (q := 12) (one_c rfl mq_29 hl_97 rfl (sc_V (M := np_M97) (pc := 9) dX7_floating_9 cw_X7_floating_X4_accountOf rfl wd_926 wd_415 wd_416 (nv_rcO (ci := 2) rfl))) rfl ?_
  refine na_3 (q := 15) (one_d (so_getN (M := np_M97) (pc := 12) kd_0 (k := 1) (by decide) dX7_floating_12 wd_73) (up_get _ _ _)) rfl ?_
  refine na_1 (q := 16) (one_d (so_reti (M := np_M97) (pc := 15) dX7_floating_15 rfl) (up_reti _)) rfl ?_
  exact na_z
theorem hl_98 : np_hls.getD 98 [] = [] := rfl
set_option maxRecDepth 100000 in
set_option maxHeartbeats 4000000 in
theorem ok_98 : nv_all np_M98 98 0 np_c98 := by
  unfold np_c98
  refine na_1 (q := 1) (one_d (so_aload_n (M := np_M98) (pc := 0) dX7_spoonAtRank_0 rfl) (up_aload _ _)) rfl ?_
  refine na_3 (q := 4) (one_d (so_get (M := np_M98) (pc := 1) kd_5 (k := 0) (by decide) dX7_spoonAtRank_1 wd_253) (up_get _ _ _)) rfl ?_
  refine na_1 (q := 5) (one_d (so_iload_n (M := np_M98) (pc := 4) dX7_spoonAtRank_4 rfl) (up_iload _ _)) rfl ?_
  refine na_3 (q := 8) (one_c rfl mq_33 hl_98 rfl (sc_V (M := np_M98) (pc := 5) dX7_spoonAtRank_5 cw_X7_spoonAtRank_X4_ranked rfl wd_1131 wd_1132 wd_1133 (nv_rcO (ci := 2) rfl))) rfl ?_
  refine na_1 (q := 9) (one_d (so_astore_n (M := np_M98) (pc := 8) dX7_spoonAtRank_8 rfl (by decide)) (up_astore _ _)) rfl ?_
  refine na_1 (q := 10) (one_d (so_aload_n (M := np_M98) (pc := 9) dX7_spoonAtRank_9 rfl) (up_aload _ _)) rfl ?_
  refine na_3 (q := 13) (one_d (so_ifnonnull (M := np_M98) (pc := 10) dX7_spoonAtRank_10 (by decide)) (up_ifnonnull _ _)) rfl ?_
  refine na_3 (q := 16) (st_X (M := np_M98) (pc := 13) rfl rfl (by decide) th_NoSuchElementException wd_780 (show (190, "there is no such rank") ∈ nv_msgs by decide) dX7_spoonAtRank_13 dX7_spoonAtRank_16 (Or.inl ⟨dX7_spoonAtRank_17, dX7_spoonAtRank_19, dX7_spoonAtRank_22⟩)) rfl ?_
  refine na_n (q := 17) rfl ?_
  refine na_n (q := 18) rfl ?_
  refine na_n (q := 19) rfl ?_
  refine na_n (q := 20) rfl ?_
  refine na_n (q := 21) rfl ?_
  refine na_n (q := 22) rfl ?_
  refine na_n (q := 23) rfl ?_
  refine na_1 (q := 24) (one_d (so_aload_n (M := np_M98) (pc := 23) dX7_spoonAtRank_23 rfl) (up_aload _ _)) rfl ?_
  refine na_3 (q := 27) (one_d (so_getN (M := np_M98) (pc := 24) kd_4 (k := 0) (by decide) dX7_spoonAtRank_24 wd_111) (up_get _ _ _)) rfl ?_
  refine na_1 (q := 28) (one_d (so_reti (M := np_M98) (pc := 27) dX7_spoonAtRank_27 rfl) (up_reti _)) rfl ?_
  exact na_z
theorem hl_99 : np_hls.getD 99 [] = [] := rfl
set_option maxRecDepth 100000 in
set_option maxHeartbeats 4000000 in
theorem ok_99 : nv_all np_M99 99 0 np_c99 := by
  unfold np_c99
  refine na_1 (q := 1) (one_d (so_aload_n (M := np_M99) (pc := 0) dX7_distance_0 rfl) (up_aload _ _)) rfl ?_
  refine na_1 (q := 2) (one_d (so_iload_n (M := np_M99) (pc := 1) dX7_distance_1 rfl) (up_iload _ _)) rfl ?_
  refine na_3 (q := 5) (one_c rfl mq_127 hl_99 rfl (sc_V (M := np_M99) (pc := 2) dX7_distance_2 cw_X7_distance_X7_existing rfl wd_863 wd_865 wd_18 (nv_rcO (ci := 5) rfl))) rfl ?_
  refine na_1 (q := 6) (one_d (so_astore_n (M := np_M99) (pc := 5) dX7_distance_5 rfl (by decide)) (up_astore _ _)) rfl ?_
  refine na_1 (q := 7) (one_d (so_aload_n (M := np_M99) (pc := 6) dX7_distance_6 rfl) (up_aload _ _)) rfl ?_
  refine na_1 (q := 8) (one_d (so_iload_n (M := np_M99) (pc := 7) dX7_distance_7 rfl) (up_iload _ _)) rfl ?_
  refine na_3 (q := 11) (one_c rfl mq_127 hl_99 rfl (sc_V (M := np_M99) (pc := 8) dX7_distance_8 cw_X7_distance_X7_existing rfl wd_863 wd_865 wd_18 (nv_rcO (ci := 5) rfl))) rfl ?_
  refine na_2 (q := 13) (one_d (so_astore (M := np_M99) (pc := 11) dX7_distance_11 (by decide)) (up_astore _ _)) rfl ?_
  refine na_1 (q := 14) (one_d (so_aload_n (M := np_M99) (pc := 13) dX7_distance_13 rfl) (up_aload _ _)) rfl ?_
  refine na_3 (q := 17) (one_c rfl mq_62 hl_99 rfl (sc_V (M := np_M99) (pc := 14) dX7_distance_14 cw_X7_distance_X6_isAfloat rfl wd_869 wd_423 wd_424 (nv_rcO (ci := 4) rfl))) rfl ?_
  refine na_3 (q := 20) (one_d (so_ifeq (M := np_M99) (pc := 17) dX7_distance_17 (by decide)) (up_ifeq _ _)) rfl ?_
  refine na_2 (q := 22) (one_d (so_aload (M := np_M99) (pc := 20) dX7_distance_20) (up_aload _ _)) rfl ?_
  refine na_3 (q := 25) (one_c rfl mq_62 hl_99 rfl (sc_V (M := np_M99) (pc := 22) dX7_distance_22 cw_X7_distance_X6_isAfloat rfl wd_869 wd_423 wd_424 (nv_rcO (ci := 4) rfl))) rfl ?_
  refine na_3 (q := 28) (one_d (so_ifne (M := np_M99) (pc := 25) dX7_distance_25 (by decide)) (up_ifne _ _)) rfl ?_
  refine na_3 (q := 31) (st_X (M := np_M99) (pc := 28) rfl rfl (by decide) th_NoSuchElementException wd_780 (show (192, "a spoon is sunk") ∈ nv_msgs by decide) dX7_distance_28 dX7_distance_31 (Or.inl ⟨dX7_distance_32, dX7_distance_34, dX7_distance_37⟩)) rfl ?_
  refine na_n (q := 32) rfl ?_
  refine na_n (q := 33) rfl ?_
  refine na_n (q := 34) rfl ?_
  refine na_n (q := 35) rfl ?_
  refine na_n (q := 36) rfl ?_
  refine na_n (q := 37) rfl ?_
  refine na_n (q := 38) rfl ?_
  refine na_1 (q := 39) (one_d (so_aload_n (M := np_M99) (pc := 38) dX7_distance_38 rfl) (up_aload _ _)) rfl ?_
  refine na_2 (q := 41) (one_d (so_aload (M := np_M99) (pc := 39) dX7_distance_39) (up_aload _ _)) rfl ?_
  refine na_3 (q := 44) (one_d (so_getN (M := np_M99) (pc := 41) kd_4 (k := 2) (by decide) dX7_distance_41 wd_117) (up_get _ _ _)) rfl ?_
  refine na_2 (q := 46) (one_d (so_aload (M := np_M99) (pc := 44) dX7_distance_44) (up_aload _ _)) rfl ?_
  refine na_3 (q := 49) (one_d (so_getN (M := np_M99) (pc := 46) kd_4 (k := 3) (by decide) dX7_distance_46 wd_120) (up_get _ _ _)) rfl ?_
  refine na_3 (q := 52) (one_c rfl mq_65 hl_99 rfl (sc_V (M := np_M99) (pc := 49) dX7_distance_49 cw_X7_distance_X6_distanceTo rfl wd_1187 wd_743 wd_744 (nv_rcO (ci := 4) rfl))) rfl ?_
  refine na_1 (q := 53) (one_d (so_reti (M := np_M99) (pc := 52) dX7_distance_52 rfl) (up_reti _)) rfl ?_
  exact na_z
theorem hl_100 : np_hls.getD 100 [] = [] := rfl
set_option maxRecDepth 100000 in
set_option maxHeartbeats 4000000 in
theorem ok_100 : nv_all np_M100 100 0 np_c100 := by
  unfold np_c100
  refine na_1 (q := 1) (one_d (so_aload_n (M := np_M100) (pc := 0) dX7_directionTo_0 rfl) (up_aload _ _)) rfl ?_
  refine na_1 (q := 2) (one_d (so_iload_n (M := np_M100) (pc := 1) dX7_directionTo_1 rfl) (up_iload _ _)) rfl ?_
  refine na_3 (q := 5) (one_c rfl mq_127 hl_100 rfl (sc_V (M := np_M100) (pc := 2) dX7_directionTo_2 cw_X7_directionTo_X7_existing rfl wd_863 wd_865 wd_18 (nv_rcO (ci := 5) rfl))) rfl ?_
  refine na_2 (q := 7) (one_d (so_astore (M := np_M100) (pc := 5) dX7_directionTo_5 (by decide)) (up_astore _ _)) rfl ?_
  refine na_1 (q := 8) (one_d (so_iload_n (M := np_M100) (pc := 7) dX7_directionTo_7 rfl) (up_iload _ _)) rfl ?_
  refine na_1 (q := 9) (one_d (so_iload_n (M := np_M100) (pc := 8) dX7_directionTo_8 rfl) (up_iload _ _)) rfl ?_
  refine na_3 (q := 12) (one_c rfl mq_131 hl_100 rfl (sc_S (M := np_M100) (pc := 9) dX7_directionTo_9 cw_X7_directionTo_X7_requireCell wd_1101 wd_1102)) rfl ?_
  refine na_2 (q := 14) (one_d (so_aload (M := np_M100) (pc := 12) dX7_directionTo_12) (up_aload _ _)) rfl ?_
  refine na_3 (q := 17) (one_c rfl mq_62 hl_100 rfl (sc_V (M := np_M100) (pc := 14) dX7_directionTo_14 cw_X7_directionTo_X6_isAfloat rfl wd_869 wd_423 wd_424 (nv_rcO (ci := 4) rfl))) rfl ?_
  refine na_3 (q := 20) (one_d (so_ifeq (M := np_M100) (pc := 17) dX7_directionTo_17 (by decide)) (up_ifeq _ _)) rfl ?_
  refine na_2 (q := 22) (one_d (so_aload (M := np_M100) (pc := 20) dX7_directionTo_20) (up_aload _ _)) rfl ?_
  refine na_1 (q := 23) (one_d (so_iload_n (M := np_M100) (pc := 22) dX7_directionTo_22 rfl) (up_iload _ _)) rfl ?_
  refine na_1 (q := 24) (one_d (so_iload_n (M := np_M100) (pc := 23) dX7_directionTo_23 rfl) (up_iload _ _)) rfl ?_
  refine na_3 (q := 27) (one_c rfl mq_64 hl_100 rfl (sc_V (M := np_M100) (pc := 24) dX7_directionTo_24 cw_X7_directionTo_X6_isIn rfl wd_1171 wd_427 wd_428 (nv_rcO (ci := 4) rfl))) rfl ?_
  refine na_3 (q := 30) (one_d (so_ifeq (M := np_M100) (pc := 27) dX7_directionTo_27 (by decide)) (up_ifeq _ _)) rfl ?_
  refine na_3 (q := 33) (st_X (M := np_M100) (pc := 30) rfl rfl (by decide) th_NoSuchElementException wd_780 (show (201, "there is no direction") ∈ nv_msgs by decide) dX7_directionTo_30 dX7_directionTo_33 (Or.inl ⟨dX7_directionTo_34, dX7_directionTo_36, dX7_directionTo_39⟩)) rfl ?_
  refine na_n (q := 34) rfl ?_
  refine na_n (q := 35) rfl ?_
  refine na_n (q := 36) rfl ?_
  refine na_n (q := 37) rfl ?_
  refine na_n (q := 38) rfl ?_
  refine na_n (q := 39) rfl ?_
  refine na_n (q := 40) rfl ?_
  refine na_1 (q := 41) (one_d (so_iload_n (M := np_M100) (pc := 40) dX7_directionTo_40 rfl) (up_iload _ _)) rfl ?_
  refine na_2 (q := 43) (one_d (so_aload (M := np_M100) (pc := 41) dX7_directionTo_41) (up_aload _ _)) rfl ?_
  refine na_3 (q := 46) (one_d (so_getN (M := np_M100) (pc := 43) kd_4 (k := 2) (by decide) dX7_directionTo_43 wd_117) (up_get _ _ _)) rfl ?_
  refine na_1 (q := 47) (one_d (so_isub (M := np_M100) (pc := 46) dX7_directionTo_46) (up_i2 _ _)) rfl ?_
  refine na_1 (q := 48) (one_d (so_iload_n (M := np_M100) (pc := 47) dX7_directionTo_47 rfl) (up_iload _ _)) rfl ?_
  refine na_2 (q := 50) (one_d (so_aload (M := np_M100) (pc := 48) dX7_directionTo_48) (up_aload _ _)) rfl ?_
  refine na_3 (q := 53) (one_d (so_getN (M := np_M100) (pc := 50) kd_4 (k := 3) (by decide) dX7_directionTo_50 wd_120) (up_get _ _ _)) rfl ?_
  refine na_1 (q := 54) (one_d (so_isub (M := np_M100) (pc := 53) dX7_directionTo_53) (up_i2 _ _)) rfl ?_
  refine na_3 (q := 57) (one_c rfl mq_138 hl_100 rfl (sc_S (M := np_M100) (pc := 54) dX7_directionTo_54 cw_X7_directionTo_X7_directionOf wd_1173 wd_763)) rfl ?_
  refine na_1 (q := 58) (one_d (so_reti (M := np_M100) (pc := 57) dX7_directionTo_57 rfl) (up_reti _)) rfl ?_
  exact na_z
theorem hl_101 : np_hls.getD 101 [] = [] := rfl
set_option maxRecDepth 100000 in
set_option maxHeartbeats 4000000 in
theorem ok_101 : nv_all np_M101 101 0 np_c101 := by
  unfold np_c101
  refine na_1 (q := 1) (one_d (so_aload_n (M := np_M101) (pc := 0) dX7_isInReach_0 rfl) (up_aload _ _)) rfl ?_
  refine na_1 (q := 2) (one_d (so_iload_n (M := np_M101) (pc := 1) dX7_isInReach_1 rfl) (up_iload _ _)) rfl ?_
  refine na_3 (q := 5) (one_c rfl mq_127 hl_101 rfl (sc_V (M := np_M101) (pc := 2) dX7_isInReach_2 cw_X7_isInReach_X7_existing rfl wd_863 wd_865 wd_18 (nv_rcO (ci := 5) rfl))) rfl ?_
  refine na_2 (q := 7) (one_d (so_astore (M := np_M101) (pc := 5) dX7_isInReach_5 (by decide)) (up_astore _ _)) rfl ?_
  refine na_1 (q := 8) (one_d (so_iload_n (M := np_M101) (pc := 7) dX7_isInReach_7 rfl) (up_iload _ _)) rfl ?_
  refine na_1 (q := 9) (one_d (so_iload_n (M := np_M101) (pc := 8) dX7_isInReach_8 rfl) (up_iload _ _)) rfl ?_
  refine na_3 (q := 12) (one_c rfl mq_131 hl_101 rfl (sc_S (M := np_M101) (pc := 9) dX7_isInReach_9 cw_X7_isInReach_X7_requireCell wd_1101 wd_1102)) rfl ?_
  refine na_2 (q := 14) (one_d (so_aload (M := np_M101) (pc := 12) dX7_isInReach_12) (up_aload _ _)) rfl ?_
  refine na_1 (q := 15) (one_d (so_iload_n (M := np_M101) (pc := 14) dX7_isInReach_14 rfl) (up_iload _ _)) rfl ?_
  refine na_1 (q := 16) (one_d (so_iload_n (M := np_M101) (pc := 15) dX7_isInReach_15 rfl) (up_iload _ _)) rfl ?_
  refine na_3 (q := 19) (one_c rfl mq_67 hl_101 rfl (sc_V (M := np_M101) (pc := 16) dX7_isInReach_16 cw_X7_isInReach_X6_reaches rfl wd_1178 wd_758 wd_759 (nv_rcO (ci := 4) rfl))) rfl ?_
  refine na_1 (q := 20) (one_d (so_reti (M := np_M101) (pc := 19) dX7_isInReach_19 rfl) (up_reti _)) rfl ?_
  exact na_z
theorem hl_102 : np_hls.getD 102 [] = [] := rfl
set_option maxRecDepth 100000 in
set_option maxHeartbeats 4000000 in
theorem ok_102 : nv_all np_M102 102 0 np_c102 := by
  unfold np_c102
  refine na_1 (q := 1) (one_d (so_aload_n (M := np_M102) (pc := 0) dX7_targetCount_0 rfl) (up_aload _ _)) rfl ?_
  refine na_3 (q := 4) (one_d (so_get (M := np_M102) (pc := 1) kd_5 (k := 0) (by decide) dX7_targetCount_1 wd_253) (up_get _ _ _)) rfl ?_
  refine na_1 (q := 5) (one_d (so_aload_n (M := np_M102) (pc := 4) dX7_targetCount_4 rfl) (up_aload _ _)) rfl ?_
  refine na_1 (q := 6) (one_d (so_iload_n (M := np_M102) (pc := 5) dX7_targetCount_5 rfl) (up_iload _ _)) rfl ?_
  refine na_3 (q := 9) (one_c rfl mq_127 hl_102 rfl (sc_V (M := np_M102) (pc := 6) dX7_targetCount_6 cw_X7_targetCount_X7_existing rfl wd_863 wd_865 wd_18 (nv_rcO (ci := 5) rfl))) rfl ?_
  refine na_3 (q := 12) (one_c rfl mq_35 hl_102 rfl (sc_V (M := np_M102) (pc := 9) dX7_targetCount_9 cw_X7_targetCount_X4_targetsBySpoons rfl wd_1155 wd_1073 wd_1074 (nv_rcO (ci := 2) rfl))) rfl ?_
  refine na_1 (q := 13) (one_d (so_reti (M := np_M102) (pc := 12) dX7_targetCount_12 rfl) (up_reti _)) rfl ?_
  exact na_z
theorem hl_103 : np_hls.getD 103 [] = [] := rfl
set_option maxRecDepth 100000 in
set_option maxHeartbeats 4000000 in
theorem ok_103 : nv_all np_M103 103 0 np_c103 := by
  unfold np_c103
  refine na_1 (q := 1) (one_d (so_aload_n (M := np_M103) (pc := 0) dX7_targetCountByCells_0 rfl) (up_aload _ _)) rfl ?_
  refine na_3 (q := 4) (one_d (so_get (M := np_M103) (pc := 1) kd_5 (k := 0) (by decide) dX7_targetCountByCells_1 wd_253) (up_get _ _ _)) rfl ?_
  refine na_1 (q := 5) (one_d (so_aload_n (M := np_M103) (pc := 4) dX7_targetCountByCells_4 rfl) (up_aload _ _)) rfl ?_
  refine na_1 (q := 6) (one_d (so_iload_n (M := np_M103) (pc := 5) dX7_targetCountByCells_5 rfl) (up_iload _ _)) rfl ?_
  refine na_3 (q := 9) (one_c rfl mq_127 hl_103 rfl (sc_V (M := np_M103) (pc := 6) dX7_targetCountByCells_6 cw_X7_targetCountByCells_X7_existing rfl wd_863 wd_865 wd_18 (nv_rcO (ci := 5) rfl))) rfl ?_
  refine na_3 (q := 12) (one_c rfl mq_36 hl_103 rfl (sc_V (M := np_M103) (pc := 9) dX7_targetCountByCells_9 cw_X7_targetCountByCells_X4_targetsByCells rfl wd_1195 wd_1077 wd_1078 (nv_rcO (ci := 2) rfl))) rfl ?_
  refine na_1 (q := 13) (one_d (so_reti (M := np_M103) (pc := 12) dX7_targetCountByCells_12 rfl) (up_reti _)) rfl ?_
  exact na_z
theorem hl_104 : np_hls.getD 104 [] = [] := rfl
set_option maxRecDepth 100000 in
set_option maxHeartbeats 4000000 in
theorem ok_104 : nv_all np_M104 104 0 np_c104 := by
  unfold np_c104
  refine na_1 (q := 1) (one_d (so_aload_n (M := np_M104) (pc := 0) dX7_cellsAhead_0 rfl) (up_aload _ _)) rfl ?_
  refine na_3 (q := 4) (one_d (so_get (M := np_M104) (pc := 1) kd_5 (k := 0) (by decide) dX7_cellsAhead_1 wd_253) (up_get _ _ _)) rfl ?_
  refine na_1 (q := 5) (one_d (so_aload_n (M := np_M104) (pc := 4) dX7_cellsAhead_4 rfl) (up_aload _ _)) rfl ?_
  refine na_1 (q := 6) (one_d (so_iload_n (M := np_M104) (pc := 5) dX7_cellsAhead_5 rfl) (up_iload _ _)) rfl ?_
  refine na_3 (q := 9) (one_c rfl mq_128 hl_104 rfl (sc_V (M := np_M104) (pc := 6) dX7_cellsAhead_6 cw_X7_cellsAhead_X7_existingAfloat rfl wd_859 wd_861 wd_17 (nv_rcO (ci := 5) rfl))) rfl ?_
  refine na_3 (q := 12) (one_c rfl mq_38 hl_104 rfl (sc_V (M := np_M104) (pc := 9) dX7_cellsAhead_9 cw_X7_cellsAhead_X4_freeAhead rfl wd_1163 wd_716 wd_717 (nv_rcO (ci := 2) rfl))) rfl ?_
  refine na_1 (q := 13) (one_d (so_reti (M := np_M104) (pc := 12) dX7_cellsAhead_12 rfl) (up_reti _)) rfl ?_
  exact na_z
theorem hl_105 : np_hls.getD 105 [] = [] := rfl
set_option maxRecDepth 100000 in
set_option maxHeartbeats 4000000 in
theorem ok_105 : nv_all np_M105 105 0 np_c105 := by
  unfold np_c105
  refine na_1 (q := 1) (one_d (so_iload_n (M := np_M105) (pc := 0) dX7_potOf_0 rfl) (up_iload _ _)) rfl ?_
  refine na_3 (q := 4) (one_c rfl mq_130 hl_105 rfl (sc_S (M := np_M105) (pc := 1) dX7_potOf_1 cw_X7_potOf_X7_requireFleet wd_921 wd_922)) rfl ?_
  refine na_1 (q := 5) (one_d (so_aload_n (M := np_M105) (pc := 4) dX7_potOf_4 rfl) (up_aload _ _)) rfl ?_
  refine na_3 (q := 8) (one_d (so_get (M := np_M105) (pc := 5) kd_5 (k := 0) (by decide) dX7_potOf_5 wd_253) (up_get _ _ _)) rfl ?_
  refine na_1 (q := 9) (one_d (so_iload_n (M := np_M105) (pc := 8) dX7_potOf_8 rfl) (up_iload _ _)) rfl ?_
  refine na_3 (q := 12) (one_c rfl mq_29 hl_105 rfl (sc_V (M := np_M105) (pc := 9) dX7_potOf_9 cw_X7_potOf_X4_accountOf rfl wd_926 wd_415 wd_416 (nv_rcO (ci := 2) rfl))) rfl ?_
  refine na_3 (q := 15) (one_d (so_getN (M := np_M105) (pc := 12) kd_0 (k := 2) (by decide) dX7_potOf_12 wd_76) (up_get _ _ _)) rfl ?_
  refine na_1 (q := 16) (one_d (so_reti (M := np_M105) (pc := 15) dX7_potOf_15 rfl) (up_reti _)) rfl ?_
  exact na_z
theorem hl_106 : np_hls.getD 106 [] = [] := rfl
set_option maxRecDepth 100000 in
set_option maxHeartbeats 4000000 in
theorem ok_106 : nv_all np_M106 106 0 np_c106 := by
  unfold np_c106
  refine na_1 (q := 1) (one_d (so_iload_n (M := np_M106) (pc := 0) dX7_fleetCubes_0 rfl) (up_iload _ _)) rfl ?_
  refine na_3 (q := 4) (one_c rfl mq_130 hl_106 rfl (sc_S (M := np_M106) (pc := 1) dX7_fleetCubes_1 cw_X7_fleetCubes_X7_requireFleet wd_921 wd_922)) rfl ?_
  refine na_1 (q := 5) (one_d (so_aload_n (M := np_M106) (pc := 4) dX7_fleetCubes_4 rfl) (up_aload _ _)) rfl ?_
  refine na_3 (q := 8) (one_d (so_get (M := np_M106) (pc := 5) kd_5 (k := 0) (by decide) dX7_fleetCubes_5 wd_253) (up_get _ _ _)) rfl ?_
  refine na_1 (q := 9) (one_d (so_iload_n (M := np_M106) (pc := 8) dX7_fleetCubes_8 rfl) (up_iload _ _)) rfl ?_
  refine na_3 (q := 12) (one_c rfl mq_40 hl_106 rfl (sc_V (M := np_M106) (pc := 9) dX7_fleetCubes_9 cw_X7_fleetCubes_X4_cubesBySpoons rfl wd_1018 wd_1019 wd_1020 (nv_rcO (ci := 2) rfl))) rfl ?_
  refine na_1 (q := 13) (one_d (so_reti (M := np_M106) (pc := 12) dX7_fleetCubes_12 rfl) (up_reti _)) rfl ?_
  exact na_z
theorem hl_107 : np_hls.getD 107 [] = [] := rfl
set_option maxRecDepth 100000 in
set_option maxHeartbeats 4000000 in
theorem ok_107 : nv_all np_M107 107 0 np_c107 := by
  unfold np_c107
  refine na_1 (q := 1) (one_d (so_iload_n (M := np_M107) (pc := 0) dX7_fleetCubesByAccount_0 rfl) (up_iload _ _)) rfl ?_
  refine na_3 (q := 4) (one_c rfl mq_130 hl_107 rfl (sc_S (M := np_M107) (pc := 1) dX7_fleetCubesByAccount_1 cw_X7_fleetCubesByAccount_X7_requireFleet wd_921 wd_922)) rfl ?_
  refine na_1 (q := 5) (one_d (so_aload_n (M := np_M107) (pc := 4) dX7_fleetCubesByAccount_4 rfl) (up_aload _ _)) rfl ?_
  refine na_3 (q := 8) (one_d (so_get (M := np_M107) (pc := 5) kd_5 (k := 0) (by decide) dX7_fleetCubesByAccount_5 wd_253) (up_get _ _ _)) rfl ?_
  refine na_1 (q := 9) (one_d (so_iload_n (M := np_M107) (pc := 8) dX7_fleetCubesByAccount_8 rfl) (up_iload _ _)) rfl ?_
  refine na_3 (q := 12) (one_c rfl mq_29 hl_107 rfl (sc_V (M := np_M107) (pc := 9) dX7_fleetCubesByAccount_9 cw_X7_fleetCubesByAccount_X4_accountOf rfl wd_926 wd_415 wd_416 (nv_rcO (ci := 2) rfl))) rfl ?_
  refine na_3 (q := 15) (one_c rfl mq_10 hl_107 rfl (sc_V (M := np_M107) (pc := 12) dX7_fleetCubesByAccount_12 cw_X7_fleetCubesByAccount_X1_balance rfl wd_1026 wd_1027 wd_1028 (nv_rcO (ci := 0) rfl))) rfl ?_
  refine na_1 (q := 16) (one_d (so_reti (M := np_M107) (pc := 15) dX7_fleetCubesByAccount_15 rfl) (up_reti _)) rfl ?_
  exact na_z
theorem hl_108 : np_hls.getD 108 [] = [] := rfl
set_option maxRecDepth 100000 in
set_option maxHeartbeats 4000000 in
theorem ok_108 : nv_all np_M108 108 0 np_c108 := by
  unfold np_c108
  refine na_1 (q := 1) (one_d (so_aload_n (M := np_M108) (pc := 0) dX7_shotCount_0 rfl) (up_aload _ _)) rfl ?_
  refine na_3 (q := 4) (one_d (so_get (M := np_M108) (pc := 1) kd_5 (k := 0) (by decide) dX7_shotCount_1 wd_253) (up_get _ _ _)) rfl ?_
  refine na_3 (q := 7) (one_d (so_getN (M := np_M108) (pc := 4) kd_2 (k := 8) (by decide) dX7_shotCount_4 wd_167) (up_get _ _ _)) rfl ?_
  refine na_1 (q := 8) (one_d (so_reti (M := np_M108) (pc := 7) dX7_shotCount_7 rfl) (up_reti _)) rfl ?_
  exact na_z
theorem hl_109 : np_hls.getD 109 [] = [] := rfl
set_option maxRecDepth 100000 in
set_option maxHeartbeats 4000000 in
theorem ok_109 : nv_all np_M109 109 0 np_c109 := by
  unfold np_c109
  refine na_1 (q := 1) (one_d (so_aload_n (M := np_M109) (pc := 0) dX7_hitCount_0 rfl) (up_aload _ _)) rfl ?_
  refine na_3 (q := 4) (one_d (so_get (M := np_M109) (pc := 1) kd_5 (k := 0) (by decide) dX7_hitCount_1 wd_253) (up_get _ _ _)) rfl ?_
  refine na_3 (q := 7) (one_d (so_getN (M := np_M109) (pc := 4) kd_2 (k := 9) (by decide) dX7_hitCount_4 wd_169) (up_get _ _ _)) rfl ?_
  refine na_1 (q := 8) (one_d (so_reti (M := np_M109) (pc := 7) dX7_hitCount_7 rfl) (up_reti _)) rfl ?_
  exact na_z
theorem hl_110 : np_hls.getD 110 [] = [] := rfl
set_option maxRecDepth 100000 in
set_option maxHeartbeats 4000000 in
theorem ok_110 : nv_all np_M110 110 0 np_c110 := by
  unfold np_c110
  refine na_1 (q := 1) (one_d (so_aload_n (M := np_M110) (pc := 0) dX7_cellsSailed_0 rfl) (up_aload _ _)) rfl ?_
  refine na_3 (q := 4) (one_d (so_get (M := np_M110) (pc := 1) kd_5 (k := 0) (by decide) dX7_cellsSailed_1 wd_253) (up_get _ _ _)) rfl ?_
  refine na_3 (q := 7) (one_d (so_getN (M := np_M110) (pc := 4) kd_2 (k := 10) (by decide) dX7_cellsSailed_4 wd_171) (up_get _ _ _)) rfl ?_
  refine na_1 (q := 8) (one_d (so_retl (M := np_M110) (pc := 7) dX7_cellsSailed_7 rfl) (up_retl)) rfl ?_
  exact na_z
theorem hl_111 : np_hls.getD 111 [] = [] := rfl
set_option maxRecDepth 100000 in
set_option maxHeartbeats 4000000 in
theorem ok_111 : nv_all np_M111 111 0 np_c111 := by
  unfold np_c111
  refine na_1 (q := 1) (one_d (so_aload_n (M := np_M111) (pc := 0) dX7_secretCount_0 rfl) (up_aload _ _)) rfl ?_
  refine na_3 (q := 4) (one_d (so_get (M := np_M111) (pc := 1) kd_5 (k := 0) (by decide) dX7_secretCount_1 wd_253) (up_get _ _ _)) rfl ?_
  refine na_3 (q := 7) (one_d (so_getN (M := np_M111) (pc := 4) kd_2 (k := 11) (by decide) dX7_secretCount_4 wd_173) (up_get _ _ _)) rfl ?_
  refine na_1 (q := 8) (one_d (so_reti (M := np_M111) (pc := 7) dX7_secretCount_7 rfl) (up_reti _)) rfl ?_
  exact na_z
theorem hl_112 : np_hls.getD 112 [] = [] := rfl
set_option maxRecDepth 100000 in
set_option maxHeartbeats 4000000 in
theorem ok_112 : nv_all np_M112 112 0 np_c112 := by
  unfold np_c112
  refine na_1 (q := 1) (one_d (so_iload_n (M := np_M112) (pc := 0) dX7_append_0 rfl) (up_iload _ _)) rfl ?_
  refine na_2 (q := 3) (one_d (so_bipush (M := np_M112) (pc := 1) dX7_append_1 (by decide)) (up_cst _ _)) rfl ?_
  refine na_3 (q := 6) (one_d (so_clt (M := np_M112) (pc := 3) dX7_append_3 (by decide)) (up_clt _ _)) rfl ?_
  refine na_1 (q := 7) (one_d (so_iload_n (M := np_M112) (pc := 6) dX7_append_6 rfl) (up_iload _ _)) rfl ?_
  refine na_2 (q := 9) (one_d (so_bipush (M := np_M112) (pc := 7) dX7_append_7 (by decide)) (up_cst _ _)) rfl ?_
  refine na_3 (q := 12) (one_d (so_cle (M := np_M112) (pc := 9) dX7_append_9 (by decide)) (up_cle _ _)) rfl ?_
  refine na_3 (q := 15) (st_S (M := np_M112) (pc := 12) rfl rfl (by decide) th_IllegalArgumentException wd_463 (show (243, "the character is out of range") ∈ nv_msgs by decide) dX7_append_12 dX7_append_15 (Or.inl ⟨dX7_append_16, dX7_append_18, dX7_append_21⟩)) rfl ?_
  refine na_n (q := 16) rfl ?_
  refine na_n (q := 17) rfl ?_
  refine na_n (q := 18) rfl ?_
  refine na_n (q := 19) rfl ?_
  refine na_n (q := 20) rfl ?_
  refine na_n (q := 21) rfl ?_
  refine na_n (q := 22) rfl ?_
  refine na_1 (q := 23) (one_d (so_aload_n (M := np_M112) (pc := 22) dX7_append_22 rfl) (up_aload _ _)) rfl ?_
  refine na_3 (q := 26) (one_d (so_get (M := np_M112) (pc := 23) kd_5 (k := 4) (by decide) dX7_append_23 wd_257) (up_get _ _ _)) rfl ?_
  refine na_3 (q := 29) (one_c rfl mq_12 hl_112 rfl (sc_V (M := np_M112) (pc := 26) dX7_append_26 cw_X7_append_X2_isFull rfl wd_833 wd_834 wd_835 (nv_rcO (ci := 1) rfl))) rfl ?_
  refine na_3 (q := 32) (one_d (so_ifeq (M := np_M112) (pc := 29) dX7_append_29 (by decide)) (up_ifeq _ _)) rfl ?_
  refine na_3 (q := 35) (st_S (M := np_M112) (pc := 32) rfl rfl (by decide) th_IllegalStateException wd_479 (show (249, "the command text is full") ∈ nv_msgs by decide) dX7_append_32 dX7_append_35 (Or.inl ⟨dX7_append_36, dX7_append_38, dX7_append_41⟩)) rfl ?_
  refine na_n (q := 36) rfl ?_
  refine na_n (q := 37) rfl ?_
  refine na_n (q := 38) rfl ?_
  refine na_n (q := 39) rfl ?_
  refine na_n (q := 40) rfl ?_
  refine na_n (q := 41) rfl ?_
  refine na_n (q := 42) rfl ?_
  refine na_1 (q := 43) (one_d (so_aload_n (M := np_M112) (pc := 42) dX7_append_42 rfl) (up_aload _ _)) rfl ?_
  refine na_3 (q := 46) (one_d (so_get (M := np_M112) (pc := 43) kd_5 (k := 4) (by decide) dX7_append_43 wd_257) (up_get _ _ _)) rfl ?_
  refine na_1 (q := 47) (one_d (so_iload_n (M := np_M112) (pc := 46) dX7_append_46 rfl) (up_iload _ _)) rfl ?_
  refine na_3 (q := 50) (one_c rfl mq_13 hl_112 rfl (sc_V (M := np_M112) (pc := 47) dX7_append_47 cw_X7_append_X2_add rfl wd_838 wd_839 wd_840 (nv_rcO (ci := 1) rfl))) rfl ?_
  refine na_1 (q := 51) (one_d (so_reti (M := np_M112) (pc := 50) dX7_append_50 rfl) (up_reti _)) rfl ?_
  exact na_z
theorem hl_113 : np_hls.getD 113 [] = [] := rfl
set_option maxRecDepth 100000 in
set_option maxHeartbeats 4000000 in
theorem ok_113 : nv_all np_M113 113 0 np_c113 := by
  unfold np_c113
  refine na_1 (q := 1) (one_d (so_aload_n (M := np_M113) (pc := 0) dX7_run_0 rfl) (up_aload _ _)) rfl ?_
  refine na_3 (q := 4) (one_d (so_get (M := np_M113) (pc := 1) kd_5 (k := 4) (by decide) dX7_run_1 wd_257) (up_get _ _ _)) rfl ?_
  refine na_3 (q := 7) (one_c rfl mq_16 hl_113 rfl (sc_V (M := np_M113) (pc := 4) dX7_run_4 cw_X7_run_X2_countCommands rfl wd_591 wd_592 wd_593 (nv_rcO (ci := 1) rfl))) rfl ?_
  refine na_1 (q := 8) (one_d (so_istore_n (M := np_M113) (pc := 7) dX7_run_7 rfl (by decide)) (up_istore _ _)) rfl ?_
  refine na_1 (q := 9) (one_d (so_iload_n (M := np_M113) (pc := 8) dX7_run_8 rfl) (up_iload _ _)) rfl ?_
  refine na_1 (q := 10) (one_d (so_iconst (M := np_M113) (pc := 9) dX7_run_9 (by decide)) (up_cst _ _)) rfl ?_
  refine na_3 (q := 13) (one_d (so_cne (M := np_M113) (pc := 10) dX7_run_10 (by decide)) (up_cne _ _)) rfl ?_
  refine na_1 (q := 14) (one_d (so_aload_n (M := np_M113) (pc := 13) dX7_run_13 rfl) (up_aload _ _)) rfl ?_
  refine na_1 (q := 15) (one_d (so_aload_n (M := np_M113) (pc := 14) dX7_run_14 rfl) (up_aload _ _)) rfl ?_
  refine na_3 (q := 18) (one_d (so_get (M := np_M113) (pc := 15) kd_5 (k := 4) (by decide) dX7_run_15 wd_257) (up_get _ _ _)) rfl ?_
  refine na_3 (q := 21) (one_d (so_getN (M := np_M113) (pc := 18) kd_1 (k := 3) (by decide) dX7_run_18 wd_231) (up_get _ _ _)) rfl ?_
  refine na_3 (q := 24) (one_d (so_put (M := np_M113) (pc := 21) kd_5 (k := 9) (by decide) dX7_run_21 (Or.inl wd_262) (Or.inl rfl)) (up_put _ _ _ _)) rfl ?_
  refine na_1 (q := 25) (one_d (so_aload_n (M := np_M113) (pc := 24) dX7_run_24 rfl) (up_aload _ _)) rfl ?_
  refine na_3 (q := 28) (one_d (so_get (M := np_M113) (pc := 25) kd_5 (k := 4) (by decide) dX7_run_25 wd_257) (up_get _ _ _)) rfl ?_
  refine na_3 (q := 31) (one_c rfl mq_14 hl_113 rfl (sc_V (M := np_M113) (pc := 28) dX7_run_28 cw_X7_run_X2_clear rfl wd_684 wd_685 wd_686 (nv_rcO (ci := 1) rfl))) rfl ?_
  refine na_3 (q := 34) (st_S (M := np_M113) (pc := 31) rfl rfl (by decide) th_IllegalArgumentException wd_463 (show (264, "the text is not a command text") ∈ nv_msgs by decide) dX7_run_31 dX7_run_34 (Or.inr ⟨dX7_run_35, dX7_run_38, dX7_run_41⟩)) rfl ?_
  refine na_n (q := 35) rfl ?_
  refine na_n (q := 36) rfl ?_
  refine na_n (q := 37) rfl ?_
  refine na_n (q := 38) rfl ?_
  refine na_n (q := 39) rfl ?_
  refine na_n (q := 40) rfl ?_
  refine na_n (q := 41) rfl ?_
  refine na_n (q := 42) rfl ?_
  refine na_1 (q := 43) (one_d (so_aload_n (M := np_M113) (pc := 42) dX7_run_42 rfl) (up_aload _ _)) rfl ?_
  refine na_3 (q := 46) (one_d (so_get (M := np_M113) (pc := 43) kd_5 (k := 1) (by decide) dX7_run_43 wd_254) (up_get _ _ _)) rfl ?_
  refine na_1 (q := 47) (one_d (so_aload_n (M := np_M113) (pc := 46) dX7_run_46 rfl) (up_aload _ _)) rfl ?_
  refine na_3 (q := 50) (one_d (so_get (M := np_M113) (pc := 47) kd_5 (k := 0) (by decide) dX7_run_47 wd_253) (up_get _ _ _)) rfl ?_
  refine na_3 (q := 53) (one_c rfl mq_27 hl_113 rfl (sc_V (M := np_M113) (pc := 50) dX7_run_50 cw_X7_run_X4_copyFrom rfl wd_291 wd_292 wd_293 (nv_rcO (ci := 2) rfl))) rfl ?_
  refine na_1 (q := 54) (one_d (so_aload_n (M := np_M113) (pc := 53) dX7_run_53 rfl) (up_aload _ _)) rfl ?_
  refine na_1 (q := 55) (one_d (so_iload_n (M := np_M113) (pc := 54) dX7_run_54 rfl) (up_iload _ _)) rfl ?_
  refine na_3 (q := 58) (one_c rfl mq_125 hl_113 rfl (sc_V (M := np_M113) (pc := 55) dX7_run_55 cw_X7_run_X7_firstFailure rfl wd_689 wd_691 wd_10 (nv_rcO (ci := 5) rfl))) rfl ?_
  refine na_1 (q := 59) (one_d (so_istore_n (M := np_M113) (pc := 58) dX7_run_58 rfl (by decide)) (up_istore _ _)) rfl ?_
  refine na_1 (q := 60) (one_d (so_aload_n (M := np_M113) (pc := 59) dX7_run_59 rfl) (up_aload _ _)) rfl ?_
  refine na_3 (q := 63) (one_d (so_get (M := np_M113) (pc := 60) kd_5 (k := 4) (by decide) dX7_run_60 wd_257) (up_get _ _ _)) rfl ?_
  refine na_3 (q := 66) (one_c rfl mq_14 hl_113 rfl (sc_V (M := np_M113) (pc := 63) dX7_run_63 cw_X7_run_X2_clear rfl wd_684 wd_685 wd_686 (nv_rcO (ci := 1) rfl))) rfl ?_
  refine na_1 (q := 67) (one_d (so_iload_n (M := np_M113) (pc := 66) dX7_run_66 rfl) (up_iload _ _)) rfl ?_
  refine na_1 (q := 68) (one_d (so_iconst (M := np_M113) (pc := 67) dX7_run_67 (by decide)) (up_cst _ _)) rfl ?_
  refine na_3 (q := 71) (one_d (so_ceq (M := np_M113) (pc := 68) dX7_run_68 (by decide)) (up_ceq _ _)) rfl ?_
  refine na_1 (q := 72) (one_d (so_aload_n (M := np_M113) (pc := 71) dX7_run_71 rfl) (up_aload _ _)) rfl ?_
  refine na_1 (q := 73) (one_d (so_iload_n (M := np_M113) (pc := 72) dX7_run_72 rfl) (up_iload _ _)) rfl ?_
  refine na_3 (q := 76) (one_d (so_put (M := np_M113) (pc := 73) kd_5 (k := 10) (by decide) dX7_run_73 (Or.inl wd_263) (Or.inl rfl)) (up_put _ _ _ _)) rfl ?_
  refine na_1 (q := 77) (one_d (so_aload_n (M := np_M113) (pc := 76) dX7_run_76 rfl) (up_aload _ _)) rfl ?_
  refine na_3 (q := 80) (one_d (so_get (M := np_M113) (pc := 77) kd_5 (k := 0) (by decide) dX7_run_77 wd_253) (up_get _ _ _)) rfl ?_
  refine na_1 (q := 81) (one_d (so_aload_n (M := np_M113) (pc := 80) dX7_run_80 rfl) (up_aload _ _)) rfl ?_
  refine na_3 (q := 84) (one_d (so_get (M := np_M113) (pc := 81) kd_5 (k := 1) (by decide) dX7_run_81 wd_254) (up_get _ _ _)) rfl ?_
  refine na_3 (q := 87) (one_c rfl mq_27 hl_113 rfl (sc_V (M := np_M113) (pc := 84) dX7_run_84 cw_X7_run_X4_copyFrom rfl wd_291 wd_292 wd_293 (nv_rcO (ci := 2) rfl))) rfl ?_
  refine na_3 (q := 90) (st_S (M := np_M113) (pc := 87) rfl rfl (by decide) th_IllegalStateException wd_479 (show (269, "a command fails") ∈ nv_msgs by decide) dX7_run_87 dX7_run_90 (Or.inr ⟨dX7_run_91, dX7_run_94, dX7_run_97⟩)) rfl ?_
  refine na_n (q := 91) rfl ?_
  refine na_n (q := 92) rfl ?_
  refine na_n (q := 93) rfl ?_
  refine na_n (q := 94) rfl ?_
  refine na_n (q := 95) rfl ?_
  refine na_n (q := 96) rfl ?_
  refine na_n (q := 97) rfl ?_
  refine na_n (q := 98) rfl ?_
  refine na_1 (q := 99) (one_d (so_aload_n (M := np_M113) (pc := 98) dX7_run_98 rfl) (up_aload _ _)) rfl ?_
  refine na_3 (q := 102) (one_d (so_get (M := np_M113) (pc := 99) kd_5 (k := 3) (by decide) dX7_run_99 wd_256) (up_get _ _ _)) rfl ?_
  refine na_1 (q := 103) (one_d (so_aload_n (M := np_M113) (pc := 102) dX7_run_102 rfl) (up_aload _ _)) rfl ?_
  refine na_3 (q := 106) (one_d (so_get (M := np_M113) (pc := 103) kd_5 (k := 1) (by decide) dX7_run_103 wd_254) (up_get _ _ _)) rfl ?_
  refine na_3 (q := 109) (one_c rfl mq_57 hl_113 rfl (sc_V (M := np_M113) (pc := 106) dX7_run_106 cw_X7_run_X5_push rfl wd_438 wd_439 wd_440 (nv_rcO (ci := 3) rfl))) rfl ?_
  refine na_1 (q := 110) (one_d (so_iload_n (M := np_M113) (pc := 109) dX7_run_109 rfl) (up_iload _ _)) rfl ?_
  refine na_1 (q := 111) (one_d (so_reti (M := np_M113) (pc := 110) dX7_run_110 rfl) (up_reti _)) rfl ?_
  exact na_z
theorem hl_114 : np_hls.getD 114 [] = [] := rfl
set_option maxRecDepth 100000 in
set_option maxHeartbeats 4000000 in
theorem ok_114 : nv_all np_M114 114 0 np_c114 := by
  unfold np_c114
  refine na_1 (q := 1) (one_d (so_aload_n (M := np_M114) (pc := 0) dX7_failedCommand_0 rfl) (up_aload _ _)) rfl ?_
  refine na_3 (q := 4) (one_d (so_get (M := np_M114) (pc := 1) kd_5 (k := 10) (by decide) dX7_failedCommand_1 wd_263) (up_get _ _ _)) rfl ?_
  refine na_1 (q := 5) (one_d (so_iconst (M := np_M114) (pc := 4) dX7_failedCommand_4 (by decide)) (up_cst _ _)) rfl ?_
  refine na_3 (q := 8) (one_d (so_cne (M := np_M114) (pc := 5) dX7_failedCommand_5 (by decide)) (up_cne _ _)) rfl ?_
  refine na_3 (q := 11) (st_X (M := np_M114) (pc := 8) rfl rfl (by decide) th_NoSuchElementException wd_780 (show (276, "no command has failed") ∈ nv_msgs by decide) dX7_failedCommand_8 dX7_failedCommand_11 (Or.inr ⟨dX7_failedCommand_12, dX7_failedCommand_15, dX7_failedCommand_18⟩)) rfl ?_
  refine na_n (q := 12) rfl ?_
  refine na_n (q := 13) rfl ?_
  refine na_n (q := 14) rfl ?_
  refine na_n (q := 15) rfl ?_
  refine na_n (q := 16) rfl ?_
  refine na_n (q := 17) rfl ?_
  refine na_n (q := 18) rfl ?_
  refine na_n (q := 19) rfl ?_
  refine na_1 (q := 20) (one_d (so_aload_n (M := np_M114) (pc := 19) dX7_failedCommand_19 rfl) (up_aload _ _)) rfl ?_
  refine na_3 (q := 23) (one_d (so_get (M := np_M114) (pc := 20) kd_5 (k := 10) (by decide) dX7_failedCommand_20 wd_263) (up_get _ _ _)) rfl ?_
  refine na_1 (q := 24) (one_d (so_reti (M := np_M114) (pc := 23) dX7_failedCommand_23 rfl) (up_reti _)) rfl ?_
  exact na_z
theorem hl_115 : np_hls.getD 115 [] = [] := rfl
set_option maxRecDepth 100000 in
set_option maxHeartbeats 4000000 in
theorem ok_115 : nv_all np_M115 115 0 np_c115 := by
  unfold np_c115
  refine na_1 (q := 1) (one_d (so_iconst (M := np_M115) (pc := 0) dX7_describeRow_0 (by decide)) (up_cst _ _)) rfl ?_
  refine na_1 (q := 2) (one_d (so_iload_n (M := np_M115) (pc := 1) dX7_describeRow_1 rfl) (up_iload _ _)) rfl ?_
  refine na_3 (q := 5) (one_c rfl mq_131 hl_115 rfl (sc_S (M := np_M115) (pc := 2) dX7_describeRow_2 cw_X7_describeRow_X7_requireCell wd_1101 wd_1102)) rfl ?_
  refine na_1 (q := 6) (one_d (so_iconst (M := np_M115) (pc := 5) dX7_describeRow_5 (by decide)) (up_cst _ _)) rfl ?_
  refine na_1 (q := 7) (one_d (so_istore_n (M := np_M115) (pc := 6) dX7_describeRow_6 rfl (by decide)) (up_istore _ _)) rfl ?_
  refine na_1 (q := 8) (one_d (so_iload_n (M := np_M115) (pc := 7) dX7_describeRow_7 rfl) (up_iload _ _)) rfl ?_
  refine na_1 (q := 9) (one_d (so_aload_n (M := np_M115) (pc := 8) dX7_describeRow_8 rfl) (up_aload _ _)) rfl ?_
  refine na_3 (q := 12) (one_d (so_get (M := np_M115) (pc := 9) kd_5 (k := 5) (by decide) dX7_describeRow_9 wd_258) (up_get _ _ _)) rfl ?_
  refine na_1 (q := 13) (one_d (so_alen (M := np_M115) (pc := 12) dX7_describeRow_12 (Or.inl ⟨rfl, rfl⟩)) (up_alen _ _)) rfl ?_
  refine na_3 (q := 16) (one_d (so_cge (M := np_M115) (pc := 13) dX7_describeRow_13 (by decide)) (up_cge _ _)) rfl ?_
  refine na_1 (q := 17) (one_d (so_aload_n (M := np_M115) (pc := 16) dX7_describeRow_16 rfl) (up_aload _ _)) rfl ?_
  refine na_3 (q := 20) (one_d (so_get (M := np_M115) (pc := 17) kd_5 (k := 0) (by decide) dX7_describeRow_17 wd_253) (up_get _ _ _)) rfl ?_
  refine na_1 (q := 21) (one_d (so_iload_n (M := np_M115) (pc := 20) dX7_describeRow_20 rfl) (up_iload _ _)) rfl ?_
  refine na_1 (q := 22) (one_d (so_iload_n (M := np_M115) (pc := 21) dX7_describeRow_21 rfl) (up_iload _ _)) rfl ?_
  refine na_3 (q := 25) (one_c rfl mq_32 hl_115 rfl (sc_V (M := np_M115) (pc := 22) dX7_describeRow_22 cw_X7_describeRow_X4_spoonIn rfl wd_1106 wd_419 wd_420 (nv_rcO (ci := 2) rfl))) rfl ?_
  refine na_1 (q := 26) (one_d (so_astore_n (M := np_M115) (pc := 25) dX7_describeRow_25 rfl (by decide)) (up_astore _ _)) rfl ?_
  refine na_1 (q := 27) (one_d (so_aload_n (M := np_M115) (pc := 26) dX7_describeRow_26 rfl) (up_aload _ _)) rfl ?_
  refine na_3 (q := 30) (one_d (so_get (M := np_M115) (pc := 27) kd_5 (k := 5) (by decide) dX7_describeRow_27 wd_258) (up_get _ _ _)) rfl ?_
  refine na_1 (q := 31) (one_d (so_iload_n (M := np_M115) (pc := 30) dX7_describeRow_30 rfl) (up_iload _ _)) rfl ?_
  refine na_1 (q := 32) (one_d (so_aload_n (M := np_M115) (pc := 31) dX7_describeRow_31 rfl) (up_aload _ _)) rfl ?_
  refine na_3 (q := 35) (one_d (so_ifnonnull (M := np_M115) (pc := 32) dX7_describeRow_32 (by decide)) (up_ifnonnull _ _)) rfl ?_
  refine na_2 (q := 37) (one_d (so_bipush (M := np_M115) (pc := 35) dX7_describeRow_35 (by decide)) (up_cst _ _)) rfl ?_
  refine na_3 (q := 40) (one_d (so_goto (M := np_M115) (pc := 37) dX7_describeRow_37 (by decide)) (up_goto _)) rfl ?_
  refine na_1 (q := 41) (one_d (so_aload_n (M := np_M115) (pc := 40) dX7_describeRow_40 rfl) (up_aload _ _)) rfl ?_
  refine na_3 (q := 44) (one_c rfl mq_70 hl_115 rfl (sc_V (M := np_M115) (pc := 41) dX7_describeRow_41 cw_X7_describeRow_X6_letter rfl wd_1107 wd_1108 wd_1109 (nv_rcO (ci := 4) rfl))) rfl ?_
  refine na_1 (q := 45) (one_d (so_cast (M := np_M115) (pc := 44) dX7_describeRow_44) (up_cast _ _)) rfl ?_
  refine na_3 (q := 48) (one_d (so_iinc (M := np_M115) (pc := 45) dX7_describeRow_45 (by decide) (by decide)) (up_iinc _ _ _)) rfl ?_
  refine na_3 (q := 51) (one_d (so_goto (M := np_M115) (pc := 48) dX7_describeRow_48 (by decide)) (up_goto _)) rfl ?_
  refine na_1 (q := 52) (one_d (so_aload_n (M := np_M115) (pc := 51) dX7_describeRow_51 rfl) (up_aload _ _)) rfl ?_
  refine na_1 (q := 53) (one_d (so_aload_n (M := np_M115) (pc := 52) dX7_describeRow_52 rfl) (up_aload _ _)) rfl ?_
  refine na_3 (q := 56) (one_d (so_get (M := np_M115) (pc := 53) kd_5 (k := 5) (by decide) dX7_describeRow_53 wd_258) (up_get _ _ _)) rfl ?_
  refine na_1 (q := 57) (one_d (so_alen (M := np_M115) (pc := 56) dX7_describeRow_56 (Or.inl ⟨rfl, rfl⟩)) (up_alen _ _)) rfl ?_
  refine na_3 (q := 60) (one_d (so_put (M := np_M115) (pc := 57) kd_5 (k := 6) (by decide) dX7_describeRow_57 (Or.inl wd_259) (Or.inl rfl)) (up_put _ _ _ _)) rfl ?_
  refine na_1 (q := 61) (one_d (so_aload_n (M := np_M115) (pc := 60) dX7_describeRow_60 rfl) (up_aload _ _)) rfl ?_
  refine na_3 (q := 64) (one_d (so_get (M := np_M115) (pc := 61) kd_5 (k := 6) (by decide) dX7_describeRow_61 wd_259) (up_get _ _ _)) rfl ?_
  refine na_1 (q := 65) (one_d (so_reti (M := np_M115) (pc := 64) dX7_describeRow_64 rfl) (up_reti _)) rfl ?_
  exact na_z
theorem hl_116 : np_hls.getD 116 [] = [] := rfl
set_option maxRecDepth 100000 in
set_option maxHeartbeats 4000000 in
theorem ok_116 : nv_all np_M116 116 0 np_c116 := by
  unfold np_c116
  refine na_1 (q := 1) (one_d (so_iload_n (M := np_M116) (pc := 0) dX7_lineAt_0 rfl) (up_iload _ _)) rfl ?_
  refine na_3 (q := 4) (one_d (so_iflt (M := np_M116) (pc := 1) dX7_lineAt_1 (by decide)) (up_iflt _ _)) rfl ?_
  refine na_1 (q := 5) (one_d (so_iload_n (M := np_M116) (pc := 4) dX7_lineAt_4 rfl) (up_iload _ _)) rfl ?_
  refine na_1 (q := 6) (one_d (so_aload_n (M := np_M116) (pc := 5) dX7_lineAt_5 rfl) (up_aload _ _)) rfl ?_
  refine na_3 (q := 9) (one_d (so_get (M := np_M116) (pc := 6) kd_5 (k := 6) (by decide) dX7_lineAt_6 wd_259) (up_get _ _ _)) rfl ?_
  refine na_3 (q := 12) (one_d (so_cge (M := np_M116) (pc := 9) dX7_lineAt_9 (by decide)) (up_cge _ _)) rfl ?_
  refine na_1 (q := 13) (one_d (so_iload_n (M := np_M116) (pc := 12) dX7_lineAt_12 rfl) (up_iload _ _)) rfl ?_
  refine na_1 (q := 14) (one_d (so_aload_n (M := np_M116) (pc := 13) dX7_lineAt_13 rfl) (up_aload _ _)) rfl ?_
  refine na_3 (q := 17) (one_d (so_get (M := np_M116) (pc := 14) kd_5 (k := 5) (by decide) dX7_lineAt_14 wd_258) (up_get _ _ _)) rfl ?_
  refine na_1 (q := 18) (one_d (so_alen (M := np_M116) (pc := 17) dX7_lineAt_17 (Or.inl ⟨rfl, rfl⟩)) (up_alen _ _)) rfl ?_
  refine na_3 (q := 21) (one_d (so_clt (M := np_M116) (pc := 18) dX7_lineAt_18 (by decide)) (up_clt _ _)) rfl ?_
  refine na_3 (q := 24) (st_S (M := np_M116) (pc := 21) rfl rfl (by decide) th_IndexOutOfBoundsException wd_450 (show (284, "there is no such index") ∈ nv_msgs by decide) dX7_lineAt_21 dX7_lineAt_24 (Or.inr ⟨dX7_lineAt_25, dX7_lineAt_28, dX7_lineAt_31⟩)) rfl ?_
  refine na_n (q := 25) rfl ?_
  refine na_n (q := 26) rfl ?_
  refine na_n (q := 27) rfl ?_
  refine na_n (q := 28) rfl ?_
  refine na_n (q := 29) rfl ?_
  refine na_n (q := 30) rfl ?_
  refine na_n (q := 31) rfl ?_
  refine na_n (q := 32) rfl ?_
  refine na_1 (q := 33) (one_d (so_aload_n (M := np_M116) (pc := 32) dX7_lineAt_32 rfl) (up_aload _ _)) rfl ?_
  refine na_3 (q := 36) (one_d (so_get (M := np_M116) (pc := 33) kd_5 (k := 5) (by decide) dX7_lineAt_33 wd_258) (up_get _ _ _)) rfl ?_
  refine na_1 (q := 37) (one_d (so_iload_n (M := np_M116) (pc := 36) dX7_lineAt_36 rfl) (up_iload _ _)) rfl ?_
  refine na_1 (q := 38) (one_d (so_cald (M := np_M116) (pc := 37) dX7_lineAt_37) (up_aldi _ _)) rfl ?_
  refine na_1 (q := 39) (one_d (so_reti (M := np_M116) (pc := 38) dX7_lineAt_38 rfl) (up_reti _)) rfl ?_
  exact na_z
theorem hl_117 : np_hls.getD 117 [] = [] := rfl
set_option maxRecDepth 100000 in
set_option maxHeartbeats 4000000 in
theorem ok_117 : nv_all np_M117 117 0 np_c117 := by
  unfold np_c117
  refine na_1 (q := 1) (one_d (so_aload_n (M := np_M117) (pc := 0) dX7_hitShare_0 rfl) (up_aload _ _)) rfl ?_
  refine na_3 (q := 4) (one_d (so_get (M := np_M117) (pc := 1) kd_5 (k := 0) (by decide) dX7_hitShare_1 wd_253) (up_get _ _ _)) rfl ?_
  refine na_3 (q := 7) (one_d (so_getN (M := np_M117) (pc := 4) kd_2 (k := 8) (by decide) dX7_hitShare_4 wd_167) (up_get _ _ _)) rfl ?_
  refine na_3 (q := 10) (one_d (so_ifne (M := np_M117) (pc := 7) dX7_hitShare_7 (by decide)) (up_ifne _ _)) rfl ?_
  refine na_3 (q := 13) (st_S (M := np_M117) (pc := 10) rfl rfl (by decide) th_ArithmeticException wd_1052 (show (289, "there was no shot") ∈ nv_msgs by decide) dX7_hitShare_10 dX7_hitShare_13 (Or.inr ⟨dX7_hitShare_14, dX7_hitShare_17, dX7_hitShare_20⟩)) rfl ?_
  refine na_n (q := 14) rfl ?_
  refine na_n (q := 15) rfl ?_
  refine na_n (q := 16) rfl ?_
  refine na_n (q := 17) rfl ?_
  refine na_n (q := 18) rfl ?_
  refine na_n (q := 19) rfl ?_
  refine na_n (q := 20) rfl ?_
  refine na_n (q := 21) rfl ?_
  refine na_1 (q := 22) (one_d (so_aload_n (M := np_M117) (pc := 21) dX7_hitShare_21 rfl) (up_aload _ _)) rfl ?_
  refine na_3 (q := 25) (one_d (so_get (M := np_M117) (pc := 22) kd_5 (k := 0) (by decide) dX7_hitShare_22 wd_253) (up_get _ _ _)) rfl ?_
  refine na_3 (q := 28) (one_d (so_getN (M := np_M117) (pc := 25) kd_2 (k := 9) (by decide) dX7_hitShare_25 wd_169) (up_get _ _ _)) rfl ?_
  refine na_1 (q := 29) (one_d (so_i2f (M := np_M117) (pc := 28) dX7_hitShare_28) (up_i2f _)) rfl ?_
  refine na_1 (q := 30) (one_d (so_aload_n (M := np_M117) (pc := 29) dX7_hitShare_29 rfl) (up_aload _ _)) rfl ?_
  refine na_3 (q := 33) (one_d (so_get (M := np_M117) (pc := 30) kd_5 (k := 0) (by decide) dX7_hitShare_30 wd_253) (up_get _ _ _)) rfl ?_
  refine na_3 (q := 36) (one_d (so_getN (M := np_M117) (pc := 33) kd_2 (k := 8) (by decide) dX7_hitShare_33 wd_167) (up_get _ _ _)) rfl ?_
  refine na_1 (q := 37) (one_d (so_i2f (M := np_M117) (pc := 36) dX7_hitShare_36) (up_i2f _)) rfl ?_
  refine na_1 (q := 38) (one_d (so_fdiv (M := np_M117) (pc := 37) dX7_hitShare_37) (up_fdiv _)) rfl ?_
  refine na_1 (q := 39) (one_d (so_retf (M := np_M117) (pc := 38) dX7_hitShare_38 rfl) (up_retf)) rfl ?_
  exact na_z
theorem hl_118 : np_hls.getD 118 [] = [] := rfl
set_option maxRecDepth 100000 in
set_option maxHeartbeats 4000000 in
theorem ok_118 : nv_all np_M118 118 0 np_c118 := by
  unfold np_c118
  refine na_1 (q := 1) (one_d (so_iload_n (M := np_M118) (pc := 0) dX7_meanCubes_0 rfl) (up_iload _ _)) rfl ?_
  refine na_3 (q := 4) (one_c rfl mq_130 hl_118 rfl (sc_S (M := np_M118) (pc := 1) dX7_meanCubes_1 cw_X7_meanCubes_X7_requireFleet wd_921 wd_922)) rfl ?_
  refine na_1 (q := 5) (one_d (so_aload_n (M := np_M118) (pc := 4) dX7_meanCubes_4 rfl) (up_aload _ _)) rfl ?_
  refine na_3 (q := 8) (one_d (so_get (M := np_M118) (pc := 5) kd_5 (k := 0) (by decide) dX7_meanCubes_5 wd_253) (up_get _ _ _)) rfl ?_
  refine na_1 (q := 9) (one_d (so_iload_n (M := np_M118) (pc := 8) dX7_meanCubes_8 rfl) (up_iload _ _)) rfl ?_
  refine na_3 (q := 12) (one_c rfl mq_29 hl_118 rfl (sc_V (M := np_M118) (pc := 9) dX7_meanCubes_9 cw_X7_meanCubes_X4_accountOf rfl wd_926 wd_415 wd_416 (nv_rcO (ci := 2) rfl))) rfl ?_
  refine na_3 (q := 15) (one_d (so_getN (M := np_M118) (pc := 12) kd_0 (k := 1) (by decide) dX7_meanCubes_12 wd_73) (up_get _ _ _)) rfl ?_
  refine na_1 (q := 16) (one_d (so_istore_n (M := np_M118) (pc := 15) dX7_meanCubes_15 rfl (by decide)) (up_istore _ _)) rfl ?_
  refine na_1 (q := 17) (one_d (so_iload_n (M := np_M118) (pc := 16) dX7_meanCubes_16 rfl) (up_iload _ _)) rfl ?_
  refine na_3 (q := 20) (one_d (so_ifne (M := np_M118) (pc := 17) dX7_meanCubes_17 (by decide)) (up_ifne _ _)) rfl ?_
  refine na_3 (q := 23) (st_S (M := np_M118) (pc := 20) rfl rfl (by decide) th_ArithmeticException wd_1052 (show (292, "no spoon of the fleet floats") ∈ nv_msgs by decide) dX7_meanCubes_20 dX7_meanCubes_23 (Or.inr ⟨dX7_meanCubes_24, dX7_meanCubes_27, dX7_meanCubes_30⟩)) rfl ?_
  refine na_n (q := 24) rfl ?_
  refine na_n (q := 25) rfl ?_
  refine na_n (q := 26) rfl ?_
  refine na_n (q := 27) rfl ?_
  refine na_n (q := 28) rfl ?_
  refine na_n (q := 29) rfl ?_
  refine na_n (q := 30) rfl ?_
  refine na_n (q := 31) rfl ?_
  refine na_1 (q := 32) (one_d (so_aload_n (M := np_M118) (pc := 31) dX7_meanCubes_31 rfl) (up_aload _ _)) rfl ?_
  refine na_3 (q := 35) (one_d (so_get (M := np_M118) (pc := 32) kd_5 (k := 0) (by decide) dX7_meanCubes_32 wd_253) (up_get _ _ _)) rfl ?_
  refine na_1 (q := 36) (one_d (so_iload_n (M := np_M118) (pc := 35) dX7_meanCubes_35 rfl) (up_iload _ _)) rfl ?_
  refine na_3 (q := 39) (one_c rfl mq_40 hl_118 rfl (sc_V (M := np_M118) (pc := 36) dX7_meanCubes_36 cw_X7_meanCubes_X4_cubesBySpoons rfl wd_1018 wd_1019 wd_1020 (nv_rcO (ci := 2) rfl))) rfl ?_
  refine na_1 (q := 40) (one_d (so_i2d (M := np_M118) (pc := 39) dX7_meanCubes_39) (up_i2d _)) rfl ?_
  refine na_1 (q := 41) (one_d (so_iload_n (M := np_M118) (pc := 40) dX7_meanCubes_40 rfl) (up_iload _ _)) rfl ?_
  refine na_1 (q := 42) (one_d (so_i2d (M := np_M118) (pc := 41) dX7_meanCubes_41) (up_i2d _)) rfl ?_
  refine na_1 (q := 43) (one_d (so_ddiv (M := np_M118) (pc := 42) dX7_meanCubes_42) (up_ddiv _)) rfl ?_
  refine na_1 (q := 44) (one_d (so_retd (M := np_M118) (pc := 43) dX7_meanCubes_43 rfl) (up_retd)) rfl ?_
  exact na_z
theorem hl_119 : np_hls.getD 119 [] = [] := rfl
set_option maxRecDepth 100000 in
set_option maxHeartbeats 4000000 in
theorem ok_119 : nv_all np_M119 119 0 np_c119 := by
  unfold np_c119
  refine na_1 (q := 1) (one_d (so_aload_n (M := np_M119) (pc := 0) dX7_isConsistent_0 rfl) (up_aload _ _)) rfl ?_
  refine na_3 (q := 4) (one_d (so_get (M := np_M119) (pc := 1) kd_5 (k := 0) (by decide) dX7_isConsistent_1 wd_253) (up_get _ _ _)) rfl ?_
  refine na_3 (q := 7) (one_c rfl mq_41 hl_119 rfl (sc_V (M := np_M119) (pc := 4) dX7_isConsistent_4 cw_X7_isConsistent_X4_areTargetsEqual rfl wd_1068 wd_1069 wd_1070 (nv_rcO (ci := 2) rfl))) rfl ?_
  refine na_3 (q := 10) (one_d (so_ifeq (M := np_M119) (pc := 7) dX7_isConsistent_7 (by decide)) (up_ifeq _ _)) rfl ?_
  refine na_1 (q := 11) (one_d (so_aload_n (M := np_M119) (pc := 10) dX7_isConsistent_10 rfl) (up_aload _ _)) rfl ?_
  refine na_3 (q := 14) (one_d (so_get (M := np_M119) (pc := 11) kd_5 (k := 0) (by decide) dX7_isConsistent_11 wd_253) (up_get _ _ _)) rfl ?_
  refine na_3 (q := 17) (one_c rfl mq_42 hl_119 rfl (sc_V (M := np_M119) (pc := 14) dX7_isConsistent_14 cw_X7_isConsistent_X4_areCubesEqual rfl wd_1084 wd_1085 wd_1086 (nv_rcO (ci := 2) rfl))) rfl ?_
  refine na_3 (q := 20) (one_d (so_ifeq (M := np_M119) (pc := 17) dX7_isConsistent_17 (by decide)) (up_ifeq _ _)) rfl ?_
  refine na_1 (q := 21) (one_d (so_aload_n (M := np_M119) (pc := 20) dX7_isConsistent_20 rfl) (up_aload _ _)) rfl ?_
  refine na_3 (q := 24) (one_d (so_get (M := np_M119) (pc := 21) kd_5 (k := 0) (by decide) dX7_isConsistent_21 wd_253) (up_get _ _ _)) rfl ?_
  refine na_3 (q := 27) (one_c rfl mq_43 hl_119 rfl (sc_V (M := np_M119) (pc := 24) dX7_isConsistent_24 cw_X7_isConsistent_X4_areCellsSingle rfl wd_1090 wd_1091 wd_1092 (nv_rcO (ci := 2) rfl))) rfl ?_
  refine na_3 (q := 30) (one_d (so_ifeq (M := np_M119) (pc := 27) dX7_isConsistent_27 (by decide)) (up_ifeq _ _)) rfl ?_
  refine na_1 (q := 31) (one_d (so_iconst (M := np_M119) (pc := 30) dX7_isConsistent_30 (by decide)) (up_cst _ _)) rfl ?_
  refine na_3 (q := 34) (one_d (so_goto (M := np_M119) (pc := 31) dX7_isConsistent_31 (by decide)) (up_goto _)) rfl ?_
  refine na_1 (q := 35) (one_d (so_iconst (M := np_M119) (pc := 34) dX7_isConsistent_34 (by decide)) (up_cst _ _)) rfl ?_
  refine na_1 (q := 36) (one_d (so_reti (M := np_M119) (pc := 35) dX7_isConsistent_35 rfl) (up_reti _)) rfl ?_
  exact na_z
theorem hl_120 : np_hls.getD 120 [] = [] := rfl
set_option maxRecDepth 100000 in
set_option maxHeartbeats 4000000 in
theorem ok_120 : nv_all np_M120 120 0 np_c120 := by
  unfold np_c120
  refine na_1 (q := 1) (one_d (so_aload_n (M := np_M120) (pc := 0) dX7_undo_0 rfl) (up_aload _ _)) rfl ?_
  refine na_3 (q := 4) (one_d (so_get (M := np_M120) (pc := 1) kd_5 (k := 3) (by decide) dX7_undo_1 wd_256) (up_get _ _ _)) rfl ?_
  refine na_1 (q := 5) (one_d (so_aload_n (M := np_M120) (pc := 4) dX7_undo_4 rfl) (up_aload _ _)) rfl ?_
  refine na_3 (q := 8) (one_d (so_get (M := np_M120) (pc := 5) kd_5 (k := 0) (by decide) dX7_undo_5 wd_253) (up_get _ _ _)) rfl ?_
  refine na_3 (q := 11) (one_c rfl mq_58 hl_120 rfl (sc_V (M := np_M120) (pc := 8) dX7_undo_8 cw_X7_undo_X5_pop rfl wd_803 wd_804 wd_805 (nv_rcO (ci := 3) rfl))) rfl ?_
  refine na_3 (q := 14) (one_d (so_ifne (M := np_M120) (pc := 11) dX7_undo_11 (by decide)) (up_ifne _ _)) rfl ?_
  refine na_3 (q := 17) (st_S (M := np_M120) (pc := 14) rfl rfl (by decide) th_IllegalStateException wd_479 (show (307, "there is no change to undo") ∈ nv_msgs by decide) dX7_undo_14 dX7_undo_17 (Or.inr ⟨dX7_undo_18, dX7_undo_21, dX7_undo_24⟩)) rfl ?_
  refine na_n (q := 18) rfl ?_
  refine na_n (q := 19) rfl ?_
  refine na_n (q := 20) rfl ?_
  refine na_n (q := 21) rfl ?_
  refine na_n (q := 22) rfl ?_
  refine na_n (q := 23) rfl ?_
  refine na_n (q := 24) rfl ?_
  refine na_n (q := 25) rfl ?_
  refine na_1 (q := 26) (one_d (so_aload_n (M := np_M120) (pc := 25) dX7_undo_25 rfl) (up_aload _ _)) rfl ?_
  refine na_3 (q := 29) (one_d (so_get (M := np_M120) (pc := 26) kd_5 (k := 3) (by decide) dX7_undo_26 wd_256) (up_get _ _ _)) rfl ?_
  refine na_3 (q := 32) (one_d (so_getN (M := np_M120) (pc := 29) kd_3 (k := 2) (by decide) dX7_undo_29 wd_211) (up_get _ _ _)) rfl ?_
  refine na_1 (q := 33) (one_d (so_reti (M := np_M120) (pc := 32) dX7_undo_32 rfl) (up_reti _)) rfl ?_
  exact na_z
theorem hl_121 : np_hls.getD 121 [] = [] := rfl
set_option maxRecDepth 100000 in
set_option maxHeartbeats 4000000 in
theorem ok_121 : nv_all np_M121 121 0 np_c121 := by
  unfold np_c121
  refine na_1 (q := 1) (one_d (so_aload_n (M := np_M121) (pc := 0) dX7_save_0 rfl) (up_aload _ _)) rfl ?_
  refine na_3 (q := 4) (one_d (so_get (M := np_M121) (pc := 1) kd_5 (k := 2) (by decide) dX7_save_1 wd_255) (up_get _ _ _)) rfl ?_
  refine na_1 (q := 5) (one_d (so_aload_n (M := np_M121) (pc := 4) dX7_save_4 rfl) (up_aload _ _)) rfl ?_
  refine na_3 (q := 8) (one_d (so_get (M := np_M121) (pc := 5) kd_5 (k := 0) (by decide) dX7_save_5 wd_253) (up_get _ _ _)) rfl ?_
  refine na_3 (q := 11) (one_c rfl mq_27 hl_121 rfl (sc_V (M := np_M121) (pc := 8) dX7_save_8 cw_X7_save_X4_copyFrom rfl wd_291 wd_292 wd_293 (nv_rcO (ci := 2) rfl))) rfl ?_
  refine na_1 (q := 12) (one_d (so_aload_n (M := np_M121) (pc := 11) dX7_save_11 rfl) (up_aload _ _)) rfl ?_
  refine na_1 (q := 13) (one_d (so_iconst (M := np_M121) (pc := 12) dX7_save_12 (by decide)) (up_cst _ _)) rfl ?_
  refine na_3 (q := 16) (one_d (so_put (M := np_M121) (pc := 13) kd_5 (k := 7) (by decide) dX7_save_13 (Or.inl wd_260) (Or.inl rfl)) (up_put _ _ _ _)) rfl ?_
  refine na_1 (q := 17) (one_d (so_aload_n (M := np_M121) (pc := 16) dX7_save_16 rfl) (up_aload _ _)) rfl ?_
  refine na_3 (q := 20) (one_d (so_get (M := np_M121) (pc := 17) kd_5 (k := 0) (by decide) dX7_save_17 wd_253) (up_get _ _ _)) rfl ?_
  refine na_3 (q := 23) (one_d (so_getN (M := np_M121) (pc := 20) kd_2 (k := 3) (by decide) dX7_save_20 wd_157) (up_get _ _ _)) rfl ?_
  refine na_1 (q := 24) (one_d (so_reti (M := np_M121) (pc := 23) dX7_save_23 rfl) (up_reti _)) rfl ?_
  exact na_z
theorem hl_122 : np_hls.getD 122 [] = [] := rfl
set_option maxRecDepth 100000 in
set_option maxHeartbeats 4000000 in
theorem ok_122 : nv_all np_M122 122 0 np_c122 := by
  unfold np_c122
  refine na_1 (q := 1) (one_d (so_aload_n (M := np_M122) (pc := 0) dX7_restore_0 rfl) (up_aload _ _)) rfl ?_
  refine na_3 (q := 4) (one_d (so_get (M := np_M122) (pc := 1) kd_5 (k := 7) (by decide) dX7_restore_1 wd_260) (up_get _ _ _)) rfl ?_
  refine na_3 (q := 7) (one_d (so_ifne (M := np_M122) (pc := 4) dX7_restore_4 (by decide)) (up_ifne _ _)) rfl ?_
  refine na_3 (q := 10) (st_S (M := np_M122) (pc := 7) rfl rfl (by decide) th_IllegalStateException wd_479 (show (312, "there is no snapshot") ∈ nv_msgs by decide) dX7_restore_7 dX7_restore_10 (Or.inr ⟨dX7_restore_11, dX7_restore_14, dX7_restore_17⟩)) rfl ?_
  refine na_n (q := 11) rfl ?_
  refine na_n (q := 12) rfl ?_
  refine na_n (q := 13) rfl ?_
  refine na_n (q := 14) rfl ?_
  refine na_n (q := 15) rfl ?_
  refine na_n (q := 16) rfl ?_
  refine na_n (q := 17) rfl ?_
  refine na_n (q := 18) rfl ?_
  refine na_1 (q := 19) (one_d (so_aload_n (M := np_M122) (pc := 18) dX7_restore_18 rfl) (up_aload _ _)) rfl ?_
  refine na_3 (q := 22) (one_d (so_get (M := np_M122) (pc := 19) kd_5 (k := 0) (by decide) dX7_restore_19 wd_253) (up_get _ _ _)) rfl ?_
  refine na_1 (q := 23) (one_d (so_aload_n (M := np_M122) (pc := 22) dX7_restore_22 rfl) (up_aload _ _)) rfl ?_
  refine na_3 (q := 26) (one_d (so_get (M := np_M122) (pc := 23) kd_5 (k := 2) (by decide) dX7_restore_23 wd_255) (up_get _ _ _)) rfl ?_
  refine na_3 (q := 29) (one_c rfl mq_27 hl_122 rfl (sc_V (M := np_M122) (pc := 26) dX7_restore_26 cw_X7_restore_X4_copyFrom rfl wd_291 wd_292 wd_293 (nv_rcO (ci := 2) rfl))) rfl ?_
  refine na_1 (q := 30) (one_d (so_aload_n (M := np_M122) (pc := 29) dX7_restore_29 rfl) (up_aload _ _)) rfl ?_
  refine na_3 (q := 33) (one_d (so_get (M := np_M122) (pc := 30) kd_5 (k := 3) (by decide) dX7_restore_30 wd_256) (up_get _ _ _)) rfl ?_
  refine na_3 (q := 36) (one_c rfl mq_59 hl_122 rfl (sc_V (M := np_M122) (pc := 33) dX7_restore_33 cw_X7_restore_X5_clear rfl wd_816 wd_817 wd_818 (nv_rcO (ci := 3) rfl))) rfl ?_
  refine na_1 (q := 37) (one_d (so_aload_n (M := np_M122) (pc := 36) dX7_restore_36 rfl) (up_aload _ _)) rfl ?_
  refine na_3 (q := 40) (one_d (so_get (M := np_M122) (pc := 37) kd_5 (k := 0) (by decide) dX7_restore_37 wd_253) (up_get _ _ _)) rfl ?_
  refine na_3 (q := 43) (one_d (so_getN (M := np_M122) (pc := 40) kd_2 (k := 3) (by decide) dX7_restore_40 wd_157) (up_get _ _ _)) rfl ?_
  refine na_1 (q := 44) (one_d (so_reti (M := np_M122) (pc := 43) dX7_restore_43 rfl) (up_reti _)) rfl ?_
  exact na_z
theorem hl_123 : np_hls.getD 123 [] = [] := rfl
set_option maxRecDepth 100000 in
set_option maxHeartbeats 4000000 in
theorem ok_123 : nv_all np_M123 123 0 np_c123 := by
  unfold np_c123
  refine na_1 (q := 1) (one_d (so_iload_n (M := np_M123) (pc := 0) dX7_concluded_0 rfl) (up_iload _ _)) rfl ?_
  refine na_3 (q := 4) (one_d (so_iflt (M := np_M123) (pc := 1) dX7_concluded_1 (by decide)) (up_iflt _ _)) rfl ?_
  refine na_1 (q := 5) (one_d (so_aload_n (M := np_M123) (pc := 4) dX7_concluded_4 rfl) (up_aload _ _)) rfl ?_
  refine na_3 (q := 8) (one_d (so_get (M := np_M123) (pc := 5) kd_5 (k := 3) (by decide) dX7_concluded_5 wd_256) (up_get _ _ _)) rfl ?_
  refine na_1 (q := 9) (one_d (so_aload_n (M := np_M123) (pc := 8) dX7_concluded_8 rfl) (up_aload _ _)) rfl ?_
  refine na_3 (q := 12) (one_d (so_get (M := np_M123) (pc := 9) kd_5 (k := 1) (by decide) dX7_concluded_9 wd_254) (up_get _ _ _)) rfl ?_
  refine na_3 (q := 15) (one_c rfl mq_57 hl_123 rfl (sc_V (M := np_M123) (pc := 12) dX7_concluded_12 cw_X7_concluded_X5_push rfl wd_438 wd_439 wd_440 (nv_rcO (ci := 3) rfl))) rfl ?_
  refine na_1 (q := 16) (one_d (so_iload_n (M := np_M123) (pc := 15) dX7_concluded_15 rfl) (up_iload _ _)) rfl ?_
  refine na_1 (q := 17) (one_d (so_reti (M := np_M123) (pc := 16) dX7_concluded_16 rfl) (up_reti _)) rfl ?_
  refine na_1 (q := 18) (one_d (so_aload_n (M := np_M123) (pc := 17) dX7_concluded_17 rfl) (up_aload _ _)) rfl ?_
  refine na_1 (q := 19) (one_d (so_iload_n (M := np_M123) (pc := 18) dX7_concluded_18 rfl) (up_iload _ _)) rfl ?_
  refine na_3 (q := 22) (one_c rfl mq_124 hl_123 rfl (sc_V (M := np_M123) (pc := 19) dX7_concluded_19 cw_X7_concluded_X7_keepReason rfl wd_446 wd_448 wd_2 (nv_rcO (ci := 5) rfl))) rfl ?_
  refine na_1 (q := 23) (one_d (so_iload_n (M := np_M123) (pc := 22) dX7_concluded_22 rfl) (up_iload _ _)) rfl ?_
  refine na_3 (q := 26) (one_d (so_tsw (M := np_M123) (pc := 23) dX7_concluded_23 (by decide) (by decide) (by decide)) (up_tsw _ _ _)) rfl ?_
  refine na_n (q := 27) rfl ?_
  refine na_n (q := 28) rfl ?_
  refine na_n (q := 29) rfl ?_
  refine na_n (q := 30) rfl ?_
  refine na_n (q := 31) rfl ?_
  refine na_n (q := 32) rfl ?_
  refine na_n (q := 33) rfl ?_
  refine na_n (q := 34) rfl ?_
  refine na_n (q := 35) rfl ?_
  refine na_n (q := 36) rfl ?_
  refine na_n (q := 37) rfl ?_
  refine na_n (q := 38) rfl ?_
  refine na_n (q := 39) rfl ?_
  refine na_n (q := 40) rfl ?_
  refine na_n (q := 41) rfl ?_
  refine na_n (q := 42) rfl ?_
  refine na_n (q := 43) rfl ?_
  refine na_n (q := 44) rfl ?_
  refine na_n (q := 45) rfl ?_
  refine na_n (q := 46) rfl ?_
  refine na_n (q := 47) rfl ?_
  refine na_n (q := 48) rfl ?_
  refine na_n (q := 49) rfl ?_
  refine na_n (q := 50) rfl ?_
  refine na_n (q := 51) rfl ?_
  refine na_n (q := 52) rfl ?_
  refine na_3 (q := 55) (st_S (M := np_M123) (pc := 52) rfl rfl (by decide) th_IndexOutOfBoundsException wd_450 (show (318, "there is no such spoon or fleet") ∈ nv_msgs by decide) dX7_concluded_52 dX7_concluded_55 (Or.inr ⟨dX7_concluded_56, dX7_concluded_59, dX7_concluded_62⟩)) rfl ?_
  refine na_n (q := 56) rfl ?_
  refine na_n (q := 57) rfl ?_
  refine na_n (q := 58) rfl ?_
  refine na_n (q := 59) rfl ?_
  refine na_n (q := 60) rfl ?_
  refine na_n (q := 61) rfl ?_
  refine na_n (q := 62) rfl ?_
  refine na_n (q := 63) rfl ?_
  refine na_3 (q := 66) (st_S (M := np_M123) (pc := 63) rfl rfl (by decide) th_IllegalArgumentException wd_463 (show (320, "a number is out of range") ∈ nv_msgs by decide) dX7_concluded_63 dX7_concluded_66 (Or.inr ⟨dX7_concluded_67, dX7_concluded_70, dX7_concluded_73⟩)) rfl ?_
  refine na_n (q := 67) rfl ?_
  refine na_n (q := 68) rfl ?_
  refine na_n (q := 69) rfl ?_
  refine na_n (q := 70) rfl ?_
  refine na_n (q := 71) rfl ?_
  refine na_n (q := 72) rfl ?_
  refine na_n (q := 73) rfl ?_
  refine na_n (q := 74) rfl ?_
  refine na_3 (q := 77) (st_S (M := np_M123) (pc := 74) rfl rfl (by decide) th_IllegalStateException wd_479 (show (322, "the game does not allow this now") ∈ nv_msgs by decide) dX7_concluded_74 dX7_concluded_77 (Or.inr ⟨dX7_concluded_78, dX7_concluded_81, dX7_concluded_84⟩)) rfl ?_
  refine na_n (q := 78) rfl ?_
  refine na_n (q := 79) rfl ?_
  refine na_n (q := 80) rfl ?_
  refine na_n (q := 81) rfl ?_
  refine na_n (q := 82) rfl ?_
  refine na_n (q := 83) rfl ?_
  refine na_n (q := 84) rfl ?_
  refine na_n (q := 85) rfl ?_
  refine na_3 (q := 88) (st_S (M := np_M123) (pc := 85) rfl rfl (by decide) th_UnsupportedOperationException wd_495 (show (326, "a spoon is in the cell") ∈ nv_msgs by decide) dX7_concluded_85 dX7_concluded_88 (Or.inr ⟨dX7_concluded_89, dX7_concluded_92, dX7_concluded_95⟩)) rfl ?_
  refine na_n (q := 89) rfl ?_
  refine na_n (q := 90) rfl ?_
  refine na_n (q := 91) rfl ?_
  refine na_n (q := 92) rfl ?_
  refine na_n (q := 93) rfl ?_
  refine na_n (q := 94) rfl ?_
  refine na_n (q := 95) rfl ?_
  refine na_n (q := 96) rfl ?_
  refine na_1 (q := 97) (st_S (M := np_M123) (pc := 96) rfl rfl (by decide) th_UnsupportedOperationException wd_495 (show (329, "the action is refused") ∈ nv_msgs by decide) dX7_concluded_96 dX7_concluded_99 (Or.inr ⟨dX7_concluded_100, dX7_concluded_103, dX7_concluded_106⟩)) rfl ?_
  exact na_z
theorem hl_124 : np_hls.getD 124 [] = [] := rfl
set_option maxRecDepth 100000 in
set_option maxHeartbeats 4000000 in
theorem ok_124 : nv_all np_M124 124 0 np_c124 := by
  unfold np_c124
  refine na_1 (q := 1) (one_d (so_iload_n (M := np_M124) (pc := 0) dX7_keepReason_0 rfl) (up_iload _ _)) rfl ?_
  refine na_2 (q := 3) (one_d (so_bipush (M := np_M124) (pc := 1) dX7_keepReason_1 (by decide)) (up_cst _ _)) rfl ?_
  refine na_3 (q := 6) (one_d (so_cge (M := np_M124) (pc := 3) dX7_keepReason_3 (by decide)) (up_cge _ _)) rfl ?_
  refine na_1 (q := 7) (one_d (so_aload_n (M := np_M124) (pc := 6) dX7_keepReason_6 rfl) (up_aload _ _)) rfl ?_
  refine na_2 (q := 9) (one_d (so_bipush (M := np_M124) (pc := 7) dX7_keepReason_7 (by decide)) (up_cst _ _)) rfl ?_
  refine na_1 (q := 10) (one_d (so_iload_n (M := np_M124) (pc := 9) dX7_keepReason_9 rfl) (up_iload _ _)) rfl ?_
  refine na_1 (q := 11) (one_d (so_isub (M := np_M124) (pc := 10) dX7_keepReason_10) (up_i2 _ _)) rfl ?_
  refine na_3 (q := 14) (one_d (so_put (M := np_M124) (pc := 11) kd_5 (k := 8) (by decide) dX7_keepReason_11 (Or.inl wd_261) (Or.inl rfl)) (up_put _ _ _ _)) rfl ?_
  refine na_1 (q := 15) (one_d (so_retv (M := np_M124) (pc := 14) dX7_keepReason_14 rfl) (up_retv)) rfl ?_
  exact na_z
theorem hl_125 : np_hls.getD 125 [] = [] := rfl
set_option maxRecDepth 100000 in
set_option maxHeartbeats 4000000 in
theorem ok_125 : nv_all np_M125 125 0 np_c125 := by
  unfold np_c125
  refine na_1 (q := 1) (one_d (so_aload_n (M := np_M125) (pc := 0) dX7_firstFailure_0 rfl) (up_aload _ _)) rfl ?_
  refine na_3 (q := 4) (one_d (so_get (M := np_M125) (pc := 1) kd_5 (k := 4) (by decide) dX7_firstFailure_1 wd_257) (up_get _ _ _)) rfl ?_
  refine na_3 (q := 7) (one_c rfl mq_15 hl_125 rfl (sc_V (M := np_M125) (pc := 4) dX7_firstFailure_4 cw_X7_firstFailure_X2_rewind rfl wd_693 wd_596 wd_597 (nv_rcO (ci := 1) rfl))) rfl ?_
  refine na_1 (q := 8) (one_d (so_iconst (M := np_M125) (pc := 7) dX7_firstFailure_7 (by decide)) (up_cst _ _)) rfl ?_
  refine na_1 (q := 9) (one_d (so_istore_n (M := np_M125) (pc := 8) dX7_firstFailure_8 rfl (by decide)) (up_istore _ _)) rfl ?_
  refine na_1 (q := 10) (one_d (so_iload_n (M := np_M125) (pc := 9) dX7_firstFailure_9 rfl) (up_iload _ _)) rfl ?_
  refine na_1 (q := 11) (one_d (so_iload_n (M := np_M125) (pc := 10) dX7_firstFailure_10 rfl) (up_iload _ _)) rfl ?_
  refine na_3 (q := 14) (one_d (so_cge (M := np_M125) (pc := 11) dX7_firstFailure_11 (by decide)) (up_cge _ _)) rfl ?_
  refine na_1 (q := 15) (one_d (so_aload_n (M := np_M125) (pc := 14) dX7_firstFailure_14 rfl) (up_aload _ _)) rfl ?_
  refine na_3 (q := 18) (one_d (so_get (M := np_M125) (pc := 15) kd_5 (k := 4) (by decide) dX7_firstFailure_15 wd_257) (up_get _ _ _)) rfl ?_
  refine na_3 (q := 21) (one_c rfl mq_18 hl_125 rfl (sc_V (M := np_M125) (pc := 18) dX7_firstFailure_18 cw_X7_firstFailure_X2_readCommand rfl wd_694 wd_600 wd_601 (nv_rcO (ci := 1) rfl))) rfl ?_
  refine na_1 (q := 22) (one_d (so_pop (M := np_M125) (pc := 21) dX7_firstFailure_21) (up_pop _)) rfl ?_
  refine na_1 (q := 23) (one_d (so_aload_n (M := np_M125) (pc := 22) dX7_firstFailure_22 rfl) (up_aload _ _)) rfl ?_
  refine na_1 (q := 24) (one_d (so_aload_n (M := np_M125) (pc := 23) dX7_firstFailure_23 rfl) (up_aload _ _)) rfl ?_
  refine na_3 (q := 27) (one_d (so_get (M := np_M125) (pc := 24) kd_5 (k := 4) (by decide) dX7_firstFailure_24 wd_257) (up_get _ _ _)) rfl ?_
  refine na_3 (q := 30) (one_c rfl mq_126 hl_125 rfl (sc_V (M := np_M125) (pc := 27) dX7_firstFailure_27 cw_X7_firstFailure_X7_carryOut rfl wd_695 wd_697 wd_11 (nv_rcO (ci := 5) rfl))) rfl ?_
  refine na_1 (q := 31) (one_d (so_istore_n (M := np_M125) (pc := 30) dX7_firstFailure_30 rfl (by decide)) (up_istore _ _)) rfl ?_
  refine na_1 (q := 32) (one_d (so_iload_n (M := np_M125) (pc := 31) dX7_firstFailure_31 rfl) (up_iload _ _)) rfl ?_
  refine na_3 (q := 35) (one_d (so_ifge (M := np_M125) (pc := 32) dX7_firstFailure_32 (by decide)) (up_ifge _ _)) rfl ?_
  refine na_1 (q := 36) (one_d (so_aload_n (M := np_M125) (pc := 35) dX7_firstFailure_35 rfl) (up_aload _ _)) rfl ?_
  refine na_1 (q := 37) (one_d (so_iload_n (M := np_M125) (pc := 36) dX7_firstFailure_36 rfl) (up_iload _ _)) rfl ?_
  refine na_3 (q := 40) (one_c rfl mq_124 hl_125 rfl (sc_V (M := np_M125) (pc := 37) dX7_firstFailure_37 cw_X7_firstFailure_X7_keepReason rfl wd_446 wd_448 wd_2 (nv_rcO (ci := 5) rfl))) rfl ?_
  refine na_1 (q := 41) (one_d (so_iload_n (M := np_M125) (pc := 40) dX7_firstFailure_40 rfl) (up_iload _ _)) rfl ?_
  refine na_1 (q := 42) (one_d (so_reti (M := np_M125) (pc := 41) dX7_firstFailure_41 rfl) (up_reti _)) rfl ?_
  refine na_1 (q := 43) (one_d (so_aload_n (M := np_M125) (pc := 42) dX7_firstFailure_42 rfl) (up_aload _ _)) rfl ?_
  refine na_3 (q := 46) (one_d (so_get (M := np_M125) (pc := 43) kd_5 (k := 4) (by decide) dX7_firstFailure_43 wd_257) (up_get _ _ _)) rfl ?_
  refine na_3 (q := 49) (one_c rfl mq_17 hl_125 rfl (sc_V (M := np_M125) (pc := 46) dX7_firstFailure_46 cw_X7_firstFailure_X2_skipSeparator rfl wd_770 wd_681 wd_682 (nv_rcO (ci := 1) rfl))) rfl ?_
  refine na_1 (q := 50) (one_d (so_pop (M := np_M125) (pc := 49) dX7_firstFailure_49) (up_pop _)) rfl ?_
  refine na_3 (q := 53) (one_d (so_iinc (M := np_M125) (pc := 50) dX7_firstFailure_50 (by decide) (by decide)) (up_iinc _ _ _)) rfl ?_
  refine na_3 (q := 56) (one_d (so_goto (M := np_M125) (pc := 53) dX7_firstFailure_53 (by decide)) (up_goto _)) rfl ?_
  refine na_1 (q := 57) (one_d (so_iconst (M := np_M125) (pc := 56) dX7_firstFailure_56 (by decide)) (up_cst _ _)) rfl ?_
  refine na_1 (q := 58) (one_d (so_reti (M := np_M125) (pc := 57) dX7_firstFailure_57 rfl) (up_reti _)) rfl ?_
  exact na_z
