-- rows: every deed of these methods is sound (written by wip/p56/gen20.py)
theorem hl_0 : np_hls.getD 0 [] = [] := rfl
set_option maxRecDepth 100000 in
set_option maxHeartbeats 4000000 in
theorem ok_0 : nv_all np_M0 0 0 np_c0 := by
  unfold np_c0
  refine na_1 (q := 1) (one_d (so_aload_n (M := np_M0) (pc := 0) dJ0_length_8abf5_0 rfl) (up_aload _ _)) rfl ?_
  refine na_3 (q := 4) (one_d (so_fVALUE (M := np_M0) (pc := 1) dJ0_length_8abf5_1 wd_1230) (up_sget _ _ _)) rfl ?_
  refine na_1 (q := 5) (one_d (so_lBYTES (M := np_M0) (pc := 4) dJ0_length_8abf5_4) (up_slens _ _ _)) rfl ?_
  refine na_1 (q := 6) (one_d (so_aload_n (M := np_M0) (pc := 5) dJ0_length_8abf5_5 rfl) (up_aload _ _)) rfl ?_
  refine na_3 (q := 9) (one_c rfl mq_2 hl_0 rfl (sc_V (M := np_M0) (pc := 6) dJ0_length_8abf5_6 cw_J0_length_8abf5_J0_coder_7d493 rfl wd_613 wd_614 wd_615 nv_rcS)) rfl ?_
  refine na_1 (q := 10) (one_d (so_ishr (M := np_M0) (pc := 9) dJ0_length_8abf5_9) (up_i2 _ _)) rfl ?_
  refine na_1 (q := 11) (one_d (so_reti (M := np_M0) (pc := 10) dJ0_length_8abf5_10 rfl) (up_reti _)) rfl ?_
  exact na_z
theorem hl_1 : np_hls.getD 1 [] = [] := rfl
set_option maxRecDepth 100000 in
set_option maxHeartbeats 4000000 in
theorem ok_1 : nv_all np_M1 1 0 np_c1 := by
  unfold np_c1
  refine na_1 (q := 1) (one_d (so_aload_n (M := np_M1) (pc := 0) dJ0_charAt_5068e_0 rfl) (up_aload _ _)) rfl ?_
  refine na_3 (q := 4) (one_c rfl mq_3 hl_1 rfl (sc_V (M := np_M1) (pc := 1) dJ0_charAt_5068e_1 cw_J0_charAt_5068e_J0_isLatin1_aae02 rfl wd_623 wd_624 wd_625 nv_rcS)) rfl ?_
  refine na_3 (q := 7) (one_d (so_ifeq (M := np_M1) (pc := 4) dJ0_charAt_5068e_4 (by decide)) (up_ifeq _ _)) rfl ?_
  refine na_1 (q := 8) (one_d (so_aload_n (M := np_M1) (pc := 7) dJ0_charAt_5068e_7 rfl) (up_aload _ _)) rfl ?_
  refine na_3 (q := 11) (one_d (so_fVALUE (M := np_M1) (pc := 8) dJ0_charAt_5068e_8 wd_1230) (up_sget _ _ _)) rfl ?_
  refine na_1 (q := 12) (one_d (so_iload_n (M := np_M1) (pc := 11) dJ0_charAt_5068e_11 rfl) (up_iload _ _)) rfl ?_
  refine na_3 (q := 15) (one_c rfl mq_5 hl_1 rfl (sc_S (M := np_M1) (pc := 12) dJ0_charAt_5068e_12 cw_J0_charAt_5068e_J1_charAt_3b067 wd_627 wd_628)) rfl ?_
  refine na_1 (q := 16) (one_d (so_reti (M := np_M1) (pc := 15) dJ0_charAt_5068e_15 rfl) (up_reti _)) rfl ?_
  exact na_z
theorem hl_2 : np_hls.getD 2 [] = [] := rfl
set_option maxRecDepth 100000 in
set_option maxHeartbeats 4000000 in
theorem ok_2 : nv_all np_M2 2 0 np_c2 := by
  unfold np_c2
  refine na_3 (q := 3) (one_d (so_gCOMP (M := np_M2) (pc := 0) dJ0_coder_7d493_0 wd_617) (up_cst _ _)) rfl ?_
  refine na_3 (q := 6) (one_d (so_ifeq (M := np_M2) (pc := 3) dJ0_coder_7d493_3 (by decide)) (up_ifeq _ _)) rfl ?_
  refine na_1 (q := 7) (one_d (so_aload_n (M := np_M2) (pc := 6) dJ0_coder_7d493_6 rfl) (up_aload _ _)) rfl ?_
  refine na_3 (q := 10) (one_d (so_fCODER (M := np_M2) (pc := 7) dJ0_coder_7d493_7 wd_1231) (up_sget _ _ _)) rfl ?_
  refine na_3 (q := 13) (one_d (so_goto (M := np_M2) (pc := 10) dJ0_coder_7d493_10 (by decide)) (up_goto _)) rfl ?_
  refine na_n (q := 14) rfl ?_
  refine na_1 (q := 15) (one_d (so_reti (M := np_M2) (pc := 14) dJ0_coder_7d493_14 rfl) (up_reti _)) rfl ?_
  exact na_z
theorem hl_3 : np_hls.getD 3 [] = [] := rfl
set_option maxRecDepth 100000 in
set_option maxHeartbeats 4000000 in
theorem ok_3 : nv_all np_M3 3 0 np_c3 := by
  unfold np_c3
  refine na_3 (q := 3) (one_d (so_gCOMP (M := np_M3) (pc := 0) dJ0_isLatin1_aae02_0 wd_617) (up_cst _ _)) rfl ?_
  refine na_3 (q := 6) (one_d (so_ifeq (M := np_M3) (pc := 3) dJ0_isLatin1_aae02_3 (by decide)) (up_ifeq _ _)) rfl ?_
  refine na_1 (q := 7) (one_d (so_aload_n (M := np_M3) (pc := 6) dJ0_isLatin1_aae02_6 rfl) (up_aload _ _)) rfl ?_
  refine na_3 (q := 10) (one_d (so_fCODER (M := np_M3) (pc := 7) dJ0_isLatin1_aae02_7 wd_1231) (up_sget _ _ _)) rfl ?_
  refine na_3 (q := 13) (one_d (so_ifne (M := np_M3) (pc := 10) dJ0_isLatin1_aae02_10 (by decide)) (up_ifne _ _)) rfl ?_
  refine na_1 (q := 14) (one_d (so_iconst (M := np_M3) (pc := 13) dJ0_isLatin1_aae02_13 (by decide)) (up_cst _ _)) rfl ?_
  refine na_3 (q := 17) (one_d (so_goto (M := np_M3) (pc := 14) dJ0_isLatin1_aae02_14 (by decide)) (up_goto _)) rfl ?_
  refine na_n (q := 18) rfl ?_
  refine na_1 (q := 19) (one_d (so_reti (M := np_M3) (pc := 18) dJ0_isLatin1_aae02_18 rfl) (up_reti _)) rfl ?_
  exact na_z
theorem hl_4 : np_hls.getD 4 [] = [] := rfl
set_option maxRecDepth 100000 in
set_option maxHeartbeats 4000000 in
theorem ok_4 : nv_all np_M4 4 0 np_c4 := by
  unfold np_c4
  refine na_1 (q := 1) (one_d (so_iload_n (M := np_M4) (pc := 0) dJ0_checkIndex_df160_0 rfl) (up_iload _ _)) rfl ?_
  refine na_1 (q := 2) (one_d (so_iload_n (M := np_M4) (pc := 1) dJ0_checkIndex_df160_1 rfl) (up_iload _ _)) rfl ?_
  refine na_3 (q := 5) (one_d (so_gSIO (M := np_M4) (pc := 2) dJ0_checkIndex_df160_2 wd_633) (up_cst _ _)) rfl ?_
  refine na_3 (q := 8) (one_c rfl mq_6 hl_4 rfl (sc_S (M := np_M4) (pc := 5) dJ0_checkIndex_df160_5 cw_J0_checkIndex_df160_J3_checkIndex_8e157 wd_635 wd_636)) rfl ?_
  refine na_1 (q := 9) (one_d (so_pop (M := np_M4) (pc := 8) dJ0_checkIndex_df160_8) (up_pop _)) rfl ?_
  refine na_1 (q := 10) (one_d (so_retv (M := np_M4) (pc := 9) dJ0_checkIndex_df160_9 rfl) (up_retv)) rfl ?_
  exact na_z
theorem hl_5 : np_hls.getD 5 [] = [] := rfl
set_option maxRecDepth 100000 in
set_option maxHeartbeats 4000000 in
theorem ok_5 : nv_all np_M5 5 0 np_c5 := by
  unfold np_c5
  refine na_1 (q := 1) (one_d (so_iload_n (M := np_M5) (pc := 0) dJ1_charAt_3b067_0 rfl) (up_iload _ _)) rfl ?_
  refine na_1 (q := 2) (one_d (so_aload_n (M := np_M5) (pc := 1) dJ1_charAt_3b067_1 rfl) (up_aload _ _)) rfl ?_
  refine na_1 (q := 3) (one_d (so_lBYTES (M := np_M5) (pc := 2) dJ1_charAt_3b067_2) (up_slens _ _ _)) rfl ?_
  refine na_3 (q := 6) (one_c rfl mq_4 hl_5 rfl (sc_S (M := np_M5) (pc := 3) dJ1_charAt_3b067_3 cw_J1_charAt_3b067_J0_checkIndex_df160 wd_630 wd_631)) rfl ?_
  refine na_1 (q := 7) (one_d (so_aload_n (M := np_M5) (pc := 6) dJ1_charAt_3b067_6 rfl) (up_aload _ _)) rfl ?_
  refine na_1 (q := 8) (one_d (so_iload_n (M := np_M5) (pc := 7) dJ1_charAt_3b067_7 rfl) (up_iload _ _)) rfl ?_
  refine na_1 (q := 9) (one_d (so_ldBYTES (M := np_M5) (pc := 8) dJ1_charAt_3b067_8) (up_salds _ _ _)) rfl ?_
  refine na_3 (q := 12) (one_d (so_sipush (M := np_M5) (pc := 9) dJ1_charAt_3b067_9 (by decide)) (up_cst _ _)) rfl ?_
  refine na_1 (q := 13) (one_d (so_iand (M := np_M5) (pc := 12) dJ1_charAt_3b067_12) (up_i2 _ _)) rfl ?_
  refine na_1 (q := 14) (one_d (so_i2c (M := np_M5) (pc := 13) dJ1_charAt_3b067_13) (up_i2c _)) rfl ?_
  refine na_1 (q := 15) (one_d (so_reti (M := np_M5) (pc := 14) dJ1_charAt_3b067_14 rfl) (up_reti _)) rfl ?_
  exact na_z
theorem hl_6 : np_hls.getD 6 [] = [] := rfl
set_option maxRecDepth 100000 in
set_option maxHeartbeats 4000000 in
theorem ok_6 : nv_all np_M6 6 0 np_c6 := by
  unfold np_c6
  refine na_1 (q := 1) (one_d (so_iload_n (M := np_M6) (pc := 0) dJ3_checkIndex_8e157_0 rfl) (up_iload _ _)) rfl ?_
  refine na_3 (q := 4) (one_d (so_iflt (M := np_M6) (pc := 1) dJ3_checkIndex_8e157_1 (by decide)) (up_iflt _ _)) rfl ?_
  refine na_1 (q := 5) (one_d (so_iload_n (M := np_M6) (pc := 4) dJ3_checkIndex_8e157_4 rfl) (up_iload _ _)) rfl ?_
  refine na_1 (q := 6) (one_d (so_iload_n (M := np_M6) (pc := 5) dJ3_checkIndex_8e157_5 rfl) (up_iload _ _)) rfl ?_
  refine na_3 (q := 9) (one_d (so_clt (M := np_M6) (pc := 6) dJ3_checkIndex_8e157_6 (by decide)) (up_clt _ _)) rfl ?_
  refine na_n (q := 10) rfl ?_
  refine na_n (q := 11) rfl ?_
  refine na_n (q := 12) rfl ?_
  refine na_n (q := 13) rfl ?_
  refine na_n (q := 14) rfl ?_
  refine na_n (q := 15) rfl ?_
  refine na_n (q := 16) rfl ?_
  refine na_1 (q := 17) (one_d (so_iload_n (M := np_M6) (pc := 16) dJ3_checkIndex_8e157_16 rfl) (up_iload _ _)) rfl ?_
  refine na_1 (q := 18) (one_d (so_reti (M := np_M6) (pc := 17) dJ3_checkIndex_8e157_17 rfl) (up_reti _)) rfl ?_
  exact na_z
theorem hl_7 : np_hls.getD 7 [] = [] := rfl
set_option maxRecDepth 100000 in
set_option maxHeartbeats 4000000 in
theorem ok_7 : nv_all np_M7 7 0 np_c7 := by
  unfold np_c7
  refine na_1 (q := 1) (one_d (so_aload_n (M := np_M7) (pc := 0) dJx29ce0_ordinal_8abf5_0 rfl) (up_aload _ _)) rfl ?_
  refine na_3 (q := 4) (one_d (so_fORD (M := np_M7) (pc := 1) dJx29ce0_ordinal_8abf5_1 wd_1233) (up_sget _ _ _)) rfl ?_
  refine na_1 (q := 5) (one_d (so_reti (M := np_M7) (pc := 4) dJx29ce0_ordinal_8abf5_4 rfl) (up_reti _)) rfl ?_
  exact na_z
theorem hl_8 : np_hls.getD 8 [] = [] := rfl
set_option maxRecDepth 100000 in
set_option maxHeartbeats 4000000 in
theorem ok_8 : nv_all np_M8 8 0 np_c8 := by
  unfold np_c8
  refine na_1 (q := 1) (one_d (so_aload_n (M := np_M8) (pc := 0) dX1_init_0 rfl) (up_aload _ _)) rfl ?_
  refine na_3 (q := 4) (one_d (so_oinit (M := np_M8) (pc := 1) dX1_init_1 wd_68 wd_53 cd_obj (by decide)) (up_oinit _)) rfl ?_
  refine na_1 (q := 5) (one_d (so_aload_n (M := np_M8) (pc := 4) dX1_init_4 rfl) (up_aload _ _)) rfl ?_
  refine na_1 (q := 6) (one_d (so_iconst (M := np_M8) (pc := 5) dX1_init_5 (by decide)) (up_cst _ _)) rfl ?_
  refine na_3 (q := 9) (one_d (so_put (M := np_M8) (pc := 6) kd_0 (k := 0) (by decide) dX1_init_6 (Or.inl wd_69) (Or.inl rfl)) (up_put _ _ _ _)) rfl ?_
  refine na_1 (q := 10) (one_d (so_aload_n (M := np_M8) (pc := 9) dX1_init_9 rfl) (up_aload _ _)) rfl ?_
  refine na_1 (q := 11) (one_d (so_iconst (M := np_M8) (pc := 10) dX1_init_10 (by decide)) (up_cst _ _)) rfl ?_
  refine na_3 (q := 14) (one_d (so_put (M := np_M8) (pc := 11) kd_0 (k := 1) (by decide) dX1_init_11 (Or.inl wd_71) (Or.inl rfl)) (up_put _ _ _ _)) rfl ?_
  refine na_1 (q := 15) (one_d (so_aload_n (M := np_M8) (pc := 14) dX1_init_14 rfl) (up_aload _ _)) rfl ?_
  refine na_2 (q := 17) (one_d (so_bipush (M := np_M8) (pc := 15) dX1_init_15 (by decide)) (up_cst _ _)) rfl ?_
  refine na_3 (q := 20) (one_d (so_put (M := np_M8) (pc := 17) kd_0 (k := 2) (by decide) dX1_init_17 (Or.inl wd_74) (Or.inl rfl)) (up_put _ _ _ _)) rfl ?_
  refine na_1 (q := 21) (one_d (so_aload_n (M := np_M8) (pc := 20) dX1_init_20 rfl) (up_aload _ _)) rfl ?_
  refine na_1 (q := 22) (one_d (so_iconst (M := np_M8) (pc := 21) dX1_init_21 (by decide)) (up_cst _ _)) rfl ?_
  refine na_3 (q := 25) (one_d (so_put (M := np_M8) (pc := 22) kd_0 (k := 3) (by decide) dX1_init_22 (Or.inl wd_77) (Or.inl rfl)) (up_put _ _ _ _)) rfl ?_
  refine na_1 (q := 26) (one_d (so_aload_n (M := np_M8) (pc := 25) dX1_init_25 rfl) (up_aload _ _)) rfl ?_
  refine na_1 (q := 27) (one_d (so_iconst (M := np_M8) (pc := 26) dX1_init_26 (by decide)) (up_cst _ _)) rfl ?_
  refine na_3 (q := 30) (one_d (so_put (M := np_M8) (pc := 27) kd_0 (k := 4) (by decide) dX1_init_27 (Or.inl wd_79) (Or.inl rfl)) (up_put _ _ _ _)) rfl ?_
  refine na_1 (q := 31) (one_d (so_aload_n (M := np_M8) (pc := 30) dX1_init_30 rfl) (up_aload _ _)) rfl ?_
  refine na_1 (q := 32) (one_d (so_iconst (M := np_M8) (pc := 31) dX1_init_31 (by decide)) (up_cst _ _)) rfl ?_
  refine na_3 (q := 35) (one_d (so_put (M := np_M8) (pc := 32) kd_0 (k := 5) (by decide) dX1_init_32 (Or.inl wd_81) (Or.inl rfl)) (up_put _ _ _ _)) rfl ?_
  refine na_1 (q := 36) (one_d (so_aload_n (M := np_M8) (pc := 35) dX1_init_35 rfl) (up_aload _ _)) rfl ?_
  refine na_1 (q := 37) (one_d (so_iconst (M := np_M8) (pc := 36) dX1_init_36 (by decide)) (up_cst _ _)) rfl ?_
  refine na_3 (q := 40) (one_d (so_put (M := np_M8) (pc := 37) kd_0 (k := 6) (by decide) dX1_init_37 (Or.inl wd_83) (Or.inl rfl)) (up_put _ _ _ _)) rfl ?_
  refine na_1 (q := 41) (one_d (so_aload_n (M := np_M8) (pc := 40) dX1_init_40 rfl) (up_aload _ _)) rfl ?_
  refine na_1 (q := 42) (one_d (so_iconst (M := np_M8) (pc := 41) dX1_init_41 (by decide)) (up_cst _ _)) rfl ?_
  refine na_3 (q := 45) (one_d (so_put (M := np_M8) (pc := 42) kd_0 (k := 7) (by decide) dX1_init_42 (Or.inl wd_85) (Or.inl rfl)) (up_put _ _ _ _)) rfl ?_
  refine na_1 (q := 46) (one_d (so_retv (M := np_M8) (pc := 45) dX1_init_45 rfl) (up_retv)) rfl ?_
  exact na_z
theorem hl_9 : np_hls.getD 9 [] = [] := rfl
set_option maxRecDepth 100000 in
set_option maxHeartbeats 4000000 in
theorem ok_9 : nv_all np_M9 9 0 np_c9 := by
  unfold np_c9
  refine na_1 (q := 1) (one_d (so_aload_n (M := np_M9) (pc := 0) dX1_copyFrom_0 rfl) (up_aload _ _)) rfl ?_
  refine na_1 (q := 2) (one_d (so_aload_n (M := np_M9) (pc := 1) dX1_copyFrom_1 rfl) (up_aload _ _)) rfl ?_
  refine na_3 (q := 5) (one_d (so_get (M := np_M9) (pc := 2) kd_0 (k := 0) (by decide) dX1_copyFrom_2 wd_69) (up_get _ _ _)) rfl ?_
  refine na_3 (q := 8) (one_d (so_put (M := np_M9) (pc := 5) kd_0 (k := 0) (by decide) dX1_copyFrom_5 (Or.inl wd_69) (Or.inl rfl)) (up_put _ _ _ _)) rfl ?_
  refine na_1 (q := 9) (one_d (so_aload_n (M := np_M9) (pc := 8) dX1_copyFrom_8 rfl) (up_aload _ _)) rfl ?_
  refine na_1 (q := 10) (one_d (so_aload_n (M := np_M9) (pc := 9) dX1_copyFrom_9 rfl) (up_aload _ _)) rfl ?_
  refine na_3 (q := 13) (one_d (so_get (M := np_M9) (pc := 10) kd_0 (k := 1) (by decide) dX1_copyFrom_10 wd_71) (up_get _ _ _)) rfl ?_
  refine na_3 (q := 16) (one_d (so_put (M := np_M9) (pc := 13) kd_0 (k := 1) (by decide) dX1_copyFrom_13 (Or.inl wd_71) (Or.inl rfl)) (up_put _ _ _ _)) rfl ?_
  refine na_1 (q := 17) (one_d (so_aload_n (M := np_M9) (pc := 16) dX1_copyFrom_16 rfl) (up_aload _ _)) rfl ?_
  refine na_1 (q := 18) (one_d (so_aload_n (M := np_M9) (pc := 17) dX1_copyFrom_17 rfl) (up_aload _ _)) rfl ?_
  refine na_3 (q := 21) (one_d (so_get (M := np_M9) (pc := 18) kd_0 (k := 2) (by decide) dX1_copyFrom_18 wd_74) (up_get _ _ _)) rfl ?_
  refine na_3 (q := 24) (one_d (so_put (M := np_M9) (pc := 21) kd_0 (k := 2) (by decide) dX1_copyFrom_21 (Or.inl wd_74) (Or.inl rfl)) (up_put _ _ _ _)) rfl ?_
  refine na_1 (q := 25) (one_d (so_aload_n (M := np_M9) (pc := 24) dX1_copyFrom_24 rfl) (up_aload _ _)) rfl ?_
  refine na_1 (q := 26) (one_d (so_aload_n (M := np_M9) (pc := 25) dX1_copyFrom_25 rfl) (up_aload _ _)) rfl ?_
  refine na_3 (q := 29) (one_d (so_get (M := np_M9) (pc := 26) kd_0 (k := 3) (by decide) dX1_copyFrom_26 wd_77) (up_get _ _ _)) rfl ?_
  refine na_3 (q := 32) (one_d (so_put (M := np_M9) (pc := 29) kd_0 (k := 3) (by decide) dX1_copyFrom_29 (Or.inl wd_77) (Or.inl rfl)) (up_put _ _ _ _)) rfl ?_
  refine na_1 (q := 33) (one_d (so_aload_n (M := np_M9) (pc := 32) dX1_copyFrom_32 rfl) (up_aload _ _)) rfl ?_
  refine na_1 (q := 34) (one_d (so_aload_n (M := np_M9) (pc := 33) dX1_copyFrom_33 rfl) (up_aload _ _)) rfl ?_
  refine na_3 (q := 37) (one_d (so_get (M := np_M9) (pc := 34) kd_0 (k := 4) (by decide) dX1_copyFrom_34 wd_79) (up_get _ _ _)) rfl ?_
  refine na_3 (q := 40) (one_d (so_put (M := np_M9) (pc := 37) kd_0 (k := 4) (by decide) dX1_copyFrom_37 (Or.inl wd_79) (Or.inl rfl)) (up_put _ _ _ _)) rfl ?_
  refine na_1 (q := 41) (one_d (so_aload_n (M := np_M9) (pc := 40) dX1_copyFrom_40 rfl) (up_aload _ _)) rfl ?_
  refine na_1 (q := 42) (one_d (so_aload_n (M := np_M9) (pc := 41) dX1_copyFrom_41 rfl) (up_aload _ _)) rfl ?_
  refine na_3 (q := 45) (one_d (so_get (M := np_M9) (pc := 42) kd_0 (k := 5) (by decide) dX1_copyFrom_42 wd_81) (up_get _ _ _)) rfl ?_
  refine na_3 (q := 48) (one_d (so_put (M := np_M9) (pc := 45) kd_0 (k := 5) (by decide) dX1_copyFrom_45 (Or.inl wd_81) (Or.inl rfl)) (up_put _ _ _ _)) rfl ?_
  refine na_1 (q := 49) (one_d (so_aload_n (M := np_M9) (pc := 48) dX1_copyFrom_48 rfl) (up_aload _ _)) rfl ?_
  refine na_1 (q := 50) (one_d (so_aload_n (M := np_M9) (pc := 49) dX1_copyFrom_49 rfl) (up_aload _ _)) rfl ?_
  refine na_3 (q := 53) (one_d (so_get (M := np_M9) (pc := 50) kd_0 (k := 6) (by decide) dX1_copyFrom_50 wd_83) (up_get _ _ _)) rfl ?_
  refine na_3 (q := 56) (one_d (so_put (M := np_M9) (pc := 53) kd_0 (k := 6) (by decide) dX1_copyFrom_53 (Or.inl wd_83) (Or.inl rfl)) (up_put _ _ _ _)) rfl ?_
  refine na_1 (q := 57) (one_d (so_aload_n (M := np_M9) (pc := 56) dX1_copyFrom_56 rfl) (up_aload _ _)) rfl ?_
  refine na_1 (q := 58) (one_d (so_aload_n (M := np_M9) (pc := 57) dX1_copyFrom_57 rfl) (up_aload _ _)) rfl ?_
  refine na_3 (q := 61) (one_d (so_get (M := np_M9) (pc := 58) kd_0 (k := 7) (by decide) dX1_copyFrom_58 wd_85) (up_get _ _ _)) rfl ?_
  refine na_3 (q := 64) (one_d (so_put (M := np_M9) (pc := 61) kd_0 (k := 7) (by decide) dX1_copyFrom_61 (Or.inl wd_85) (Or.inl rfl)) (up_put _ _ _ _)) rfl ?_
  refine na_1 (q := 65) (one_d (so_retv (M := np_M9) (pc := 64) dX1_copyFrom_64 rfl) (up_retv)) rfl ?_
  exact na_z
theorem hl_10 : np_hls.getD 10 [] = [] := rfl
set_option maxRecDepth 100000 in
set_option maxHeartbeats 4000000 in
theorem ok_10 : nv_all np_M10 10 0 np_c10 := by
  unfold np_c10
  refine na_1 (q := 1) (one_d (so_aload_n (M := np_M10) (pc := 0) dX1_balance_0 rfl) (up_aload _ _)) rfl ?_
  refine na_3 (q := 4) (one_d (so_get (M := np_M10) (pc := 1) kd_0 (k := 3) (by decide) dX1_balance_1 wd_77) (up_get _ _ _)) rfl ?_
  refine na_1 (q := 5) (one_d (so_aload_n (M := np_M10) (pc := 4) dX1_balance_4 rfl) (up_aload _ _)) rfl ?_
  refine na_3 (q := 8) (one_d (so_get (M := np_M10) (pc := 5) kd_0 (k := 4) (by decide) dX1_balance_5 wd_79) (up_get _ _ _)) rfl ?_
  refine na_1 (q := 9) (one_d (so_iadd (M := np_M10) (pc := 8) dX1_balance_8) (up_i2 _ _)) rfl ?_
  refine na_1 (q := 10) (one_d (so_aload_n (M := np_M10) (pc := 9) dX1_balance_9 rfl) (up_aload _ _)) rfl ?_
  refine na_3 (q := 13) (one_d (so_get (M := np_M10) (pc := 10) kd_0 (k := 5) (by decide) dX1_balance_10 wd_81) (up_get _ _ _)) rfl ?_
  refine na_1 (q := 14) (one_d (so_isub (M := np_M10) (pc := 13) dX1_balance_13) (up_i2 _ _)) rfl ?_
  refine na_1 (q := 15) (one_d (so_aload_n (M := np_M10) (pc := 14) dX1_balance_14 rfl) (up_aload _ _)) rfl ?_
  refine na_3 (q := 18) (one_d (so_get (M := np_M10) (pc := 15) kd_0 (k := 6) (by decide) dX1_balance_15 wd_83) (up_get _ _ _)) rfl ?_
  refine na_1 (q := 19) (one_d (so_isub (M := np_M10) (pc := 18) dX1_balance_18) (up_i2 _ _)) rfl ?_
  refine na_1 (q := 20) (one_d (so_aload_n (M := np_M10) (pc := 19) dX1_balance_19 rfl) (up_aload _ _)) rfl ?_
  refine na_3 (q := 23) (one_d (so_get (M := np_M10) (pc := 20) kd_0 (k := 7) (by decide) dX1_balance_20 wd_85) (up_get _ _ _)) rfl ?_
  refine na_1 (q := 24) (one_d (so_isub (M := np_M10) (pc := 23) dX1_balance_23) (up_i2 _ _)) rfl ?_
  refine na_1 (q := 25) (one_d (so_reti (M := np_M10) (pc := 24) dX1_balance_24 rfl) (up_reti _)) rfl ?_
  exact na_z
theorem hl_11 : np_hls.getD 11 [] = [] := rfl
set_option maxRecDepth 100000 in
set_option maxHeartbeats 4000000 in
theorem ok_11 : nv_all np_M11 11 0 np_c11 := by
  unfold np_c11
  refine na_1 (q := 1) (one_d (so_aload_n (M := np_M11) (pc := 0) dX2_init_0 rfl) (up_aload _ _)) rfl ?_
  refine na_3 (q := 4) (one_d (so_oinit (M := np_M11) (pc := 1) dX2_init_1 wd_224 wd_53 cd_obj (by decide)) (up_oinit _)) rfl ?_
  refine na_1 (q := 5) (one_d (so_aload_n (M := np_M11) (pc := 4) dX2_init_4 rfl) (up_aload _ _)) rfl ?_
  refine na_2 (q := 7) (one_d (so_bipush (M := np_M11) (pc := 5) dX2_init_5 (by decide)) (up_cst _ _)) rfl ?_
  refine na_2 (q := 9) (one_d (so_newi (M := np_M11) (pc := 7) (ty := .char) dX2_init_7 rfl (Or.inl ⟨rfl, rfl⟩) wd_251) (up_newi _ _)) rfl ?_
  refine na_3 (q := 12) (one_d (so_put (M := np_M11) (pc := 9) kd_1 (k := 0) (by decide) dX2_init_9 (Or.inl wd_227) (Or.inr ⟨rfl, rfl, rfl, wd_227⟩)) (up_put _ _ _ _)) rfl ?_
  refine na_1 (q := 13) (one_d (so_aload_n (M := np_M11) (pc := 12) dX2_init_12 rfl) (up_aload _ _)) rfl ?_
  refine na_1 (q := 14) (one_d (so_iconst (M := np_M11) (pc := 13) dX2_init_13 (by decide)) (up_cst _ _)) rfl ?_
  refine na_2 (q := 16) (one_d (so_newi (M := np_M11) (pc := 14) (ty := .int) dX2_init_14 rfl (Or.inr ⟨rfl, rfl⟩) wd_252) (up_newi _ _)) rfl ?_
  refine na_3 (q := 19) (one_d (so_put (M := np_M11) (pc := 16) kd_1 (k := 1) (by decide) dX2_init_16 (Or.inl wd_228) (Or.inr ⟨rfl, rfl, rfl, wd_228⟩)) (up_put _ _ _ _)) rfl ?_
  refine na_1 (q := 20) (one_d (so_aload_n (M := np_M11) (pc := 19) dX2_init_19 rfl) (up_aload _ _)) rfl ?_
  refine na_1 (q := 21) (one_d (so_iconst (M := np_M11) (pc := 20) dX2_init_20 (by decide)) (up_cst _ _)) rfl ?_
  refine na_3 (q := 24) (one_d (so_put (M := np_M11) (pc := 21) kd_1 (k := 2) (by decide) dX2_init_21 (Or.inl wd_229) (Or.inl rfl)) (up_put _ _ _ _)) rfl ?_
  refine na_1 (q := 25) (one_d (so_aload_n (M := np_M11) (pc := 24) dX2_init_24 rfl) (up_aload _ _)) rfl ?_
  refine na_1 (q := 26) (one_d (so_iconst (M := np_M11) (pc := 25) dX2_init_25 (by decide)) (up_cst _ _)) rfl ?_
  refine na_3 (q := 29) (one_d (so_put (M := np_M11) (pc := 26) kd_1 (k := 3) (by decide) dX2_init_26 (Or.inl wd_230) (Or.inl rfl)) (up_put _ _ _ _)) rfl ?_
  refine na_1 (q := 30) (one_d (so_aload_n (M := np_M11) (pc := 29) dX2_init_29 rfl) (up_aload _ _)) rfl ?_
  refine na_1 (q := 31) (one_d (so_iconst (M := np_M11) (pc := 30) dX2_init_30 (by decide)) (up_cst _ _)) rfl ?_
  refine na_3 (q := 34) (one_d (so_put (M := np_M11) (pc := 31) kd_1 (k := 4) (by decide) dX2_init_31 (Or.inl wd_232) (Or.inl rfl)) (up_put _ _ _ _)) rfl ?_
  refine na_1 (q := 35) (one_d (so_aload_n (M := np_M11) (pc := 34) dX2_init_34 rfl) (up_aload _ _)) rfl ?_
  refine na_1 (q := 36) (one_d (so_iconst (M := np_M11) (pc := 35) dX2_init_35 (by decide)) (up_cst _ _)) rfl ?_
  refine na_3 (q := 39) (one_d (so_put (M := np_M11) (pc := 36) kd_1 (k := 5) (by decide) dX2_init_36 (Or.inl wd_233) (Or.inl rfl)) (up_put _ _ _ _)) rfl ?_
  refine na_1 (q := 40) (one_d (so_aload_n (M := np_M11) (pc := 39) dX2_init_39 rfl) (up_aload _ _)) rfl ?_
  refine na_3 (q := 43) (one_d (so_gEND (M := np_M11) (pc := 40) dX2_init_40 wd_225) (up_cst _ _)) rfl ?_
  refine na_3 (q := 46) (one_d (so_put (M := np_M11) (pc := 43) kd_1 (k := 6) (by decide) dX2_init_43 (Or.inl wd_234) (Or.inl rfl)) (up_put _ _ _ _)) rfl ?_
  refine na_1 (q := 47) (one_d (so_retv (M := np_M11) (pc := 46) dX2_init_46 rfl) (up_retv)) rfl ?_
  exact na_z
theorem hl_12 : np_hls.getD 12 [] = [] := rfl
set_option maxRecDepth 100000 in
set_option maxHeartbeats 4000000 in
theorem ok_12 : nv_all np_M12 12 0 np_c12 := by
  unfold np_c12
  refine na_1 (q := 1) (one_d (so_aload_n (M := np_M12) (pc := 0) dX2_isFull_0 rfl) (up_aload _ _)) rfl ?_
  refine na_3 (q := 4) (one_d (so_get (M := np_M12) (pc := 1) kd_1 (k := 2) (by decide) dX2_isFull_1 wd_229) (up_get _ _ _)) rfl ?_
  refine na_1 (q := 5) (one_d (so_aload_n (M := np_M12) (pc := 4) dX2_isFull_4 rfl) (up_aload _ _)) rfl ?_
  refine na_3 (q := 8) (one_d (so_get (M := np_M12) (pc := 5) kd_1 (k := 0) (by decide) dX2_isFull_5 wd_227) (up_get _ _ _)) rfl ?_
  refine na_1 (q := 9) (one_d (so_alen (M := np_M12) (pc := 8) dX2_isFull_8 (Or.inl ⟨rfl, rfl⟩)) (up_alen _ _)) rfl ?_
  refine na_3 (q := 12) (one_d (so_clt (M := np_M12) (pc := 9) dX2_isFull_9 (by decide)) (up_clt _ _)) rfl ?_
  refine na_1 (q := 13) (one_d (so_iconst (M := np_M12) (pc := 12) dX2_isFull_12 (by decide)) (up_cst _ _)) rfl ?_
  refine na_3 (q := 16) (one_d (so_goto (M := np_M12) (pc := 13) dX2_isFull_13 (by decide)) (up_goto _)) rfl ?_
  refine na_1 (q := 17) (one_d (so_iconst (M := np_M12) (pc := 16) dX2_isFull_16 (by decide)) (up_cst _ _)) rfl ?_
  refine na_1 (q := 18) (one_d (so_reti (M := np_M12) (pc := 17) dX2_isFull_17 rfl) (up_reti _)) rfl ?_
  exact na_z
theorem hl_13 : np_hls.getD 13 [] = [] := rfl
set_option maxRecDepth 100000 in
set_option maxHeartbeats 4000000 in
theorem ok_13 : nv_all np_M13 13 0 np_c13 := by
  unfold np_c13
  refine na_1 (q := 1) (one_d (so_aload_n (M := np_M13) (pc := 0) dX2_add_0 rfl) (up_aload _ _)) rfl ?_
  refine na_3 (q := 4) (one_d (so_get (M := np_M13) (pc := 1) kd_1 (k := 2) (by decide) dX2_add_1 wd_229) (up_get _ _ _)) rfl ?_
  refine na_3 (q := 7) (one_d (so_iflt (M := np_M13) (pc := 4) dX2_add_4 (by decide)) (up_iflt _ _)) rfl ?_
  refine na_1 (q := 8) (one_d (so_aload_n (M := np_M13) (pc := 7) dX2_add_7 rfl) (up_aload _ _)) rfl ?_
  refine na_3 (q := 11) (one_d (so_get (M := np_M13) (pc := 8) kd_1 (k := 2) (by decide) dX2_add_8 wd_229) (up_get _ _ _)) rfl ?_
  refine na_1 (q := 12) (one_d (so_aload_n (M := np_M13) (pc := 11) dX2_add_11 rfl) (up_aload _ _)) rfl ?_
  refine na_3 (q := 15) (one_d (so_get (M := np_M13) (pc := 12) kd_1 (k := 0) (by decide) dX2_add_12 wd_227) (up_get _ _ _)) rfl ?_
  refine na_1 (q := 16) (one_d (so_alen (M := np_M13) (pc := 15) dX2_add_15 (Or.inl ⟨rfl, rfl⟩)) (up_alen _ _)) rfl ?_
  refine na_3 (q := 19) (one_d (so_cge (M := np_M13) (pc := 16) dX2_add_16 (by decide)) (up_cge _ _)) rfl ?_
  refine na_1 (q := 20) (one_d (so_aload_n (M := np_M13) (pc := 19) dX2_add_19 rfl) (up_aload _ _)) rfl ?_
  refine na_3 (q := 23) (one_d (so_get (M := np_M13) (pc := 20) kd_1 (k := 0) (by decide) dX2_add_20 wd_227) (up_get _ _ _)) rfl ?_
  refine na_1 (q := 24) (one_d (so_aload_n (M := np_M13) (pc := 23) dX2_add_23 rfl) (up_aload _ _)) rfl ?_
  refine na_3 (q := 27) (one_d (so_get (M := np_M13) (pc := 24) kd_1 (k := 2) (by decide) dX2_add_24 wd_229) (up_get _ _ _)) rfl ?_
  refine na_1 (q := 28) (one_d (so_iload_n (M := np_M13) (pc := 27) dX2_add_27 rfl) (up_iload _ _)) rfl ?_
  refine na_1 (q := 29) (one_d (so_cast (M := np_M13) (pc := 28) dX2_add_28) (up_cast _ _)) rfl ?_
  refine na_1 (q := 30) (one_d (so_aload_n (M := np_M13) (pc := 29) dX2_add_29 rfl) (up_aload _ _)) rfl ?_
  refine na_1 (q := 31) (one_d (so_dup (M := np_M13) (pc := 30) dX2_add_30) (up_dup _)) rfl ?_
  refine na_3 (q := 34) (one_d (so_get (M := np_M13) (pc := 31) kd_1 (k := 2) (by decide) dX2_add_31 wd_229) (up_get _ _ _)) rfl ?_
  refine na_1 (q := 35) (one_d (so_iconst (M := np_M13) (pc := 34) dX2_add_34 (by decide)) (up_cst _ _)) rfl ?_
  refine na_1 (q := 36) (one_d (so_iadd (M := np_M13) (pc := 35) dX2_add_35) (up_i2 _ _)) rfl ?_
  refine na_3 (q := 39) (one_d (so_put (M := np_M13) (pc := 36) kd_1 (k := 2) (by decide) dX2_add_36 (Or.inl wd_229) (Or.inl rfl)) (up_put _ _ _ _)) rfl ?_
  refine na_1 (q := 40) (one_d (so_aload_n (M := np_M13) (pc := 39) dX2_add_39 rfl) (up_aload _ _)) rfl ?_
  refine na_3 (q := 43) (one_d (so_get (M := np_M13) (pc := 40) kd_1 (k := 2) (by decide) dX2_add_40 wd_229) (up_get _ _ _)) rfl ?_
  refine na_1 (q := 44) (one_d (so_reti (M := np_M13) (pc := 43) dX2_add_43 rfl) (up_reti _)) rfl ?_
  exact na_z
theorem hl_14 : np_hls.getD 14 [] = [] := rfl
set_option maxRecDepth 100000 in
set_option maxHeartbeats 4000000 in
theorem ok_14 : nv_all np_M14 14 0 np_c14 := by
  unfold np_c14
  refine na_1 (q := 1) (one_d (so_aload_n (M := np_M14) (pc := 0) dX2_clear_0 rfl) (up_aload _ _)) rfl ?_
  refine na_1 (q := 2) (one_d (so_iconst (M := np_M14) (pc := 1) dX2_clear_1 (by decide)) (up_cst _ _)) rfl ?_
  refine na_3 (q := 5) (one_d (so_put (M := np_M14) (pc := 2) kd_1 (k := 2) (by decide) dX2_clear_2 (Or.inl wd_229) (Or.inl rfl)) (up_put _ _ _ _)) rfl ?_
  refine na_1 (q := 6) (one_d (so_retv (M := np_M14) (pc := 5) dX2_clear_5 rfl) (up_retv)) rfl ?_
  exact na_z
theorem hl_15 : np_hls.getD 15 [] = [] := rfl
set_option maxRecDepth 100000 in
set_option maxHeartbeats 4000000 in
theorem ok_15 : nv_all np_M15 15 0 np_c15 := by
  unfold np_c15
  refine na_1 (q := 1) (one_d (so_aload_n (M := np_M15) (pc := 0) dX2_rewind_0 rfl) (up_aload _ _)) rfl ?_
  refine na_1 (q := 2) (one_d (so_iconst (M := np_M15) (pc := 1) dX2_rewind_1 (by decide)) (up_cst _ _)) rfl ?_
  refine na_3 (q := 5) (one_d (so_put (M := np_M15) (pc := 2) kd_1 (k := 3) (by decide) dX2_rewind_2 (Or.inl wd_230) (Or.inl rfl)) (up_put _ _ _ _)) rfl ?_
  refine na_1 (q := 6) (one_d (so_retv (M := np_M15) (pc := 5) dX2_rewind_5 rfl) (up_retv)) rfl ?_
  exact na_z
theorem hl_16 : np_hls.getD 16 [] = [] := rfl
set_option maxRecDepth 100000 in
set_option maxHeartbeats 4000000 in
theorem ok_16 : nv_all np_M16 16 0 np_c16 := by
  unfold np_c16
  refine na_1 (q := 1) (one_d (so_aload_n (M := np_M16) (pc := 0) dX2_countCommands_0 rfl) (up_aload _ _)) rfl ?_
  refine na_3 (q := 4) (one_c rfl mq_15 hl_16 rfl (sc_V (M := np_M16) (pc := 1) dX2_countCommands_1 cw_X2_countCommands_X2_rewind rfl wd_595 wd_596 wd_597 (nv_rcO (ci := 1) rfl))) rfl ?_
  refine na_1 (q := 5) (one_d (so_iconst (M := np_M16) (pc := 4) dX2_countCommands_4 (by decide)) (up_cst _ _)) rfl ?_
  refine na_1 (q := 6) (one_d (so_istore_n (M := np_M16) (pc := 5) dX2_countCommands_5 rfl (by decide)) (up_istore _ _)) rfl ?_
  refine na_1 (q := 7) (one_d (so_iload_n (M := np_M16) (pc := 6) dX2_countCommands_6 rfl) (up_iload _ _)) rfl ?_
  refine na_2 (q := 9) (one_d (so_bipush (M := np_M16) (pc := 7) dX2_countCommands_7 (by decide)) (up_cst _ _)) rfl ?_
  refine na_3 (q := 12) (one_d (so_cgt (M := np_M16) (pc := 9) dX2_countCommands_9 (by decide)) (up_cgt _ _)) rfl ?_
  refine na_1 (q := 13) (one_d (so_aload_n (M := np_M16) (pc := 12) dX2_countCommands_12 rfl) (up_aload _ _)) rfl ?_
  refine na_3 (q := 16) (one_c rfl mq_18 hl_16 rfl (sc_V (M := np_M16) (pc := 13) dX2_countCommands_13 cw_X2_countCommands_X2_readCommand rfl wd_599 wd_600 wd_601 (nv_rcO (ci := 1) rfl))) rfl ?_
  refine na_3 (q := 19) (one_d (so_ifne (M := np_M16) (pc := 16) dX2_countCommands_16 (by decide)) (up_ifne _ _)) rfl ?_
  refine na_1 (q := 20) (one_d (so_iconst (M := np_M16) (pc := 19) dX2_countCommands_19 (by decide)) (up_cst _ _)) rfl ?_
  refine na_1 (q := 21) (one_d (so_reti (M := np_M16) (pc := 20) dX2_countCommands_20 rfl) (up_reti _)) rfl ?_
  refine na_1 (q := 22) (one_d (so_aload_n (M := np_M16) (pc := 21) dX2_countCommands_21 rfl) (up_aload _ _)) rfl ?_
  refine na_3 (q := 25) (one_d (so_get (M := np_M16) (pc := 22) kd_1 (k := 3) (by decide) dX2_countCommands_22 wd_230) (up_get _ _ _)) rfl ?_
  refine na_1 (q := 26) (one_d (so_aload_n (M := np_M16) (pc := 25) dX2_countCommands_25 rfl) (up_aload _ _)) rfl ?_
  refine na_3 (q := 29) (one_d (so_get (M := np_M16) (pc := 26) kd_1 (k := 2) (by decide) dX2_countCommands_26 wd_229) (up_get _ _ _)) rfl ?_
  refine na_3 (q := 32) (one_d (so_cne (M := np_M16) (pc := 29) dX2_countCommands_29 (by decide)) (up_cne _ _)) rfl ?_
  refine na_1 (q := 33) (one_d (so_iload_n (M := np_M16) (pc := 32) dX2_countCommands_32 rfl) (up_iload _ _)) rfl ?_
  refine na_1 (q := 34) (one_d (so_reti (M := np_M16) (pc := 33) dX2_countCommands_33 rfl) (up_reti _)) rfl ?_
  refine na_1 (q := 35) (one_d (so_aload_n (M := np_M16) (pc := 34) dX2_countCommands_34 rfl) (up_aload _ _)) rfl ?_
  refine na_3 (q := 38) (one_c rfl mq_17 hl_16 rfl (sc_V (M := np_M16) (pc := 35) dX2_countCommands_35 cw_X2_countCommands_X2_skipSeparator rfl wd_680 wd_681 wd_682 (nv_rcO (ci := 1) rfl))) rfl ?_
  refine na_3 (q := 41) (one_d (so_ifne (M := np_M16) (pc := 38) dX2_countCommands_38 (by decide)) (up_ifne _ _)) rfl ?_
  refine na_1 (q := 42) (one_d (so_iconst (M := np_M16) (pc := 41) dX2_countCommands_41 (by decide)) (up_cst _ _)) rfl ?_
  refine na_1 (q := 43) (one_d (so_reti (M := np_M16) (pc := 42) dX2_countCommands_42 rfl) (up_reti _)) rfl ?_
  refine na_3 (q := 46) (one_d (so_iinc (M := np_M16) (pc := 43) dX2_countCommands_43 (by decide) (by decide)) (up_iinc _ _ _)) rfl ?_
  refine na_3 (q := 49) (one_d (so_goto (M := np_M16) (pc := 46) dX2_countCommands_46 (by decide)) (up_goto _)) rfl ?_
  refine na_1 (q := 50) (one_d (so_iconst (M := np_M16) (pc := 49) dX2_countCommands_49 (by decide)) (up_cst _ _)) rfl ?_
  refine na_1 (q := 51) (one_d (so_reti (M := np_M16) (pc := 50) dX2_countCommands_50 rfl) (up_reti _)) rfl ?_
  exact na_z
theorem hl_17 : np_hls.getD 17 [] = [] := rfl
set_option maxRecDepth 100000 in
set_option maxHeartbeats 4000000 in
theorem ok_17 : nv_all np_M17 17 0 np_c17 := by
  unfold np_c17
  refine na_1 (q := 1) (one_d (so_aload_n (M := np_M17) (pc := 0) dX2_skipSeparator_0 rfl) (up_aload _ _)) rfl ?_
  refine na_1 (q := 2) (one_d (so_aload_n (M := np_M17) (pc := 1) dX2_skipSeparator_1 rfl) (up_aload _ _)) rfl ?_
  refine na_3 (q := 5) (one_d (so_get (M := np_M17) (pc := 2) kd_1 (k := 3) (by decide) dX2_skipSeparator_2 wd_230) (up_get _ _ _)) rfl ?_
  refine na_2 (q := 7) (one_d (so_bipush (M := np_M17) (pc := 5) dX2_skipSeparator_5 (by decide)) (up_cst _ _)) rfl ?_
  refine na_3 (q := 10) (one_c rfl mq_23 hl_17 rfl (sc_V (M := np_M17) (pc := 7) dX2_skipSeparator_7 cw_X2_skipSeparator_X2_isAt rfl wd_673 wd_675 wd_9 (nv_rcO (ci := 1) rfl))) rfl ?_
  refine na_3 (q := 13) (one_d (so_ifne (M := np_M17) (pc := 10) dX2_skipSeparator_10 (by decide)) (up_ifne _ _)) rfl ?_
  refine na_1 (q := 14) (one_d (so_iconst (M := np_M17) (pc := 13) dX2_skipSeparator_13 (by decide)) (up_cst _ _)) rfl ?_
  refine na_1 (q := 15) (one_d (so_reti (M := np_M17) (pc := 14) dX2_skipSeparator_14 rfl) (up_reti _)) rfl ?_
  refine na_1 (q := 16) (one_d (so_aload_n (M := np_M17) (pc := 15) dX2_skipSeparator_15 rfl) (up_aload _ _)) rfl ?_
  refine na_1 (q := 17) (one_d (so_dup (M := np_M17) (pc := 16) dX2_skipSeparator_16) (up_dup _)) rfl ?_
  refine na_3 (q := 20) (one_d (so_get (M := np_M17) (pc := 17) kd_1 (k := 3) (by decide) dX2_skipSeparator_17 wd_230) (up_get _ _ _)) rfl ?_
  refine na_1 (q := 21) (one_d (so_iconst (M := np_M17) (pc := 20) dX2_skipSeparator_20 (by decide)) (up_cst _ _)) rfl ?_
  refine na_1 (q := 22) (one_d (so_iadd (M := np_M17) (pc := 21) dX2_skipSeparator_21) (up_i2 _ _)) rfl ?_
  refine na_3 (q := 25) (one_d (so_put (M := np_M17) (pc := 22) kd_1 (k := 3) (by decide) dX2_skipSeparator_22 (Or.inl wd_230) (Or.inl rfl)) (up_put _ _ _ _)) rfl ?_
  refine na_1 (q := 26) (one_d (so_iconst (M := np_M17) (pc := 25) dX2_skipSeparator_25 (by decide)) (up_cst _ _)) rfl ?_
  refine na_1 (q := 27) (one_d (so_reti (M := np_M17) (pc := 26) dX2_skipSeparator_26 rfl) (up_reti _)) rfl ?_
  exact na_z
theorem hl_18 : np_hls.getD 18 [] = [] := rfl
set_option maxRecDepth 100000 in
set_option maxHeartbeats 4000000 in
theorem ok_18 : nv_all np_M18 18 0 np_c18 := by
  unfold np_c18
  refine na_1 (q := 1) (one_d (so_aload_n (M := np_M18) (pc := 0) dX2_readCommand_0 rfl) (up_aload _ _)) rfl ?_
  refine na_3 (q := 4) (one_d (so_get (M := np_M18) (pc := 1) kd_1 (k := 3) (by decide) dX2_readCommand_1 wd_230) (up_get _ _ _)) rfl ?_
  refine na_1 (q := 5) (one_d (so_istore_n (M := np_M18) (pc := 4) dX2_readCommand_4 rfl (by decide)) (up_istore _ _)) rfl ?_
  refine na_3 (q := 8) (one_d (so_gFORMSN (M := np_M18) (pc := 5) dX2_readCommand_5 wd_603) (up_cst _ _)) rfl ?_
  refine na_1 (q := 9) (one_d (so_astore_n (M := np_M18) (pc := 8) dX2_readCommand_8 rfl (by decide)) (up_astore _ _)) rfl ?_
  refine na_1 (q := 10) (one_d (so_aload_n (M := np_M18) (pc := 9) dX2_readCommand_9 rfl) (up_aload _ _)) rfl ?_
  refine na_1 (q := 11) (one_d (so_lFORMS (M := np_M18) (pc := 10) dX2_readCommand_10) (up_slen _ _ _)) rfl ?_
  refine na_1 (q := 12) (one_d (so_istore_n (M := np_M18) (pc := 11) dX2_readCommand_11 rfl (by decide)) (up_istore _ _)) rfl ?_
  refine na_1 (q := 13) (one_d (so_iconst (M := np_M18) (pc := 12) dX2_readCommand_12 (by decide)) (up_cst _ _)) rfl ?_
  refine na_2 (q := 15) (one_d (so_istore (M := np_M18) (pc := 13) dX2_readCommand_13 (by decide)) (up_istore _ _)) rfl ?_
  refine na_2 (q := 17) (one_d (so_iload (M := np_M18) (pc := 15) dX2_readCommand_15) (up_iload _ _)) rfl ?_
  refine na_1 (q := 18) (one_d (so_iload_n (M := np_M18) (pc := 17) dX2_readCommand_17 rfl) (up_iload _ _)) rfl ?_
  refine na_3 (q := 21) (one_d (so_cge (M := np_M18) (pc := 18) dX2_readCommand_18 (by decide)) (up_cge _ _)) rfl ?_
  refine na_1 (q := 22) (one_d (so_aload_n (M := np_M18) (pc := 21) dX2_readCommand_21 rfl) (up_aload _ _)) rfl ?_
  refine na_2 (q := 24) (one_d (so_iload (M := np_M18) (pc := 22) dX2_readCommand_22) (up_iload _ _)) rfl ?_
  refine na_1 (q := 25) (one_d (so_ldFORMS (M := np_M18) (pc := 24) dX2_readCommand_24) (up_sald _ _ _)) rfl ?_
  refine na_2 (q := 27) (one_d (so_astore (M := np_M18) (pc := 25) dX2_readCommand_25 (by decide)) (up_astore _ _)) rfl ?_
  refine na_1 (q := 28) (one_d (so_aload_n (M := np_M18) (pc := 27) dX2_readCommand_27 rfl) (up_aload _ _)) rfl ?_
  refine na_2 (q := 30) (one_d (so_aload (M := np_M18) (pc := 28) dX2_readCommand_28) (up_aload _ _)) rfl ?_
  refine na_3 (q := 33) (one_d (so_fPAT (M := np_M18) (pc := 30) dX2_readCommand_30 wd_1232) (up_sget _ _ _)) rfl ?_
  refine na_3 (q := 36) (one_c rfl mq_19 hl_18 rfl (sc_V (M := np_M18) (pc := 33) dX2_readCommand_33 cw_X2_readCommand_X2_matches rfl wd_605 wd_607 wd_4 (nv_rcO (ci := 1) rfl))) rfl ?_
  refine na_3 (q := 39) (one_d (so_ifeq (M := np_M18) (pc := 36) dX2_readCommand_36 (by decide)) (up_ifeq _ _)) rfl ?_
  refine na_1 (q := 40) (one_d (so_aload_n (M := np_M18) (pc := 39) dX2_readCommand_39 rfl) (up_aload _ _)) rfl ?_
  refine na_2 (q := 42) (one_d (so_aload (M := np_M18) (pc := 40) dX2_readCommand_40) (up_aload _ _)) rfl ?_
  refine na_3 (q := 45) (one_d (so_put (M := np_M18) (pc := 42) kd_1 (k := 6) (by decide) dX2_readCommand_42 (Or.inl wd_234) (Or.inl rfl)) (up_put _ _ _ _)) rfl ?_
  refine na_1 (q := 46) (one_d (so_aload_n (M := np_M18) (pc := 45) dX2_readCommand_45 rfl) (up_aload _ _)) rfl ?_
  refine na_1 (q := 47) (one_d (so_aload_n (M := np_M18) (pc := 46) dX2_readCommand_46 rfl) (up_aload _ _)) rfl ?_
  refine na_3 (q := 50) (one_d (so_get (M := np_M18) (pc := 47) kd_1 (k := 4) (by decide) dX2_readCommand_47 wd_232) (up_get _ _ _)) rfl ?_
  refine na_3 (q := 53) (one_d (so_put (M := np_M18) (pc := 50) kd_1 (k := 3) (by decide) dX2_readCommand_50 (Or.inl wd_230) (Or.inl rfl)) (up_put _ _ _ _)) rfl ?_
  refine na_1 (q := 54) (one_d (so_iconst (M := np_M18) (pc := 53) dX2_readCommand_53 (by decide)) (up_cst _ _)) rfl ?_
  refine na_1 (q := 55) (one_d (so_reti (M := np_M18) (pc := 54) dX2_readCommand_54 rfl) (up_reti _)) rfl ?_
  refine na_1 (q := 56) (one_d (so_iload_n (M := np_M18) (pc := 55) dX2_readCommand_55 rfl) (up_iload _ _)) rfl ?_
  refine na_1 (q := 57) (one_d (so_aload_n (M := np_M18) (pc := 56) dX2_readCommand_56 rfl) (up_aload _ _)) rfl ?_
  refine na_3 (q := 60) (one_d (so_get (M := np_M18) (pc := 57) kd_1 (k := 4) (by decide) dX2_readCommand_57 wd_232) (up_get _ _ _)) rfl ?_
  refine na_3 (q := 63) (one_d (so_max (M := np_M18) (pc := 60) dX2_readCommand_60 wd_677 wd_678 wd_37 cd_max (by decide)) (up_max _)) rfl ?_
  refine na_1 (q := 64) (one_d (so_istore_n (M := np_M18) (pc := 63) dX2_readCommand_63 rfl (by decide)) (up_istore _ _)) rfl ?_
  refine na_3 (q := 67) (one_d (so_iinc (M := np_M18) (pc := 64) dX2_readCommand_64 (by decide) (by decide)) (up_iinc _ _ _)) rfl ?_
  refine na_3 (q := 70) (one_d (so_goto (M := np_M18) (pc := 67) dX2_readCommand_67 (by decide)) (up_goto _)) rfl ?_
  refine na_1 (q := 71) (one_d (so_aload_n (M := np_M18) (pc := 70) dX2_readCommand_70 rfl) (up_aload _ _)) rfl ?_
  refine na_1 (q := 72) (one_d (so_iload_n (M := np_M18) (pc := 71) dX2_readCommand_71 rfl) (up_iload _ _)) rfl ?_
  refine na_3 (q := 75) (one_d (so_put (M := np_M18) (pc := 72) kd_1 (k := 3) (by decide) dX2_readCommand_72 (Or.inl wd_230) (Or.inl rfl)) (up_put _ _ _ _)) rfl ?_
  refine na_1 (q := 76) (one_d (so_iconst (M := np_M18) (pc := 75) dX2_readCommand_75 (by decide)) (up_cst _ _)) rfl ?_
  refine na_1 (q := 77) (one_d (so_reti (M := np_M18) (pc := 76) dX2_readCommand_76 rfl) (up_reti _)) rfl ?_
  exact na_z
theorem hl_19 : np_hls.getD 19 [] = [] := rfl
set_option maxRecDepth 100000 in
set_option maxHeartbeats 4000000 in
theorem ok_19 : nv_all np_M19 19 0 np_c19 := by
  unfold np_c19
  refine na_1 (q := 1) (one_d (so_aload_n (M := np_M19) (pc := 0) dX2_matches_0 rfl) (up_aload _ _)) rfl ?_
  refine na_1 (q := 2) (one_d (so_aload_n (M := np_M19) (pc := 1) dX2_matches_1 rfl) (up_aload _ _)) rfl ?_
  refine na_3 (q := 5) (one_d (so_get (M := np_M19) (pc := 2) kd_1 (k := 3) (by decide) dX2_matches_2 wd_230) (up_get _ _ _)) rfl ?_
  refine na_3 (q := 8) (one_d (so_put (M := np_M19) (pc := 5) kd_1 (k := 4) (by decide) dX2_matches_5 (Or.inl wd_232) (Or.inl rfl)) (up_put _ _ _ _)) rfl ?_
  refine na_1 (q := 9) (one_d (so_aload_n (M := np_M19) (pc := 8) dX2_matches_8 rfl) (up_aload _ _)) rfl ?_
  refine na_1 (q := 10) (one_d (so_iconst (M := np_M19) (pc := 9) dX2_matches_9 (by decide)) (up_cst _ _)) rfl ?_
  refine na_3 (q := 13) (one_d (so_put (M := np_M19) (pc := 10) kd_1 (k := 5) (by decide) dX2_matches_10 (Or.inl wd_233) (Or.inl rfl)) (up_put _ _ _ _)) rfl ?_
  refine na_1 (q := 14) (one_d (so_iconst (M := np_M19) (pc := 13) dX2_matches_13 (by decide)) (up_cst _ _)) rfl ?_
  refine na_1 (q := 15) (one_d (so_istore_n (M := np_M19) (pc := 14) dX2_matches_14 rfl (by decide)) (up_istore _ _)) rfl ?_
  refine na_1 (q := 16) (one_d (so_iload_n (M := np_M19) (pc := 15) dX2_matches_15 rfl) (up_iload _ _)) rfl ?_
  refine na_1 (q := 17) (one_d (so_aload_n (M := np_M19) (pc := 16) dX2_matches_16 rfl) (up_aload _ _)) rfl ?_
  refine na_3 (q := 20) (one_c rfl mq_0 hl_19 rfl (sc_V (M := np_M19) (pc := 17) dX2_matches_17 cw_X2_matches_J0_length_8abf5 rfl wd_609 wd_610 wd_611 nv_rcS)) rfl ?_
  refine na_3 (q := 23) (one_d (so_cge (M := np_M19) (pc := 20) dX2_matches_20 (by decide)) (up_cge _ _)) rfl ?_
  refine na_1 (q := 24) (one_d (so_aload_n (M := np_M19) (pc := 23) dX2_matches_23 rfl) (up_aload _ _)) rfl ?_
  refine na_1 (q := 25) (one_d (so_aload_n (M := np_M19) (pc := 24) dX2_matches_24 rfl) (up_aload _ _)) rfl ?_
  refine na_1 (q := 26) (one_d (so_iload_n (M := np_M19) (pc := 25) dX2_matches_25 rfl) (up_iload _ _)) rfl ?_
  refine na_3 (q := 29) (one_c rfl mq_1 hl_19 rfl (sc_V (M := np_M19) (pc := 26) dX2_matches_26 cw_X2_matches_J0_charAt_5068e rfl wd_619 wd_620 wd_621 nv_rcS)) rfl ?_
  refine na_3 (q := 32) (one_c rfl mq_20 hl_19 rfl (sc_V (M := np_M19) (pc := 29) dX2_matches_29 cw_X2_matches_X2_matchesSign rfl wd_657 wd_659 wd_5 (nv_rcO (ci := 1) rfl))) rfl ?_
  refine na_3 (q := 35) (one_d (so_ifne (M := np_M19) (pc := 32) dX2_matches_32 (by decide)) (up_ifne _ _)) rfl ?_
  refine na_1 (q := 36) (one_d (so_iconst (M := np_M19) (pc := 35) dX2_matches_35 (by decide)) (up_cst _ _)) rfl ?_
  refine na_1 (q := 37) (one_d (so_reti (M := np_M19) (pc := 36) dX2_matches_36 rfl) (up_reti _)) rfl ?_
  refine na_3 (q := 40) (one_d (so_iinc (M := np_M19) (pc := 37) dX2_matches_37 (by decide) (by decide)) (up_iinc _ _ _)) rfl ?_
  refine na_3 (q := 43) (one_d (so_goto (M := np_M19) (pc := 40) dX2_matches_40 (by decide)) (up_goto _)) rfl ?_
  refine na_1 (q := 44) (one_d (so_iconst (M := np_M19) (pc := 43) dX2_matches_43 (by decide)) (up_cst _ _)) rfl ?_
  refine na_1 (q := 45) (one_d (so_reti (M := np_M19) (pc := 44) dX2_matches_44 rfl) (up_reti _)) rfl ?_
  exact na_z
theorem hl_20 : np_hls.getD 20 [] = [] := rfl
set_option maxRecDepth 100000 in
set_option maxHeartbeats 4000000 in
theorem ok_20 : nv_all np_M20 20 0 np_c20 := by
  unfold np_c20
  refine na_1 (q := 1) (one_d (so_iload_n (M := np_M20) (pc := 0) dX2_matchesSign_0 rfl) (up_iload _ _)) rfl ?_
  refine na_2 (q := 3) (one_d (so_bipush (M := np_M20) (pc := 1) dX2_matchesSign_1 (by decide)) (up_cst _ _)) rfl ?_
  refine na_3 (q := 6) (one_d (so_ceq (M := np_M20) (pc := 3) dX2_matchesSign_3 (by decide)) (up_ceq _ _)) rfl ?_
  refine na_1 (q := 7) (one_d (so_iload_n (M := np_M20) (pc := 6) dX2_matchesSign_6 rfl) (up_iload _ _)) rfl ?_
  refine na_2 (q := 9) (one_d (so_bipush (M := np_M20) (pc := 7) dX2_matchesSign_7 (by decide)) (up_cst _ _)) rfl ?_
  refine na_3 (q := 12) (one_d (so_cne (M := np_M20) (pc := 9) dX2_matchesSign_9 (by decide)) (up_cne _ _)) rfl ?_
  refine na_1 (q := 13) (one_d (so_aload_n (M := np_M20) (pc := 12) dX2_matchesSign_12 rfl) (up_aload _ _)) rfl ?_
  refine na_1 (q := 14) (one_d (so_iload_n (M := np_M20) (pc := 13) dX2_matchesSign_13 rfl) (up_iload _ _)) rfl ?_
  refine na_2 (q := 16) (one_d (so_bipush (M := np_M20) (pc := 14) dX2_matchesSign_14 (by decide)) (up_cst _ _)) rfl ?_
  refine na_3 (q := 19) (one_d (so_cne (M := np_M20) (pc := 16) dX2_matchesSign_16 (by decide)) (up_cne _ _)) rfl ?_
  refine na_1 (q := 20) (one_d (so_iconst (M := np_M20) (pc := 19) dX2_matchesSign_19 (by decide)) (up_cst _ _)) rfl ?_
  refine na_3 (q := 23) (one_d (so_goto (M := np_M20) (pc := 20) dX2_matchesSign_20 (by decide)) (up_goto _)) rfl ?_
  refine na_1 (q := 24) (one_d (so_iconst (M := np_M20) (pc := 23) dX2_matchesSign_23 (by decide)) (up_cst _ _)) rfl ?_
  refine na_3 (q := 27) (one_c rfl mq_21 hl_20 rfl (sc_V (M := np_M20) (pc := 24) dX2_matchesSign_24 cw_X2_matchesSign_X2_matchesNumber rfl wd_661 wd_663 wd_6 (nv_rcO (ci := 1) rfl))) rfl ?_
  refine na_1 (q := 28) (one_d (so_reti (M := np_M20) (pc := 27) dX2_matchesSign_27 rfl) (up_reti _)) rfl ?_
  refine na_1 (q := 29) (one_d (so_aload_n (M := np_M20) (pc := 28) dX2_matchesSign_28 rfl) (up_aload _ _)) rfl ?_
  refine na_1 (q := 30) (one_d (so_aload_n (M := np_M20) (pc := 29) dX2_matchesSign_29 rfl) (up_aload _ _)) rfl ?_
  refine na_3 (q := 33) (one_d (so_get (M := np_M20) (pc := 30) kd_1 (k := 4) (by decide) dX2_matchesSign_30 wd_232) (up_get _ _ _)) rfl ?_
  refine na_1 (q := 34) (one_d (so_iload_n (M := np_M20) (pc := 33) dX2_matchesSign_33 rfl) (up_iload _ _)) rfl ?_
  refine na_3 (q := 37) (one_c rfl mq_23 hl_20 rfl (sc_V (M := np_M20) (pc := 34) dX2_matchesSign_34 cw_X2_matchesSign_X2_isAt rfl wd_673 wd_675 wd_9 (nv_rcO (ci := 1) rfl))) rfl ?_
  refine na_3 (q := 40) (one_d (so_ifne (M := np_M20) (pc := 37) dX2_matchesSign_37 (by decide)) (up_ifne _ _)) rfl ?_
  refine na_1 (q := 41) (one_d (so_iconst (M := np_M20) (pc := 40) dX2_matchesSign_40 (by decide)) (up_cst _ _)) rfl ?_
  refine na_1 (q := 42) (one_d (so_reti (M := np_M20) (pc := 41) dX2_matchesSign_41 rfl) (up_reti _)) rfl ?_
  refine na_1 (q := 43) (one_d (so_aload_n (M := np_M20) (pc := 42) dX2_matchesSign_42 rfl) (up_aload _ _)) rfl ?_
  refine na_1 (q := 44) (one_d (so_dup (M := np_M20) (pc := 43) dX2_matchesSign_43) (up_dup _)) rfl ?_
  refine na_3 (q := 47) (one_d (so_get (M := np_M20) (pc := 44) kd_1 (k := 4) (by decide) dX2_matchesSign_44 wd_232) (up_get _ _ _)) rfl ?_
  refine na_1 (q := 48) (one_d (so_iconst (M := np_M20) (pc := 47) dX2_matchesSign_47 (by decide)) (up_cst _ _)) rfl ?_
  refine na_1 (q := 49) (one_d (so_iadd (M := np_M20) (pc := 48) dX2_matchesSign_48) (up_i2 _ _)) rfl ?_
  refine na_3 (q := 52) (one_d (so_put (M := np_M20) (pc := 49) kd_1 (k := 4) (by decide) dX2_matchesSign_49 (Or.inl wd_232) (Or.inl rfl)) (up_put _ _ _ _)) rfl ?_
  refine na_1 (q := 53) (one_d (so_iconst (M := np_M20) (pc := 52) dX2_matchesSign_52 (by decide)) (up_cst _ _)) rfl ?_
  refine na_1 (q := 54) (one_d (so_reti (M := np_M20) (pc := 53) dX2_matchesSign_53 rfl) (up_reti _)) rfl ?_
  exact na_z
theorem hl_21 : np_hls.getD 21 [] = [] := rfl
set_option maxRecDepth 100000 in
set_option maxHeartbeats 4000000 in
theorem ok_21 : nv_all np_M21 21 0 np_c21 := by
  unfold np_c21
  refine na_1 (q := 1) (one_d (so_iconst (M := np_M21) (pc := 0) dX2_matchesNumber_0 (by decide)) (up_cst _ _)) rfl ?_
  refine na_1 (q := 2) (one_d (so_istore_n (M := np_M21) (pc := 1) dX2_matchesNumber_1 rfl (by decide)) (up_istore _ _)) rfl ?_
  refine na_1 (q := 3) (one_d (so_iconst (M := np_M21) (pc := 2) dX2_matchesNumber_2 (by decide)) (up_cst _ _)) rfl ?_
  refine na_1 (q := 4) (one_d (so_istore_n (M := np_M21) (pc := 3) dX2_matchesNumber_3 rfl (by decide)) (up_istore _ _)) rfl ?_
  refine na_1 (q := 5) (one_d (so_iload_n (M := np_M21) (pc := 4) dX2_matchesNumber_4 rfl) (up_iload _ _)) rfl ?_
  refine na_1 (q := 6) (one_d (so_iload_n (M := np_M21) (pc := 5) dX2_matchesNumber_5 rfl) (up_iload _ _)) rfl ?_
  refine na_3 (q := 9) (one_d (so_cge (M := np_M21) (pc := 6) dX2_matchesNumber_6 (by decide)) (up_cge _ _)) rfl ?_
  refine na_1 (q := 10) (one_d (so_aload_n (M := np_M21) (pc := 9) dX2_matchesNumber_9 rfl) (up_aload _ _)) rfl ?_
  refine na_1 (q := 11) (one_d (so_aload_n (M := np_M21) (pc := 10) dX2_matchesNumber_10 rfl) (up_aload _ _)) rfl ?_
  refine na_3 (q := 14) (one_d (so_get (M := np_M21) (pc := 11) kd_1 (k := 4) (by decide) dX2_matchesNumber_11 wd_232) (up_get _ _ _)) rfl ?_
  refine na_3 (q := 17) (one_c rfl mq_24 hl_21 rfl (sc_V (M := np_M21) (pc := 14) dX2_matchesNumber_14 cw_X2_matchesNumber_X2_isDigitAt rfl wd_665 wd_667 wd_7 (nv_rcO (ci := 1) rfl))) rfl ?_
  refine na_3 (q := 20) (one_d (so_ifeq (M := np_M21) (pc := 17) dX2_matchesNumber_17 (by decide)) (up_ifeq _ _)) rfl ?_
  refine na_2 (q := 22) (one_d (so_bipush (M := np_M21) (pc := 20) dX2_matchesNumber_20 (by decide)) (up_cst _ _)) rfl ?_
  refine na_1 (q := 23) (one_d (so_iload_n (M := np_M21) (pc := 22) dX2_matchesNumber_22 rfl) (up_iload _ _)) rfl ?_
  refine na_1 (q := 24) (one_d (so_imul (M := np_M21) (pc := 23) dX2_matchesNumber_23) (up_i2 _ _)) rfl ?_
  refine na_1 (q := 25) (one_d (so_aload_n (M := np_M21) (pc := 24) dX2_matchesNumber_24 rfl) (up_aload _ _)) rfl ?_
  refine na_1 (q := 26) (one_d (so_aload_n (M := np_M21) (pc := 25) dX2_matchesNumber_25 rfl) (up_aload _ _)) rfl ?_
  refine na_3 (q := 29) (one_d (so_get (M := np_M21) (pc := 26) kd_1 (k := 4) (by decide) dX2_matchesNumber_26 wd_232) (up_get _ _ _)) rfl ?_
  refine na_3 (q := 32) (one_c rfl mq_25 hl_21 rfl (sc_V (M := np_M21) (pc := 29) dX2_matchesNumber_29 cw_X2_matchesNumber_X2_digitAt rfl wd_669 wd_671 wd_8 (nv_rcO (ci := 1) rfl))) rfl ?_
  refine na_1 (q := 33) (one_d (so_iadd (M := np_M21) (pc := 32) dX2_matchesNumber_32) (up_i2 _ _)) rfl ?_
  refine na_1 (q := 34) (one_d (so_istore_n (M := np_M21) (pc := 33) dX2_matchesNumber_33 rfl (by decide)) (up_istore _ _)) rfl ?_
  refine na_3 (q := 37) (one_d (so_iinc (M := np_M21) (pc := 34) dX2_matchesNumber_34 (by decide) (by decide)) (up_iinc _ _ _)) rfl ?_
  refine na_1 (q := 38) (one_d (so_aload_n (M := np_M21) (pc := 37) dX2_matchesNumber_37 rfl) (up_aload _ _)) rfl ?_
  refine na_1 (q := 39) (one_d (so_dup (M := np_M21) (pc := 38) dX2_matchesNumber_38) (up_dup _)) rfl ?_
  refine na_3 (q := 42) (one_d (so_get (M := np_M21) (pc := 39) kd_1 (k := 4) (by decide) dX2_matchesNumber_39 wd_232) (up_get _ _ _)) rfl ?_
  refine na_1 (q := 43) (one_d (so_iconst (M := np_M21) (pc := 42) dX2_matchesNumber_42 (by decide)) (up_cst _ _)) rfl ?_
  refine na_1 (q := 44) (one_d (so_iadd (M := np_M21) (pc := 43) dX2_matchesNumber_43) (up_i2 _ _)) rfl ?_
  refine na_3 (q := 47) (one_d (so_put (M := np_M21) (pc := 44) kd_1 (k := 4) (by decide) dX2_matchesNumber_44 (Or.inl wd_232) (Or.inl rfl)) (up_put _ _ _ _)) rfl ?_
  refine na_3 (q := 50) (one_d (so_goto (M := np_M21) (pc := 47) dX2_matchesNumber_47 (by decide)) (up_goto _)) rfl ?_
  refine na_1 (q := 51) (one_d (so_iload_n (M := np_M21) (pc := 50) dX2_matchesNumber_50 rfl) (up_iload _ _)) rfl ?_
  refine na_3 (q := 54) (one_d (so_ifeq (M := np_M21) (pc := 51) dX2_matchesNumber_51 (by decide)) (up_ifeq _ _)) rfl ?_
  refine na_1 (q := 55) (one_d (so_aload_n (M := np_M21) (pc := 54) dX2_matchesNumber_54 rfl) (up_aload _ _)) rfl ?_
  refine na_3 (q := 58) (one_d (so_get (M := np_M21) (pc := 55) kd_1 (k := 5) (by decide) dX2_matchesNumber_55 wd_233) (up_get _ _ _)) rfl ?_
  refine na_3 (q := 61) (one_d (so_iflt (M := np_M21) (pc := 58) dX2_matchesNumber_58 (by decide)) (up_iflt _ _)) rfl ?_
  refine na_1 (q := 62) (one_d (so_aload_n (M := np_M21) (pc := 61) dX2_matchesNumber_61 rfl) (up_aload _ _)) rfl ?_
  refine na_3 (q := 65) (one_d (so_get (M := np_M21) (pc := 62) kd_1 (k := 5) (by decide) dX2_matchesNumber_62 wd_233) (up_get _ _ _)) rfl ?_
  refine na_1 (q := 66) (one_d (so_aload_n (M := np_M21) (pc := 65) dX2_matchesNumber_65 rfl) (up_aload _ _)) rfl ?_
  refine na_3 (q := 69) (one_d (so_get (M := np_M21) (pc := 66) kd_1 (k := 1) (by decide) dX2_matchesNumber_66 wd_228) (up_get _ _ _)) rfl ?_
  refine na_1 (q := 70) (one_d (so_alen (M := np_M21) (pc := 69) dX2_matchesNumber_69 (Or.inr (Or.inl ⟨rfl, rfl⟩))) (up_alen _ _)) rfl ?_
  refine na_3 (q := 73) (one_d (so_clt (M := np_M21) (pc := 70) dX2_matchesNumber_70 (by decide)) (up_clt _ _)) rfl ?_
  refine na_1 (q := 74) (one_d (so_iconst (M := np_M21) (pc := 73) dX2_matchesNumber_73 (by decide)) (up_cst _ _)) rfl ?_
  refine na_1 (q := 75) (one_d (so_reti (M := np_M21) (pc := 74) dX2_matchesNumber_74 rfl) (up_reti _)) rfl ?_
  refine na_1 (q := 76) (one_d (so_aload_n (M := np_M21) (pc := 75) dX2_matchesNumber_75 rfl) (up_aload _ _)) rfl ?_
  refine na_3 (q := 79) (one_d (so_get (M := np_M21) (pc := 76) kd_1 (k := 1) (by decide) dX2_matchesNumber_76 wd_228) (up_get _ _ _)) rfl ?_
  refine na_1 (q := 80) (one_d (so_aload_n (M := np_M21) (pc := 79) dX2_matchesNumber_79 rfl) (up_aload _ _)) rfl ?_
  refine na_3 (q := 83) (one_d (so_get (M := np_M21) (pc := 80) kd_1 (k := 5) (by decide) dX2_matchesNumber_80 wd_233) (up_get _ _ _)) rfl ?_
  refine na_1 (q := 84) (one_d (so_iload_n (M := np_M21) (pc := 83) dX2_matchesNumber_83 rfl) (up_iload _ _)) rfl ?_
  refine na_1 (q := 85) (one_d (so_iast (M := np_M21) (pc := 84) dX2_matchesNumber_84) (up_iast _ _)) rfl ?_
  refine na_1 (q := 86) (one_d (so_aload_n (M := np_M21) (pc := 85) dX2_matchesNumber_85 rfl) (up_aload _ _)) rfl ?_
  refine na_1 (q := 87) (one_d (so_dup (M := np_M21) (pc := 86) dX2_matchesNumber_86) (up_dup _)) rfl ?_
  refine na_3 (q := 90) (one_d (so_get (M := np_M21) (pc := 87) kd_1 (k := 5) (by decide) dX2_matchesNumber_87 wd_233) (up_get _ _ _)) rfl ?_
  refine na_1 (q := 91) (one_d (so_iconst (M := np_M21) (pc := 90) dX2_matchesNumber_90 (by decide)) (up_cst _ _)) rfl ?_
  refine na_1 (q := 92) (one_d (so_iadd (M := np_M21) (pc := 91) dX2_matchesNumber_91) (up_i2 _ _)) rfl ?_
  refine na_3 (q := 95) (one_d (so_put (M := np_M21) (pc := 92) kd_1 (k := 5) (by decide) dX2_matchesNumber_92 (Or.inl wd_233) (Or.inl rfl)) (up_put _ _ _ _)) rfl ?_
  refine na_1 (q := 96) (one_d (so_iconst (M := np_M21) (pc := 95) dX2_matchesNumber_95 (by decide)) (up_cst _ _)) rfl ?_
  refine na_1 (q := 97) (one_d (so_reti (M := np_M21) (pc := 96) dX2_matchesNumber_96 rfl) (up_reti _)) rfl ?_
  exact na_z
theorem hl_22 : np_hls.getD 22 [] = [] := rfl
set_option maxRecDepth 100000 in
set_option maxHeartbeats 4000000 in
theorem ok_22 : nv_all np_M22 22 0 np_c22 := by
  unfold np_c22
  refine na_1 (q := 1) (one_d (so_iload_n (M := np_M22) (pc := 0) dX2_number_0 rfl) (up_iload _ _)) rfl ?_
  refine na_3 (q := 4) (one_d (so_iflt (M := np_M22) (pc := 1) dX2_number_1 (by decide)) (up_iflt _ _)) rfl ?_
  refine na_1 (q := 5) (one_d (so_iload_n (M := np_M22) (pc := 4) dX2_number_4 rfl) (up_iload _ _)) rfl ?_
  refine na_1 (q := 6) (one_d (so_aload_n (M := np_M22) (pc := 5) dX2_number_5 rfl) (up_aload _ _)) rfl ?_
  refine na_3 (q := 9) (one_d (so_get (M := np_M22) (pc := 6) kd_1 (k := 5) (by decide) dX2_number_6 wd_233) (up_get _ _ _)) rfl ?_
  refine na_3 (q := 12) (one_d (so_cge (M := np_M22) (pc := 9) dX2_number_9 (by decide)) (up_cge _ _)) rfl ?_
  refine na_1 (q := 13) (one_d (so_iload_n (M := np_M22) (pc := 12) dX2_number_12 rfl) (up_iload _ _)) rfl ?_
  refine na_1 (q := 14) (one_d (so_aload_n (M := np_M22) (pc := 13) dX2_number_13 rfl) (up_aload _ _)) rfl ?_
  refine na_3 (q := 17) (one_d (so_get (M := np_M22) (pc := 14) kd_1 (k := 1) (by decide) dX2_number_14 wd_228) (up_get _ _ _)) rfl ?_
  refine na_1 (q := 18) (one_d (so_alen (M := np_M22) (pc := 17) dX2_number_17 (Or.inr (Or.inl ⟨rfl, rfl⟩))) (up_alen _ _)) rfl ?_
  refine na_3 (q := 21) (one_d (so_cge (M := np_M22) (pc := 18) dX2_number_18 (by decide)) (up_cge _ _)) rfl ?_
  refine na_1 (q := 22) (one_d (so_aload_n (M := np_M22) (pc := 21) dX2_number_21 rfl) (up_aload _ _)) rfl ?_
  refine na_3 (q := 25) (one_d (so_get (M := np_M22) (pc := 22) kd_1 (k := 1) (by decide) dX2_number_22 wd_228) (up_get _ _ _)) rfl ?_
  refine na_1 (q := 26) (one_d (so_iload_n (M := np_M22) (pc := 25) dX2_number_25 rfl) (up_iload _ _)) rfl ?_
  refine na_1 (q := 27) (one_d (so_iald (M := np_M22) (pc := 26) dX2_number_26) (up_aldi _ _)) rfl ?_
  refine na_3 (q := 30) (one_d (so_goto (M := np_M22) (pc := 27) dX2_number_27 (by decide)) (up_goto _)) rfl ?_
  refine na_1 (q := 31) (one_d (so_iconst (M := np_M22) (pc := 30) dX2_number_30 (by decide)) (up_cst _ _)) rfl ?_
  refine na_1 (q := 32) (one_d (so_reti (M := np_M22) (pc := 31) dX2_number_31 rfl) (up_reti _)) rfl ?_
  exact na_z
theorem hl_23 : np_hls.getD 23 [] = [] := rfl
set_option maxRecDepth 100000 in
set_option maxHeartbeats 4000000 in
theorem ok_23 : nv_all np_M23 23 0 np_c23 := by
  unfold np_c23
  refine na_1 (q := 1) (one_d (so_iload_n (M := np_M23) (pc := 0) dX2_isAt_0 rfl) (up_iload _ _)) rfl ?_
  refine na_3 (q := 4) (one_d (so_iflt (M := np_M23) (pc := 1) dX2_isAt_1 (by decide)) (up_iflt _ _)) rfl ?_
  refine na_1 (q := 5) (one_d (so_iload_n (M := np_M23) (pc := 4) dX2_isAt_4 rfl) (up_iload _ _)) rfl ?_
  refine na_1 (q := 6) (one_d (so_aload_n (M := np_M23) (pc := 5) dX2_isAt_5 rfl) (up_aload _ _)) rfl ?_
  refine na_3 (q := 9) (one_d (so_get (M := np_M23) (pc := 6) kd_1 (k := 2) (by decide) dX2_isAt_6 wd_229) (up_get _ _ _)) rfl ?_
  refine na_3 (q := 12) (one_d (so_cge (M := np_M23) (pc := 9) dX2_isAt_9 (by decide)) (up_cge _ _)) rfl ?_
  refine na_1 (q := 13) (one_d (so_iload_n (M := np_M23) (pc := 12) dX2_isAt_12 rfl) (up_iload _ _)) rfl ?_
  refine na_1 (q := 14) (one_d (so_aload_n (M := np_M23) (pc := 13) dX2_isAt_13 rfl) (up_aload _ _)) rfl ?_
  refine na_3 (q := 17) (one_d (so_get (M := np_M23) (pc := 14) kd_1 (k := 0) (by decide) dX2_isAt_14 wd_227) (up_get _ _ _)) rfl ?_
  refine na_1 (q := 18) (one_d (so_alen (M := np_M23) (pc := 17) dX2_isAt_17 (Or.inl ⟨rfl, rfl⟩)) (up_alen _ _)) rfl ?_
  refine na_3 (q := 21) (one_d (so_cge (M := np_M23) (pc := 18) dX2_isAt_18 (by decide)) (up_cge _ _)) rfl ?_
  refine na_1 (q := 22) (one_d (so_aload_n (M := np_M23) (pc := 21) dX2_isAt_21 rfl) (up_aload _ _)) rfl ?_
  refine na_3 (q := 25) (one_d (so_get (M := np_M23) (pc := 22) kd_1 (k := 0) (by decide) dX2_isAt_22 wd_227) (up_get _ _ _)) rfl ?_
  refine na_1 (q := 26) (one_d (so_iload_n (M := np_M23) (pc := 25) dX2_isAt_25 rfl) (up_iload _ _)) rfl ?_
  refine na_1 (q := 27) (one_d (so_cald (M := np_M23) (pc := 26) dX2_isAt_26) (up_aldi _ _)) rfl ?_
  refine na_1 (q := 28) (one_d (so_iload_n (M := np_M23) (pc := 27) dX2_isAt_27 rfl) (up_iload _ _)) rfl ?_
  refine na_3 (q := 31) (one_d (so_cne (M := np_M23) (pc := 28) dX2_isAt_28 (by decide)) (up_cne _ _)) rfl ?_
  refine na_1 (q := 32) (one_d (so_iconst (M := np_M23) (pc := 31) dX2_isAt_31 (by decide)) (up_cst _ _)) rfl ?_
  refine na_3 (q := 35) (one_d (so_goto (M := np_M23) (pc := 32) dX2_isAt_32 (by decide)) (up_goto _)) rfl ?_
  refine na_1 (q := 36) (one_d (so_iconst (M := np_M23) (pc := 35) dX2_isAt_35 (by decide)) (up_cst _ _)) rfl ?_
  refine na_1 (q := 37) (one_d (so_reti (M := np_M23) (pc := 36) dX2_isAt_36 rfl) (up_reti _)) rfl ?_
  exact na_z
theorem hl_24 : np_hls.getD 24 [] = [] := rfl
set_option maxRecDepth 100000 in
set_option maxHeartbeats 4000000 in
theorem ok_24 : nv_all np_M24 24 0 np_c24 := by
  unfold np_c24
  refine na_1 (q := 1) (one_d (so_iload_n (M := np_M24) (pc := 0) dX2_isDigitAt_0 rfl) (up_iload _ _)) rfl ?_
  refine na_3 (q := 4) (one_d (so_iflt (M := np_M24) (pc := 1) dX2_isDigitAt_1 (by decide)) (up_iflt _ _)) rfl ?_
  refine na_1 (q := 5) (one_d (so_iload_n (M := np_M24) (pc := 4) dX2_isDigitAt_4 rfl) (up_iload _ _)) rfl ?_
  refine na_1 (q := 6) (one_d (so_aload_n (M := np_M24) (pc := 5) dX2_isDigitAt_5 rfl) (up_aload _ _)) rfl ?_
  refine na_3 (q := 9) (one_d (so_get (M := np_M24) (pc := 6) kd_1 (k := 2) (by decide) dX2_isDigitAt_6 wd_229) (up_get _ _ _)) rfl ?_
  refine na_3 (q := 12) (one_d (so_cge (M := np_M24) (pc := 9) dX2_isDigitAt_9 (by decide)) (up_cge _ _)) rfl ?_
  refine na_1 (q := 13) (one_d (so_iload_n (M := np_M24) (pc := 12) dX2_isDigitAt_12 rfl) (up_iload _ _)) rfl ?_
  refine na_1 (q := 14) (one_d (so_aload_n (M := np_M24) (pc := 13) dX2_isDigitAt_13 rfl) (up_aload _ _)) rfl ?_
  refine na_3 (q := 17) (one_d (so_get (M := np_M24) (pc := 14) kd_1 (k := 0) (by decide) dX2_isDigitAt_14 wd_227) (up_get _ _ _)) rfl ?_
  refine na_1 (q := 18) (one_d (so_alen (M := np_M24) (pc := 17) dX2_isDigitAt_17 (Or.inl ⟨rfl, rfl⟩)) (up_alen _ _)) rfl ?_
  refine na_3 (q := 21) (one_d (so_cge (M := np_M24) (pc := 18) dX2_isDigitAt_18 (by decide)) (up_cge _ _)) rfl ?_
  refine na_1 (q := 22) (one_d (so_aload_n (M := np_M24) (pc := 21) dX2_isDigitAt_21 rfl) (up_aload _ _)) rfl ?_
  refine na_3 (q := 25) (one_d (so_get (M := np_M24) (pc := 22) kd_1 (k := 0) (by decide) dX2_isDigitAt_22 wd_227) (up_get _ _ _)) rfl ?_
  refine na_1 (q := 26) (one_d (so_iload_n (M := np_M24) (pc := 25) dX2_isDigitAt_25 rfl) (up_iload _ _)) rfl ?_
  refine na_1 (q := 27) (one_d (so_cald (M := np_M24) (pc := 26) dX2_isDigitAt_26) (up_aldi _ _)) rfl ?_
  refine na_2 (q := 29) (one_d (so_bipush (M := np_M24) (pc := 27) dX2_isDigitAt_27 (by decide)) (up_cst _ _)) rfl ?_
  refine na_3 (q := 32) (one_d (so_clt (M := np_M24) (pc := 29) dX2_isDigitAt_29 (by decide)) (up_clt _ _)) rfl ?_
  refine na_1 (q := 33) (one_d (so_aload_n (M := np_M24) (pc := 32) dX2_isDigitAt_32 rfl) (up_aload _ _)) rfl ?_
  refine na_3 (q := 36) (one_d (so_get (M := np_M24) (pc := 33) kd_1 (k := 0) (by decide) dX2_isDigitAt_33 wd_227) (up_get _ _ _)) rfl ?_
  refine na_1 (q := 37) (one_d (so_iload_n (M := np_M24) (pc := 36) dX2_isDigitAt_36 rfl) (up_iload _ _)) rfl ?_
  refine na_1 (q := 38) (one_d (so_cald (M := np_M24) (pc := 37) dX2_isDigitAt_37) (up_aldi _ _)) rfl ?_
  refine na_2 (q := 40) (one_d (so_bipush (M := np_M24) (pc := 38) dX2_isDigitAt_38 (by decide)) (up_cst _ _)) rfl ?_
  refine na_3 (q := 43) (one_d (so_cgt (M := np_M24) (pc := 40) dX2_isDigitAt_40 (by decide)) (up_cgt _ _)) rfl ?_
  refine na_1 (q := 44) (one_d (so_iconst (M := np_M24) (pc := 43) dX2_isDigitAt_43 (by decide)) (up_cst _ _)) rfl ?_
  refine na_3 (q := 47) (one_d (so_goto (M := np_M24) (pc := 44) dX2_isDigitAt_44 (by decide)) (up_goto _)) rfl ?_
  refine na_1 (q := 48) (one_d (so_iconst (M := np_M24) (pc := 47) dX2_isDigitAt_47 (by decide)) (up_cst _ _)) rfl ?_
  refine na_1 (q := 49) (one_d (so_reti (M := np_M24) (pc := 48) dX2_isDigitAt_48 rfl) (up_reti _)) rfl ?_
  exact na_z
theorem hl_25 : np_hls.getD 25 [] = [] := rfl
set_option maxRecDepth 100000 in
set_option maxHeartbeats 4000000 in
theorem ok_25 : nv_all np_M25 25 0 np_c25 := by
  unfold np_c25
  refine na_1 (q := 1) (one_d (so_aload_n (M := np_M25) (pc := 0) dX2_digitAt_0 rfl) (up_aload _ _)) rfl ?_
  refine na_1 (q := 2) (one_d (so_iload_n (M := np_M25) (pc := 1) dX2_digitAt_1 rfl) (up_iload _ _)) rfl ?_
  refine na_3 (q := 5) (one_c rfl mq_24 hl_25 rfl (sc_V (M := np_M25) (pc := 2) dX2_digitAt_2 cw_X2_digitAt_X2_isDigitAt rfl wd_665 wd_667 wd_7 (nv_rcO (ci := 1) rfl))) rfl ?_
  refine na_3 (q := 8) (one_d (so_ifeq (M := np_M25) (pc := 5) dX2_digitAt_5 (by decide)) (up_ifeq _ _)) rfl ?_
  refine na_1 (q := 9) (one_d (so_aload_n (M := np_M25) (pc := 8) dX2_digitAt_8 rfl) (up_aload _ _)) rfl ?_
  refine na_3 (q := 12) (one_d (so_get (M := np_M25) (pc := 9) kd_1 (k := 0) (by decide) dX2_digitAt_9 wd_227) (up_get _ _ _)) rfl ?_
  refine na_1 (q := 13) (one_d (so_iload_n (M := np_M25) (pc := 12) dX2_digitAt_12 rfl) (up_iload _ _)) rfl ?_
  refine na_1 (q := 14) (one_d (so_cald (M := np_M25) (pc := 13) dX2_digitAt_13) (up_aldi _ _)) rfl ?_
  refine na_2 (q := 16) (one_d (so_bipush (M := np_M25) (pc := 14) dX2_digitAt_14 (by decide)) (up_cst _ _)) rfl ?_
  refine na_1 (q := 17) (one_d (so_isub (M := np_M25) (pc := 16) dX2_digitAt_16) (up_i2 _ _)) rfl ?_
  refine na_3 (q := 20) (one_d (so_goto (M := np_M25) (pc := 17) dX2_digitAt_17 (by decide)) (up_goto _)) rfl ?_
  refine na_1 (q := 21) (one_d (so_iconst (M := np_M25) (pc := 20) dX2_digitAt_20 (by decide)) (up_cst _ _)) rfl ?_
  refine na_1 (q := 22) (one_d (so_reti (M := np_M25) (pc := 21) dX2_digitAt_21 rfl) (up_reti _)) rfl ?_
  exact na_z
theorem hl_26 : np_hls.getD 26 [] = [] := rfl
set_option maxRecDepth 100000 in
set_option maxHeartbeats 4000000 in
theorem ok_26 : nv_all np_M26 26 0 np_c26 := by
  unfold np_c26
  refine na_1 (q := 1) (one_d (so_aload_n (M := np_M26) (pc := 0) dX4_init_0 rfl) (up_aload _ _)) rfl ?_
  refine na_3 (q := 4) (one_d (so_oinit (M := np_M26) (pc := 1) dX4_init_1 wd_60 wd_53 cd_obj (by decide)) (up_oinit _)) rfl ?_
  refine na_1 (q := 5) (one_d (so_aload_n (M := np_M26) (pc := 4) dX4_init_4 rfl) (up_aload _ _)) rfl ?_
  refine na_2 (q := 7) (one_d (so_bipush (M := np_M26) (pc := 5) dX4_init_5 (by decide)) (up_cst _ _)) rfl ?_
  refine na_3 (q := 10) (one_d (so_newq (M := np_M26) (pc := 7) dX4_init_7 (Or.inl ⟨rfl, rfl⟩) wd_61) (up_newq _ _)) rfl ?_
  refine na_3 (q := 13) (one_d (so_put (M := np_M26) (pc := 10) kd_2 (k := 0) (by decide) dX4_init_10 (Or.inl wd_153) (Or.inr ⟨rfl, rfl, rfl, wd_153⟩)) (up_put _ _ _ _)) rfl ?_
  refine na_1 (q := 14) (one_d (so_aload_n (M := np_M26) (pc := 13) dX4_init_13 rfl) (up_aload _ _)) rfl ?_
  refine na_3 (q := 17) (one_d (so_new (M := np_M26) (pc := 14) kd_0 dX4_init_14 wd_63 wd_64 wd_25 rfl df_0) (up_new _ _ _)) rfl ?_
  refine na_1 (q := 18) (one_d (so_dup (M := np_M26) (pc := 17) dX4_init_17) (up_dup _)) rfl ?_
  refine na_3 (q := 21) (one_c rfl mq_8 hl_26 rfl (sc_I (M := np_M26) (pc := 18) (ci := 0) rfl dX4_init_18 cw_X4_init_X1_init rfl rfl (Or.inr ⟨_, wd_65⟩) wd_66)) rfl ?_
  refine na_3 (q := 24) (one_d (so_put (M := np_M26) (pc := 21) kd_2 (k := 1) (by decide) dX4_init_21 (Or.inl wd_154) (Or.inr ⟨rfl, rfl, rfl, wd_154⟩)) (up_put _ _ _ _)) rfl ?_
  refine na_1 (q := 25) (one_d (so_aload_n (M := np_M26) (pc := 24) dX4_init_24 rfl) (up_aload _ _)) rfl ?_
  refine na_3 (q := 28) (one_d (so_new (M := np_M26) (pc := 25) kd_0 dX4_init_25 wd_63 wd_64 wd_25 rfl df_0) (up_new _ _ _)) rfl ?_
  refine na_1 (q := 29) (one_d (so_dup (M := np_M26) (pc := 28) dX4_init_28) (up_dup _)) rfl ?_
  refine na_3 (q := 32) (one_c rfl mq_8 hl_26 rfl (sc_I (M := np_M26) (pc := 29) (ci := 0) rfl dX4_init_29 cw_X4_init_X1_init rfl rfl (Or.inr ⟨_, wd_65⟩) wd_66)) rfl ?_
  refine na_3 (q := 35) (one_d (so_put (M := np_M26) (pc := 32) kd_2 (k := 2) (by decide) dX4_init_32 (Or.inl wd_155) (Or.inr ⟨rfl, rfl, rfl, wd_155⟩)) (up_put _ _ _ _)) rfl ?_
  refine na_1 (q := 36) (one_d (so_aload_n (M := np_M26) (pc := 35) dX4_init_35 rfl) (up_aload _ _)) rfl ?_
  refine na_1 (q := 37) (one_d (so_iconst (M := np_M26) (pc := 36) dX4_init_36 (by decide)) (up_cst _ _)) rfl ?_
  refine na_3 (q := 40) (one_d (so_put (M := np_M26) (pc := 37) kd_2 (k := 3) (by decide) dX4_init_37 (Or.inl wd_156) (Or.inl rfl)) (up_put _ _ _ _)) rfl ?_
  refine na_1 (q := 41) (one_d (so_aload_n (M := np_M26) (pc := 40) dX4_init_40 rfl) (up_aload _ _)) rfl ?_
  refine na_1 (q := 42) (one_d (so_iconst (M := np_M26) (pc := 41) dX4_init_41 (by decide)) (up_cst _ _)) rfl ?_
  refine na_3 (q := 45) (one_d (so_put (M := np_M26) (pc := 42) kd_2 (k := 4) (by decide) dX4_init_42 (Or.inl wd_158) (Or.inl rfl)) (up_put _ _ _ _)) rfl ?_
  refine na_1 (q := 46) (one_d (so_aload_n (M := np_M26) (pc := 45) dX4_init_45 rfl) (up_aload _ _)) rfl ?_
  refine na_1 (q := 47) (one_d (so_iconst (M := np_M26) (pc := 46) dX4_init_46 (by decide)) (up_cst _ _)) rfl ?_
  refine na_3 (q := 50) (one_d (so_put (M := np_M26) (pc := 47) kd_2 (k := 5) (by decide) dX4_init_47 (Or.inl wd_160) (Or.inl rfl)) (up_put _ _ _ _)) rfl ?_
  refine na_1 (q := 51) (one_d (so_aload_n (M := np_M26) (pc := 50) dX4_init_50 rfl) (up_aload _ _)) rfl ?_
  refine na_1 (q := 52) (one_d (so_iconst (M := np_M26) (pc := 51) dX4_init_51 (by decide)) (up_cst _ _)) rfl ?_
  refine na_3 (q := 55) (one_d (so_put (M := np_M26) (pc := 52) kd_2 (k := 6) (by decide) dX4_init_52 (Or.inl wd_162) (Or.inl rfl)) (up_put _ _ _ _)) rfl ?_
  refine na_1 (q := 56) (one_d (so_aload_n (M := np_M26) (pc := 55) dX4_init_55 rfl) (up_aload _ _)) rfl ?_
  refine na_1 (q := 57) (one_d (so_iconst (M := np_M26) (pc := 56) dX4_init_56 (by decide)) (up_cst _ _)) rfl ?_
  refine na_3 (q := 60) (one_d (so_put (M := np_M26) (pc := 57) kd_2 (k := 7) (by decide) dX4_init_57 (Or.inl wd_164) (Or.inl rfl)) (up_put _ _ _ _)) rfl ?_
  refine na_1 (q := 61) (one_d (so_aload_n (M := np_M26) (pc := 60) dX4_init_60 rfl) (up_aload _ _)) rfl ?_
  refine na_1 (q := 62) (one_d (so_iconst (M := np_M26) (pc := 61) dX4_init_61 (by decide)) (up_cst _ _)) rfl ?_
  refine na_3 (q := 65) (one_d (so_put (M := np_M26) (pc := 62) kd_2 (k := 8) (by decide) dX4_init_62 (Or.inl wd_166) (Or.inl rfl)) (up_put _ _ _ _)) rfl ?_
  refine na_1 (q := 66) (one_d (so_aload_n (M := np_M26) (pc := 65) dX4_init_65 rfl) (up_aload _ _)) rfl ?_
  refine na_1 (q := 67) (one_d (so_iconst (M := np_M26) (pc := 66) dX4_init_66 (by decide)) (up_cst _ _)) rfl ?_
  refine na_3 (q := 70) (one_d (so_put (M := np_M26) (pc := 67) kd_2 (k := 9) (by decide) dX4_init_67 (Or.inl wd_168) (Or.inl rfl)) (up_put _ _ _ _)) rfl ?_
  refine na_1 (q := 71) (one_d (so_aload_n (M := np_M26) (pc := 70) dX4_init_70 rfl) (up_aload _ _)) rfl ?_
  refine na_1 (q := 72) (one_d (so_lconst (M := np_M26) (pc := 71) dX4_init_71 (by decide)) (up_cst _ _)) rfl ?_
  refine na_3 (q := 75) (one_d (so_put (M := np_M26) (pc := 72) kd_2 (k := 10) (by decide) dX4_init_72 (Or.inl wd_170) (Or.inl rfl)) (up_put _ _ _ _)) rfl ?_
  refine na_1 (q := 76) (one_d (so_aload_n (M := np_M26) (pc := 75) dX4_init_75 rfl) (up_aload _ _)) rfl ?_
  refine na_1 (q := 77) (one_d (so_iconst (M := np_M26) (pc := 76) dX4_init_76 (by decide)) (up_cst _ _)) rfl ?_
  refine na_3 (q := 80) (one_d (so_put (M := np_M26) (pc := 77) kd_2 (k := 11) (by decide) dX4_init_77 (Or.inl wd_172) (Or.inl rfl)) (up_put _ _ _ _)) rfl ?_
  refine na_1 (q := 81) (one_d (so_iconst (M := np_M26) (pc := 80) dX4_init_80 (by decide)) (up_cst _ _)) rfl ?_
  refine na_1 (q := 82) (one_d (so_istore_n (M := np_M26) (pc := 81) dX4_init_81 rfl (by decide)) (up_istore _ _)) rfl ?_
  refine na_1 (q := 83) (one_d (so_iload_n (M := np_M26) (pc := 82) dX4_init_82 rfl) (up_iload _ _)) rfl ?_
  refine na_1 (q := 84) (one_d (so_aload_n (M := np_M26) (pc := 83) dX4_init_83 rfl) (up_aload _ _)) rfl ?_
  refine na_3 (q := 87) (one_d (so_get (M := np_M26) (pc := 84) kd_2 (k := 0) (by decide) dX4_init_84 wd_153) (up_get _ _ _)) rfl ?_
  refine na_1 (q := 88) (one_d (so_alen (M := np_M26) (pc := 87) dX4_init_87 (Or.inr (Or.inr (Or.inl ⟨rfl, rfl⟩)))) (up_alen _ _)) rfl ?_
  refine na_3 (q := 91) (one_d (so_cge (M := np_M26) (pc := 88) dX4_init_88 (by decide)) (up_cge _ _)) rfl ?_
  refine na_1 (q := 92) (one_d (so_aload_n (M := np_M26) (pc := 91) dX4_init_91 rfl) (up_aload _ _)) rfl ?_
  refine na_3 (q := 95) (one_d (so_get (M := np_M26) (pc := 92) kd_2 (k := 0) (by decide) dX4_init_92 wd_153) (up_get _ _ _)) rfl ?_
  refine na_1 (q := 96) (one_d (so_iload_n (M := np_M26) (pc := 95) dX4_init_95 rfl) (up_iload _ _)) rfl ?_
  refine na_3 (q := 99) (one_d (so_new (M := np_M26) (pc := 96) kd_4 dX4_init_96 wd_61 wd_104 wd_26 rfl df_4) (up_new _ _ _)) rfl ?_
  refine na_1 (q := 100) (one_d (so_dup (M := np_M26) (pc := 99) dX4_init_99) (up_dup _)) rfl ?_
  refine na_1 (q := 101) (one_d (so_iload_n (M := np_M26) (pc := 100) dX4_init_100 rfl) (up_iload _ _)) rfl ?_
  refine na_3 (q := 104) (one_c rfl mq_60 hl_26 rfl (sc_I (M := np_M26) (pc := 101) (ci := 4) rfl dX4_init_101 cw_X4_init_X6_init rfl rfl (Or.inl wd_105) wd_106)) rfl ?_
  refine na_1 (q := 105) (one_d (so_astq (M := np_M26) (pc := 104) dX4_init_104 (Or.inl ⟨rfl, rfl⟩) rfl) (up_astq _ _ _)) rfl ?_
  refine na_3 (q := 108) (one_d (so_iinc (M := np_M26) (pc := 105) dX4_init_105 (by decide) (by decide)) (up_iinc _ _ _)) rfl ?_
  refine na_3 (q := 111) (one_d (so_goto (M := np_M26) (pc := 108) dX4_init_108 (by decide)) (up_goto _)) rfl ?_
  refine na_1 (q := 112) (one_d (so_retv (M := np_M26) (pc := 111) dX4_init_111 rfl) (up_retv)) rfl ?_
  exact na_z
theorem hl_27 : np_hls.getD 27 [] = [] := rfl
set_option maxRecDepth 100000 in
set_option maxHeartbeats 4000000 in
theorem ok_27 : nv_all np_M27 27 0 np_c27 := by
  unfold np_c27
  refine na_1 (q := 1) (one_d (so_iconst (M := np_M27) (pc := 0) dX4_copyFrom_0 (by decide)) (up_cst _ _)) rfl ?_
  refine na_1 (q := 2) (one_d (so_istore_n (M := np_M27) (pc := 1) dX4_copyFrom_1 rfl (by decide)) (up_istore _ _)) rfl ?_
  refine na_1 (q := 3) (one_d (so_iload_n (M := np_M27) (pc := 2) dX4_copyFrom_2 rfl) (up_iload _ _)) rfl ?_
  refine na_1 (q := 4) (one_d (so_aload_n (M := np_M27) (pc := 3) dX4_copyFrom_3 rfl) (up_aload _ _)) rfl ?_
  refine na_3 (q := 7) (one_d (so_get (M := np_M27) (pc := 4) kd_2 (k := 0) (by decide) dX4_copyFrom_4 wd_153) (up_get _ _ _)) rfl ?_
  refine na_1 (q := 8) (one_d (so_alen (M := np_M27) (pc := 7) dX4_copyFrom_7 (Or.inr (Or.inr (Or.inl ⟨rfl, rfl⟩)))) (up_alen _ _)) rfl ?_
  refine na_3 (q := 11) (one_d (so_cge (M := np_M27) (pc := 8) dX4_copyFrom_8 (by decide)) (up_cge _ _)) rfl ?_
  refine na_1 (q := 12) (one_d (so_iload_n (M := np_M27) (pc := 11) dX4_copyFrom_11 rfl) (up_iload _ _)) rfl ?_
  refine na_1 (q := 13) (one_d (so_aload_n (M := np_M27) (pc := 12) dX4_copyFrom_12 rfl) (up_aload _ _)) rfl ?_
  refine na_3 (q := 16) (one_d (so_get (M := np_M27) (pc := 13) kd_2 (k := 0) (by decide) dX4_copyFrom_13 wd_153) (up_get _ _ _)) rfl ?_
  refine na_1 (q := 17) (one_d (so_alen (M := np_M27) (pc := 16) dX4_copyFrom_16 (Or.inr (Or.inr (Or.inl ⟨rfl, rfl⟩)))) (up_alen _ _)) rfl ?_
  refine na_3 (q := 20) (one_d (so_cge (M := np_M27) (pc := 17) dX4_copyFrom_17 (by decide)) (up_cge _ _)) rfl ?_
  refine na_1 (q := 21) (one_d (so_aload_n (M := np_M27) (pc := 20) dX4_copyFrom_20 rfl) (up_aload _ _)) rfl ?_
  refine na_3 (q := 24) (one_d (so_get (M := np_M27) (pc := 21) kd_2 (k := 0) (by decide) dX4_copyFrom_21 wd_153) (up_get _ _ _)) rfl ?_
  refine na_1 (q := 25) (one_d (so_iload_n (M := np_M27) (pc := 24) dX4_copyFrom_24 rfl) (up_iload _ _)) rfl ?_
  refine na_1 (q := 26) (one_d (so_aldq (M := np_M27) (pc := 25) dX4_copyFrom_25 (Or.inl ⟨rfl, rfl⟩)) (up_aldq _ _)) rfl ?_
  refine na_1 (q := 27) (one_d (so_aload_n (M := np_M27) (pc := 26) dX4_copyFrom_26 rfl) (up_aload _ _)) rfl ?_
  refine na_3 (q := 30) (one_d (so_get (M := np_M27) (pc := 27) kd_2 (k := 0) (by decide) dX4_copyFrom_27 wd_153) (up_get _ _ _)) rfl ?_
  refine na_1 (q := 31) (one_d (so_iload_n (M := np_M27) (pc := 30) dX4_copyFrom_30 rfl) (up_iload _ _)) rfl ?_
  refine na_1 (q := 32) (one_d (so_aldq (M := np_M27) (pc := 31) dX4_copyFrom_31 (Or.inl ⟨rfl, rfl⟩)) (up_aldq _ _)) rfl ?_
  refine na_3 (q := 35) (one_c rfl mq_61 hl_27 rfl (sc_V (M := np_M27) (pc := 32) dX4_copyFrom_32 cw_X4_copyFrom_X6_copyFrom rfl wd_295 wd_296 wd_297 (nv_rcO (ci := 4) rfl))) rfl ?_
  refine na_3 (q := 38) (one_d (so_iinc (M := np_M27) (pc := 35) dX4_copyFrom_35 (by decide) (by decide)) (up_iinc _ _ _)) rfl ?_
  refine na_3 (q := 41) (one_d (so_goto (M := np_M27) (pc := 38) dX4_copyFrom_38 (by decide)) (up_goto _)) rfl ?_
  refine na_1 (q := 42) (one_d (so_aload_n (M := np_M27) (pc := 41) dX4_copyFrom_41 rfl) (up_aload _ _)) rfl ?_
  refine na_3 (q := 45) (one_d (so_get (M := np_M27) (pc := 42) kd_2 (k := 1) (by decide) dX4_copyFrom_42 wd_154) (up_get _ _ _)) rfl ?_
  refine na_1 (q := 46) (one_d (so_aload_n (M := np_M27) (pc := 45) dX4_copyFrom_45 rfl) (up_aload _ _)) rfl ?_
  refine na_3 (q := 49) (one_d (so_get (M := np_M27) (pc := 46) kd_2 (k := 1) (by decide) dX4_copyFrom_46 wd_154) (up_get _ _ _)) rfl ?_
  refine na_3 (q := 52) (one_c rfl mq_9 hl_27 rfl (sc_V (M := np_M27) (pc := 49) dX4_copyFrom_49 cw_X4_copyFrom_X1_copyFrom rfl wd_299 wd_300 wd_301 (nv_rcO (ci := 0) rfl))) rfl ?_
  refine na_1 (q := 53) (one_d (so_aload_n (M := np_M27) (pc := 52) dX4_copyFrom_52 rfl) (up_aload _ _)) rfl ?_
  refine na_3 (q := 56) (one_d (so_get (M := np_M27) (pc := 53) kd_2 (k := 2) (by decide) dX4_copyFrom_53 wd_155) (up_get _ _ _)) rfl ?_
  refine na_1 (q := 57) (one_d (so_aload_n (M := np_M27) (pc := 56) dX4_copyFrom_56 rfl) (up_aload _ _)) rfl ?_
  refine na_3 (q := 60) (one_d (so_get (M := np_M27) (pc := 57) kd_2 (k := 2) (by decide) dX4_copyFrom_57 wd_155) (up_get _ _ _)) rfl ?_
  refine na_3 (q := 63) (one_c rfl mq_9 hl_27 rfl (sc_V (M := np_M27) (pc := 60) dX4_copyFrom_60 cw_X4_copyFrom_X1_copyFrom rfl wd_299 wd_300 wd_301 (nv_rcO (ci := 0) rfl))) rfl ?_
  refine na_1 (q := 64) (one_d (so_aload_n (M := np_M27) (pc := 63) dX4_copyFrom_63 rfl) (up_aload _ _)) rfl ?_
  refine na_1 (q := 65) (one_d (so_aload_n (M := np_M27) (pc := 64) dX4_copyFrom_64 rfl) (up_aload _ _)) rfl ?_
  refine na_3 (q := 68) (one_d (so_get (M := np_M27) (pc := 65) kd_2 (k := 3) (by decide) dX4_copyFrom_65 wd_156) (up_get _ _ _)) rfl ?_
  refine na_3 (q := 71) (one_d (so_put (M := np_M27) (pc := 68) kd_2 (k := 3) (by decide) dX4_copyFrom_68 (Or.inl wd_156) (Or.inl rfl)) (up_put _ _ _ _)) rfl ?_
  refine na_1 (q := 72) (one_d (so_aload_n (M := np_M27) (pc := 71) dX4_copyFrom_71 rfl) (up_aload _ _)) rfl ?_
  refine na_1 (q := 73) (one_d (so_aload_n (M := np_M27) (pc := 72) dX4_copyFrom_72 rfl) (up_aload _ _)) rfl ?_
  refine na_3 (q := 76) (one_d (so_get (M := np_M27) (pc := 73) kd_2 (k := 4) (by decide) dX4_copyFrom_73 wd_158) (up_get _ _ _)) rfl ?_
  refine na_3 (q := 79) (one_d (so_put (M := np_M27) (pc := 76) kd_2 (k := 4) (by decide) dX4_copyFrom_76 (Or.inl wd_158) (Or.inl rfl)) (up_put _ _ _ _)) rfl ?_
  refine na_1 (q := 80) (one_d (so_aload_n (M := np_M27) (pc := 79) dX4_copyFrom_79 rfl) (up_aload _ _)) rfl ?_
  refine na_1 (q := 81) (one_d (so_aload_n (M := np_M27) (pc := 80) dX4_copyFrom_80 rfl) (up_aload _ _)) rfl ?_
  refine na_3 (q := 84) (one_d (so_get (M := np_M27) (pc := 81) kd_2 (k := 5) (by decide) dX4_copyFrom_81 wd_160) (up_get _ _ _)) rfl ?_
  refine na_3 (q := 87) (one_d (so_put (M := np_M27) (pc := 84) kd_2 (k := 5) (by decide) dX4_copyFrom_84 (Or.inl wd_160) (Or.inl rfl)) (up_put _ _ _ _)) rfl ?_
  refine na_1 (q := 88) (one_d (so_aload_n (M := np_M27) (pc := 87) dX4_copyFrom_87 rfl) (up_aload _ _)) rfl ?_
  refine na_1 (q := 89) (one_d (so_aload_n (M := np_M27) (pc := 88) dX4_copyFrom_88 rfl) (up_aload _ _)) rfl ?_
  refine na_3 (q := 92) (one_d (so_get (M := np_M27) (pc := 89) kd_2 (k := 6) (by decide) dX4_copyFrom_89 wd_162) (up_get _ _ _)) rfl ?_
  refine na_3 (q := 95) (one_d (so_put (M := np_M27) (pc := 92) kd_2 (k := 6) (by decide) dX4_copyFrom_92 (Or.inl wd_162) (Or.inl rfl)) (up_put _ _ _ _)) rfl ?_
  refine na_1 (q := 96) (one_d (so_aload_n (M := np_M27) (pc := 95) dX4_copyFrom_95 rfl) (up_aload _ _)) rfl ?_
  refine na_1 (q := 97) (one_d (so_aload_n (M := np_M27) (pc := 96) dX4_copyFrom_96 rfl) (up_aload _ _)) rfl ?_
  refine na_3 (q := 100) (one_d (so_get (M := np_M27) (pc := 97) kd_2 (k := 7) (by decide) dX4_copyFrom_97 wd_164) (up_get _ _ _)) rfl ?_
  refine na_3 (q := 103) (one_d (so_put (M := np_M27) (pc := 100) kd_2 (k := 7) (by decide) dX4_copyFrom_100 (Or.inl wd_164) (Or.inl rfl)) (up_put _ _ _ _)) rfl ?_
  refine na_1 (q := 104) (one_d (so_aload_n (M := np_M27) (pc := 103) dX4_copyFrom_103 rfl) (up_aload _ _)) rfl ?_
  refine na_1 (q := 105) (one_d (so_aload_n (M := np_M27) (pc := 104) dX4_copyFrom_104 rfl) (up_aload _ _)) rfl ?_
  refine na_3 (q := 108) (one_d (so_get (M := np_M27) (pc := 105) kd_2 (k := 8) (by decide) dX4_copyFrom_105 wd_166) (up_get _ _ _)) rfl ?_
  refine na_3 (q := 111) (one_d (so_put (M := np_M27) (pc := 108) kd_2 (k := 8) (by decide) dX4_copyFrom_108 (Or.inl wd_166) (Or.inl rfl)) (up_put _ _ _ _)) rfl ?_
  refine na_1 (q := 112) (one_d (so_aload_n (M := np_M27) (pc := 111) dX4_copyFrom_111 rfl) (up_aload _ _)) rfl ?_
  refine na_1 (q := 113) (one_d (so_aload_n (M := np_M27) (pc := 112) dX4_copyFrom_112 rfl) (up_aload _ _)) rfl ?_
  refine na_3 (q := 116) (one_d (so_get (M := np_M27) (pc := 113) kd_2 (k := 9) (by decide) dX4_copyFrom_113 wd_168) (up_get _ _ _)) rfl ?_
  refine na_3 (q := 119) (one_d (so_put (M := np_M27) (pc := 116) kd_2 (k := 9) (by decide) dX4_copyFrom_116 (Or.inl wd_168) (Or.inl rfl)) (up_put _ _ _ _)) rfl ?_
  refine na_1 (q := 120) (one_d (so_aload_n (M := np_M27) (pc := 119) dX4_copyFrom_119 rfl) (up_aload _ _)) rfl ?_
  refine na_1 (q := 121) (one_d (so_aload_n (M := np_M27) (pc := 120) dX4_copyFrom_120 rfl) (up_aload _ _)) rfl ?_
  refine na_3 (q := 124) (one_d (so_get (M := np_M27) (pc := 121) kd_2 (k := 10) (by decide) dX4_copyFrom_121 wd_170) (up_get _ _ _)) rfl ?_
  refine na_3 (q := 127) (one_d (so_put (M := np_M27) (pc := 124) kd_2 (k := 10) (by decide) dX4_copyFrom_124 (Or.inl wd_170) (Or.inl rfl)) (up_put _ _ _ _)) rfl ?_
  refine na_1 (q := 128) (one_d (so_aload_n (M := np_M27) (pc := 127) dX4_copyFrom_127 rfl) (up_aload _ _)) rfl ?_
  refine na_1 (q := 129) (one_d (so_aload_n (M := np_M27) (pc := 128) dX4_copyFrom_128 rfl) (up_aload _ _)) rfl ?_
  refine na_3 (q := 132) (one_d (so_get (M := np_M27) (pc := 129) kd_2 (k := 11) (by decide) dX4_copyFrom_129 wd_172) (up_get _ _ _)) rfl ?_
  refine na_3 (q := 135) (one_d (so_put (M := np_M27) (pc := 132) kd_2 (k := 11) (by decide) dX4_copyFrom_132 (Or.inl wd_172) (Or.inl rfl)) (up_put _ _ _ _)) rfl ?_
  refine na_1 (q := 136) (one_d (so_retv (M := np_M27) (pc := 135) dX4_copyFrom_135 rfl) (up_retv)) rfl ?_
  exact na_z
theorem hl_28 : np_hls.getD 28 [] = [] := rfl
set_option maxRecDepth 100000 in
set_option maxHeartbeats 4000000 in
theorem ok_28 : nv_all np_M28 28 0 np_c28 := by
  unfold np_c28
  refine na_1 (q := 1) (one_d (so_iload_n (M := np_M28) (pc := 0) dX4_numbered_0 rfl) (up_iload _ _)) rfl ?_
  refine na_3 (q := 4) (one_d (so_iflt (M := np_M28) (pc := 1) dX4_numbered_1 (by decide)) (up_iflt _ _)) rfl ?_
  refine na_1 (q := 5) (one_d (so_iload_n (M := np_M28) (pc := 4) dX4_numbered_4 rfl) (up_iload _ _)) rfl ?_
  refine na_1 (q := 6) (one_d (so_aload_n (M := np_M28) (pc := 5) dX4_numbered_5 rfl) (up_aload _ _)) rfl ?_
  refine na_3 (q := 9) (one_d (so_get (M := np_M28) (pc := 6) kd_2 (k := 3) (by decide) dX4_numbered_6 wd_156) (up_get _ _ _)) rfl ?_
  refine na_3 (q := 12) (one_d (so_cge (M := np_M28) (pc := 9) dX4_numbered_9 (by decide)) (up_cge _ _)) rfl ?_
  refine na_1 (q := 13) (one_d (so_iload_n (M := np_M28) (pc := 12) dX4_numbered_12 rfl) (up_iload _ _)) rfl ?_
  refine na_1 (q := 14) (one_d (so_aload_n (M := np_M28) (pc := 13) dX4_numbered_13 rfl) (up_aload _ _)) rfl ?_
  refine na_3 (q := 17) (one_d (so_get (M := np_M28) (pc := 14) kd_2 (k := 0) (by decide) dX4_numbered_14 wd_153) (up_get _ _ _)) rfl ?_
  refine na_1 (q := 18) (one_d (so_alen (M := np_M28) (pc := 17) dX4_numbered_17 (Or.inr (Or.inr (Or.inl ⟨rfl, rfl⟩)))) (up_alen _ _)) rfl ?_
  refine na_3 (q := 21) (one_d (so_clt (M := np_M28) (pc := 18) dX4_numbered_18 (by decide)) (up_clt _ _)) rfl ?_
  refine na_1 (q := 22) (one_d (so_null (M := np_M28) (pc := 21) dX4_numbered_21) (up_cst _ _)) rfl ?_
  refine na_1 (q := 23) (one_d (so_reta (M := np_M28) (pc := 22) dX4_numbered_22 rfl (Or.inl ⟨_, rfl⟩)) (up_reta)) rfl ?_
  refine na_1 (q := 24) (one_d (so_aload_n (M := np_M28) (pc := 23) dX4_numbered_23 rfl) (up_aload _ _)) rfl ?_
  refine na_3 (q := 27) (one_d (so_get (M := np_M28) (pc := 24) kd_2 (k := 0) (by decide) dX4_numbered_24 wd_153) (up_get _ _ _)) rfl ?_
  refine na_1 (q := 28) (one_d (so_iload_n (M := np_M28) (pc := 27) dX4_numbered_27 rfl) (up_iload _ _)) rfl ?_
  refine na_1 (q := 29) (one_d (so_aldq (M := np_M28) (pc := 28) dX4_numbered_28 (Or.inl ⟨rfl, rfl⟩)) (up_aldq _ _)) rfl ?_
  refine na_1 (q := 30) (one_d (so_reta (M := np_M28) (pc := 29) dX4_numbered_29 rfl (Or.inl ⟨_, rfl⟩)) (up_reta)) rfl ?_
  exact na_z
theorem hl_29 : np_hls.getD 29 [] = [] := rfl
set_option maxRecDepth 100000 in
set_option maxHeartbeats 4000000 in
theorem ok_29 : nv_all np_M29 29 0 np_c29 := by
  unfold np_c29
  refine na_1 (q := 1) (one_d (so_iload_n (M := np_M29) (pc := 0) dX4_accountOf_0 rfl) (up_iload _ _)) rfl ?_
  refine na_3 (q := 4) (one_d (so_ifne (M := np_M29) (pc := 1) dX4_accountOf_1 (by decide)) (up_ifne _ _)) rfl ?_
  refine na_1 (q := 5) (one_d (so_aload_n (M := np_M29) (pc := 4) dX4_accountOf_4 rfl) (up_aload _ _)) rfl ?_
  refine na_3 (q := 8) (one_d (so_get (M := np_M29) (pc := 5) kd_2 (k := 1) (by decide) dX4_accountOf_5 wd_154) (up_get _ _ _)) rfl ?_
  refine na_3 (q := 11) (one_d (so_goto (M := np_M29) (pc := 8) dX4_accountOf_8 (by decide)) (up_goto _)) rfl ?_
  refine na_1 (q := 12) (one_d (so_aload_n (M := np_M29) (pc := 11) dX4_accountOf_11 rfl) (up_aload _ _)) rfl ?_
  refine na_3 (q := 15) (one_d (so_get (M := np_M29) (pc := 12) kd_2 (k := 2) (by decide) dX4_accountOf_12 wd_155) (up_get _ _ _)) rfl ?_
  refine na_1 (q := 16) (one_d (so_reta (M := np_M29) (pc := 15) dX4_accountOf_15 rfl (Or.inl ⟨_, rfl⟩)) (up_reta)) rfl ?_
  exact na_z
theorem hl_30 : np_hls.getD 30 [] = [] := rfl
set_option maxRecDepth 100000 in
set_option maxHeartbeats 4000000 in
theorem ok_30 : nv_all np_M30 30 0 np_c30 := by
  unfold np_c30
  refine na_1 (q := 1) (one_d (so_aload_n (M := np_M30) (pc := 0) dX4_isOver_0 rfl) (up_aload _ _)) rfl ?_
  refine na_3 (q := 4) (one_d (so_get (M := np_M30) (pc := 1) kd_2 (k := 4) (by decide) dX4_isOver_1 wd_158) (up_get _ _ _)) rfl ?_
  refine na_3 (q := 7) (one_d (so_ifeq (M := np_M30) (pc := 4) dX4_isOver_4 (by decide)) (up_ifeq _ _)) rfl ?_
  refine na_1 (q := 8) (one_d (so_aload_n (M := np_M30) (pc := 7) dX4_isOver_7 rfl) (up_aload _ _)) rfl ?_
  refine na_3 (q := 11) (one_d (so_get (M := np_M30) (pc := 8) kd_2 (k := 1) (by decide) dX4_isOver_8 wd_154) (up_get _ _ _)) rfl ?_
  refine na_3 (q := 14) (one_d (so_getN (M := np_M30) (pc := 11) kd_0 (k := 1) (by decide) dX4_isOver_11 wd_72) (up_get _ _ _)) rfl ?_
  refine na_3 (q := 17) (one_d (so_ifeq (M := np_M30) (pc := 14) dX4_isOver_14 (by decide)) (up_ifeq _ _)) rfl ?_
  refine na_1 (q := 18) (one_d (so_aload_n (M := np_M30) (pc := 17) dX4_isOver_17 rfl) (up_aload _ _)) rfl ?_
  refine na_3 (q := 21) (one_d (so_get (M := np_M30) (pc := 18) kd_2 (k := 2) (by decide) dX4_isOver_18 wd_155) (up_get _ _ _)) rfl ?_
  refine na_3 (q := 24) (one_d (so_getN (M := np_M30) (pc := 21) kd_0 (k := 1) (by decide) dX4_isOver_21 wd_72) (up_get _ _ _)) rfl ?_
  refine na_3 (q := 27) (one_d (so_ifne (M := np_M30) (pc := 24) dX4_isOver_24 (by decide)) (up_ifne _ _)) rfl ?_
  refine na_1 (q := 28) (one_d (so_iconst (M := np_M30) (pc := 27) dX4_isOver_27 (by decide)) (up_cst _ _)) rfl ?_
  refine na_3 (q := 31) (one_d (so_goto (M := np_M30) (pc := 28) dX4_isOver_28 (by decide)) (up_goto _)) rfl ?_
  refine na_1 (q := 32) (one_d (so_iconst (M := np_M30) (pc := 31) dX4_isOver_31 (by decide)) (up_cst _ _)) rfl ?_
  refine na_1 (q := 33) (one_d (so_reti (M := np_M30) (pc := 32) dX4_isOver_32 rfl) (up_reti _)) rfl ?_
  exact na_z
theorem hl_31 : np_hls.getD 31 [] = [] := rfl
set_option maxRecDepth 100000 in
set_option maxHeartbeats 4000000 in
theorem ok_31 : nv_all np_M31 31 0 np_c31 := by
  unfold np_c31
  refine na_1 (q := 1) (one_d (so_aload_n (M := np_M31) (pc := 0) dX4_isGoingOn_0 rfl) (up_aload _ _)) rfl ?_
  refine na_3 (q := 4) (one_d (so_get (M := np_M31) (pc := 1) kd_2 (k := 4) (by decide) dX4_isGoingOn_1 wd_158) (up_get _ _ _)) rfl ?_
  refine na_3 (q := 7) (one_d (so_ifeq (M := np_M31) (pc := 4) dX4_isGoingOn_4 (by decide)) (up_ifeq _ _)) rfl ?_
  refine na_1 (q := 8) (one_d (so_aload_n (M := np_M31) (pc := 7) dX4_isGoingOn_7 rfl) (up_aload _ _)) rfl ?_
  refine na_3 (q := 11) (one_c rfl mq_30 hl_31 rfl (sc_V (M := np_M31) (pc := 8) dX4_isGoingOn_8 cw_X4_isGoingOn_X4_isOver rfl wd_538 wd_539 wd_540 (nv_rcO (ci := 2) rfl))) rfl ?_
  refine na_3 (q := 14) (one_d (so_ifne (M := np_M31) (pc := 11) dX4_isGoingOn_11 (by decide)) (up_ifne _ _)) rfl ?_
  refine na_1 (q := 15) (one_d (so_iconst (M := np_M31) (pc := 14) dX4_isGoingOn_14 (by decide)) (up_cst _ _)) rfl ?_
  refine na_3 (q := 18) (one_d (so_goto (M := np_M31) (pc := 15) dX4_isGoingOn_15 (by decide)) (up_goto _)) rfl ?_
  refine na_1 (q := 19) (one_d (so_iconst (M := np_M31) (pc := 18) dX4_isGoingOn_18 (by decide)) (up_cst _ _)) rfl ?_
  refine na_1 (q := 20) (one_d (so_reti (M := np_M31) (pc := 19) dX4_isGoingOn_19 rfl) (up_reti _)) rfl ?_
  exact na_z
theorem hl_32 : np_hls.getD 32 [] = [] := rfl
set_option maxRecDepth 100000 in
set_option maxHeartbeats 4000000 in
theorem ok_32 : nv_all np_M32 32 0 np_c32 := by
  unfold np_c32
  refine na_1 (q := 1) (one_d (so_aload_n (M := np_M32) (pc := 0) dX4_spoonIn_0 rfl) (up_aload _ _)) rfl ?_
  refine na_3 (q := 4) (one_d (so_get (M := np_M32) (pc := 1) kd_2 (k := 0) (by decide) dX4_spoonIn_1 wd_153) (up_get _ _ _)) rfl ?_
  refine na_1 (q := 5) (one_d (so_astore_n (M := np_M32) (pc := 4) dX4_spoonIn_4 rfl (by decide)) (up_astore _ _)) rfl ?_
  refine na_1 (q := 6) (one_d (so_aload_n (M := np_M32) (pc := 5) dX4_spoonIn_5 rfl) (up_aload _ _)) rfl ?_
  refine na_1 (q := 7) (one_d (so_alen (M := np_M32) (pc := 6) dX4_spoonIn_6 (Or.inr (Or.inr (Or.inl ⟨rfl, rfl⟩)))) (up_alen _ _)) rfl ?_
  refine na_2 (q := 9) (one_d (so_istore (M := np_M32) (pc := 7) dX4_spoonIn_7 (by decide)) (up_istore _ _)) rfl ?_
  refine na_1 (q := 10) (one_d (so_iconst (M := np_M32) (pc := 9) dX4_spoonIn_9 (by decide)) (up_cst _ _)) rfl ?_
  refine na_2 (q := 12) (one_d (so_istore (M := np_M32) (pc := 10) dX4_spoonIn_10 (by decide)) (up_istore _ _)) rfl ?_
  refine na_2 (q := 14) (one_d (so_iload (M := np_M32) (pc := 12) dX4_spoonIn_12) (up_iload _ _)) rfl ?_
  refine na_2 (q := 16) (one_d (so_iload (M := np_M32) (pc := 14) dX4_spoonIn_14) (up_iload _ _)) rfl ?_
  refine na_3 (q := 19) (one_d (so_cge (M := np_M32) (pc := 16) dX4_spoonIn_16 (by decide)) (up_cge _ _)) rfl ?_
  refine na_1 (q := 20) (one_d (so_aload_n (M := np_M32) (pc := 19) dX4_spoonIn_19 rfl) (up_aload _ _)) rfl ?_
  refine na_2 (q := 22) (one_d (so_iload (M := np_M32) (pc := 20) dX4_spoonIn_20) (up_iload _ _)) rfl ?_
  refine na_1 (q := 23) (one_d (so_aldq (M := np_M32) (pc := 22) dX4_spoonIn_22 (Or.inl ⟨rfl, rfl⟩)) (up_aldq _ _)) rfl ?_
  refine na_2 (q := 25) (one_d (so_astore (M := np_M32) (pc := 23) dX4_spoonIn_23 (by decide)) (up_astore _ _)) rfl ?_
  refine na_2 (q := 27) (one_d (so_aload (M := np_M32) (pc := 25) dX4_spoonIn_25) (up_aload _ _)) rfl ?_
  refine na_3 (q := 30) (one_c rfl mq_62 hl_32 rfl (sc_V (M := np_M32) (pc := 27) dX4_spoonIn_27 cw_X4_spoonIn_X6_isAfloat rfl wd_422 wd_423 wd_424 (nv_rcO (ci := 4) rfl))) rfl ?_
  refine na_3 (q := 33) (one_d (so_ifeq (M := np_M32) (pc := 30) dX4_spoonIn_30 (by decide)) (up_ifeq _ _)) rfl ?_
  refine na_2 (q := 35) (one_d (so_aload (M := np_M32) (pc := 33) dX4_spoonIn_33) (up_aload _ _)) rfl ?_
  refine na_1 (q := 36) (one_d (so_iload_n (M := np_M32) (pc := 35) dX4_spoonIn_35 rfl) (up_iload _ _)) rfl ?_
  refine na_1 (q := 37) (one_d (so_iload_n (M := np_M32) (pc := 36) dX4_spoonIn_36 rfl) (up_iload _ _)) rfl ?_
  refine na_3 (q := 40) (one_c rfl mq_64 hl_32 rfl (sc_V (M := np_M32) (pc := 37) dX4_spoonIn_37 cw_X4_spoonIn_X6_isIn rfl wd_426 wd_427 wd_428 (nv_rcO (ci := 4) rfl))) rfl ?_
  refine na_3 (q := 43) (one_d (so_ifeq (M := np_M32) (pc := 40) dX4_spoonIn_40 (by decide)) (up_ifeq _ _)) rfl ?_
  refine na_2 (q := 45) (one_d (so_aload (M := np_M32) (pc := 43) dX4_spoonIn_43) (up_aload _ _)) rfl ?_
  refine na_1 (q := 46) (one_d (so_reta (M := np_M32) (pc := 45) dX4_spoonIn_45 rfl (Or.inl ⟨_, rfl⟩)) (up_reta)) rfl ?_
  refine na_3 (q := 49) (one_d (so_iinc (M := np_M32) (pc := 46) dX4_spoonIn_46 (by decide) (by decide)) (up_iinc _ _ _)) rfl ?_
  refine na_3 (q := 52) (one_d (so_goto (M := np_M32) (pc := 49) dX4_spoonIn_49 (by decide)) (up_goto _)) rfl ?_
  refine na_1 (q := 53) (one_d (so_null (M := np_M32) (pc := 52) dX4_spoonIn_52) (up_cst _ _)) rfl ?_
  refine na_1 (q := 54) (one_d (so_reta (M := np_M32) (pc := 53) dX4_spoonIn_53 rfl (Or.inl ⟨_, rfl⟩)) (up_reta)) rfl ?_
  exact na_z
theorem hl_33 : np_hls.getD 33 [] = [] := rfl
set_option maxRecDepth 100000 in
set_option maxHeartbeats 4000000 in
theorem ok_33 : nv_all np_M33 33 0 np_c33 := by
  unfold np_c33
  refine na_1 (q := 1) (one_d (so_aload_n (M := np_M33) (pc := 0) dX4_ranked_0 rfl) (up_aload _ _)) rfl ?_
  refine na_3 (q := 4) (one_d (so_get (M := np_M33) (pc := 1) kd_2 (k := 0) (by decide) dX4_ranked_1 wd_153) (up_get _ _ _)) rfl ?_
  refine na_1 (q := 5) (one_d (so_astore_n (M := np_M33) (pc := 4) dX4_ranked_4 rfl (by decide)) (up_astore _ _)) rfl ?_
  refine na_1 (q := 6) (one_d (so_aload_n (M := np_M33) (pc := 5) dX4_ranked_5 rfl) (up_aload _ _)) rfl ?_
  refine na_1 (q := 7) (one_d (so_alen (M := np_M33) (pc := 6) dX4_ranked_6 (Or.inr (Or.inr (Or.inl ⟨rfl, rfl⟩)))) (up_alen _ _)) rfl ?_
  refine na_1 (q := 8) (one_d (so_istore_n (M := np_M33) (pc := 7) dX4_ranked_7 rfl (by decide)) (up_istore _ _)) rfl ?_
  refine na_1 (q := 9) (one_d (so_iconst (M := np_M33) (pc := 8) dX4_ranked_8 (by decide)) (up_cst _ _)) rfl ?_
  refine na_2 (q := 11) (one_d (so_istore (M := np_M33) (pc := 9) dX4_ranked_9 (by decide)) (up_istore _ _)) rfl ?_
  refine na_2 (q := 13) (one_d (so_iload (M := np_M33) (pc := 11) dX4_ranked_11) (up_iload _ _)) rfl ?_
  refine na_1 (q := 14) (one_d (so_iload_n (M := np_M33) (pc := 13) dX4_ranked_13 rfl) (up_iload _ _)) rfl ?_
  refine na_3 (q := 17) (one_d (so_cge (M := np_M33) (pc := 14) dX4_ranked_14 (by decide)) (up_cge _ _)) rfl ?_
  refine na_1 (q := 18) (one_d (so_aload_n (M := np_M33) (pc := 17) dX4_ranked_17 rfl) (up_aload _ _)) rfl ?_
  refine na_2 (q := 20) (one_d (so_iload (M := np_M33) (pc := 18) dX4_ranked_18) (up_iload _ _)) rfl ?_
  refine na_1 (q := 21) (one_d (so_aldq (M := np_M33) (pc := 20) dX4_ranked_20 (Or.inl ⟨rfl, rfl⟩)) (up_aldq _ _)) rfl ?_
  refine na_2 (q := 23) (one_d (so_astore (M := np_M33) (pc := 21) dX4_ranked_21 (by decide)) (up_astore _ _)) rfl ?_
  refine na_2 (q := 25) (one_d (so_aload (M := np_M33) (pc := 23) dX4_ranked_23) (up_aload _ _)) rfl ?_
  refine na_3 (q := 28) (one_c rfl mq_62 hl_33 rfl (sc_V (M := np_M33) (pc := 25) dX4_ranked_25 cw_X4_ranked_X6_isAfloat rfl wd_422 wd_423 wd_424 (nv_rcO (ci := 4) rfl))) rfl ?_
  refine na_3 (q := 31) (one_d (so_ifeq (M := np_M33) (pc := 28) dX4_ranked_28 (by decide)) (up_ifeq _ _)) rfl ?_
  refine na_1 (q := 32) (one_d (so_aload_n (M := np_M33) (pc := 31) dX4_ranked_31 rfl) (up_aload _ _)) rfl ?_
  refine na_2 (q := 34) (one_d (so_aload (M := np_M33) (pc := 32) dX4_ranked_32) (up_aload _ _)) rfl ?_
  refine na_3 (q := 37) (one_c rfl mq_34 hl_33 rfl (sc_V (M := np_M33) (pc := 34) dX4_ranked_34 cw_X4_ranked_X4_countRankedBefore rfl wd_1135 wd_1137 wd_21 (nv_rcO (ci := 2) rfl))) rfl ?_
  refine na_1 (q := 38) (one_d (so_iload_n (M := np_M33) (pc := 37) dX4_ranked_37 rfl) (up_iload _ _)) rfl ?_
  refine na_3 (q := 41) (one_d (so_cne (M := np_M33) (pc := 38) dX4_ranked_38 (by decide)) (up_cne _ _)) rfl ?_
  refine na_2 (q := 43) (one_d (so_aload (M := np_M33) (pc := 41) dX4_ranked_41) (up_aload _ _)) rfl ?_
  refine na_1 (q := 44) (one_d (so_reta (M := np_M33) (pc := 43) dX4_ranked_43 rfl (Or.inl ⟨_, rfl⟩)) (up_reta)) rfl ?_
  refine na_3 (q := 47) (one_d (so_iinc (M := np_M33) (pc := 44) dX4_ranked_44 (by decide) (by decide)) (up_iinc _ _ _)) rfl ?_
  refine na_3 (q := 50) (one_d (so_goto (M := np_M33) (pc := 47) dX4_ranked_47 (by decide)) (up_goto _)) rfl ?_
  refine na_1 (q := 51) (one_d (so_null (M := np_M33) (pc := 50) dX4_ranked_50) (up_cst _ _)) rfl ?_
  refine na_1 (q := 52) (one_d (so_reta (M := np_M33) (pc := 51) dX4_ranked_51 rfl (Or.inl ⟨_, rfl⟩)) (up_reta)) rfl ?_
  exact na_z
theorem hl_34 : np_hls.getD 34 [] = [] := rfl
set_option maxRecDepth 100000 in
set_option maxHeartbeats 4000000 in
theorem ok_34 : nv_all np_M34 34 0 np_c34 := by
  unfold np_c34
  refine na_1 (q := 1) (one_d (so_iconst (M := np_M34) (pc := 0) dX4_countRankedBefore_0 (by decide)) (up_cst _ _)) rfl ?_
  refine na_1 (q := 2) (one_d (so_istore_n (M := np_M34) (pc := 1) dX4_countRankedBefore_1 rfl (by decide)) (up_istore _ _)) rfl ?_
  refine na_1 (q := 3) (one_d (so_aload_n (M := np_M34) (pc := 2) dX4_countRankedBefore_2 rfl) (up_aload _ _)) rfl ?_
  refine na_3 (q := 6) (one_d (so_get (M := np_M34) (pc := 3) kd_2 (k := 0) (by decide) dX4_countRankedBefore_3 wd_153) (up_get _ _ _)) rfl ?_
  refine na_1 (q := 7) (one_d (so_astore_n (M := np_M34) (pc := 6) dX4_countRankedBefore_6 rfl (by decide)) (up_astore _ _)) rfl ?_
  refine na_1 (q := 8) (one_d (so_aload_n (M := np_M34) (pc := 7) dX4_countRankedBefore_7 rfl) (up_aload _ _)) rfl ?_
  refine na_1 (q := 9) (one_d (so_alen (M := np_M34) (pc := 8) dX4_countRankedBefore_8 (Or.inr (Or.inr (Or.inl ⟨rfl, rfl⟩)))) (up_alen _ _)) rfl ?_
  refine na_2 (q := 11) (one_d (so_istore (M := np_M34) (pc := 9) dX4_countRankedBefore_9 (by decide)) (up_istore _ _)) rfl ?_
  refine na_1 (q := 12) (one_d (so_iconst (M := np_M34) (pc := 11) dX4_countRankedBefore_11 (by decide)) (up_cst _ _)) rfl ?_
  refine na_2 (q := 14) (one_d (so_istore (M := np_M34) (pc := 12) dX4_countRankedBefore_12 (by decide)) (up_istore _ _)) rfl ?_
  refine na_2 (q := 16) (one_d (so_iload (M := np_M34) (pc := 14) dX4_countRankedBefore_14) (up_iload _ _)) rfl ?_
  refine na_2 (q := 18) (one_d (so_iload (M := np_M34) (pc := 16) dX4_countRankedBefore_16) (up_iload _ _)) rfl ?_
  refine na_3 (q := 21) (one_d (so_cge (M := np_M34) (pc := 18) dX4_countRankedBefore_18 (by decide)) (up_cge _ _)) rfl ?_
  refine na_1 (q := 22) (one_d (so_aload_n (M := np_M34) (pc := 21) dX4_countRankedBefore_21 rfl) (up_aload _ _)) rfl ?_
  refine na_2 (q := 24) (one_d (so_iload (M := np_M34) (pc := 22) dX4_countRankedBefore_22) (up_iload _ _)) rfl ?_
  refine na_1 (q := 25) (one_d (so_aldq (M := np_M34) (pc := 24) dX4_countRankedBefore_24 (Or.inl ⟨rfl, rfl⟩)) (up_aldq _ _)) rfl ?_
  refine na_2 (q := 27) (one_d (so_astore (M := np_M34) (pc := 25) dX4_countRankedBefore_25 (by decide)) (up_astore _ _)) rfl ?_
  refine na_2 (q := 29) (one_d (so_aload (M := np_M34) (pc := 27) dX4_countRankedBefore_27) (up_aload _ _)) rfl ?_
  refine na_3 (q := 32) (one_c rfl mq_62 hl_34 rfl (sc_V (M := np_M34) (pc := 29) dX4_countRankedBefore_29 cw_X4_countRankedBefore_X6_isAfloat rfl wd_422 wd_423 wd_424 (nv_rcO (ci := 4) rfl))) rfl ?_
  refine na_3 (q := 35) (one_d (so_ifeq (M := np_M34) (pc := 32) dX4_countRankedBefore_32 (by decide)) (up_ifeq _ _)) rfl ?_
  refine na_2 (q := 37) (one_d (so_aload (M := np_M34) (pc := 35) dX4_countRankedBefore_35) (up_aload _ _)) rfl ?_
  refine na_1 (q := 38) (one_d (so_aload_n (M := np_M34) (pc := 37) dX4_countRankedBefore_37 rfl) (up_aload _ _)) rfl ?_
  refine na_3 (q := 41) (one_c rfl mq_69 hl_34 rfl (sc_V (M := np_M34) (pc := 38) dX4_countRankedBefore_38 cw_X4_countRankedBefore_X6_ranksBefore rfl wd_1139 wd_1140 wd_1141 (nv_rcO (ci := 4) rfl))) rfl ?_
  refine na_3 (q := 44) (one_d (so_ifeq (M := np_M34) (pc := 41) dX4_countRankedBefore_41 (by decide)) (up_ifeq _ _)) rfl ?_
  refine na_3 (q := 47) (one_d (so_iinc (M := np_M34) (pc := 44) dX4_countRankedBefore_44 (by decide) (by decide)) (up_iinc _ _ _)) rfl ?_
  refine na_3 (q := 50) (one_d (so_iinc (M := np_M34) (pc := 47) dX4_countRankedBefore_47 (by decide) (by decide)) (up_iinc _ _ _)) rfl ?_
  refine na_3 (q := 53) (one_d (so_goto (M := np_M34) (pc := 50) dX4_countRankedBefore_50 (by decide)) (up_goto _)) rfl ?_
  refine na_1 (q := 54) (one_d (so_iload_n (M := np_M34) (pc := 53) dX4_countRankedBefore_53 rfl) (up_iload _ _)) rfl ?_
  refine na_1 (q := 55) (one_d (so_reti (M := np_M34) (pc := 54) dX4_countRankedBefore_54 rfl) (up_reti _)) rfl ?_
  exact na_z
theorem hl_35 : np_hls.getD 35 [] = [] := rfl
set_option maxRecDepth 100000 in
set_option maxHeartbeats 4000000 in
theorem ok_35 : nv_all np_M35 35 0 np_c35 := by
  unfold np_c35
  refine na_1 (q := 1) (one_d (so_iconst (M := np_M35) (pc := 0) dX4_targetsBySpoons_0 (by decide)) (up_cst _ _)) rfl ?_
  refine na_1 (q := 2) (one_d (so_istore_n (M := np_M35) (pc := 1) dX4_targetsBySpoons_1 rfl (by decide)) (up_istore _ _)) rfl ?_
  refine na_1 (q := 3) (one_d (so_aload_n (M := np_M35) (pc := 2) dX4_targetsBySpoons_2 rfl) (up_aload _ _)) rfl ?_
  refine na_3 (q := 6) (one_d (so_get (M := np_M35) (pc := 3) kd_2 (k := 0) (by decide) dX4_targetsBySpoons_3 wd_153) (up_get _ _ _)) rfl ?_
  refine na_1 (q := 7) (one_d (so_astore_n (M := np_M35) (pc := 6) dX4_targetsBySpoons_6 rfl (by decide)) (up_astore _ _)) rfl ?_
  refine na_1 (q := 8) (one_d (so_aload_n (M := np_M35) (pc := 7) dX4_targetsBySpoons_7 rfl) (up_aload _ _)) rfl ?_
  refine na_1 (q := 9) (one_d (so_alen (M := np_M35) (pc := 8) dX4_targetsBySpoons_8 (Or.inr (Or.inr (Or.inl ⟨rfl, rfl⟩)))) (up_alen _ _)) rfl ?_
  refine na_2 (q := 11) (one_d (so_istore (M := np_M35) (pc := 9) dX4_targetsBySpoons_9 (by decide)) (up_istore _ _)) rfl ?_
  refine na_1 (q := 12) (one_d (so_iconst (M := np_M35) (pc := 11) dX4_targetsBySpoons_11 (by decide)) (up_cst _ _)) rfl ?_
  refine na_2 (q := 14) (one_d (so_istore (M := np_M35) (pc := 12) dX4_targetsBySpoons_12 (by decide)) (up_istore _ _)) rfl ?_
  refine na_2 (q := 16) (one_d (so_iload (M := np_M35) (pc := 14) dX4_targetsBySpoons_14) (up_iload _ _)) rfl ?_
  refine na_2 (q := 18) (one_d (so_iload (M := np_M35) (pc := 16) dX4_targetsBySpoons_16) (up_iload _ _)) rfl ?_
  refine na_3 (q := 21) (one_d (so_cge (M := np_M35) (pc := 18) dX4_targetsBySpoons_18 (by decide)) (up_cge _ _)) rfl ?_
  refine na_1 (q := 22) (one_d (so_aload_n (M := np_M35) (pc := 21) dX4_targetsBySpoons_21 rfl) (up_aload _ _)) rfl ?_
  refine na_2 (q := 24) (one_d (so_iload (M := np_M35) (pc := 22) dX4_targetsBySpoons_22) (up_iload _ _)) rfl ?_
  refine na_1 (q := 25) (one_d (so_aldq (M := np_M35) (pc := 24) dX4_targetsBySpoons_24 (Or.inl ⟨rfl, rfl⟩)) (up_aldq _ _)) rfl ?_
  refine na_2 (q := 27) (one_d (so_astore (M := np_M35) (pc := 25) dX4_targetsBySpoons_25 (by decide)) (up_astore _ _)) rfl ?_
  refine na_2 (q := 29) (one_d (so_aload (M := np_M35) (pc := 27) dX4_targetsBySpoons_27) (up_aload _ _)) rfl ?_
  refine na_1 (q := 30) (one_d (so_iconst (M := np_M35) (pc := 29) dX4_targetsBySpoons_29 (by decide)) (up_cst _ _)) rfl ?_
  refine na_1 (q := 31) (one_d (so_aload_n (M := np_M35) (pc := 30) dX4_targetsBySpoons_30 rfl) (up_aload _ _)) rfl ?_
  refine na_3 (q := 34) (one_d (so_getN (M := np_M35) (pc := 31) kd_4 (k := 1) (by decide) dX4_targetsBySpoons_31 wd_113) (up_get _ _ _)) rfl ?_
  refine na_1 (q := 35) (one_d (so_isub (M := np_M35) (pc := 34) dX4_targetsBySpoons_34) (up_i2 _ _)) rfl ?_
  refine na_3 (q := 38) (one_c rfl mq_63 hl_35 rfl (sc_V (M := np_M35) (pc := 35) dX4_targetsBySpoons_35 cw_X4_targetsBySpoons_X6_isAfloatOf rfl wd_561 wd_562 wd_563 (nv_rcO (ci := 4) rfl))) rfl ?_
  refine na_3 (q := 41) (one_d (so_ifeq (M := np_M35) (pc := 38) dX4_targetsBySpoons_38 (by decide)) (up_ifeq _ _)) rfl ?_
  refine na_1 (q := 42) (one_d (so_aload_n (M := np_M35) (pc := 41) dX4_targetsBySpoons_41 rfl) (up_aload _ _)) rfl ?_
  refine na_2 (q := 44) (one_d (so_aload (M := np_M35) (pc := 42) dX4_targetsBySpoons_42) (up_aload _ _)) rfl ?_
  refine na_3 (q := 47) (one_d (so_getN (M := np_M35) (pc := 44) kd_4 (k := 2) (by decide) dX4_targetsBySpoons_44 wd_116) (up_get _ _ _)) rfl ?_
  refine na_2 (q := 49) (one_d (so_aload (M := np_M35) (pc := 47) dX4_targetsBySpoons_47) (up_aload _ _)) rfl ?_
  refine na_3 (q := 52) (one_d (so_getN (M := np_M35) (pc := 49) kd_4 (k := 3) (by decide) dX4_targetsBySpoons_49 wd_119) (up_get _ _ _)) rfl ?_
  refine na_3 (q := 55) (one_c rfl mq_67 hl_35 rfl (sc_V (M := np_M35) (pc := 52) dX4_targetsBySpoons_52 cw_X4_targetsBySpoons_X6_reaches rfl wd_757 wd_758 wd_759 (nv_rcO (ci := 4) rfl))) rfl ?_
  refine na_3 (q := 58) (one_d (so_ifeq (M := np_M35) (pc := 55) dX4_targetsBySpoons_55 (by decide)) (up_ifeq _ _)) rfl ?_
  refine na_3 (q := 61) (one_d (so_iinc (M := np_M35) (pc := 58) dX4_targetsBySpoons_58 (by decide) (by decide)) (up_iinc _ _ _)) rfl ?_
  refine na_3 (q := 64) (one_d (so_iinc (M := np_M35) (pc := 61) dX4_targetsBySpoons_61 (by decide) (by decide)) (up_iinc _ _ _)) rfl ?_
  refine na_3 (q := 67) (one_d (so_goto (M := np_M35) (pc := 64) dX4_targetsBySpoons_64 (by decide)) (up_goto _)) rfl ?_
  refine na_1 (q := 68) (one_d (so_iload_n (M := np_M35) (pc := 67) dX4_targetsBySpoons_67 rfl) (up_iload _ _)) rfl ?_
  refine na_1 (q := 69) (one_d (so_reti (M := np_M35) (pc := 68) dX4_targetsBySpoons_68 rfl) (up_reti _)) rfl ?_
  exact na_z
theorem hl_36 : np_hls.getD 36 [] = [] := rfl
set_option maxRecDepth 100000 in
set_option maxHeartbeats 4000000 in
theorem ok_36 : nv_all np_M36 36 0 np_c36 := by
  unfold np_c36
  refine na_1 (q := 1) (one_d (so_iconst (M := np_M36) (pc := 0) dX4_targetsByCells_0 (by decide)) (up_cst _ _)) rfl ?_
  refine na_1 (q := 2) (one_d (so_istore_n (M := np_M36) (pc := 1) dX4_targetsByCells_1 rfl (by decide)) (up_istore _ _)) rfl ?_
  refine na_1 (q := 3) (one_d (so_iconst (M := np_M36) (pc := 2) dX4_targetsByCells_2 (by decide)) (up_cst _ _)) rfl ?_
  refine na_1 (q := 4) (one_d (so_istore_n (M := np_M36) (pc := 3) dX4_targetsByCells_3 rfl (by decide)) (up_istore _ _)) rfl ?_
  refine na_1 (q := 5) (one_d (so_iload_n (M := np_M36) (pc := 4) dX4_targetsByCells_4 rfl) (up_iload _ _)) rfl ?_
  refine na_2 (q := 7) (one_d (so_bipush (M := np_M36) (pc := 5) dX4_targetsByCells_5 (by decide)) (up_cst _ _)) rfl ?_
  refine na_3 (q := 10) (one_d (so_cge (M := np_M36) (pc := 7) dX4_targetsByCells_7 (by decide)) (up_cge _ _)) rfl ?_
  refine na_1 (q := 11) (one_d (so_iconst (M := np_M36) (pc := 10) dX4_targetsByCells_10 (by decide)) (up_cst _ _)) rfl ?_
  refine na_2 (q := 13) (one_d (so_istore (M := np_M36) (pc := 11) dX4_targetsByCells_11 (by decide)) (up_istore _ _)) rfl ?_
  refine na_2 (q := 15) (one_d (so_iload (M := np_M36) (pc := 13) dX4_targetsByCells_13) (up_iload _ _)) rfl ?_
  refine na_2 (q := 17) (one_d (so_bipush (M := np_M36) (pc := 15) dX4_targetsByCells_15 (by decide)) (up_cst _ _)) rfl ?_
  refine na_3 (q := 20) (one_d (so_cge (M := np_M36) (pc := 17) dX4_targetsByCells_17 (by decide)) (up_cge _ _)) rfl ?_
  refine na_1 (q := 21) (one_d (so_aload_n (M := np_M36) (pc := 20) dX4_targetsByCells_20 rfl) (up_aload _ _)) rfl ?_
  refine na_2 (q := 23) (one_d (so_iload (M := np_M36) (pc := 21) dX4_targetsByCells_21) (up_iload _ _)) rfl ?_
  refine na_1 (q := 24) (one_d (so_iload_n (M := np_M36) (pc := 23) dX4_targetsByCells_23 rfl) (up_iload _ _)) rfl ?_
  refine na_3 (q := 27) (one_c rfl mq_67 hl_36 rfl (sc_V (M := np_M36) (pc := 24) dX4_targetsByCells_24 cw_X4_targetsByCells_X6_reaches rfl wd_757 wd_758 wd_759 (nv_rcO (ci := 4) rfl))) rfl ?_
  refine na_3 (q := 30) (one_d (so_ifeq (M := np_M36) (pc := 27) dX4_targetsByCells_27 (by decide)) (up_ifeq _ _)) rfl ?_
  refine na_1 (q := 31) (one_d (so_aload_n (M := np_M36) (pc := 30) dX4_targetsByCells_30 rfl) (up_aload _ _)) rfl ?_
  refine na_1 (q := 32) (one_d (so_aload_n (M := np_M36) (pc := 31) dX4_targetsByCells_31 rfl) (up_aload _ _)) rfl ?_
  refine na_2 (q := 34) (one_d (so_iload (M := np_M36) (pc := 32) dX4_targetsByCells_32) (up_iload _ _)) rfl ?_
  refine na_1 (q := 35) (one_d (so_iload_n (M := np_M36) (pc := 34) dX4_targetsByCells_34 rfl) (up_iload _ _)) rfl ?_
  refine na_3 (q := 38) (one_c rfl mq_37 hl_36 rfl (sc_V (M := np_M36) (pc := 35) dX4_targetsByCells_35 cw_X4_targetsByCells_X4_isHeldAgainst rfl wd_1080 wd_1082 wd_20 (nv_rcO (ci := 2) rfl))) rfl ?_
  refine na_3 (q := 41) (one_d (so_ifeq (M := np_M36) (pc := 38) dX4_targetsByCells_38 (by decide)) (up_ifeq _ _)) rfl ?_
  refine na_3 (q := 44) (one_d (so_iinc (M := np_M36) (pc := 41) dX4_targetsByCells_41 (by decide) (by decide)) (up_iinc _ _ _)) rfl ?_
  refine na_3 (q := 47) (one_d (so_iinc (M := np_M36) (pc := 44) dX4_targetsByCells_44 (by decide) (by decide)) (up_iinc _ _ _)) rfl ?_
  refine na_3 (q := 50) (one_d (so_goto (M := np_M36) (pc := 47) dX4_targetsByCells_47 (by decide)) (up_goto _)) rfl ?_
  refine na_3 (q := 53) (one_d (so_iinc (M := np_M36) (pc := 50) dX4_targetsByCells_50 (by decide) (by decide)) (up_iinc _ _ _)) rfl ?_
  refine na_3 (q := 56) (one_d (so_goto (M := np_M36) (pc := 53) dX4_targetsByCells_53 (by decide)) (up_goto _)) rfl ?_
  refine na_1 (q := 57) (one_d (so_iload_n (M := np_M36) (pc := 56) dX4_targetsByCells_56 rfl) (up_iload _ _)) rfl ?_
  refine na_1 (q := 58) (one_d (so_reti (M := np_M36) (pc := 57) dX4_targetsByCells_57 rfl) (up_reti _)) rfl ?_
  exact na_z
theorem hl_37 : np_hls.getD 37 [] = [] := rfl
set_option maxRecDepth 100000 in
set_option maxHeartbeats 4000000 in
theorem ok_37 : nv_all np_M37 37 0 np_c37 := by
  unfold np_c37
  refine na_1 (q := 1) (one_d (so_aload_n (M := np_M37) (pc := 0) dX4_isHeldAgainst_0 rfl) (up_aload _ _)) rfl ?_
  refine na_1 (q := 2) (one_d (so_iload_n (M := np_M37) (pc := 1) dX4_isHeldAgainst_1 rfl) (up_iload _ _)) rfl ?_
  refine na_1 (q := 3) (one_d (so_iload_n (M := np_M37) (pc := 2) dX4_isHeldAgainst_2 rfl) (up_iload _ _)) rfl ?_
  refine na_3 (q := 6) (one_c rfl mq_32 hl_37 rfl (sc_V (M := np_M37) (pc := 3) dX4_isHeldAgainst_3 cw_X4_isHeldAgainst_X4_spoonIn rfl wd_418 wd_419 wd_420 (nv_rcO (ci := 2) rfl))) rfl ?_
  refine na_2 (q := 8) (one_d (so_astore (M := np_M37) (pc := 6) dX4_isHeldAgainst_6 (by decide)) (up_astore _ _)) rfl ?_
  refine na_2 (q := 10) (one_d (so_aload (M := np_M37) (pc := 8) dX4_isHeldAgainst_8) (up_aload _ _)) rfl ?_
  refine na_3 (q := 13) (one_d (so_ifnull (M := np_M37) (pc := 10) dX4_isHeldAgainst_10 (by decide)) (up_ifnull _ _)) rfl ?_
  refine na_2 (q := 15) (one_d (so_aload (M := np_M37) (pc := 13) dX4_isHeldAgainst_13) (up_aload _ _)) rfl ?_
  refine na_3 (q := 18) (one_d (so_getN (M := np_M37) (pc := 15) kd_4 (k := 1) (by decide) dX4_isHeldAgainst_15 wd_113) (up_get _ _ _)) rfl ?_
  refine na_1 (q := 19) (one_d (so_aload_n (M := np_M37) (pc := 18) dX4_isHeldAgainst_18 rfl) (up_aload _ _)) rfl ?_
  refine na_3 (q := 22) (one_d (so_getN (M := np_M37) (pc := 19) kd_4 (k := 1) (by decide) dX4_isHeldAgainst_19 wd_113) (up_get _ _ _)) rfl ?_
  refine na_3 (q := 25) (one_d (so_ceq (M := np_M37) (pc := 22) dX4_isHeldAgainst_22 (by decide)) (up_ceq _ _)) rfl ?_
  refine na_1 (q := 26) (one_d (so_iconst (M := np_M37) (pc := 25) dX4_isHeldAgainst_25 (by decide)) (up_cst _ _)) rfl ?_
  refine na_3 (q := 29) (one_d (so_goto (M := np_M37) (pc := 26) dX4_isHeldAgainst_26 (by decide)) (up_goto _)) rfl ?_
  refine na_1 (q := 30) (one_d (so_iconst (M := np_M37) (pc := 29) dX4_isHeldAgainst_29 (by decide)) (up_cst _ _)) rfl ?_
  refine na_1 (q := 31) (one_d (so_reti (M := np_M37) (pc := 30) dX4_isHeldAgainst_30 rfl) (up_reti _)) rfl ?_
  exact na_z
theorem hl_38 : np_hls.getD 38 [] = [] := rfl
set_option maxRecDepth 100000 in
set_option maxHeartbeats 4000000 in
theorem ok_38 : nv_all np_M38 38 0 np_c38 := by
  unfold np_c38
  refine na_1 (q := 1) (one_d (so_aload_n (M := np_M38) (pc := 0) dX4_freeAhead_0 rfl) (up_aload _ _)) rfl ?_
  refine na_3 (q := 4) (one_d (so_getN (M := np_M38) (pc := 1) kd_4 (k := 4) (by decide) dX4_freeAhead_1 wd_122) (up_get _ _ _)) rfl ?_
  refine na_3 (q := 7) (one_c rfl mq_136 hl_38 rfl (sc_SN (M := np_M38) (pc := 4) dX4_freeAhead_4 cw_X4_freeAhead_X7_stepX wd_719 wd_720)) rfl ?_
  refine na_1 (q := 8) (one_d (so_istore_n (M := np_M38) (pc := 7) dX4_freeAhead_7 rfl (by decide)) (up_istore _ _)) rfl ?_
  refine na_1 (q := 9) (one_d (so_aload_n (M := np_M38) (pc := 8) dX4_freeAhead_8 rfl) (up_aload _ _)) rfl ?_
  refine na_3 (q := 12) (one_d (so_getN (M := np_M38) (pc := 9) kd_4 (k := 4) (by decide) dX4_freeAhead_9 wd_122) (up_get _ _ _)) rfl ?_
  refine na_3 (q := 15) (one_c rfl mq_137 hl_38 rfl (sc_SN (M := np_M38) (pc := 12) dX4_freeAhead_12 cw_X4_freeAhead_X7_stepY wd_722 wd_723)) rfl ?_
  refine na_1 (q := 16) (one_d (so_istore_n (M := np_M38) (pc := 15) dX4_freeAhead_15 rfl (by decide)) (up_istore _ _)) rfl ?_
  refine na_1 (q := 17) (one_d (so_iconst (M := np_M38) (pc := 16) dX4_freeAhead_16 (by decide)) (up_cst _ _)) rfl ?_
  refine na_2 (q := 19) (one_d (so_istore (M := np_M38) (pc := 17) dX4_freeAhead_17 (by decide)) (up_istore _ _)) rfl ?_
  refine na_2 (q := 21) (one_d (so_iload (M := np_M38) (pc := 19) dX4_freeAhead_19) (up_iload _ _)) rfl ?_
  refine na_2 (q := 23) (one_d (so_bipush (M := np_M38) (pc := 21) dX4_freeAhead_21 (by decide)) (up_cst _ _)) rfl ?_
  refine na_3 (q := 26) (one_d (so_cge (M := np_M38) (pc := 23) dX4_freeAhead_23 (by decide)) (up_cge _ _)) rfl ?_
  refine na_1 (q := 27) (one_d (so_aload_n (M := np_M38) (pc := 26) dX4_freeAhead_26 rfl) (up_aload _ _)) rfl ?_
  refine na_1 (q := 28) (one_d (so_aload_n (M := np_M38) (pc := 27) dX4_freeAhead_27 rfl) (up_aload _ _)) rfl ?_
  refine na_3 (q := 31) (one_d (so_getN (M := np_M38) (pc := 28) kd_4 (k := 2) (by decide) dX4_freeAhead_28 wd_116) (up_get _ _ _)) rfl ?_
  refine na_2 (q := 33) (one_d (so_iload (M := np_M38) (pc := 31) dX4_freeAhead_31) (up_iload _ _)) rfl ?_
  refine na_1 (q := 34) (one_d (so_iconst (M := np_M38) (pc := 33) dX4_freeAhead_33 (by decide)) (up_cst _ _)) rfl ?_
  refine na_1 (q := 35) (one_d (so_iadd (M := np_M38) (pc := 34) dX4_freeAhead_34) (up_i2 _ _)) rfl ?_
  refine na_1 (q := 36) (one_d (so_iload_n (M := np_M38) (pc := 35) dX4_freeAhead_35 rfl) (up_iload _ _)) rfl ?_
  refine na_1 (q := 37) (one_d (so_imul (M := np_M38) (pc := 36) dX4_freeAhead_36) (up_i2 _ _)) rfl ?_
  refine na_1 (q := 38) (one_d (so_iadd (M := np_M38) (pc := 37) dX4_freeAhead_37) (up_i2 _ _)) rfl ?_
  refine na_1 (q := 39) (one_d (so_aload_n (M := np_M38) (pc := 38) dX4_freeAhead_38 rfl) (up_aload _ _)) rfl ?_
  refine na_3 (q := 42) (one_d (so_getN (M := np_M38) (pc := 39) kd_4 (k := 3) (by decide) dX4_freeAhead_39 wd_119) (up_get _ _ _)) rfl ?_
  refine na_2 (q := 44) (one_d (so_iload (M := np_M38) (pc := 42) dX4_freeAhead_42) (up_iload _ _)) rfl ?_
  refine na_1 (q := 45) (one_d (so_iconst (M := np_M38) (pc := 44) dX4_freeAhead_44 (by decide)) (up_cst _ _)) rfl ?_
  refine na_1 (q := 46) (one_d (so_iadd (M := np_M38) (pc := 45) dX4_freeAhead_45) (up_i2 _ _)) rfl ?_
  refine na_1 (q := 47) (one_d (so_iload_n (M := np_M38) (pc := 46) dX4_freeAhead_46 rfl) (up_iload _ _)) rfl ?_
  refine na_1 (q := 48) (one_d (so_imul (M := np_M38) (pc := 47) dX4_freeAhead_47) (up_i2 _ _)) rfl ?_
  refine na_1 (q := 49) (one_d (so_iadd (M := np_M38) (pc := 48) dX4_freeAhead_48) (up_i2 _ _)) rfl ?_
  refine na_3 (q := 52) (one_c rfl mq_39 hl_38 rfl (sc_V (M := np_M38) (pc := 49) dX4_freeAhead_49 cw_X4_freeAhead_X4_isFree rfl wd_725 wd_727 wd_12 (nv_rcO (ci := 2) rfl))) rfl ?_
  refine na_3 (q := 55) (one_d (so_ifeq (M := np_M38) (pc := 52) dX4_freeAhead_52 (by decide)) (up_ifeq _ _)) rfl ?_
  refine na_3 (q := 58) (one_d (so_iinc (M := np_M38) (pc := 55) dX4_freeAhead_55 (by decide) (by decide)) (up_iinc _ _ _)) rfl ?_
  refine na_3 (q := 61) (one_d (so_goto (M := np_M38) (pc := 58) dX4_freeAhead_58 (by decide)) (up_goto _)) rfl ?_
  refine na_2 (q := 63) (one_d (so_iload (M := np_M38) (pc := 61) dX4_freeAhead_61) (up_iload _ _)) rfl ?_
  refine na_1 (q := 64) (one_d (so_reti (M := np_M38) (pc := 63) dX4_freeAhead_63 rfl) (up_reti _)) rfl ?_
  exact na_z
theorem hl_39 : np_hls.getD 39 [] = [] := rfl
set_option maxRecDepth 100000 in
set_option maxHeartbeats 4000000 in
theorem ok_39 : nv_all np_M39 39 0 np_c39 := by
  unfold np_c39
  refine na_1 (q := 1) (one_d (so_iload_n (M := np_M39) (pc := 0) dX4_isFree_0 rfl) (up_iload _ _)) rfl ?_
  refine na_1 (q := 2) (one_d (so_iload_n (M := np_M39) (pc := 1) dX4_isFree_1 rfl) (up_iload _ _)) rfl ?_
  refine na_3 (q := 5) (one_c rfl mq_133 hl_39 rfl (sc_SN (M := np_M39) (pc := 2) dX4_isFree_2 cw_X4_isFree_X7_isOnTray wd_405 wd_406)) rfl ?_
  refine na_3 (q := 8) (one_d (so_ifeq (M := np_M39) (pc := 5) dX4_isFree_5 (by decide)) (up_ifeq _ _)) rfl ?_
  refine na_1 (q := 9) (one_d (so_aload_n (M := np_M39) (pc := 8) dX4_isFree_8 rfl) (up_aload _ _)) rfl ?_
  refine na_1 (q := 10) (one_d (so_iload_n (M := np_M39) (pc := 9) dX4_isFree_9 rfl) (up_iload _ _)) rfl ?_
  refine na_1 (q := 11) (one_d (so_iload_n (M := np_M39) (pc := 10) dX4_isFree_10 rfl) (up_iload _ _)) rfl ?_
  refine na_3 (q := 14) (one_c rfl mq_32 hl_39 rfl (sc_V (M := np_M39) (pc := 11) dX4_isFree_11 cw_X4_isFree_X4_spoonIn rfl wd_418 wd_419 wd_420 (nv_rcO (ci := 2) rfl))) rfl ?_
  refine na_3 (q := 17) (one_d (so_ifnonnull (M := np_M39) (pc := 14) dX4_isFree_14 (by decide)) (up_ifnonnull _ _)) rfl ?_
  refine na_1 (q := 18) (one_d (so_iconst (M := np_M39) (pc := 17) dX4_isFree_17 (by decide)) (up_cst _ _)) rfl ?_
  refine na_3 (q := 21) (one_d (so_goto (M := np_M39) (pc := 18) dX4_isFree_18 (by decide)) (up_goto _)) rfl ?_
  refine na_1 (q := 22) (one_d (so_iconst (M := np_M39) (pc := 21) dX4_isFree_21 (by decide)) (up_cst _ _)) rfl ?_
  refine na_1 (q := 23) (one_d (so_reti (M := np_M39) (pc := 22) dX4_isFree_22 rfl) (up_reti _)) rfl ?_
  exact na_z
theorem hl_40 : np_hls.getD 40 [] = [] := rfl
set_option maxRecDepth 100000 in
set_option maxHeartbeats 4000000 in
theorem ok_40 : nv_all np_M40 40 0 np_c40 := by
  unfold np_c40
  refine na_1 (q := 1) (one_d (so_iconst (M := np_M40) (pc := 0) dX4_cubesBySpoons_0 (by decide)) (up_cst _ _)) rfl ?_
  refine na_1 (q := 2) (one_d (so_istore_n (M := np_M40) (pc := 1) dX4_cubesBySpoons_1 rfl (by decide)) (up_istore _ _)) rfl ?_
  refine na_1 (q := 3) (one_d (so_aload_n (M := np_M40) (pc := 2) dX4_cubesBySpoons_2 rfl) (up_aload _ _)) rfl ?_
  refine na_3 (q := 6) (one_d (so_get (M := np_M40) (pc := 3) kd_2 (k := 0) (by decide) dX4_cubesBySpoons_3 wd_153) (up_get _ _ _)) rfl ?_
  refine na_1 (q := 7) (one_d (so_astore_n (M := np_M40) (pc := 6) dX4_cubesBySpoons_6 rfl (by decide)) (up_astore _ _)) rfl ?_
  refine na_1 (q := 8) (one_d (so_aload_n (M := np_M40) (pc := 7) dX4_cubesBySpoons_7 rfl) (up_aload _ _)) rfl ?_
  refine na_1 (q := 9) (one_d (so_alen (M := np_M40) (pc := 8) dX4_cubesBySpoons_8 (Or.inr (Or.inr (Or.inl ⟨rfl, rfl⟩)))) (up_alen _ _)) rfl ?_
  refine na_2 (q := 11) (one_d (so_istore (M := np_M40) (pc := 9) dX4_cubesBySpoons_9 (by decide)) (up_istore _ _)) rfl ?_
  refine na_1 (q := 12) (one_d (so_iconst (M := np_M40) (pc := 11) dX4_cubesBySpoons_11 (by decide)) (up_cst _ _)) rfl ?_
  refine na_2 (q := 14) (one_d (so_istore (M := np_M40) (pc := 12) dX4_cubesBySpoons_12 (by decide)) (up_istore _ _)) rfl ?_
  refine na_2 (q := 16) (one_d (so_iload (M := np_M40) (pc := 14) dX4_cubesBySpoons_14) (up_iload _ _)) rfl ?_
  refine na_2 (q := 18) (one_d (so_iload (M := np_M40) (pc := 16) dX4_cubesBySpoons_16) (up_iload _ _)) rfl ?_
  refine na_3 (q := 21) (one_d (so_cge (M := np_M40) (pc := 18) dX4_cubesBySpoons_18 (by decide)) (up_cge _ _)) rfl ?_
  refine na_1 (q := 22) (one_d (so_aload_n (M := np_M40) (pc := 21) dX4_cubesBySpoons_21 rfl) (up_aload _ _)) rfl ?_
  refine na_2 (q := 24) (one_d (so_iload (M := np_M40) (pc := 22) dX4_cubesBySpoons_22) (up_iload _ _)) rfl ?_
  refine na_1 (q := 25) (one_d (so_aldq (M := np_M40) (pc := 24) dX4_cubesBySpoons_24 (Or.inl ⟨rfl, rfl⟩)) (up_aldq _ _)) rfl ?_
  refine na_2 (q := 27) (one_d (so_astore (M := np_M40) (pc := 25) dX4_cubesBySpoons_25 (by decide)) (up_astore _ _)) rfl ?_
  refine na_2 (q := 29) (one_d (so_aload (M := np_M40) (pc := 27) dX4_cubesBySpoons_27) (up_aload _ _)) rfl ?_
  refine na_1 (q := 30) (one_d (so_iload_n (M := np_M40) (pc := 29) dX4_cubesBySpoons_29 rfl) (up_iload _ _)) rfl ?_
  refine na_3 (q := 33) (one_c rfl mq_63 hl_40 rfl (sc_V (M := np_M40) (pc := 30) dX4_cubesBySpoons_30 cw_X4_cubesBySpoons_X6_isAfloatOf rfl wd_561 wd_562 wd_563 (nv_rcO (ci := 4) rfl))) rfl ?_
  refine na_3 (q := 36) (one_d (so_ifeq (M := np_M40) (pc := 33) dX4_cubesBySpoons_33 (by decide)) (up_ifeq _ _)) rfl ?_
  refine na_1 (q := 37) (one_d (so_iload_n (M := np_M40) (pc := 36) dX4_cubesBySpoons_36 rfl) (up_iload _ _)) rfl ?_
  refine na_2 (q := 39) (one_d (so_aload (M := np_M40) (pc := 37) dX4_cubesBySpoons_37) (up_aload _ _)) rfl ?_
  refine na_3 (q := 42) (one_d (so_getN (M := np_M40) (pc := 39) kd_4 (k := 6) (by decide) dX4_cubesBySpoons_39 wd_128) (up_get _ _ _)) rfl ?_
  refine na_1 (q := 43) (one_d (so_iadd (M := np_M40) (pc := 42) dX4_cubesBySpoons_42) (up_i2 _ _)) rfl ?_
  refine na_1 (q := 44) (one_d (so_istore_n (M := np_M40) (pc := 43) dX4_cubesBySpoons_43 rfl (by decide)) (up_istore _ _)) rfl ?_
  refine na_3 (q := 47) (one_d (so_iinc (M := np_M40) (pc := 44) dX4_cubesBySpoons_44 (by decide) (by decide)) (up_iinc _ _ _)) rfl ?_
  refine na_3 (q := 50) (one_d (so_goto (M := np_M40) (pc := 47) dX4_cubesBySpoons_47 (by decide)) (up_goto _)) rfl ?_
  refine na_1 (q := 51) (one_d (so_iload_n (M := np_M40) (pc := 50) dX4_cubesBySpoons_50 rfl) (up_iload _ _)) rfl ?_
  refine na_1 (q := 52) (one_d (so_reti (M := np_M40) (pc := 51) dX4_cubesBySpoons_51 rfl) (up_reti _)) rfl ?_
  exact na_z
theorem hl_41 : np_hls.getD 41 [] = [] := rfl
set_option maxRecDepth 100000 in
set_option maxHeartbeats 4000000 in
theorem ok_41 : nv_all np_M41 41 0 np_c41 := by
  unfold np_c41
  refine na_1 (q := 1) (one_d (so_aload_n (M := np_M41) (pc := 0) dX4_areTargetsEqual_0 rfl) (up_aload _ _)) rfl ?_
  refine na_3 (q := 4) (one_d (so_get (M := np_M41) (pc := 1) kd_2 (k := 0) (by decide) dX4_areTargetsEqual_1 wd_153) (up_get _ _ _)) rfl ?_
  refine na_1 (q := 5) (one_d (so_astore_n (M := np_M41) (pc := 4) dX4_areTargetsEqual_4 rfl (by decide)) (up_astore _ _)) rfl ?_
  refine na_1 (q := 6) (one_d (so_aload_n (M := np_M41) (pc := 5) dX4_areTargetsEqual_5 rfl) (up_aload _ _)) rfl ?_
  refine na_1 (q := 7) (one_d (so_alen (M := np_M41) (pc := 6) dX4_areTargetsEqual_6 (Or.inr (Or.inr (Or.inl ⟨rfl, rfl⟩)))) (up_alen _ _)) rfl ?_
  refine na_1 (q := 8) (one_d (so_istore_n (M := np_M41) (pc := 7) dX4_areTargetsEqual_7 rfl (by decide)) (up_istore _ _)) rfl ?_
  refine na_1 (q := 9) (one_d (so_iconst (M := np_M41) (pc := 8) dX4_areTargetsEqual_8 (by decide)) (up_cst _ _)) rfl ?_
  refine na_1 (q := 10) (one_d (so_istore_n (M := np_M41) (pc := 9) dX4_areTargetsEqual_9 rfl (by decide)) (up_istore _ _)) rfl ?_
  refine na_1 (q := 11) (one_d (so_iload_n (M := np_M41) (pc := 10) dX4_areTargetsEqual_10 rfl) (up_iload _ _)) rfl ?_
  refine na_1 (q := 12) (one_d (so_iload_n (M := np_M41) (pc := 11) dX4_areTargetsEqual_11 rfl) (up_iload _ _)) rfl ?_
  refine na_3 (q := 15) (one_d (so_cge (M := np_M41) (pc := 12) dX4_areTargetsEqual_12 (by decide)) (up_cge _ _)) rfl ?_
  refine na_1 (q := 16) (one_d (so_aload_n (M := np_M41) (pc := 15) dX4_areTargetsEqual_15 rfl) (up_aload _ _)) rfl ?_
  refine na_1 (q := 17) (one_d (so_iload_n (M := np_M41) (pc := 16) dX4_areTargetsEqual_16 rfl) (up_iload _ _)) rfl ?_
  refine na_1 (q := 18) (one_d (so_aldq (M := np_M41) (pc := 17) dX4_areTargetsEqual_17 (Or.inl ⟨rfl, rfl⟩)) (up_aldq _ _)) rfl ?_
  refine na_2 (q := 20) (one_d (so_astore (M := np_M41) (pc := 18) dX4_areTargetsEqual_18 (by decide)) (up_astore _ _)) rfl ?_
  refine na_1 (q := 21) (one_d (so_aload_n (M := np_M41) (pc := 20) dX4_areTargetsEqual_20 rfl) (up_aload _ _)) rfl ?_
  refine na_2 (q := 23) (one_d (so_aload (M := np_M41) (pc := 21) dX4_areTargetsEqual_21) (up_aload _ _)) rfl ?_
  refine na_3 (q := 26) (one_c rfl mq_35 hl_41 rfl (sc_V (M := np_M41) (pc := 23) dX4_areTargetsEqual_23 cw_X4_areTargetsEqual_X4_targetsBySpoons rfl wd_1072 wd_1073 wd_1074 (nv_rcO (ci := 2) rfl))) rfl ?_
  refine na_1 (q := 27) (one_d (so_aload_n (M := np_M41) (pc := 26) dX4_areTargetsEqual_26 rfl) (up_aload _ _)) rfl ?_
  refine na_2 (q := 29) (one_d (so_aload (M := np_M41) (pc := 27) dX4_areTargetsEqual_27) (up_aload _ _)) rfl ?_
  refine na_3 (q := 32) (one_c rfl mq_36 hl_41 rfl (sc_V (M := np_M41) (pc := 29) dX4_areTargetsEqual_29 cw_X4_areTargetsEqual_X4_targetsByCells rfl wd_1076 wd_1077 wd_1078 (nv_rcO (ci := 2) rfl))) rfl ?_
  refine na_3 (q := 35) (one_d (so_ceq (M := np_M41) (pc := 32) dX4_areTargetsEqual_32 (by decide)) (up_ceq _ _)) rfl ?_
  refine na_1 (q := 36) (one_d (so_iconst (M := np_M41) (pc := 35) dX4_areTargetsEqual_35 (by decide)) (up_cst _ _)) rfl ?_
  refine na_1 (q := 37) (one_d (so_reti (M := np_M41) (pc := 36) dX4_areTargetsEqual_36 rfl) (up_reti _)) rfl ?_
  refine na_3 (q := 40) (one_d (so_iinc (M := np_M41) (pc := 37) dX4_areTargetsEqual_37 (by decide) (by decide)) (up_iinc _ _ _)) rfl ?_
  refine na_3 (q := 43) (one_d (so_goto (M := np_M41) (pc := 40) dX4_areTargetsEqual_40 (by decide)) (up_goto _)) rfl ?_
  refine na_1 (q := 44) (one_d (so_iconst (M := np_M41) (pc := 43) dX4_areTargetsEqual_43 (by decide)) (up_cst _ _)) rfl ?_
  refine na_1 (q := 45) (one_d (so_reti (M := np_M41) (pc := 44) dX4_areTargetsEqual_44 rfl) (up_reti _)) rfl ?_
  exact na_z
theorem hl_42 : np_hls.getD 42 [] = [] := rfl
set_option maxRecDepth 100000 in
set_option maxHeartbeats 4000000 in
theorem ok_42 : nv_all np_M42 42 0 np_c42 := by
  unfold np_c42
  refine na_1 (q := 1) (one_d (so_aload_n (M := np_M42) (pc := 0) dX4_areCubesEqual_0 rfl) (up_aload _ _)) rfl ?_
  refine na_1 (q := 2) (one_d (so_iconst (M := np_M42) (pc := 1) dX4_areCubesEqual_1 (by decide)) (up_cst _ _)) rfl ?_
  refine na_3 (q := 5) (one_c rfl mq_40 hl_42 rfl (sc_V (M := np_M42) (pc := 2) dX4_areCubesEqual_2 cw_X4_areCubesEqual_X4_cubesBySpoons rfl wd_1088 wd_1019 wd_1020 (nv_rcO (ci := 2) rfl))) rfl ?_
  refine na_1 (q := 6) (one_d (so_aload_n (M := np_M42) (pc := 5) dX4_areCubesEqual_5 rfl) (up_aload _ _)) rfl ?_
  refine na_3 (q := 9) (one_d (so_get (M := np_M42) (pc := 6) kd_2 (k := 1) (by decide) dX4_areCubesEqual_6 wd_154) (up_get _ _ _)) rfl ?_
  refine na_3 (q := 12) (one_c rfl mq_10 hl_42 rfl (sc_V (M := np_M42) (pc := 9) dX4_areCubesEqual_9 cw_X4_areCubesEqual_X1_balance rfl wd_1089 wd_1027 wd_1028 (nv_rcO (ci := 0) rfl))) rfl ?_
  refine na_3 (q := 15) (one_d (so_cne (M := np_M42) (pc := 12) dX4_areCubesEqual_12 (by decide)) (up_cne _ _)) rfl ?_
  refine na_1 (q := 16) (one_d (so_aload_n (M := np_M42) (pc := 15) dX4_areCubesEqual_15 rfl) (up_aload _ _)) rfl ?_
  refine na_1 (q := 17) (one_d (so_iconst (M := np_M42) (pc := 16) dX4_areCubesEqual_16 (by decide)) (up_cst _ _)) rfl ?_
  refine na_3 (q := 20) (one_c rfl mq_40 hl_42 rfl (sc_V (M := np_M42) (pc := 17) dX4_areCubesEqual_17 cw_X4_areCubesEqual_X4_cubesBySpoons rfl wd_1088 wd_1019 wd_1020 (nv_rcO (ci := 2) rfl))) rfl ?_
  refine na_1 (q := 21) (one_d (so_aload_n (M := np_M42) (pc := 20) dX4_areCubesEqual_20 rfl) (up_aload _ _)) rfl ?_
  refine na_3 (q := 24) (one_d (so_get (M := np_M42) (pc := 21) kd_2 (k := 2) (by decide) dX4_areCubesEqual_21 wd_155) (up_get _ _ _)) rfl ?_
  refine na_3 (q := 27) (one_c rfl mq_10 hl_42 rfl (sc_V (M := np_M42) (pc := 24) dX4_areCubesEqual_24 cw_X4_areCubesEqual_X1_balance rfl wd_1089 wd_1027 wd_1028 (nv_rcO (ci := 0) rfl))) rfl ?_
  refine na_3 (q := 30) (one_d (so_cne (M := np_M42) (pc := 27) dX4_areCubesEqual_27 (by decide)) (up_cne _ _)) rfl ?_
  refine na_1 (q := 31) (one_d (so_iconst (M := np_M42) (pc := 30) dX4_areCubesEqual_30 (by decide)) (up_cst _ _)) rfl ?_
  refine na_3 (q := 34) (one_d (so_goto (M := np_M42) (pc := 31) dX4_areCubesEqual_31 (by decide)) (up_goto _)) rfl ?_
  refine na_1 (q := 35) (one_d (so_iconst (M := np_M42) (pc := 34) dX4_areCubesEqual_34 (by decide)) (up_cst _ _)) rfl ?_
  refine na_1 (q := 36) (one_d (so_reti (M := np_M42) (pc := 35) dX4_areCubesEqual_35 rfl) (up_reti _)) rfl ?_
  exact na_z
theorem hl_43 : np_hls.getD 43 [] = [] := rfl
set_option maxRecDepth 100000 in
set_option maxHeartbeats 4000000 in
theorem ok_43 : nv_all np_M43 43 0 np_c43 := by
  unfold np_c43
  refine na_1 (q := 1) (one_d (so_aload_n (M := np_M43) (pc := 0) dX4_areCellsSingle_0 rfl) (up_aload _ _)) rfl ?_
  refine na_3 (q := 4) (one_d (so_get (M := np_M43) (pc := 1) kd_2 (k := 0) (by decide) dX4_areCellsSingle_1 wd_153) (up_get _ _ _)) rfl ?_
  refine na_1 (q := 5) (one_d (so_astore_n (M := np_M43) (pc := 4) dX4_areCellsSingle_4 rfl (by decide)) (up_astore _ _)) rfl ?_
  refine na_1 (q := 6) (one_d (so_aload_n (M := np_M43) (pc := 5) dX4_areCellsSingle_5 rfl) (up_aload _ _)) rfl ?_
  refine na_1 (q := 7) (one_d (so_alen (M := np_M43) (pc := 6) dX4_areCellsSingle_6 (Or.inr (Or.inr (Or.inl ⟨rfl, rfl⟩)))) (up_alen _ _)) rfl ?_
  refine na_1 (q := 8) (one_d (so_istore_n (M := np_M43) (pc := 7) dX4_areCellsSingle_7 rfl (by decide)) (up_istore _ _)) rfl ?_
  refine na_1 (q := 9) (one_d (so_iconst (M := np_M43) (pc := 8) dX4_areCellsSingle_8 (by decide)) (up_cst _ _)) rfl ?_
  refine na_1 (q := 10) (one_d (so_istore_n (M := np_M43) (pc := 9) dX4_areCellsSingle_9 rfl (by decide)) (up_istore _ _)) rfl ?_
  refine na_1 (q := 11) (one_d (so_iload_n (M := np_M43) (pc := 10) dX4_areCellsSingle_10 rfl) (up_iload _ _)) rfl ?_
  refine na_1 (q := 12) (one_d (so_iload_n (M := np_M43) (pc := 11) dX4_areCellsSingle_11 rfl) (up_iload _ _)) rfl ?_
  refine na_3 (q := 15) (one_d (so_cge (M := np_M43) (pc := 12) dX4_areCellsSingle_12 (by decide)) (up_cge _ _)) rfl ?_
  refine na_1 (q := 16) (one_d (so_aload_n (M := np_M43) (pc := 15) dX4_areCellsSingle_15 rfl) (up_aload _ _)) rfl ?_
  refine na_1 (q := 17) (one_d (so_iload_n (M := np_M43) (pc := 16) dX4_areCellsSingle_16 rfl) (up_iload _ _)) rfl ?_
  refine na_1 (q := 18) (one_d (so_aldq (M := np_M43) (pc := 17) dX4_areCellsSingle_17 (Or.inl ⟨rfl, rfl⟩)) (up_aldq _ _)) rfl ?_
  refine na_2 (q := 20) (one_d (so_astore (M := np_M43) (pc := 18) dX4_areCellsSingle_18 (by decide)) (up_astore _ _)) rfl ?_
  refine na_1 (q := 21) (one_d (so_aload_n (M := np_M43) (pc := 20) dX4_areCellsSingle_20 rfl) (up_aload _ _)) rfl ?_
  refine na_2 (q := 23) (one_d (so_aload (M := np_M43) (pc := 21) dX4_areCellsSingle_21) (up_aload _ _)) rfl ?_
  refine na_3 (q := 26) (one_d (so_getN (M := np_M43) (pc := 23) kd_4 (k := 2) (by decide) dX4_areCellsSingle_23 wd_116) (up_get _ _ _)) rfl ?_
  refine na_2 (q := 28) (one_d (so_aload (M := np_M43) (pc := 26) dX4_areCellsSingle_26) (up_aload _ _)) rfl ?_
  refine na_3 (q := 31) (one_d (so_getN (M := np_M43) (pc := 28) kd_4 (k := 3) (by decide) dX4_areCellsSingle_28 wd_119) (up_get _ _ _)) rfl ?_
  refine na_3 (q := 34) (one_c rfl mq_32 hl_43 rfl (sc_V (M := np_M43) (pc := 31) dX4_areCellsSingle_31 cw_X4_areCellsSingle_X4_spoonIn rfl wd_418 wd_419 wd_420 (nv_rcO (ci := 2) rfl))) rfl ?_
  refine na_2 (q := 36) (one_d (so_astore (M := np_M43) (pc := 34) dX4_areCellsSingle_34 (by decide)) (up_astore _ _)) rfl ?_
  refine na_2 (q := 38) (one_d (so_aload (M := np_M43) (pc := 36) dX4_areCellsSingle_36) (up_aload _ _)) rfl ?_
  refine na_3 (q := 41) (one_c rfl mq_62 hl_43 rfl (sc_V (M := np_M43) (pc := 38) dX4_areCellsSingle_38 cw_X4_areCellsSingle_X6_isAfloat rfl wd_422 wd_423 wd_424 (nv_rcO (ci := 4) rfl))) rfl ?_
  refine na_3 (q := 44) (one_d (so_ifeq (M := np_M43) (pc := 41) dX4_areCellsSingle_41 (by decide)) (up_ifeq _ _)) rfl ?_
  refine na_2 (q := 46) (one_d (so_aload (M := np_M43) (pc := 44) dX4_areCellsSingle_44) (up_aload _ _)) rfl ?_
  refine na_3 (q := 49) (one_d (so_ifnull (M := np_M43) (pc := 46) dX4_areCellsSingle_46 (by decide)) (up_ifnull _ _)) rfl ?_
  refine na_2 (q := 51) (one_d (so_aload (M := np_M43) (pc := 49) dX4_areCellsSingle_49) (up_aload _ _)) rfl ?_
  refine na_3 (q := 54) (one_d (so_getN (M := np_M43) (pc := 51) kd_4 (k := 0) (by decide) dX4_areCellsSingle_51 wd_110) (up_get _ _ _)) rfl ?_
  refine na_2 (q := 56) (one_d (so_aload (M := np_M43) (pc := 54) dX4_areCellsSingle_54) (up_aload _ _)) rfl ?_
  refine na_3 (q := 59) (one_d (so_getN (M := np_M43) (pc := 56) kd_4 (k := 0) (by decide) dX4_areCellsSingle_56 wd_110) (up_get _ _ _)) rfl ?_
  refine na_3 (q := 62) (one_d (so_ceq (M := np_M43) (pc := 59) dX4_areCellsSingle_59 (by decide)) (up_ceq _ _)) rfl ?_
  refine na_1 (q := 63) (one_d (so_iconst (M := np_M43) (pc := 62) dX4_areCellsSingle_62 (by decide)) (up_cst _ _)) rfl ?_
  refine na_1 (q := 64) (one_d (so_reti (M := np_M43) (pc := 63) dX4_areCellsSingle_63 rfl) (up_reti _)) rfl ?_
  refine na_3 (q := 67) (one_d (so_iinc (M := np_M43) (pc := 64) dX4_areCellsSingle_64 (by decide) (by decide)) (up_iinc _ _ _)) rfl ?_
  refine na_3 (q := 70) (one_d (so_goto (M := np_M43) (pc := 67) dX4_areCellsSingle_67 (by decide)) (up_goto _)) rfl ?_
  refine na_1 (q := 71) (one_d (so_iconst (M := np_M43) (pc := 70) dX4_areCellsSingle_70 (by decide)) (up_cst _ _)) rfl ?_
  refine na_1 (q := 72) (one_d (so_reti (M := np_M43) (pc := 71) dX4_areCellsSingle_71 rfl) (up_reti _)) rfl ?_
  exact na_z
theorem hl_44 : np_hls.getD 44 [] = [] := rfl
set_option maxRecDepth 100000 in
set_option maxHeartbeats 4000000 in
theorem ok_44 : nv_all np_M44 44 0 np_c44 := by
  unfold np_c44
  refine na_1 (q := 1) (one_d (so_iload_n (M := np_M44) (pc := 0) dX4_place_0 rfl) (up_iload _ _)) rfl ?_
  refine na_3 (q := 4) (one_c rfl mq_132 hl_44 rfl (sc_SN (M := np_M44) (pc := 1) dX4_place_1 cw_X4_place_X7_isFleet wd_402 wd_403)) rfl ?_
  refine na_3 (q := 7) (one_d (so_ifne (M := np_M44) (pc := 4) dX4_place_4 (by decide)) (up_ifne _ _)) rfl ?_
  refine na_1 (q := 8) (one_d (so_iconst (M := np_M44) (pc := 7) dX4_place_7 (by decide)) (up_cst _ _)) rfl ?_
  refine na_1 (q := 9) (one_d (so_reti (M := np_M44) (pc := 8) dX4_place_8 rfl) (up_reti _)) rfl ?_
  refine na_1 (q := 10) (one_d (so_iload_n (M := np_M44) (pc := 9) dX4_place_9 rfl) (up_iload _ _)) rfl ?_
  refine na_1 (q := 11) (one_d (so_iload_n (M := np_M44) (pc := 10) dX4_place_10 rfl) (up_iload _ _)) rfl ?_
  refine na_3 (q := 14) (one_c rfl mq_133 hl_44 rfl (sc_SN (M := np_M44) (pc := 11) dX4_place_11 cw_X4_place_X7_isOnTray wd_405 wd_406)) rfl ?_
  refine na_3 (q := 17) (one_d (so_ifeq (M := np_M44) (pc := 14) dX4_place_14 (by decide)) (up_ifeq _ _)) rfl ?_
  refine na_2 (q := 19) (one_d (so_iload (M := np_M44) (pc := 17) dX4_place_17) (up_iload _ _)) rfl ?_
  refine na_3 (q := 22) (one_c rfl mq_134 hl_44 rfl (sc_SN (M := np_M44) (pc := 19) dX4_place_19 cw_X4_place_X7_isBearing wd_408 wd_409)) rfl ?_
  refine na_3 (q := 25) (one_d (so_ifeq (M := np_M44) (pc := 22) dX4_place_22 (by decide)) (up_ifeq _ _)) rfl ?_
  refine na_2 (q := 27) (one_d (so_iload (M := np_M44) (pc := 25) dX4_place_25) (up_iload _ _)) rfl ?_
  refine na_3 (q := 30) (one_c rfl mq_135 hl_44 rfl (sc_SN (M := np_M44) (pc := 27) dX4_place_27 cw_X4_place_X7_isCubeNumber wd_411 wd_412)) rfl ?_
  refine na_3 (q := 33) (one_d (so_ifne (M := np_M44) (pc := 30) dX4_place_30 (by decide)) (up_ifne _ _)) rfl ?_
  refine na_2 (q := 35) (one_d (so_bipush (M := np_M44) (pc := 33) dX4_place_33 (by decide)) (up_cst _ _)) rfl ?_
  refine na_1 (q := 36) (one_d (so_reti (M := np_M44) (pc := 35) dX4_place_35 rfl) (up_reti _)) rfl ?_
  refine na_1 (q := 37) (one_d (so_aload_n (M := np_M44) (pc := 36) dX4_place_36 rfl) (up_aload _ _)) rfl ?_
  refine na_1 (q := 38) (one_d (so_iload_n (M := np_M44) (pc := 37) dX4_place_37 rfl) (up_iload _ _)) rfl ?_
  refine na_3 (q := 41) (one_c rfl mq_29 hl_44 rfl (sc_V (M := np_M44) (pc := 38) dX4_place_38 cw_X4_place_X4_accountOf rfl wd_414 wd_415 wd_416 (nv_rcO (ci := 2) rfl))) rfl ?_
  refine na_2 (q := 43) (one_d (so_astore (M := np_M44) (pc := 41) dX4_place_41 (by decide)) (up_astore _ _)) rfl ?_
  refine na_1 (q := 44) (one_d (so_aload_n (M := np_M44) (pc := 43) dX4_place_43 rfl) (up_aload _ _)) rfl ?_
  refine na_3 (q := 47) (one_d (so_get (M := np_M44) (pc := 44) kd_2 (k := 4) (by decide) dX4_place_44 wd_158) (up_get _ _ _)) rfl ?_
  refine na_3 (q := 50) (one_d (so_ifne (M := np_M44) (pc := 47) dX4_place_47 (by decide)) (up_ifne _ _)) rfl ?_
  refine na_2 (q := 52) (one_d (so_aload (M := np_M44) (pc := 50) dX4_place_50) (up_aload _ _)) rfl ?_
  refine na_3 (q := 55) (one_d (so_getN (M := np_M44) (pc := 52) kd_0 (k := 0) (by decide) dX4_place_52 wd_70) (up_get _ _ _)) rfl ?_
  refine na_2 (q := 57) (one_d (so_bipush (M := np_M44) (pc := 55) dX4_place_55 (by decide)) (up_cst _ _)) rfl ?_
  refine na_3 (q := 60) (one_d (so_cge (M := np_M44) (pc := 57) dX4_place_57 (by decide)) (up_cge _ _)) rfl ?_
  refine na_1 (q := 61) (one_d (so_aload_n (M := np_M44) (pc := 60) dX4_place_60 rfl) (up_aload _ _)) rfl ?_
  refine na_3 (q := 64) (one_d (so_get (M := np_M44) (pc := 61) kd_2 (k := 3) (by decide) dX4_place_61 wd_156) (up_get _ _ _)) rfl ?_
  refine na_1 (q := 65) (one_d (so_aload_n (M := np_M44) (pc := 64) dX4_place_64 rfl) (up_aload _ _)) rfl ?_
  refine na_3 (q := 68) (one_d (so_get (M := np_M44) (pc := 65) kd_2 (k := 0) (by decide) dX4_place_65 wd_153) (up_get _ _ _)) rfl ?_
  refine na_1 (q := 69) (one_d (so_alen (M := np_M44) (pc := 68) dX4_place_68 (Or.inr (Or.inr (Or.inl ⟨rfl, rfl⟩)))) (up_alen _ _)) rfl ?_
  refine na_3 (q := 72) (one_d (so_clt (M := np_M44) (pc := 69) dX4_place_69 (by decide)) (up_clt _ _)) rfl ?_
  refine na_2 (q := 74) (one_d (so_bipush (M := np_M44) (pc := 72) dX4_place_72 (by decide)) (up_cst _ _)) rfl ?_
  refine na_1 (q := 75) (one_d (so_reti (M := np_M44) (pc := 74) dX4_place_74 rfl) (up_reti _)) rfl ?_
  refine na_1 (q := 76) (one_d (so_aload_n (M := np_M44) (pc := 75) dX4_place_75 rfl) (up_aload _ _)) rfl ?_
  refine na_1 (q := 77) (one_d (so_iload_n (M := np_M44) (pc := 76) dX4_place_76 rfl) (up_iload _ _)) rfl ?_
  refine na_1 (q := 78) (one_d (so_iload_n (M := np_M44) (pc := 77) dX4_place_77 rfl) (up_iload _ _)) rfl ?_
  refine na_3 (q := 81) (one_c rfl mq_32 hl_44 rfl (sc_V (M := np_M44) (pc := 78) dX4_place_78 cw_X4_place_X4_spoonIn rfl wd_418 wd_419 wd_420 (nv_rcO (ci := 2) rfl))) rfl ?_
  refine na_3 (q := 84) (one_d (so_ifnull (M := np_M44) (pc := 81) dX4_place_81 (by decide)) (up_ifnull _ _)) rfl ?_
  refine na_2 (q := 86) (one_d (so_bipush (M := np_M44) (pc := 84) dX4_place_84 (by decide)) (up_cst _ _)) rfl ?_
  refine na_1 (q := 87) (one_d (so_reti (M := np_M44) (pc := 86) dX4_place_86 rfl) (up_reti _)) rfl ?_
  refine na_1 (q := 88) (one_d (so_aload_n (M := np_M44) (pc := 87) dX4_place_87 rfl) (up_aload _ _)) rfl ?_
  refine na_3 (q := 91) (one_d (so_get (M := np_M44) (pc := 88) kd_2 (k := 0) (by decide) dX4_place_88 wd_153) (up_get _ _ _)) rfl ?_
  refine na_1 (q := 92) (one_d (so_aload_n (M := np_M44) (pc := 91) dX4_place_91 rfl) (up_aload _ _)) rfl ?_
  refine na_3 (q := 95) (one_d (so_get (M := np_M44) (pc := 92) kd_2 (k := 3) (by decide) dX4_place_92 wd_156) (up_get _ _ _)) rfl ?_
  refine na_1 (q := 96) (one_d (so_aldq (M := np_M44) (pc := 95) dX4_place_95 (Or.inl ⟨rfl, rfl⟩)) (up_aldq _ _)) rfl ?_
  refine na_2 (q := 98) (one_d (so_astore (M := np_M44) (pc := 96) dX4_place_96 (by decide)) (up_astore _ _)) rfl ?_
  refine na_2 (q := 100) (one_d (so_aload (M := np_M44) (pc := 98) dX4_place_98) (up_aload _ _)) rfl ?_
  refine na_1 (q := 101) (one_d (so_iload_n (M := np_M44) (pc := 100) dX4_place_100 rfl) (up_iload _ _)) rfl ?_
  refine na_3 (q := 104) (one_d (so_put (M := np_M44) (pc := 101) kd_4 (k := 1) (by decide) dX4_place_101 (Or.inr ⟨_, wd_113⟩) (Or.inl rfl)) (up_put _ _ _ _)) rfl ?_
  refine na_2 (q := 106) (one_d (so_aload (M := np_M44) (pc := 104) dX4_place_104) (up_aload _ _)) rfl ?_
  refine na_1 (q := 107) (one_d (so_iload_n (M := np_M44) (pc := 106) dX4_place_106 rfl) (up_iload _ _)) rfl ?_
  refine na_3 (q := 110) (one_d (so_put (M := np_M44) (pc := 107) kd_4 (k := 2) (by decide) dX4_place_107 (Or.inr ⟨_, wd_116⟩) (Or.inl rfl)) (up_put _ _ _ _)) rfl ?_
  refine na_2 (q := 112) (one_d (so_aload (M := np_M44) (pc := 110) dX4_place_110) (up_aload _ _)) rfl ?_
  refine na_1 (q := 113) (one_d (so_iload_n (M := np_M44) (pc := 112) dX4_place_112 rfl) (up_iload _ _)) rfl ?_
  refine na_3 (q := 116) (one_d (so_put (M := np_M44) (pc := 113) kd_4 (k := 3) (by decide) dX4_place_113 (Or.inr ⟨_, wd_119⟩) (Or.inl rfl)) (up_put _ _ _ _)) rfl ?_
  refine na_2 (q := 118) (one_d (so_aload (M := np_M44) (pc := 116) dX4_place_116) (up_aload _ _)) rfl ?_
  refine na_2 (q := 120) (one_d (so_iload (M := np_M44) (pc := 118) dX4_place_118) (up_iload _ _)) rfl ?_
  refine na_3 (q := 123) (one_d (so_put (M := np_M44) (pc := 120) kd_4 (k := 4) (by decide) dX4_place_120 (Or.inr ⟨_, wd_122⟩) (Or.inl rfl)) (up_put _ _ _ _)) rfl ?_
  refine na_2 (q := 125) (one_d (so_aload (M := np_M44) (pc := 123) dX4_place_123) (up_aload _ _)) rfl ?_
  refine na_1 (q := 126) (one_d (so_iconst (M := np_M44) (pc := 125) dX4_place_125 (by decide)) (up_cst _ _)) rfl ?_
  refine na_3 (q := 129) (one_d (so_put (M := np_M44) (pc := 126) kd_4 (k := 5) (by decide) dX4_place_126 (Or.inr ⟨_, wd_125⟩) (Or.inl rfl)) (up_put _ _ _ _)) rfl ?_
  refine na_2 (q := 131) (one_d (so_aload (M := np_M44) (pc := 129) dX4_place_129) (up_aload _ _)) rfl ?_
  refine na_2 (q := 133) (one_d (so_iload (M := np_M44) (pc := 131) dX4_place_131) (up_iload _ _)) rfl ?_
  refine na_3 (q := 136) (one_d (so_put (M := np_M44) (pc := 133) kd_4 (k := 6) (by decide) dX4_place_133 (Or.inr ⟨_, wd_128⟩) (Or.inl rfl)) (up_put _ _ _ _)) rfl ?_
  refine na_2 (q := 138) (one_d (so_aload (M := np_M44) (pc := 136) dX4_place_136) (up_aload _ _)) rfl ?_
  refine na_3 (q := 141) (one_c rfl mq_68 hl_44 rfl (sc_V (M := np_M44) (pc := 138) dX4_place_138 cw_X4_place_X6_becomeKnown rfl wd_430 wd_431 wd_432 (nv_rcO (ci := 4) rfl))) rfl ?_
  refine na_2 (q := 143) (one_d (so_aload (M := np_M44) (pc := 141) dX4_place_141) (up_aload _ _)) rfl ?_
  refine na_1 (q := 144) (one_d (so_dup (M := np_M44) (pc := 143) dX4_place_143) (up_dup _)) rfl ?_
  refine na_3 (q := 147) (one_d (so_getN (M := np_M44) (pc := 144) kd_0 (k := 0) (by decide) dX4_place_144 wd_70) (up_get _ _ _)) rfl ?_
  refine na_1 (q := 148) (one_d (so_iconst (M := np_M44) (pc := 147) dX4_place_147 (by decide)) (up_cst _ _)) rfl ?_
  refine na_1 (q := 149) (one_d (so_iadd (M := np_M44) (pc := 148) dX4_place_148) (up_i2 _ _)) rfl ?_
  refine na_3 (q := 152) (one_d (so_put (M := np_M44) (pc := 149) kd_0 (k := 0) (by decide) dX4_place_149 (Or.inr ⟨_, wd_70⟩) (Or.inl rfl)) (up_put _ _ _ _)) rfl ?_
  refine na_2 (q := 154) (one_d (so_aload (M := np_M44) (pc := 152) dX4_place_152) (up_aload _ _)) rfl ?_
  refine na_1 (q := 155) (one_d (so_dup (M := np_M44) (pc := 154) dX4_place_154) (up_dup _)) rfl ?_
  refine na_3 (q := 158) (one_d (so_getN (M := np_M44) (pc := 155) kd_0 (k := 1) (by decide) dX4_place_155 wd_72) (up_get _ _ _)) rfl ?_
  refine na_1 (q := 159) (one_d (so_iconst (M := np_M44) (pc := 158) dX4_place_158 (by decide)) (up_cst _ _)) rfl ?_
  refine na_1 (q := 160) (one_d (so_iadd (M := np_M44) (pc := 159) dX4_place_159) (up_i2 _ _)) rfl ?_
  refine na_3 (q := 163) (one_d (so_put (M := np_M44) (pc := 160) kd_0 (k := 1) (by decide) dX4_place_160 (Or.inr ⟨_, wd_72⟩) (Or.inl rfl)) (up_put _ _ _ _)) rfl ?_
  refine na_2 (q := 165) (one_d (so_aload (M := np_M44) (pc := 163) dX4_place_163) (up_aload _ _)) rfl ?_
  refine na_1 (q := 166) (one_d (so_dup (M := np_M44) (pc := 165) dX4_place_165) (up_dup _)) rfl ?_
  refine na_3 (q := 169) (one_d (so_getN (M := np_M44) (pc := 166) kd_0 (k := 3) (by decide) dX4_place_166 wd_78) (up_get _ _ _)) rfl ?_
  refine na_2 (q := 171) (one_d (so_iload (M := np_M44) (pc := 169) dX4_place_169) (up_iload _ _)) rfl ?_
  refine na_1 (q := 172) (one_d (so_iadd (M := np_M44) (pc := 171) dX4_place_171) (up_i2 _ _)) rfl ?_
  refine na_3 (q := 175) (one_d (so_put (M := np_M44) (pc := 172) kd_0 (k := 3) (by decide) dX4_place_172 (Or.inr ⟨_, wd_78⟩) (Or.inl rfl)) (up_put _ _ _ _)) rfl ?_
  refine na_1 (q := 176) (one_d (so_aload_n (M := np_M44) (pc := 175) dX4_place_175 rfl) (up_aload _ _)) rfl ?_
  refine na_1 (q := 177) (one_d (so_dup (M := np_M44) (pc := 176) dX4_place_176) (up_dup _)) rfl ?_
  refine na_3 (q := 180) (one_d (so_get (M := np_M44) (pc := 177) kd_2 (k := 3) (by decide) dX4_place_177 wd_156) (up_get _ _ _)) rfl ?_
  refine na_1 (q := 181) (one_d (so_iconst (M := np_M44) (pc := 180) dX4_place_180 (by decide)) (up_cst _ _)) rfl ?_
  refine na_1 (q := 182) (one_d (so_iadd (M := np_M44) (pc := 181) dX4_place_181) (up_i2 _ _)) rfl ?_
  refine na_3 (q := 185) (one_d (so_put (M := np_M44) (pc := 182) kd_2 (k := 3) (by decide) dX4_place_182 (Or.inl wd_156) (Or.inl rfl)) (up_put _ _ _ _)) rfl ?_
  refine na_2 (q := 187) (one_d (so_aload (M := np_M44) (pc := 185) dX4_place_185) (up_aload _ _)) rfl ?_
  refine na_3 (q := 190) (one_d (so_getN (M := np_M44) (pc := 187) kd_4 (k := 0) (by decide) dX4_place_187 wd_110) (up_get _ _ _)) rfl ?_
  refine na_1 (q := 191) (one_d (so_reti (M := np_M44) (pc := 190) dX4_place_190 rfl) (up_reti _)) rfl ?_
  exact na_z
theorem hl_45 : np_hls.getD 45 [] = [] := rfl
set_option maxRecDepth 100000 in
set_option maxHeartbeats 4000000 in
theorem ok_45 : nv_all np_M45 45 0 np_c45 := by
  unfold np_c45
  refine na_1 (q := 1) (one_d (so_aload_n (M := np_M45) (pc := 0) dX4_begin_0 rfl) (up_aload _ _)) rfl ?_
  refine na_3 (q := 4) (one_d (so_get (M := np_M45) (pc := 1) kd_2 (k := 4) (by decide) dX4_begin_1 wd_158) (up_get _ _ _)) rfl ?_
  refine na_3 (q := 7) (one_d (so_ifne (M := np_M45) (pc := 4) dX4_begin_4 (by decide)) (up_ifne _ _)) rfl ?_
  refine na_1 (q := 8) (one_d (so_aload_n (M := np_M45) (pc := 7) dX4_begin_7 rfl) (up_aload _ _)) rfl ?_
  refine na_3 (q := 11) (one_d (so_get (M := np_M45) (pc := 8) kd_2 (k := 1) (by decide) dX4_begin_8 wd_154) (up_get _ _ _)) rfl ?_
  refine na_3 (q := 14) (one_d (so_getN (M := np_M45) (pc := 11) kd_0 (k := 0) (by decide) dX4_begin_11 wd_70) (up_get _ _ _)) rfl ?_
  refine na_3 (q := 17) (one_d (so_ifeq (M := np_M45) (pc := 14) dX4_begin_14 (by decide)) (up_ifeq _ _)) rfl ?_
  refine na_1 (q := 18) (one_d (so_aload_n (M := np_M45) (pc := 17) dX4_begin_17 rfl) (up_aload _ _)) rfl ?_
  refine na_3 (q := 21) (one_d (so_get (M := np_M45) (pc := 18) kd_2 (k := 2) (by decide) dX4_begin_18 wd_155) (up_get _ _ _)) rfl ?_
  refine na_3 (q := 24) (one_d (so_getN (M := np_M45) (pc := 21) kd_0 (k := 0) (by decide) dX4_begin_21 wd_70) (up_get _ _ _)) rfl ?_
  refine na_3 (q := 27) (one_d (so_ifne (M := np_M45) (pc := 24) dX4_begin_24 (by decide)) (up_ifne _ _)) rfl ?_
  refine na_2 (q := 29) (one_d (so_bipush (M := np_M45) (pc := 27) dX4_begin_27 (by decide)) (up_cst _ _)) rfl ?_
  refine na_1 (q := 30) (one_d (so_reti (M := np_M45) (pc := 29) dX4_begin_29 rfl) (up_reti _)) rfl ?_
  refine na_1 (q := 31) (one_d (so_aload_n (M := np_M45) (pc := 30) dX4_begin_30 rfl) (up_aload _ _)) rfl ?_
  refine na_1 (q := 32) (one_d (so_iconst (M := np_M45) (pc := 31) dX4_begin_31 (by decide)) (up_cst _ _)) rfl ?_
  refine na_3 (q := 35) (one_d (so_put (M := np_M45) (pc := 32) kd_2 (k := 4) (by decide) dX4_begin_32 (Or.inl wd_158) (Or.inl rfl)) (up_put _ _ _ _)) rfl ?_
  refine na_1 (q := 36) (one_d (so_aload_n (M := np_M45) (pc := 35) dX4_begin_35 rfl) (up_aload _ _)) rfl ?_
  refine na_1 (q := 37) (one_d (so_iconst (M := np_M45) (pc := 36) dX4_begin_36 (by decide)) (up_cst _ _)) rfl ?_
  refine na_3 (q := 40) (one_d (so_put (M := np_M45) (pc := 37) kd_2 (k := 5) (by decide) dX4_begin_37 (Or.inl wd_160) (Or.inl rfl)) (up_put _ _ _ _)) rfl ?_
  refine na_1 (q := 41) (one_d (so_aload_n (M := np_M45) (pc := 40) dX4_begin_40 rfl) (up_aload _ _)) rfl ?_
  refine na_1 (q := 42) (one_d (so_iconst (M := np_M45) (pc := 41) dX4_begin_41 (by decide)) (up_cst _ _)) rfl ?_
  refine na_3 (q := 45) (one_d (so_put (M := np_M45) (pc := 42) kd_2 (k := 6) (by decide) dX4_begin_42 (Or.inl wd_162) (Or.inl rfl)) (up_put _ _ _ _)) rfl ?_
  refine na_1 (q := 46) (one_d (so_aload_n (M := np_M45) (pc := 45) dX4_begin_45 rfl) (up_aload _ _)) rfl ?_
  refine na_3 (q := 49) (one_d (so_get (M := np_M45) (pc := 46) kd_2 (k := 3) (by decide) dX4_begin_46 wd_156) (up_get _ _ _)) rfl ?_
  refine na_1 (q := 50) (one_d (so_reti (M := np_M45) (pc := 49) dX4_begin_49 rfl) (up_reti _)) rfl ?_
  exact na_z
theorem hl_46 : np_hls.getD 46 [] = [] := rfl
set_option maxRecDepth 100000 in
set_option maxHeartbeats 4000000 in
theorem ok_46 : nv_all np_M46 46 0 np_c46 := by
  unfold np_c46
  refine na_1 (q := 1) (one_d (so_aload_n (M := np_M46) (pc := 0) dX4_passTurn_0 rfl) (up_aload _ _)) rfl ?_
  refine na_3 (q := 4) (one_c rfl mq_31 hl_46 rfl (sc_V (M := np_M46) (pc := 1) dX4_passTurn_1 cw_X4_passTurn_X4_isGoingOn rfl wd_534 wd_535 wd_536 (nv_rcO (ci := 2) rfl))) rfl ?_
  refine na_3 (q := 7) (one_d (so_ifne (M := np_M46) (pc := 4) dX4_passTurn_4 (by decide)) (up_ifne _ _)) rfl ?_
  refine na_2 (q := 9) (one_d (so_bipush (M := np_M46) (pc := 7) dX4_passTurn_7 (by decide)) (up_cst _ _)) rfl ?_
  refine na_1 (q := 10) (one_d (so_reti (M := np_M46) (pc := 9) dX4_passTurn_9 rfl) (up_reti _)) rfl ?_
  refine na_1 (q := 11) (one_d (so_aload_n (M := np_M46) (pc := 10) dX4_passTurn_10 rfl) (up_aload _ _)) rfl ?_
  refine na_1 (q := 12) (one_d (so_iconst (M := np_M46) (pc := 11) dX4_passTurn_11 (by decide)) (up_cst _ _)) rfl ?_
  refine na_1 (q := 13) (one_d (so_aload_n (M := np_M46) (pc := 12) dX4_passTurn_12 rfl) (up_aload _ _)) rfl ?_
  refine na_3 (q := 16) (one_d (so_get (M := np_M46) (pc := 13) kd_2 (k := 5) (by decide) dX4_passTurn_13 wd_160) (up_get _ _ _)) rfl ?_
  refine na_1 (q := 17) (one_d (so_isub (M := np_M46) (pc := 16) dX4_passTurn_16) (up_i2 _ _)) rfl ?_
  refine na_3 (q := 20) (one_d (so_put (M := np_M46) (pc := 17) kd_2 (k := 5) (by decide) dX4_passTurn_17 (Or.inl wd_160) (Or.inl rfl)) (up_put _ _ _ _)) rfl ?_
  refine na_1 (q := 21) (one_d (so_aload_n (M := np_M46) (pc := 20) dX4_passTurn_20 rfl) (up_aload _ _)) rfl ?_
  refine na_1 (q := 22) (one_d (so_iconst (M := np_M46) (pc := 21) dX4_passTurn_21 (by decide)) (up_cst _ _)) rfl ?_
  refine na_3 (q := 25) (one_d (so_put (M := np_M46) (pc := 22) kd_2 (k := 6) (by decide) dX4_passTurn_22 (Or.inl wd_162) (Or.inl rfl)) (up_put _ _ _ _)) rfl ?_
  refine na_1 (q := 26) (one_d (so_aload_n (M := np_M46) (pc := 25) dX4_passTurn_25 rfl) (up_aload _ _)) rfl ?_
  refine na_1 (q := 27) (one_d (so_dup (M := np_M46) (pc := 26) dX4_passTurn_26) (up_dup _)) rfl ?_
  refine na_3 (q := 30) (one_d (so_get (M := np_M46) (pc := 27) kd_2 (k := 7) (by decide) dX4_passTurn_27 wd_164) (up_get _ _ _)) rfl ?_
  refine na_1 (q := 31) (one_d (so_iconst (M := np_M46) (pc := 30) dX4_passTurn_30 (by decide)) (up_cst _ _)) rfl ?_
  refine na_1 (q := 32) (one_d (so_iadd (M := np_M46) (pc := 31) dX4_passTurn_31) (up_i2 _ _)) rfl ?_
  refine na_3 (q := 35) (one_d (so_put (M := np_M46) (pc := 32) kd_2 (k := 7) (by decide) dX4_passTurn_32 (Or.inl wd_164) (Or.inl rfl)) (up_put _ _ _ _)) rfl ?_
  refine na_1 (q := 36) (one_d (so_aload_n (M := np_M46) (pc := 35) dX4_passTurn_35 rfl) (up_aload _ _)) rfl ?_
  refine na_3 (q := 39) (one_d (so_get (M := np_M46) (pc := 36) kd_2 (k := 5) (by decide) dX4_passTurn_36 wd_160) (up_get _ _ _)) rfl ?_
  refine na_1 (q := 40) (one_d (so_reti (M := np_M46) (pc := 39) dX4_passTurn_39 rfl) (up_reti _)) rfl ?_
  exact na_z
theorem hl_47 : np_hls.getD 47 [] = [] := rfl
set_option maxRecDepth 100000 in
set_option maxHeartbeats 4000000 in
theorem ok_47 : nv_all np_M47 47 0 np_c47 := by
  unfold np_c47
  refine na_1 (q := 1) (one_d (so_aload_n (M := np_M47) (pc := 0) dX4_rotate_0 rfl) (up_aload _ _)) rfl ?_
  refine na_1 (q := 2) (one_d (so_iload_n (M := np_M47) (pc := 1) dX4_rotate_1 rfl) (up_iload _ _)) rfl ?_
  refine na_3 (q := 5) (one_c rfl mq_28 hl_47 rfl (sc_V (M := np_M47) (pc := 2) dX4_rotate_2 cw_X4_rotate_X4_numbered rfl wd_553 wd_554 wd_555 (nv_rcO (ci := 2) rfl))) rfl ?_
  refine na_1 (q := 6) (one_d (so_astore_n (M := np_M47) (pc := 5) dX4_rotate_5 rfl (by decide)) (up_astore _ _)) rfl ?_
  refine na_1 (q := 7) (one_d (so_aload_n (M := np_M47) (pc := 6) dX4_rotate_6 rfl) (up_aload _ _)) rfl ?_
  refine na_3 (q := 10) (one_d (so_ifnonnull (M := np_M47) (pc := 7) dX4_rotate_7 (by decide)) (up_ifnonnull _ _)) rfl ?_
  refine na_1 (q := 11) (one_d (so_iconst (M := np_M47) (pc := 10) dX4_rotate_10 (by decide)) (up_cst _ _)) rfl ?_
  refine na_1 (q := 12) (one_d (so_reti (M := np_M47) (pc := 11) dX4_rotate_11 rfl) (up_reti _)) rfl ?_
  refine na_1 (q := 13) (one_d (so_aload_n (M := np_M47) (pc := 12) dX4_rotate_12 rfl) (up_aload _ _)) rfl ?_
  refine na_1 (q := 14) (one_d (so_aload_n (M := np_M47) (pc := 13) dX4_rotate_13 rfl) (up_aload _ _)) rfl ?_
  refine na_1 (q := 15) (one_d (so_iload_n (M := np_M47) (pc := 14) dX4_rotate_14 rfl) (up_iload _ _)) rfl ?_
  refine na_3 (q := 18) (one_c rfl mq_134 hl_47 rfl (sc_SN (M := np_M47) (pc := 15) dX4_rotate_15 cw_X4_rotate_X7_isBearing wd_408 wd_409)) rfl ?_
  refine na_3 (q := 21) (one_c rfl mq_55 hl_47 rfl (sc_V (M := np_M47) (pc := 18) dX4_rotate_18 cw_X4_rotate_X4_objectionTo rfl wd_557 wd_559 wd_3 (nv_rcO (ci := 2) rfl))) rfl ?_
  refine na_2 (q := 23) (one_d (so_istore (M := np_M47) (pc := 21) dX4_rotate_21 (by decide)) (up_istore _ _)) rfl ?_
  refine na_2 (q := 25) (one_d (so_iload (M := np_M47) (pc := 23) dX4_rotate_23) (up_iload _ _)) rfl ?_
  refine na_3 (q := 28) (one_d (so_ifeq (M := np_M47) (pc := 25) dX4_rotate_25 (by decide)) (up_ifeq _ _)) rfl ?_
  refine na_2 (q := 30) (one_d (so_iload (M := np_M47) (pc := 28) dX4_rotate_28) (up_iload _ _)) rfl ?_
  refine na_1 (q := 31) (one_d (so_reti (M := np_M47) (pc := 30) dX4_rotate_30 rfl) (up_reti _)) rfl ?_
  refine na_1 (q := 32) (one_d (so_aload_n (M := np_M47) (pc := 31) dX4_rotate_31 rfl) (up_aload _ _)) rfl ?_
  refine na_3 (q := 35) (one_d (so_getN (M := np_M47) (pc := 32) kd_4 (k := 4) (by decide) dX4_rotate_32 wd_122) (up_get _ _ _)) rfl ?_
  refine na_1 (q := 36) (one_d (so_iload_n (M := np_M47) (pc := 35) dX4_rotate_35 rfl) (up_iload _ _)) rfl ?_
  refine na_3 (q := 39) (one_c rfl mq_139 hl_47 rfl (sc_SN (M := np_M47) (pc := 36) dX4_rotate_36 cw_X4_rotate_X7_stepsBetween wd_566 wd_567)) rfl ?_
  refine na_2 (q := 41) (one_d (so_istore (M := np_M47) (pc := 39) dX4_rotate_39 (by decide)) (up_istore _ _)) rfl ?_
  refine na_1 (q := 42) (one_d (so_aload_n (M := np_M47) (pc := 41) dX4_rotate_41 rfl) (up_aload _ _)) rfl ?_
  refine na_1 (q := 43) (one_d (so_iload_n (M := np_M47) (pc := 42) dX4_rotate_42 rfl) (up_iload _ _)) rfl ?_
  refine na_3 (q := 46) (one_d (so_put (M := np_M47) (pc := 43) kd_4 (k := 4) (by decide) dX4_rotate_43 (Or.inr ⟨_, wd_122⟩) (Or.inl rfl)) (up_put _ _ _ _)) rfl ?_
  refine na_1 (q := 47) (one_d (so_aload_n (M := np_M47) (pc := 46) dX4_rotate_46 rfl) (up_aload _ _)) rfl ?_
  refine na_1 (q := 48) (one_d (so_dup (M := np_M47) (pc := 47) dX4_rotate_47) (up_dup _)) rfl ?_
  refine na_3 (q := 51) (one_d (so_get (M := np_M47) (pc := 48) kd_2 (k := 6) (by decide) dX4_rotate_48 wd_162) (up_get _ _ _)) rfl ?_
  refine na_1 (q := 52) (one_d (so_iconst (M := np_M47) (pc := 51) dX4_rotate_51 (by decide)) (up_cst _ _)) rfl ?_
  refine na_1 (q := 53) (one_d (so_isub (M := np_M47) (pc := 52) dX4_rotate_52) (up_i2 _ _)) rfl ?_
  refine na_3 (q := 56) (one_d (so_put (M := np_M47) (pc := 53) kd_2 (k := 6) (by decide) dX4_rotate_53 (Or.inl wd_162) (Or.inl rfl)) (up_put _ _ _ _)) rfl ?_
  refine na_2 (q := 58) (one_d (so_iload (M := np_M47) (pc := 56) dX4_rotate_56) (up_iload _ _)) rfl ?_
  refine na_1 (q := 59) (one_d (so_reti (M := np_M47) (pc := 58) dX4_rotate_58 rfl) (up_reti _)) rfl ?_
  exact na_z
theorem hl_48 : np_hls.getD 48 [] = [] := rfl
set_option maxRecDepth 100000 in
set_option maxHeartbeats 4000000 in
theorem ok_48 : nv_all np_M48 48 0 np_c48 := by
  unfold np_c48
  refine na_1 (q := 1) (one_d (so_aload_n (M := np_M48) (pc := 0) dX4_move_0 rfl) (up_aload _ _)) rfl ?_
  refine na_1 (q := 2) (one_d (so_iload_n (M := np_M48) (pc := 1) dX4_move_1 rfl) (up_iload _ _)) rfl ?_
  refine na_3 (q := 5) (one_c rfl mq_28 hl_48 rfl (sc_V (M := np_M48) (pc := 2) dX4_move_2 cw_X4_move_X4_numbered rfl wd_553 wd_554 wd_555 (nv_rcO (ci := 2) rfl))) rfl ?_
  refine na_2 (q := 7) (one_d (so_astore (M := np_M48) (pc := 5) dX4_move_5 (by decide)) (up_astore _ _)) rfl ?_
  refine na_2 (q := 9) (one_d (so_aload (M := np_M48) (pc := 7) dX4_move_7) (up_aload _ _)) rfl ?_
  refine na_3 (q := 12) (one_d (so_ifnonnull (M := np_M48) (pc := 9) dX4_move_9 (by decide)) (up_ifnonnull _ _)) rfl ?_
  refine na_1 (q := 13) (one_d (so_iconst (M := np_M48) (pc := 12) dX4_move_12 (by decide)) (up_cst _ _)) rfl ?_
  refine na_1 (q := 14) (one_d (so_reti (M := np_M48) (pc := 13) dX4_move_13 rfl) (up_reti _)) rfl ?_
  refine na_1 (q := 15) (one_d (so_aload_n (M := np_M48) (pc := 14) dX4_move_14 rfl) (up_aload _ _)) rfl ?_
  refine na_2 (q := 17) (one_d (so_aload (M := np_M48) (pc := 15) dX4_move_15) (up_aload _ _)) rfl ?_
  refine na_1 (q := 18) (one_d (so_iload_n (M := np_M48) (pc := 17) dX4_move_17 rfl) (up_iload _ _)) rfl ?_
  refine na_1 (q := 19) (one_d (so_iconst (M := np_M48) (pc := 18) dX4_move_18 (by decide)) (up_cst _ _)) rfl ?_
  refine na_3 (q := 22) (one_d (so_clt (M := np_M48) (pc := 19) dX4_move_19 (by decide)) (up_clt _ _)) rfl ?_
  refine na_1 (q := 23) (one_d (so_iload_n (M := np_M48) (pc := 22) dX4_move_22 rfl) (up_iload _ _)) rfl ?_
  refine na_1 (q := 24) (one_d (so_iconst (M := np_M48) (pc := 23) dX4_move_23 (by decide)) (up_cst _ _)) rfl ?_
  refine na_3 (q := 27) (one_d (so_cgt (M := np_M48) (pc := 24) dX4_move_24 (by decide)) (up_cgt _ _)) rfl ?_
  refine na_1 (q := 28) (one_d (so_iconst (M := np_M48) (pc := 27) dX4_move_27 (by decide)) (up_cst _ _)) rfl ?_
  refine na_3 (q := 31) (one_d (so_goto (M := np_M48) (pc := 28) dX4_move_28 (by decide)) (up_goto _)) rfl ?_
  refine na_1 (q := 32) (one_d (so_iconst (M := np_M48) (pc := 31) dX4_move_31 (by decide)) (up_cst _ _)) rfl ?_
  refine na_3 (q := 35) (one_c rfl mq_55 hl_48 rfl (sc_V (M := np_M48) (pc := 32) dX4_move_32 cw_X4_move_X4_objectionTo rfl wd_557 wd_559 wd_3 (nv_rcO (ci := 2) rfl))) rfl ?_
  refine na_2 (q := 37) (one_d (so_istore (M := np_M48) (pc := 35) dX4_move_35 (by decide)) (up_istore _ _)) rfl ?_
  refine na_2 (q := 39) (one_d (so_iload (M := np_M48) (pc := 37) dX4_move_37) (up_iload _ _)) rfl ?_
  refine na_3 (q := 42) (one_d (so_ifeq (M := np_M48) (pc := 39) dX4_move_39 (by decide)) (up_ifeq _ _)) rfl ?_
  refine na_2 (q := 44) (one_d (so_iload (M := np_M48) (pc := 42) dX4_move_42) (up_iload _ _)) rfl ?_
  refine na_1 (q := 45) (one_d (so_reti (M := np_M48) (pc := 44) dX4_move_44 rfl) (up_reti _)) rfl ?_
  refine na_1 (q := 46) (one_d (so_iload_n (M := np_M48) (pc := 45) dX4_move_45 rfl) (up_iload _ _)) rfl ?_
  refine na_3 (q := 49) (one_d (so_ifeq (M := np_M48) (pc := 46) dX4_move_46 (by decide)) (up_ifeq _ _)) rfl ?_
  refine na_2 (q := 51) (one_d (so_aload (M := np_M48) (pc := 49) dX4_move_49) (up_aload _ _)) rfl ?_
  refine na_3 (q := 54) (one_d (so_getN (M := np_M48) (pc := 51) kd_4 (k := 6) (by decide) dX4_move_51 wd_128) (up_get _ _ _)) rfl ?_
  refine na_3 (q := 57) (one_d (so_ifne (M := np_M48) (pc := 54) dX4_move_54 (by decide)) (up_ifne _ _)) rfl ?_
  refine na_2 (q := 59) (one_d (so_bipush (M := np_M48) (pc := 57) dX4_move_57 (by decide)) (up_cst _ _)) rfl ?_
  refine na_1 (q := 60) (one_d (so_reti (M := np_M48) (pc := 59) dX4_move_59 rfl) (up_reti _)) rfl ?_
  refine na_1 (q := 61) (one_d (so_iload_n (M := np_M48) (pc := 60) dX4_move_60 rfl) (up_iload _ _)) rfl ?_
  refine na_1 (q := 62) (one_d (so_aload_n (M := np_M48) (pc := 61) dX4_move_61 rfl) (up_aload _ _)) rfl ?_
  refine na_2 (q := 64) (one_d (so_aload (M := np_M48) (pc := 62) dX4_move_62) (up_aload _ _)) rfl ?_
  refine na_3 (q := 67) (one_c rfl mq_38 hl_48 rfl (sc_V (M := np_M48) (pc := 64) dX4_move_64 cw_X4_move_X4_freeAhead rfl wd_715 wd_716 wd_717 (nv_rcO (ci := 2) rfl))) rfl ?_
  refine na_3 (q := 70) (one_d (so_min (M := np_M48) (pc := 67) dX4_move_67 wd_729 wd_444 wd_37 cd_min (by decide)) (up_min _)) rfl ?_
  refine na_2 (q := 72) (one_d (so_istore (M := np_M48) (pc := 70) dX4_move_70 (by decide)) (up_istore _ _)) rfl ?_
  refine na_2 (q := 74) (one_d (so_iload (M := np_M48) (pc := 72) dX4_move_72) (up_iload _ _)) rfl ?_
  refine na_3 (q := 77) (one_d (so_ifne (M := np_M48) (pc := 74) dX4_move_74 (by decide)) (up_ifne _ _)) rfl ?_
  refine na_2 (q := 79) (one_d (so_bipush (M := np_M48) (pc := 77) dX4_move_77 (by decide)) (up_cst _ _)) rfl ?_
  refine na_1 (q := 80) (one_d (so_reti (M := np_M48) (pc := 79) dX4_move_79 rfl) (up_reti _)) rfl ?_
  refine na_2 (q := 82) (one_d (so_aload (M := np_M48) (pc := 80) dX4_move_80) (up_aload _ _)) rfl ?_
  refine na_1 (q := 83) (one_d (so_dup (M := np_M48) (pc := 82) dX4_move_82) (up_dup _)) rfl ?_
  refine na_3 (q := 86) (one_d (so_getN (M := np_M48) (pc := 83) kd_4 (k := 2) (by decide) dX4_move_83 wd_116) (up_get _ _ _)) rfl ?_
  refine na_2 (q := 88) (one_d (so_iload (M := np_M48) (pc := 86) dX4_move_86) (up_iload _ _)) rfl ?_
  refine na_2 (q := 90) (one_d (so_aload (M := np_M48) (pc := 88) dX4_move_88) (up_aload _ _)) rfl ?_
  refine na_3 (q := 93) (one_d (so_getN (M := np_M48) (pc := 90) kd_4 (k := 4) (by decide) dX4_move_90 wd_122) (up_get _ _ _)) rfl ?_
  refine na_3 (q := 96) (one_c rfl mq_136 hl_48 rfl (sc_SN (M := np_M48) (pc := 93) dX4_move_93 cw_X4_move_X7_stepX wd_719 wd_720)) rfl ?_
  refine na_1 (q := 97) (one_d (so_imul (M := np_M48) (pc := 96) dX4_move_96) (up_i2 _ _)) rfl ?_
  refine na_1 (q := 98) (one_d (so_iadd (M := np_M48) (pc := 97) dX4_move_97) (up_i2 _ _)) rfl ?_
  refine na_3 (q := 101) (one_d (so_put (M := np_M48) (pc := 98) kd_4 (k := 2) (by decide) dX4_move_98 (Or.inr ⟨_, wd_116⟩) (Or.inl rfl)) (up_put _ _ _ _)) rfl ?_
  refine na_2 (q := 103) (one_d (so_aload (M := np_M48) (pc := 101) dX4_move_101) (up_aload _ _)) rfl ?_
  refine na_1 (q := 104) (one_d (so_dup (M := np_M48) (pc := 103) dX4_move_103) (up_dup _)) rfl ?_
  refine na_3 (q := 107) (one_d (so_getN (M := np_M48) (pc := 104) kd_4 (k := 3) (by decide) dX4_move_104 wd_119) (up_get _ _ _)) rfl ?_
  refine na_2 (q := 109) (one_d (so_iload (M := np_M48) (pc := 107) dX4_move_107) (up_iload _ _)) rfl ?_
  refine na_2 (q := 111) (one_d (so_aload (M := np_M48) (pc := 109) dX4_move_109) (up_aload _ _)) rfl ?_
  refine na_3 (q := 114) (one_d (so_getN (M := np_M48) (pc := 111) kd_4 (k := 4) (by decide) dX4_move_111 wd_122) (up_get _ _ _)) rfl ?_
  refine na_3 (q := 117) (one_c rfl mq_137 hl_48 rfl (sc_SN (M := np_M48) (pc := 114) dX4_move_114 cw_X4_move_X7_stepY wd_722 wd_723)) rfl ?_
  refine na_1 (q := 118) (one_d (so_imul (M := np_M48) (pc := 117) dX4_move_117) (up_i2 _ _)) rfl ?_
  refine na_1 (q := 119) (one_d (so_iadd (M := np_M48) (pc := 118) dX4_move_118) (up_i2 _ _)) rfl ?_
  refine na_3 (q := 122) (one_d (so_put (M := np_M48) (pc := 119) kd_4 (k := 3) (by decide) dX4_move_119 (Or.inr ⟨_, wd_119⟩) (Or.inl rfl)) (up_put _ _ _ _)) rfl ?_
  refine na_1 (q := 123) (one_d (so_aload_n (M := np_M48) (pc := 122) dX4_move_122 rfl) (up_aload _ _)) rfl ?_
  refine na_1 (q := 124) (one_d (so_dup (M := np_M48) (pc := 123) dX4_move_123) (up_dup _)) rfl ?_
  refine na_3 (q := 127) (one_d (so_get (M := np_M48) (pc := 124) kd_2 (k := 10) (by decide) dX4_move_124 wd_170) (up_get _ _ _)) rfl ?_
  refine na_2 (q := 129) (one_d (so_iload (M := np_M48) (pc := 127) dX4_move_127) (up_iload _ _)) rfl ?_
  refine na_1 (q := 130) (one_d (so_i2l (M := np_M48) (pc := 129) dX4_move_129) (up_i2l _)) rfl ?_
  refine na_1 (q := 131) (one_d (so_ladd (M := np_M48) (pc := 130) dX4_move_130) (up_l2 _ _)) rfl ?_
  refine na_3 (q := 134) (one_d (so_put (M := np_M48) (pc := 131) kd_2 (k := 10) (by decide) dX4_move_131 (Or.inl wd_170) (Or.inl rfl)) (up_put _ _ _ _)) rfl ?_
  refine na_1 (q := 135) (one_d (so_aload_n (M := np_M48) (pc := 134) dX4_move_134 rfl) (up_aload _ _)) rfl ?_
  refine na_1 (q := 136) (one_d (so_dup (M := np_M48) (pc := 135) dX4_move_135) (up_dup _)) rfl ?_
  refine na_3 (q := 139) (one_d (so_get (M := np_M48) (pc := 136) kd_2 (k := 6) (by decide) dX4_move_136 wd_162) (up_get _ _ _)) rfl ?_
  refine na_1 (q := 140) (one_d (so_iconst (M := np_M48) (pc := 139) dX4_move_139 (by decide)) (up_cst _ _)) rfl ?_
  refine na_1 (q := 141) (one_d (so_isub (M := np_M48) (pc := 140) dX4_move_140) (up_i2 _ _)) rfl ?_
  refine na_3 (q := 144) (one_d (so_put (M := np_M48) (pc := 141) kd_2 (k := 6) (by decide) dX4_move_141 (Or.inl wd_162) (Or.inl rfl)) (up_put _ _ _ _)) rfl ?_
  refine na_1 (q := 145) (one_d (so_iload_n (M := np_M48) (pc := 144) dX4_move_144 rfl) (up_iload _ _)) rfl ?_
  refine na_3 (q := 148) (one_d (so_ifeq (M := np_M48) (pc := 145) dX4_move_145 (by decide)) (up_ifeq _ _)) rfl ?_
  refine na_1 (q := 149) (one_d (so_aload_n (M := np_M48) (pc := 148) dX4_move_148 rfl) (up_aload _ _)) rfl ?_
  refine na_2 (q := 151) (one_d (so_aload (M := np_M48) (pc := 149) dX4_move_149) (up_aload _ _)) rfl ?_
  refine na_3 (q := 154) (one_c rfl mq_49 hl_48 rfl (sc_V (M := np_M48) (pc := 151) dX4_move_151 cw_X4_move_X4_payForSecret rfl wd_730 wd_732 wd_13 (nv_rcO (ci := 2) rfl))) rfl ?_
  refine na_3 (q := 157) (one_d (so_goto (M := np_M48) (pc := 154) dX4_move_154 (by decide)) (up_goto _)) rfl ?_
  refine na_2 (q := 159) (one_d (so_aload (M := np_M48) (pc := 157) dX4_move_157) (up_aload _ _)) rfl ?_
  refine na_3 (q := 162) (one_c rfl mq_68 hl_48 rfl (sc_V (M := np_M48) (pc := 159) dX4_move_159 cw_X4_move_X6_becomeKnown rfl wd_430 wd_431 wd_432 (nv_rcO (ci := 4) rfl))) rfl ?_
  refine na_1 (q := 163) (one_d (so_aload_n (M := np_M48) (pc := 162) dX4_move_162 rfl) (up_aload _ _)) rfl ?_
  refine na_3 (q := 166) (one_c rfl mq_50 hl_48 rfl (sc_V (M := np_M48) (pc := 163) dX4_move_163 cw_X4_move_X4_discover rfl wd_734 wd_736 wd_14 (nv_rcO (ci := 2) rfl))) rfl ?_
  refine na_2 (q := 168) (one_d (so_iload (M := np_M48) (pc := 166) dX4_move_166) (up_iload _ _)) rfl ?_
  refine na_1 (q := 169) (one_d (so_reti (M := np_M48) (pc := 168) dX4_move_168 rfl) (up_reti _)) rfl ?_
  exact na_z
theorem hl_49 : np_hls.getD 49 [] = [] := rfl
set_option maxRecDepth 100000 in
set_option maxHeartbeats 4000000 in
theorem ok_49 : nv_all np_M49 49 0 np_c49 := by
  unfold np_c49
  refine na_1 (q := 1) (one_d (so_aload_n (M := np_M49) (pc := 0) dX4_payForSecret_0 rfl) (up_aload _ _)) rfl ?_
  refine na_1 (q := 2) (one_d (so_dup (M := np_M49) (pc := 1) dX4_payForSecret_1) (up_dup _)) rfl ?_
  refine na_3 (q := 5) (one_d (so_getN (M := np_M49) (pc := 2) kd_4 (k := 6) (by decide) dX4_payForSecret_2 wd_128) (up_get _ _ _)) rfl ?_
  refine na_1 (q := 6) (one_d (so_iconst (M := np_M49) (pc := 5) dX4_payForSecret_5 (by decide)) (up_cst _ _)) rfl ?_
  refine na_1 (q := 7) (one_d (so_isub (M := np_M49) (pc := 6) dX4_payForSecret_6) (up_i2 _ _)) rfl ?_
  refine na_3 (q := 10) (one_d (so_put (M := np_M49) (pc := 7) kd_4 (k := 6) (by decide) dX4_payForSecret_7 (Or.inr ⟨_, wd_128⟩) (Or.inl rfl)) (up_put _ _ _ _)) rfl ?_
  refine na_1 (q := 11) (one_d (so_aload_n (M := np_M49) (pc := 10) dX4_payForSecret_10 rfl) (up_aload _ _)) rfl ?_
  refine na_1 (q := 12) (one_d (so_aload_n (M := np_M49) (pc := 11) dX4_payForSecret_11 rfl) (up_aload _ _)) rfl ?_
  refine na_3 (q := 15) (one_d (so_getN (M := np_M49) (pc := 12) kd_4 (k := 1) (by decide) dX4_payForSecret_12 wd_113) (up_get _ _ _)) rfl ?_
  refine na_3 (q := 18) (one_c rfl mq_29 hl_49 rfl (sc_V (M := np_M49) (pc := 15) dX4_payForSecret_15 cw_X4_payForSecret_X4_accountOf rfl wd_414 wd_415 wd_416 (nv_rcO (ci := 2) rfl))) rfl ?_
  refine na_1 (q := 19) (one_d (so_dup (M := np_M49) (pc := 18) dX4_payForSecret_18) (up_dup _)) rfl ?_
  refine na_3 (q := 22) (one_d (so_getN (M := np_M49) (pc := 19) kd_0 (k := 6) (by decide) dX4_payForSecret_19 wd_84) (up_get _ _ _)) rfl ?_
  refine na_1 (q := 23) (one_d (so_iconst (M := np_M49) (pc := 22) dX4_payForSecret_22 (by decide)) (up_cst _ _)) rfl ?_
  refine na_1 (q := 24) (one_d (so_iadd (M := np_M49) (pc := 23) dX4_payForSecret_23) (up_i2 _ _)) rfl ?_
  refine na_3 (q := 27) (one_d (so_put (M := np_M49) (pc := 24) kd_0 (k := 6) (by decide) dX4_payForSecret_24 (Or.inr ⟨_, wd_84⟩) (Or.inl rfl)) (up_put _ _ _ _)) rfl ?_
  refine na_1 (q := 28) (one_d (so_aload_n (M := np_M49) (pc := 27) dX4_payForSecret_27 rfl) (up_aload _ _)) rfl ?_
  refine na_1 (q := 29) (one_d (so_dup (M := np_M49) (pc := 28) dX4_payForSecret_28) (up_dup _)) rfl ?_
  refine na_3 (q := 32) (one_d (so_get (M := np_M49) (pc := 29) kd_2 (k := 11) (by decide) dX4_payForSecret_29 wd_172) (up_get _ _ _)) rfl ?_
  refine na_1 (q := 33) (one_d (so_iconst (M := np_M49) (pc := 32) dX4_payForSecret_32 (by decide)) (up_cst _ _)) rfl ?_
  refine na_1 (q := 34) (one_d (so_iadd (M := np_M49) (pc := 33) dX4_payForSecret_33) (up_i2 _ _)) rfl ?_
  refine na_3 (q := 37) (one_d (so_put (M := np_M49) (pc := 34) kd_2 (k := 11) (by decide) dX4_payForSecret_34 (Or.inl wd_172) (Or.inl rfl)) (up_put _ _ _ _)) rfl ?_
  refine na_1 (q := 38) (one_d (so_retv (M := np_M49) (pc := 37) dX4_payForSecret_37 rfl) (up_retv)) rfl ?_
  exact na_z
