-- rows: every deed of these methods is sound (written by wip/p56/gen20.py)
theorem hl_173 : np_hls.getD 173 [] = [] := rfl
set_option maxRecDepth 100000 in
set_option maxHeartbeats 4000000 in
theorem ok_173 : nv_all np_M173 173 0 np_c173 := by
  unfold np_c173
  refine na_1 (q := 1) (one_d (so_aload_n (M := np_M173) (pc := 0) dL_areDirections_0 rfl) (up_aload _ _)) rfl ?_
  refine na_1 (q := 2) (one_d (so_iload_n (M := np_M173) (pc := 1) dL_areDirections_1 rfl) (up_iload _ _)) rfl ?_
  refine na_3 (q := 5) (one_c rfl mq_87 hl_173 rfl (sc_V (M := np_M173) (pc := 2) dL_areDirections_2 cw_L_areDirections_X7_xOf rfl wd_855 wd_856 wd_857 (nv_rcO (ci := 5) rfl))) rfl ?_
  refine na_1 (q := 6) (one_d (so_istore_n (M := np_M173) (pc := 5) dL_areDirections_5 rfl (by decide)) (up_istore _ _)) rfl ?_
  refine na_1 (q := 7) (one_d (so_aload_n (M := np_M173) (pc := 6) dL_areDirections_6 rfl) (up_aload _ _)) rfl ?_
  refine na_1 (q := 8) (one_d (so_iload_n (M := np_M173) (pc := 7) dL_areDirections_7 rfl) (up_iload _ _)) rfl ?_
  refine na_3 (q := 11) (one_c rfl mq_88 hl_173 rfl (sc_V (M := np_M173) (pc := 8) dL_areDirections_8 cw_L_areDirections_X7_yOf rfl wd_875 wd_876 wd_877 (nv_rcO (ci := 5) rfl))) rfl ?_
  refine na_1 (q := 12) (one_d (so_istore_n (M := np_M173) (pc := 11) dL_areDirections_11 rfl (by decide)) (up_istore _ _)) rfl ?_
  refine na_1 (q := 13) (one_d (so_iconst (M := np_M173) (pc := 12) dL_areDirections_12 (by decide)) (up_cst _ _)) rfl ?_
  refine na_2 (q := 15) (one_d (so_istore (M := np_M173) (pc := 13) dL_areDirections_13 (by decide)) (up_istore _ _)) rfl ?_
  refine na_2 (q := 17) (one_d (so_bipush (M := np_M173) (pc := 15) dL_areDirections_15 (by decide)) (up_cst _ _)) rfl ?_
  refine na_2 (q := 19) (one_d (so_istore (M := np_M173) (pc := 17) dL_areDirections_17 (by decide)) (up_istore _ _)) rfl ?_
  refine na_2 (q := 21) (one_d (so_iload (M := np_M173) (pc := 19) dL_areDirections_19) (up_iload _ _)) rfl ?_
  refine na_3 (q := 24) (one_d (so_ifeq (M := np_M173) (pc := 21) dL_areDirections_21 (by decide)) (up_ifeq _ _)) rfl ?_
  refine na_2 (q := 26) (one_d (so_iload (M := np_M173) (pc := 24) dL_areDirections_24) (up_iload _ _)) rfl ?_
  refine na_1 (q := 27) (one_d (so_iconst (M := np_M173) (pc := 26) dL_areDirections_26 (by decide)) (up_cst _ _)) rfl ?_
  refine na_3 (q := 30) (one_d (so_cge (M := np_M173) (pc := 27) dL_areDirections_27 (by decide)) (up_cge _ _)) rfl ?_
  refine na_2 (q := 32) (one_d (so_bipush (M := np_M173) (pc := 30) dL_areDirections_30 (by decide)) (up_cst _ _)) rfl ?_
  refine na_2 (q := 34) (one_d (so_istore (M := np_M173) (pc := 32) dL_areDirections_32 (by decide)) (up_istore _ _)) rfl ?_
  refine na_2 (q := 36) (one_d (so_iload (M := np_M173) (pc := 34) dL_areDirections_34) (up_iload _ _)) rfl ?_
  refine na_3 (q := 39) (one_d (so_ifeq (M := np_M173) (pc := 36) dL_areDirections_36 (by decide)) (up_ifeq _ _)) rfl ?_
  refine na_2 (q := 41) (one_d (so_iload (M := np_M173) (pc := 39) dL_areDirections_39) (up_iload _ _)) rfl ?_
  refine na_1 (q := 42) (one_d (so_iconst (M := np_M173) (pc := 41) dL_areDirections_41 (by decide)) (up_cst _ _)) rfl ?_
  refine na_3 (q := 45) (one_d (so_cge (M := np_M173) (pc := 42) dL_areDirections_42 (by decide)) (up_cge _ _)) rfl ?_
  refine na_1 (q := 46) (one_d (so_aload_n (M := np_M173) (pc := 45) dL_areDirections_45 rfl) (up_aload _ _)) rfl ?_
  refine na_1 (q := 47) (one_d (so_iload_n (M := np_M173) (pc := 46) dL_areDirections_46 rfl) (up_iload _ _)) rfl ?_
  refine na_1 (q := 48) (one_d (so_iload_n (M := np_M173) (pc := 47) dL_areDirections_47 rfl) (up_iload _ _)) rfl ?_
  refine na_2 (q := 50) (one_d (so_iload (M := np_M173) (pc := 48) dL_areDirections_48) (up_iload _ _)) rfl ?_
  refine na_1 (q := 51) (one_d (so_iadd (M := np_M173) (pc := 50) dL_areDirections_50) (up_i2 _ _)) rfl ?_
  refine na_1 (q := 52) (one_d (so_iload_n (M := np_M173) (pc := 51) dL_areDirections_51 rfl) (up_iload _ _)) rfl ?_
  refine na_2 (q := 54) (one_d (so_iload (M := np_M173) (pc := 52) dL_areDirections_52) (up_iload _ _)) rfl ?_
  refine na_1 (q := 55) (one_d (so_iadd (M := np_M173) (pc := 54) dL_areDirections_54) (up_i2 _ _)) rfl ?_
  refine na_3 (q := 58) (one_c rfl mq_158 hl_173 rfl (sc_SX (M := np_M173) (pc := 55) dL_areDirections_55 (by decide) hd_L_directionTo wd_22 ⟨by decide, by decide, by decide +kernel⟩ (by decide) (by decide) wd_1164 wd_1165)) rfl ?_
  refine na_2 (q := 60) (one_d (so_istore (M := np_M173) (pc := 58) dL_areDirections_58 (by decide)) (up_istore _ _)) rfl ?_
  refine na_1 (q := 61) (one_d (so_aload_n (M := np_M173) (pc := 60) dL_areDirections_60 rfl) (up_aload _ _)) rfl ?_
  refine na_1 (q := 62) (one_d (so_iload_n (M := np_M173) (pc := 61) dL_areDirections_61 rfl) (up_iload _ _)) rfl ?_
  refine na_1 (q := 63) (one_d (so_iload_n (M := np_M173) (pc := 62) dL_areDirections_62 rfl) (up_iload _ _)) rfl ?_
  refine na_2 (q := 65) (one_d (so_iload (M := np_M173) (pc := 63) dL_areDirections_63) (up_iload _ _)) rfl ?_
  refine na_1 (q := 66) (one_d (so_isub (M := np_M173) (pc := 65) dL_areDirections_65) (up_i2 _ _)) rfl ?_
  refine na_1 (q := 67) (one_d (so_iload_n (M := np_M173) (pc := 66) dL_areDirections_66 rfl) (up_iload _ _)) rfl ?_
  refine na_2 (q := 69) (one_d (so_iload (M := np_M173) (pc := 67) dL_areDirections_67) (up_iload _ _)) rfl ?_
  refine na_1 (q := 70) (one_d (so_isub (M := np_M173) (pc := 69) dL_areDirections_69) (up_i2 _ _)) rfl ?_
  refine na_3 (q := 73) (one_c rfl mq_158 hl_173 rfl (sc_SX (M := np_M173) (pc := 70) dL_areDirections_70 (by decide) hd_L_directionTo wd_22 ⟨by decide, by decide, by decide +kernel⟩ (by decide) (by decide) wd_1164 wd_1165)) rfl ?_
  refine na_2 (q := 75) (one_d (so_istore (M := np_M173) (pc := 73) dL_areDirections_73 (by decide)) (up_istore _ _)) rfl ?_
  refine na_2 (q := 77) (one_d (so_iload (M := np_M173) (pc := 75) dL_areDirections_75) (up_iload _ _)) rfl ?_
  refine na_3 (q := 80) (one_d (so_sipush (M := np_M173) (pc := 77) dL_areDirections_77 (by decide)) (up_cst _ _)) rfl ?_
  refine na_3 (q := 83) (one_d (so_ceq (M := np_M173) (pc := 80) dL_areDirections_80 (by decide)) (up_ceq _ _)) rfl ?_
  refine na_2 (q := 85) (one_d (so_iload (M := np_M173) (pc := 83) dL_areDirections_83) (up_iload _ _)) rfl ?_
  refine na_1 (q := 86) (one_d (so_aload_n (M := np_M173) (pc := 85) dL_areDirections_85 rfl) (up_aload _ _)) rfl ?_
  refine na_1 (q := 87) (one_d (so_iload_n (M := np_M173) (pc := 86) dL_areDirections_86 rfl) (up_iload _ _)) rfl ?_
  refine na_3 (q := 90) (one_c rfl mq_89 hl_173 rfl (sc_V (M := np_M173) (pc := 87) dL_areDirections_87 cw_L_areDirections_X7_bearingOf rfl wd_962 wd_963 wd_964 (nv_rcO (ci := 5) rfl))) rfl ?_
  refine na_3 (q := 93) (one_c rfl mq_170 hl_173 rfl (sc_S (M := np_M173) (pc := 90) dL_areDirections_90 cw_L_areDirections_L_far wd_1188 wd_1189)) rfl ?_
  refine na_2 (q := 95) (one_d (so_istore (M := np_M173) (pc := 93) dL_areDirections_93 (by decide)) (up_istore _ _)) rfl ?_
  refine na_2 (q := 97) (one_d (so_iload (M := np_M173) (pc := 95) dL_areDirections_95) (up_iload _ _)) rfl ?_
  refine na_1 (q := 98) (one_d (so_iconst (M := np_M173) (pc := 97) dL_areDirections_97 (by decide)) (up_cst _ _)) rfl ?_
  refine na_3 (q := 101) (one_c rfl mq_170 hl_173 rfl (sc_S (M := np_M173) (pc := 98) dL_areDirections_98 cw_L_areDirections_L_far wd_1188 wd_1189)) rfl ?_
  refine na_2 (q := 103) (one_d (so_iload (M := np_M173) (pc := 101) dL_areDirections_101) (up_iload _ _)) rfl ?_
  refine na_1 (q := 104) (one_d (so_iconst (M := np_M173) (pc := 103) dL_areDirections_103 (by decide)) (up_cst _ _)) rfl ?_
  refine na_3 (q := 107) (one_c rfl mq_170 hl_173 rfl (sc_S (M := np_M173) (pc := 104) dL_areDirections_104 cw_L_areDirections_L_far wd_1188 wd_1189)) rfl ?_
  refine na_3 (q := 110) (one_d (so_max (M := np_M173) (pc := 107) dL_areDirections_107 wd_871 wd_678 wd_37 cd_max (by decide)) (up_max _)) rfl ?_
  refine na_1 (q := 111) (one_d (so_aload_n (M := np_M173) (pc := 110) dL_areDirections_110 rfl) (up_aload _ _)) rfl ?_
  refine na_1 (q := 112) (one_d (so_iload_n (M := np_M173) (pc := 111) dL_areDirections_111 rfl) (up_iload _ _)) rfl ?_
  refine na_3 (q := 115) (one_c rfl mq_90 hl_173 rfl (sc_V (M := np_M173) (pc := 112) dL_areDirections_112 cw_L_areDirections_X7_cubesOf rfl wd_966 wd_967 wd_968 (nv_rcO (ci := 5) rfl))) rfl ?_
  refine na_3 (q := 118) (one_d (so_cgt (M := np_M173) (pc := 115) dL_areDirections_115 (by decide)) (up_cgt _ _)) rfl ?_
  refine na_2 (q := 120) (one_d (so_iload (M := np_M173) (pc := 118) dL_areDirections_118) (up_iload _ _)) rfl ?_
  refine na_2 (q := 122) (one_d (so_bipush (M := np_M173) (pc := 120) dL_areDirections_120 (by decide)) (up_cst _ _)) rfl ?_
  refine na_2 (q := 124) (one_d (so_iload (M := np_M173) (pc := 122) dL_areDirections_122) (up_iload _ _)) rfl ?_
  refine na_1 (q := 125) (one_d (so_isub (M := np_M173) (pc := 124) dL_areDirections_124) (up_i2 _ _)) rfl ?_
  refine na_3 (q := 128) (one_d (so_min (M := np_M173) (pc := 125) dL_areDirections_125 wd_1199 wd_444 wd_37 cd_min (by decide)) (up_min _)) rfl ?_
  refine na_1 (q := 129) (one_d (so_iconst (M := np_M173) (pc := 128) dL_areDirections_128 (by decide)) (up_cst _ _)) rfl ?_
  refine na_3 (q := 132) (one_d (so_cgt (M := np_M173) (pc := 129) dL_areDirections_129 (by decide)) (up_cgt _ _)) rfl ?_
  refine na_1 (q := 133) (one_d (so_iconst (M := np_M173) (pc := 132) dL_areDirections_132 (by decide)) (up_cst _ _)) rfl ?_
  refine na_3 (q := 136) (one_d (so_goto (M := np_M173) (pc := 133) dL_areDirections_133 (by decide)) (up_goto _)) rfl ?_
  refine na_1 (q := 137) (one_d (so_iconst (M := np_M173) (pc := 136) dL_areDirections_136 (by decide)) (up_cst _ _)) rfl ?_
  refine na_2 (q := 139) (one_d (so_istore (M := np_M173) (pc := 137) dL_areDirections_137 (by decide)) (up_istore _ _)) rfl ?_
  refine na_1 (q := 140) (one_d (so_aload_n (M := np_M173) (pc := 139) dL_areDirections_139 rfl) (up_aload _ _)) rfl ?_
  refine na_1 (q := 141) (one_d (so_iload_n (M := np_M173) (pc := 140) dL_areDirections_140 rfl) (up_iload _ _)) rfl ?_
  refine na_1 (q := 142) (one_d (so_iload_n (M := np_M173) (pc := 141) dL_areDirections_141 rfl) (up_iload _ _)) rfl ?_
  refine na_2 (q := 144) (one_d (so_iload (M := np_M173) (pc := 142) dL_areDirections_142) (up_iload _ _)) rfl ?_
  refine na_1 (q := 145) (one_d (so_iadd (M := np_M173) (pc := 144) dL_areDirections_144) (up_i2 _ _)) rfl ?_
  refine na_1 (q := 146) (one_d (so_iload_n (M := np_M173) (pc := 145) dL_areDirections_145 rfl) (up_iload _ _)) rfl ?_
  refine na_2 (q := 148) (one_d (so_iload (M := np_M173) (pc := 146) dL_areDirections_146) (up_iload _ _)) rfl ?_
  refine na_1 (q := 149) (one_d (so_iadd (M := np_M173) (pc := 148) dL_areDirections_148) (up_i2 _ _)) rfl ?_
  refine na_3 (q := 152) (one_c rfl mq_101 hl_173 rfl (sc_V (M := np_M173) (pc := 149) dL_areDirections_149 cw_L_areDirections_X7_isInReach rfl wd_1174 wd_1175 wd_1176 (nv_rcO (ci := 5) rfl))) rfl ?_
  refine na_2 (q := 154) (one_d (so_iload (M := np_M173) (pc := 152) dL_areDirections_152) (up_iload _ _)) rfl ?_
  refine na_3 (q := 157) (one_d (so_cne (M := np_M173) (pc := 154) dL_areDirections_154 (by decide)) (up_cne _ _)) rfl ?_
  refine na_2 (q := 159) (one_d (so_iload (M := np_M173) (pc := 157) dL_areDirections_157) (up_iload _ _)) rfl ?_
  refine na_3 (q := 162) (one_d (so_sipush (M := np_M173) (pc := 159) dL_areDirections_159 (by decide)) (up_cst _ _)) rfl ?_
  refine na_3 (q := 165) (one_d (so_ceq (M := np_M173) (pc := 162) dL_areDirections_162 (by decide)) (up_ceq _ _)) rfl ?_
  refine na_2 (q := 167) (one_d (so_iload (M := np_M173) (pc := 165) dL_areDirections_165) (up_iload _ _)) rfl ?_
  refine na_2 (q := 169) (one_d (so_iload (M := np_M173) (pc := 167) dL_areDirections_167) (up_iload _ _)) rfl ?_
  refine na_1 (q := 170) (one_d (so_iconst (M := np_M173) (pc := 169) dL_areDirections_169 (by decide)) (up_cst _ _)) rfl ?_
  refine na_1 (q := 171) (one_d (so_iadd (M := np_M173) (pc := 170) dL_areDirections_170) (up_i2 _ _)) rfl ?_
  refine na_2 (q := 173) (one_d (so_bipush (M := np_M173) (pc := 171) dL_areDirections_171 (by decide)) (up_cst _ _)) rfl ?_
  refine na_1 (q := 174) (one_d (so_irem (M := np_M173) (pc := 173) dL_areDirections_173) (up_irem _)) rfl ?_
  refine na_3 (q := 177) (one_d (so_cne (M := np_M173) (pc := 174) dL_areDirections_174 (by decide)) (up_cne _ _)) rfl ?_
  refine na_1 (q := 178) (one_d (so_iconst (M := np_M173) (pc := 177) dL_areDirections_177 (by decide)) (up_cst _ _)) rfl ?_
  refine na_3 (q := 181) (one_d (so_goto (M := np_M173) (pc := 178) dL_areDirections_178 (by decide)) (up_goto _)) rfl ?_
  refine na_1 (q := 182) (one_d (so_iconst (M := np_M173) (pc := 181) dL_areDirections_181 (by decide)) (up_cst _ _)) rfl ?_
  refine na_2 (q := 184) (one_d (so_istore (M := np_M173) (pc := 182) dL_areDirections_182 (by decide)) (up_istore _ _)) rfl ?_
  refine na_3 (q := 187) (one_d (so_iinc (M := np_M173) (pc := 184) dL_areDirections_184 (by decide) (by decide)) (up_iinc _ _ _)) rfl ?_
  refine na_3 (q := 190) (one_d (so_goto (M := np_M173) (pc := 187) dL_areDirections_187 (by decide)) (up_goto _)) rfl ?_
  refine na_3 (q := 193) (one_d (so_iinc (M := np_M173) (pc := 190) dL_areDirections_190 (by decide) (by decide)) (up_iinc _ _ _)) rfl ?_
  refine na_3 (q := 196) (one_d (so_goto (M := np_M173) (pc := 193) dL_areDirections_193 (by decide)) (up_goto _)) rfl ?_
  refine na_2 (q := 198) (one_d (so_iload (M := np_M173) (pc := 196) dL_areDirections_196) (up_iload _ _)) rfl ?_
  refine na_1 (q := 199) (one_d (so_reti (M := np_M173) (pc := 198) dL_areDirections_198 rfl) (up_reti _)) rfl ?_
  exact na_z
theorem hl_174 : np_hls.getD 174 [] = [] := rfl
set_option maxRecDepth 100000 in
set_option maxHeartbeats 4000000 in
theorem ok_174 : nv_all np_M174 174 0 np_c174 := by
  unfold np_c174
  refine na_1 (q := 1) (one_d (so_iconst (M := np_M174) (pc := 0) dL_areRows_0 (by decide)) (up_cst _ _)) rfl ?_
  refine na_1 (q := 2) (one_d (so_istore_n (M := np_M174) (pc := 1) dL_areRows_1 rfl (by decide)) (up_istore _ _)) rfl ?_
  refine na_1 (q := 3) (one_d (so_iconst (M := np_M174) (pc := 2) dL_areRows_2 (by decide)) (up_cst _ _)) rfl ?_
  refine na_1 (q := 4) (one_d (so_istore_n (M := np_M174) (pc := 3) dL_areRows_3 rfl (by decide)) (up_istore _ _)) rfl ?_
  refine na_1 (q := 5) (one_d (so_iconst (M := np_M174) (pc := 4) dL_areRows_4 (by decide)) (up_cst _ _)) rfl ?_
  refine na_1 (q := 6) (one_d (so_istore_n (M := np_M174) (pc := 5) dL_areRows_5 rfl (by decide)) (up_istore _ _)) rfl ?_
  refine na_1 (q := 7) (one_d (so_iload_n (M := np_M174) (pc := 6) dL_areRows_6 rfl) (up_iload _ _)) rfl ?_
  refine na_3 (q := 10) (one_d (so_ifeq (M := np_M174) (pc := 7) dL_areRows_7 (by decide)) (up_ifeq _ _)) rfl ?_
  refine na_1 (q := 11) (one_d (so_iload_n (M := np_M174) (pc := 10) dL_areRows_10 rfl) (up_iload _ _)) rfl ?_
  refine na_2 (q := 13) (one_d (so_bipush (M := np_M174) (pc := 11) dL_areRows_11 (by decide)) (up_cst _ _)) rfl ?_
  refine na_3 (q := 16) (one_d (so_cge (M := np_M174) (pc := 13) dL_areRows_13 (by decide)) (up_cge _ _)) rfl ?_
  refine na_1 (q := 17) (one_d (so_aload_n (M := np_M174) (pc := 16) dL_areRows_16 rfl) (up_aload _ _)) rfl ?_
  refine na_1 (q := 18) (one_d (so_iload_n (M := np_M174) (pc := 17) dL_areRows_17 rfl) (up_iload _ _)) rfl ?_
  refine na_3 (q := 21) (one_c rfl mq_115 hl_174 rfl (sc_V (M := np_M174) (pc := 18) dL_areRows_18 cw_L_areRows_X7_describeRow rfl wd_1097 wd_1098 wd_1099 (nv_rcO (ci := 5) rfl))) rfl ?_
  refine na_2 (q := 23) (one_d (so_bipush (M := np_M174) (pc := 21) dL_areRows_21 (by decide)) (up_cst _ _)) rfl ?_
  refine na_3 (q := 26) (one_d (so_cne (M := np_M174) (pc := 23) dL_areRows_23 (by decide)) (up_cne _ _)) rfl ?_
  refine na_1 (q := 27) (one_d (so_iconst (M := np_M174) (pc := 26) dL_areRows_26 (by decide)) (up_cst _ _)) rfl ?_
  refine na_3 (q := 30) (one_d (so_goto (M := np_M174) (pc := 27) dL_areRows_27 (by decide)) (up_goto _)) rfl ?_
  refine na_1 (q := 31) (one_d (so_iconst (M := np_M174) (pc := 30) dL_areRows_30 (by decide)) (up_cst _ _)) rfl ?_
  refine na_1 (q := 32) (one_d (so_istore_n (M := np_M174) (pc := 31) dL_areRows_31 rfl (by decide)) (up_istore _ _)) rfl ?_
  refine na_1 (q := 33) (one_d (so_iconst (M := np_M174) (pc := 32) dL_areRows_32 (by decide)) (up_cst _ _)) rfl ?_
  refine na_2 (q := 35) (one_d (so_istore (M := np_M174) (pc := 33) dL_areRows_33 (by decide)) (up_istore _ _)) rfl ?_
  refine na_1 (q := 36) (one_d (so_iload_n (M := np_M174) (pc := 35) dL_areRows_35 rfl) (up_iload _ _)) rfl ?_
  refine na_3 (q := 39) (one_d (so_ifeq (M := np_M174) (pc := 36) dL_areRows_36 (by decide)) (up_ifeq _ _)) rfl ?_
  refine na_2 (q := 41) (one_d (so_iload (M := np_M174) (pc := 39) dL_areRows_39) (up_iload _ _)) rfl ?_
  refine na_2 (q := 43) (one_d (so_bipush (M := np_M174) (pc := 41) dL_areRows_41 (by decide)) (up_cst _ _)) rfl ?_
  refine na_3 (q := 46) (one_d (so_cge (M := np_M174) (pc := 43) dL_areRows_43 (by decide)) (up_cge _ _)) rfl ?_
  refine na_1 (q := 47) (one_d (so_aload_n (M := np_M174) (pc := 46) dL_areRows_46 rfl) (up_aload _ _)) rfl ?_
  refine na_2 (q := 49) (one_d (so_iload (M := np_M174) (pc := 47) dL_areRows_47) (up_iload _ _)) rfl ?_
  refine na_1 (q := 50) (one_d (so_iload_n (M := np_M174) (pc := 49) dL_areRows_49 rfl) (up_iload _ _)) rfl ?_
  refine na_3 (q := 53) (one_c rfl mq_153 hl_174 rfl (sc_SX (M := np_M174) (pc := 50) dL_areRows_50 (by decide) hd_L_spoonAt wd_22 ⟨by decide, by decide, by decide +kernel⟩ (by decide) (by decide) wd_1111 wd_1112)) rfl ?_
  refine na_2 (q := 55) (one_d (so_istore (M := np_M174) (pc := 53) dL_areRows_53 (by decide)) (up_istore _ _)) rfl ?_
  refine na_1 (q := 56) (one_d (so_iload_n (M := np_M174) (pc := 55) dL_areRows_55 rfl) (up_iload _ _)) rfl ?_
  refine na_2 (q := 58) (one_d (so_iload (M := np_M174) (pc := 56) dL_areRows_56) (up_iload _ _)) rfl ?_
  refine na_3 (q := 61) (one_d (so_sipush (M := np_M174) (pc := 58) dL_areRows_58 (by decide)) (up_cst _ _)) rfl ?_
  refine na_3 (q := 64) (one_d (so_cne (M := np_M174) (pc := 61) dL_areRows_61 (by decide)) (up_cne _ _)) rfl ?_
  refine na_1 (q := 65) (one_d (so_iconst (M := np_M174) (pc := 64) dL_areRows_64 (by decide)) (up_cst _ _)) rfl ?_
  refine na_3 (q := 68) (one_d (so_goto (M := np_M174) (pc := 65) dL_areRows_65 (by decide)) (up_goto _)) rfl ?_
  refine na_1 (q := 69) (one_d (so_iconst (M := np_M174) (pc := 68) dL_areRows_68 (by decide)) (up_cst _ _)) rfl ?_
  refine na_1 (q := 70) (one_d (so_iadd (M := np_M174) (pc := 69) dL_areRows_69) (up_i2 _ _)) rfl ?_
  refine na_1 (q := 71) (one_d (so_istore_n (M := np_M174) (pc := 70) dL_areRows_70 rfl (by decide)) (up_istore _ _)) rfl ?_
  refine na_1 (q := 72) (one_d (so_aload_n (M := np_M174) (pc := 71) dL_areRows_71 rfl) (up_aload _ _)) rfl ?_
  refine na_2 (q := 74) (one_d (so_iload (M := np_M174) (pc := 72) dL_areRows_72) (up_iload _ _)) rfl ?_
  refine na_3 (q := 77) (one_c rfl mq_116 hl_174 rfl (sc_V (M := np_M174) (pc := 74) dL_areRows_74 cw_L_areRows_X7_lineAt rfl wd_1119 wd_1120 wd_1121 (nv_rcO (ci := 5) rfl))) rfl ?_
  refine na_2 (q := 79) (one_d (so_iload (M := np_M174) (pc := 77) dL_areRows_77) (up_iload _ _)) rfl ?_
  refine na_3 (q := 82) (one_d (so_sipush (M := np_M174) (pc := 79) dL_areRows_79 (by decide)) (up_cst _ _)) rfl ?_
  refine na_3 (q := 85) (one_d (so_cne (M := np_M174) (pc := 82) dL_areRows_82 (by decide)) (up_cne _ _)) rfl ?_
  refine na_2 (q := 87) (one_d (so_bipush (M := np_M174) (pc := 85) dL_areRows_85 (by decide)) (up_cst _ _)) rfl ?_
  refine na_3 (q := 90) (one_d (so_goto (M := np_M174) (pc := 87) dL_areRows_87 (by decide)) (up_goto _)) rfl ?_
  refine na_1 (q := 91) (one_d (so_aload_n (M := np_M174) (pc := 90) dL_areRows_90 rfl) (up_aload _ _)) rfl ?_
  refine na_2 (q := 93) (one_d (so_iload (M := np_M174) (pc := 91) dL_areRows_91) (up_iload _ _)) rfl ?_
  refine na_3 (q := 96) (one_c rfl mq_86 hl_174 rfl (sc_V (M := np_M174) (pc := 93) dL_areRows_93 cw_L_areRows_X7_fleetOf rfl wd_988 wd_989 wd_990 (nv_rcO (ci := 5) rfl))) rfl ?_
  refine na_3 (q := 99) (one_d (so_ifne (M := np_M174) (pc := 96) dL_areRows_96 (by decide)) (up_ifne _ _)) rfl ?_
  refine na_2 (q := 101) (one_d (so_bipush (M := np_M174) (pc := 99) dL_areRows_99 (by decide)) (up_cst _ _)) rfl ?_
  refine na_3 (q := 104) (one_d (so_goto (M := np_M174) (pc := 101) dL_areRows_101 (by decide)) (up_goto _)) rfl ?_
  refine na_2 (q := 106) (one_d (so_bipush (M := np_M174) (pc := 104) dL_areRows_104 (by decide)) (up_cst _ _)) rfl ?_
  refine na_2 (q := 108) (one_d (so_iload (M := np_M174) (pc := 106) dL_areRows_106) (up_iload _ _)) rfl ?_
  refine na_1 (q := 109) (one_d (so_iadd (M := np_M174) (pc := 108) dL_areRows_108) (up_i2 _ _)) rfl ?_
  refine na_1 (q := 110) (one_d (so_i2c (M := np_M174) (pc := 109) dL_areRows_109) (up_i2c _)) rfl ?_
  refine na_3 (q := 113) (one_d (so_cne (M := np_M174) (pc := 110) dL_areRows_110 (by decide)) (up_cne _ _)) rfl ?_
  refine na_1 (q := 114) (one_d (so_iconst (M := np_M174) (pc := 113) dL_areRows_113 (by decide)) (up_cst _ _)) rfl ?_
  refine na_3 (q := 117) (one_d (so_goto (M := np_M174) (pc := 114) dL_areRows_114 (by decide)) (up_goto _)) rfl ?_
  refine na_1 (q := 118) (one_d (so_iconst (M := np_M174) (pc := 117) dL_areRows_117 (by decide)) (up_cst _ _)) rfl ?_
  refine na_1 (q := 119) (one_d (so_istore_n (M := np_M174) (pc := 118) dL_areRows_118 rfl (by decide)) (up_istore _ _)) rfl ?_
  refine na_3 (q := 122) (one_d (so_iinc (M := np_M174) (pc := 119) dL_areRows_119 (by decide) (by decide)) (up_iinc _ _ _)) rfl ?_
  refine na_3 (q := 125) (one_d (so_goto (M := np_M174) (pc := 122) dL_areRows_122 (by decide)) (up_goto _)) rfl ?_
  refine na_3 (q := 128) (one_d (so_iinc (M := np_M174) (pc := 125) dL_areRows_125 (by decide) (by decide)) (up_iinc _ _ _)) rfl ?_
  refine na_3 (q := 131) (one_d (so_goto (M := np_M174) (pc := 128) dL_areRows_128 (by decide)) (up_goto _)) rfl ?_
  refine na_1 (q := 132) (one_d (so_iconst (M := np_M174) (pc := 131) dL_areRows_131 (by decide)) (up_cst _ _)) rfl ?_
  refine na_1 (q := 133) (one_d (so_istore_n (M := np_M174) (pc := 132) dL_areRows_132 rfl (by decide)) (up_istore _ _)) rfl ?_
  refine na_1 (q := 134) (one_d (so_iload_n (M := np_M174) (pc := 133) dL_areRows_133 rfl) (up_iload _ _)) rfl ?_
  refine na_3 (q := 137) (one_d (so_ifeq (M := np_M174) (pc := 134) dL_areRows_134 (by decide)) (up_ifeq _ _)) rfl ?_
  refine na_1 (q := 138) (one_d (so_iload_n (M := np_M174) (pc := 137) dL_areRows_137 rfl) (up_iload _ _)) rfl ?_
  refine na_1 (q := 139) (one_d (so_iload_n (M := np_M174) (pc := 138) dL_areRows_138 rfl) (up_iload _ _)) rfl ?_
  refine na_3 (q := 142) (one_d (so_cge (M := np_M174) (pc := 139) dL_areRows_139 (by decide)) (up_cge _ _)) rfl ?_
  refine na_1 (q := 143) (one_d (so_aload_n (M := np_M174) (pc := 142) dL_areRows_142 rfl) (up_aload _ _)) rfl ?_
  refine na_1 (q := 144) (one_d (so_iload_n (M := np_M174) (pc := 143) dL_areRows_143 rfl) (up_iload _ _)) rfl ?_
  refine na_1 (q := 145) (one_d (so_iconst (M := np_M174) (pc := 144) dL_areRows_144 (by decide)) (up_cst _ _)) rfl ?_
  refine na_1 (q := 146) (one_d (so_isub (M := np_M174) (pc := 145) dL_areRows_145) (up_i2 _ _)) rfl ?_
  refine na_3 (q := 149) (one_c rfl mq_156 hl_174 rfl (sc_SX (M := np_M174) (pc := 146) dL_areRows_146 (by decide) hd_L_spoonAtRank wd_22 ⟨by decide, by decide, by decide +kernel⟩ (by decide) (by decide) wd_1124 wd_1125)) rfl ?_
  refine na_2 (q := 151) (one_d (so_istore (M := np_M174) (pc := 149) dL_areRows_149 (by decide)) (up_istore _ _)) rfl ?_
  refine na_1 (q := 152) (one_d (so_aload_n (M := np_M174) (pc := 151) dL_areRows_151 rfl) (up_aload _ _)) rfl ?_
  refine na_1 (q := 153) (one_d (so_iload_n (M := np_M174) (pc := 152) dL_areRows_152 rfl) (up_iload _ _)) rfl ?_
  refine na_3 (q := 156) (one_c rfl mq_156 hl_174 rfl (sc_SX (M := np_M174) (pc := 153) dL_areRows_153 (by decide) hd_L_spoonAtRank wd_22 ⟨by decide, by decide, by decide +kernel⟩ (by decide) (by decide) wd_1124 wd_1125)) rfl ?_
  refine na_2 (q := 158) (one_d (so_istore (M := np_M174) (pc := 156) dL_areRows_156 (by decide)) (up_istore _ _)) rfl ?_
  refine na_1 (q := 159) (one_d (so_aload_n (M := np_M174) (pc := 158) dL_areRows_158 rfl) (up_aload _ _)) rfl ?_
  refine na_2 (q := 161) (one_d (so_iload (M := np_M174) (pc := 159) dL_areRows_159) (up_iload _ _)) rfl ?_
  refine na_3 (q := 164) (one_c rfl mq_90 hl_174 rfl (sc_V (M := np_M174) (pc := 161) dL_areRows_161 cw_L_areRows_X7_cubesOf rfl wd_966 wd_967 wd_968 (nv_rcO (ci := 5) rfl))) rfl ?_
  refine na_1 (q := 165) (one_d (so_aload_n (M := np_M174) (pc := 164) dL_areRows_164 rfl) (up_aload _ _)) rfl ?_
  refine na_2 (q := 167) (one_d (so_iload (M := np_M174) (pc := 165) dL_areRows_165) (up_iload _ _)) rfl ?_
  refine na_3 (q := 170) (one_c rfl mq_90 hl_174 rfl (sc_V (M := np_M174) (pc := 167) dL_areRows_167 cw_L_areRows_X7_cubesOf rfl wd_966 wd_967 wd_968 (nv_rcO (ci := 5) rfl))) rfl ?_
  refine na_1 (q := 171) (one_d (so_isub (M := np_M174) (pc := 170) dL_areRows_170) (up_i2 _ _)) rfl ?_
  refine na_2 (q := 173) (one_d (so_istore (M := np_M174) (pc := 171) dL_areRows_171 (by decide)) (up_istore _ _)) rfl ?_
  refine na_1 (q := 174) (one_d (so_aload_n (M := np_M174) (pc := 173) dL_areRows_173 rfl) (up_aload _ _)) rfl ?_
  refine na_2 (q := 176) (one_d (so_iload (M := np_M174) (pc := 174) dL_areRows_174) (up_iload _ _)) rfl ?_
  refine na_3 (q := 179) (one_c rfl mq_91 hl_174 rfl (sc_V (M := np_M174) (pc := 176) dL_areRows_176 cw_L_areRows_X7_hullOf rfl wd_984 wd_985 wd_986 (nv_rcO (ci := 5) rfl))) rfl ?_
  refine na_1 (q := 180) (one_d (so_aload_n (M := np_M174) (pc := 179) dL_areRows_179 rfl) (up_aload _ _)) rfl ?_
  refine na_2 (q := 182) (one_d (so_iload (M := np_M174) (pc := 180) dL_areRows_180) (up_iload _ _)) rfl ?_
  refine na_3 (q := 185) (one_c rfl mq_91 hl_174 rfl (sc_V (M := np_M174) (pc := 182) dL_areRows_182 cw_L_areRows_X7_hullOf rfl wd_984 wd_985 wd_986 (nv_rcO (ci := 5) rfl))) rfl ?_
  refine na_1 (q := 186) (one_d (so_isub (M := np_M174) (pc := 185) dL_areRows_185) (up_i2 _ _)) rfl ?_
  refine na_2 (q := 188) (one_d (so_istore (M := np_M174) (pc := 186) dL_areRows_186 (by decide)) (up_istore _ _)) rfl ?_
  refine na_2 (q := 190) (one_d (so_iload (M := np_M174) (pc := 188) dL_areRows_188) (up_iload _ _)) rfl ?_
  refine na_3 (q := 193) (one_d (so_ifgt (M := np_M174) (pc := 190) dL_areRows_190 (by decide)) (up_ifgt _ _)) rfl ?_
  refine na_2 (q := 195) (one_d (so_iload (M := np_M174) (pc := 193) dL_areRows_193) (up_iload _ _)) rfl ?_
  refine na_3 (q := 198) (one_d (so_ifne (M := np_M174) (pc := 195) dL_areRows_195 (by decide)) (up_ifne _ _)) rfl ?_
  refine na_2 (q := 200) (one_d (so_iload (M := np_M174) (pc := 198) dL_areRows_198) (up_iload _ _)) rfl ?_
  refine na_3 (q := 203) (one_d (so_ifgt (M := np_M174) (pc := 200) dL_areRows_200 (by decide)) (up_ifgt _ _)) rfl ?_
  refine na_2 (q := 205) (one_d (so_iload (M := np_M174) (pc := 203) dL_areRows_203) (up_iload _ _)) rfl ?_
  refine na_3 (q := 208) (one_d (so_ifne (M := np_M174) (pc := 205) dL_areRows_205 (by decide)) (up_ifne _ _)) rfl ?_
  refine na_2 (q := 210) (one_d (so_iload (M := np_M174) (pc := 208) dL_areRows_208) (up_iload _ _)) rfl ?_
  refine na_2 (q := 212) (one_d (so_iload (M := np_M174) (pc := 210) dL_areRows_210) (up_iload _ _)) rfl ?_
  refine na_3 (q := 215) (one_d (so_cge (M := np_M174) (pc := 212) dL_areRows_212 (by decide)) (up_cge _ _)) rfl ?_
  refine na_1 (q := 216) (one_d (so_iconst (M := np_M174) (pc := 215) dL_areRows_215 (by decide)) (up_cst _ _)) rfl ?_
  refine na_3 (q := 219) (one_d (so_goto (M := np_M174) (pc := 216) dL_areRows_216 (by decide)) (up_goto _)) rfl ?_
  refine na_1 (q := 220) (one_d (so_iconst (M := np_M174) (pc := 219) dL_areRows_219 (by decide)) (up_cst _ _)) rfl ?_
  refine na_1 (q := 221) (one_d (so_istore_n (M := np_M174) (pc := 220) dL_areRows_220 rfl (by decide)) (up_istore _ _)) rfl ?_
  refine na_3 (q := 224) (one_d (so_iinc (M := np_M174) (pc := 221) dL_areRows_221 (by decide) (by decide)) (up_iinc _ _ _)) rfl ?_
  refine na_3 (q := 227) (one_d (so_goto (M := np_M174) (pc := 224) dL_areRows_224 (by decide)) (up_goto _)) rfl ?_
  refine na_1 (q := 228) (one_d (so_iload_n (M := np_M174) (pc := 227) dL_areRows_227 rfl) (up_iload _ _)) rfl ?_
  refine na_3 (q := 231) (one_d (so_ifeq (M := np_M174) (pc := 228) dL_areRows_228 (by decide)) (up_ifeq _ _)) rfl ?_
  refine na_1 (q := 232) (one_d (so_iload_n (M := np_M174) (pc := 231) dL_areRows_231 rfl) (up_iload _ _)) rfl ?_
  refine na_1 (q := 233) (one_d (so_aload_n (M := np_M174) (pc := 232) dL_areRows_232 rfl) (up_aload _ _)) rfl ?_
  refine na_1 (q := 234) (one_d (so_iconst (M := np_M174) (pc := 233) dL_areRows_233 (by decide)) (up_cst _ _)) rfl ?_
  refine na_3 (q := 237) (one_c rfl mq_97 hl_174 rfl (sc_V (M := np_M174) (pc := 234) dL_areRows_234 cw_L_areRows_X7_floating rfl wd_1006 wd_1007 wd_1008 (nv_rcO (ci := 5) rfl))) rfl ?_
  refine na_1 (q := 238) (one_d (so_aload_n (M := np_M174) (pc := 237) dL_areRows_237 rfl) (up_aload _ _)) rfl ?_
  refine na_1 (q := 239) (one_d (so_iconst (M := np_M174) (pc := 238) dL_areRows_238 (by decide)) (up_cst _ _)) rfl ?_
  refine na_3 (q := 242) (one_c rfl mq_97 hl_174 rfl (sc_V (M := np_M174) (pc := 239) dL_areRows_239 cw_L_areRows_X7_floating rfl wd_1006 wd_1007 wd_1008 (nv_rcO (ci := 5) rfl))) rfl ?_
  refine na_1 (q := 243) (one_d (so_iadd (M := np_M174) (pc := 242) dL_areRows_242) (up_i2 _ _)) rfl ?_
  refine na_3 (q := 246) (one_d (so_cne (M := np_M174) (pc := 243) dL_areRows_243 (by decide)) (up_cne _ _)) rfl ?_
  refine na_1 (q := 247) (one_d (so_aload_n (M := np_M174) (pc := 246) dL_areRows_246 rfl) (up_aload _ _)) rfl ?_
  refine na_1 (q := 248) (one_d (so_iload_n (M := np_M174) (pc := 247) dL_areRows_247 rfl) (up_iload _ _)) rfl ?_
  refine na_3 (q := 251) (one_c rfl mq_156 hl_174 rfl (sc_SX (M := np_M174) (pc := 248) dL_areRows_248 (by decide) hd_L_spoonAtRank wd_22 ⟨by decide, by decide, by decide +kernel⟩ (by decide) (by decide) wd_1124 wd_1125)) rfl ?_
  refine na_3 (q := 254) (one_d (so_sipush (M := np_M174) (pc := 251) dL_areRows_251 (by decide)) (up_cst _ _)) rfl ?_
  refine na_3 (q := 257) (one_d (so_cne (M := np_M174) (pc := 254) dL_areRows_254 (by decide)) (up_cne _ _)) rfl ?_
  refine na_1 (q := 258) (one_d (so_aload_n (M := np_M174) (pc := 257) dL_areRows_257 rfl) (up_aload _ _)) rfl ?_
  refine na_1 (q := 259) (one_d (so_iconst (M := np_M174) (pc := 258) dL_areRows_258 (by decide)) (up_cst _ _)) rfl ?_
  refine na_3 (q := 262) (one_c rfl mq_156 hl_174 rfl (sc_SX (M := np_M174) (pc := 259) dL_areRows_259 (by decide) hd_L_spoonAtRank wd_22 ⟨by decide, by decide, by decide +kernel⟩ (by decide) (by decide) wd_1124 wd_1125)) rfl ?_
  refine na_3 (q := 265) (one_d (so_sipush (M := np_M174) (pc := 262) dL_areRows_262 (by decide)) (up_cst _ _)) rfl ?_
  refine na_3 (q := 268) (one_d (so_cne (M := np_M174) (pc := 265) dL_areRows_265 (by decide)) (up_cne _ _)) rfl ?_
  refine na_1 (q := 269) (one_d (so_iconst (M := np_M174) (pc := 268) dL_areRows_268 (by decide)) (up_cst _ _)) rfl ?_
  refine na_3 (q := 272) (one_d (so_goto (M := np_M174) (pc := 269) dL_areRows_269 (by decide)) (up_goto _)) rfl ?_
  refine na_1 (q := 273) (one_d (so_iconst (M := np_M174) (pc := 272) dL_areRows_272 (by decide)) (up_cst _ _)) rfl ?_
  refine na_1 (q := 274) (one_d (so_reti (M := np_M174) (pc := 273) dL_areRows_273 rfl) (up_reti _)) rfl ?_
  exact na_z
theorem hl_175 : np_hls.getD 175 [] = [] := rfl
set_option maxRecDepth 100000 in
set_option maxHeartbeats 4000000 in
theorem ok_175 : nv_all np_M175 175 0 np_c175 := by
  unfold np_c175
  refine na_1 (q := 1) (one_d (so_aload_n (M := np_M175) (pc := 0) dL_isSailed_0 rfl) (up_aload _ _)) rfl ?_
  refine na_3 (q := 4) (one_c rfl mq_169 hl_175 rfl (sc_S (M := np_M175) (pc := 1) dL_isSailed_1 cw_L_isSailed_L_digest wd_888 wd_889)) rfl ?_
  refine na_1 (q := 5) (one_d (so_lstore_n (M := np_M175) (pc := 4) dL_isSailed_4 rfl (by decide)) (up_lstore _ _)) rfl ?_
  refine na_1 (q := 6) (one_d (so_aload_n (M := np_M175) (pc := 5) dL_isSailed_5 rfl) (up_aload _ _)) rfl ?_
  refine na_1 (q := 7) (one_d (so_iload_n (M := np_M175) (pc := 6) dL_isSailed_6 rfl) (up_iload _ _)) rfl ?_
  refine na_3 (q := 10) (one_c rfl mq_159 hl_175 rfl (sc_SX (M := np_M175) (pc := 7) dL_isSailed_7 (by decide) hd_L_cellsAhead wd_22 ⟨by decide, by decide, by decide +kernel⟩ (by decide) (by decide) wd_1156 wd_1157)) rfl ?_
  refine na_2 (q := 12) (one_d (so_istore (M := np_M175) (pc := 10) dL_isSailed_10 (by decide)) (up_istore _ _)) rfl ?_
  refine na_1 (q := 13) (one_d (so_aload_n (M := np_M175) (pc := 12) dL_isSailed_12 rfl) (up_aload _ _)) rfl ?_
  refine na_1 (q := 14) (one_d (so_iload_n (M := np_M175) (pc := 13) dL_isSailed_13 rfl) (up_iload _ _)) rfl ?_
  refine na_3 (q := 17) (one_c rfl mq_151 hl_175 rfl (sc_SX (M := np_M175) (pc := 14) dL_isSailed_14 (by decide) hd_L_xOf wd_22 ⟨by decide, by decide, by decide +kernel⟩ (by decide) (by decide) wd_852 wd_853)) rfl ?_
  refine na_2 (q := 19) (one_d (so_istore (M := np_M175) (pc := 17) dL_isSailed_17 (by decide)) (up_istore _ _)) rfl ?_
  refine na_1 (q := 20) (one_d (so_aload_n (M := np_M175) (pc := 19) dL_isSailed_19 rfl) (up_aload _ _)) rfl ?_
  refine na_1 (q := 21) (one_d (so_iload_n (M := np_M175) (pc := 20) dL_isSailed_20 rfl) (up_iload _ _)) rfl ?_
  refine na_3 (q := 24) (one_c rfl mq_152 hl_175 rfl (sc_SX (M := np_M175) (pc := 21) dL_isSailed_21 (by decide) hd_L_yOf wd_22 ⟨by decide, by decide, by decide +kernel⟩ (by decide) (by decide) wd_872 wd_873)) rfl ?_
  refine na_2 (q := 26) (one_d (so_istore (M := np_M175) (pc := 24) dL_isSailed_24 (by decide)) (up_istore _ _)) rfl ?_
  refine na_1 (q := 27) (one_d (so_aload_n (M := np_M175) (pc := 26) dL_isSailed_26 rfl) (up_aload _ _)) rfl ?_
  refine na_3 (q := 30) (one_c rfl mq_146 hl_175 rfl (sc_SX (M := np_M175) (pc := 27) dL_isSailed_27 (by decide) hd_L_actionsLeft wd_22 ⟨by decide, by decide, by decide +kernel⟩ (by decide) (by decide) wd_942 wd_943)) rfl ?_
  refine na_2 (q := 32) (one_d (so_istore (M := np_M175) (pc := 30) dL_isSailed_30 (by decide)) (up_istore _ _)) rfl ?_
  refine na_1 (q := 33) (one_d (so_aload_n (M := np_M175) (pc := 32) dL_isSailed_32 rfl) (up_aload _ _)) rfl ?_
  refine na_3 (q := 36) (one_c rfl mq_110 hl_175 rfl (sc_V (M := np_M175) (pc := 33) dL_isSailed_33 cw_L_isSailed_X7_cellsSailed rfl wd_907 wd_908 wd_909 (nv_rcO (ci := 5) rfl))) rfl ?_
  refine na_2 (q := 38) (one_d (so_lstore (M := np_M175) (pc := 36) dL_isSailed_36 (by decide)) (up_lstore _ _)) rfl ?_
  refine na_1 (q := 39) (one_d (so_aload_n (M := np_M175) (pc := 38) dL_isSailed_38 rfl) (up_aload _ _)) rfl ?_
  refine na_1 (q := 40) (one_d (so_iload_n (M := np_M175) (pc := 39) dL_isSailed_39 rfl) (up_iload _ _)) rfl ?_
  refine na_3 (q := 43) (one_c rfl mq_90 hl_175 rfl (sc_V (M := np_M175) (pc := 40) dL_isSailed_40 cw_L_isSailed_X7_cubesOf rfl wd_966 wd_967 wd_968 (nv_rcO (ci := 5) rfl))) rfl ?_
  refine na_2 (q := 45) (one_d (so_istore (M := np_M175) (pc := 43) dL_isSailed_43 (by decide)) (up_istore _ _)) rfl ?_
  refine na_1 (q := 46) (one_d (so_aload_n (M := np_M175) (pc := 45) dL_isSailed_45 rfl) (up_aload _ _)) rfl ?_
  refine na_1 (q := 47) (one_d (so_iload_n (M := np_M175) (pc := 46) dL_isSailed_46 rfl) (up_iload _ _)) rfl ?_
  refine na_1 (q := 48) (one_d (so_iconst (M := np_M175) (pc := 47) dL_isSailed_47 (by decide)) (up_cst _ _)) rfl ?_
  refine na_1 (q := 49) (one_d (so_iload_n (M := np_M175) (pc := 48) dL_isSailed_48 rfl) (up_iload _ _)) rfl ?_
  refine na_3 (q := 52) (one_c rfl mq_148 hl_175 rfl (sc_SX (M := np_M175) (pc := 49) dL_isSailed_49 (by decide) hd_L_sail wd_22 ⟨by decide, by decide, by decide +kernel⟩ (by decide) (by decide) wd_845 wd_846)) rfl ?_
  refine na_2 (q := 54) (one_d (so_istore (M := np_M175) (pc := 52) dL_isSailed_52 (by decide)) (up_istore _ _)) rfl ?_
  refine na_2 (q := 56) (one_d (so_iload (M := np_M175) (pc := 54) dL_isSailed_54) (up_iload _ _)) rfl ?_
  refine na_2 (q := 58) (one_d (so_ldc (M := np_M175) (pc := 56) dL_isSailed_56 wd_393) (up_cst _ _)) rfl ?_
  refine na_3 (q := 61) (one_d (so_cne (M := np_M175) (pc := 58) dL_isSailed_58 (by decide)) (up_cne _ _)) rfl ?_
  refine na_2 (q := 63) (one_d (so_iload (M := np_M175) (pc := 61) dL_isSailed_61) (up_iload _ _)) rfl ?_
  refine na_1 (q := 64) (one_d (so_iconst (M := np_M175) (pc := 63) dL_isSailed_63 (by decide)) (up_cst _ _)) rfl ?_
  refine na_3 (q := 67) (one_d (so_clt (M := np_M175) (pc := 64) dL_isSailed_64 (by decide)) (up_clt _ _)) rfl ?_
  refine na_1 (q := 68) (one_d (so_aload_n (M := np_M175) (pc := 67) dL_isSailed_67 rfl) (up_aload _ _)) rfl ?_
  refine na_1 (q := 69) (one_d (so_iload_n (M := np_M175) (pc := 68) dL_isSailed_68 rfl) (up_iload _ _)) rfl ?_
  refine na_3 (q := 72) (one_c rfl mq_92 hl_175 rfl (sc_V (M := np_M175) (pc := 69) dL_isSailed_69 cw_L_isSailed_X7_isSunk rfl wd_1010 wd_1011 wd_1012 (nv_rcO (ci := 5) rfl))) rfl ?_
  refine na_3 (q := 75) (one_d (so_ifne (M := np_M175) (pc := 72) dL_isSailed_72 (by decide)) (up_ifne _ _)) rfl ?_
  refine na_1 (q := 76) (one_d (so_aload_n (M := np_M175) (pc := 75) dL_isSailed_75 rfl) (up_aload _ _)) rfl ?_
  refine na_3 (q := 79) (one_c rfl mq_145 hl_175 rfl (sc_SX (M := np_M175) (pc := 76) dL_isSailed_76 (by decide) hd_L_activeFleet wd_22 ⟨by decide, by decide, by decide +kernel⟩ (by decide) (by decide) wd_928 wd_929)) rfl ?_
  refine na_1 (q := 80) (one_d (so_aload_n (M := np_M175) (pc := 79) dL_isSailed_79 rfl) (up_aload _ _)) rfl ?_
  refine na_1 (q := 81) (one_d (so_iload_n (M := np_M175) (pc := 80) dL_isSailed_80 rfl) (up_iload _ _)) rfl ?_
  refine na_3 (q := 84) (one_c rfl mq_86 hl_175 rfl (sc_V (M := np_M175) (pc := 81) dL_isSailed_81 cw_L_isSailed_X7_fleetOf rfl wd_988 wd_989 wd_990 (nv_rcO (ci := 5) rfl))) rfl ?_
  refine na_3 (q := 87) (one_d (so_cne (M := np_M175) (pc := 84) dL_isSailed_84 (by decide)) (up_cne _ _)) rfl ?_
  refine na_2 (q := 89) (one_d (so_iload (M := np_M175) (pc := 87) dL_isSailed_87) (up_iload _ _)) rfl ?_
  refine na_3 (q := 92) (one_d (so_ifeq (M := np_M175) (pc := 89) dL_isSailed_89 (by decide)) (up_ifeq _ _)) rfl ?_
  refine na_1 (q := 93) (one_d (so_iload_n (M := np_M175) (pc := 92) dL_isSailed_92 rfl) (up_iload _ _)) rfl ?_
  refine na_3 (q := 96) (one_d (so_ifeq (M := np_M175) (pc := 93) dL_isSailed_93 (by decide)) (up_ifeq _ _)) rfl ?_
  refine na_2 (q := 98) (one_d (so_iload (M := np_M175) (pc := 96) dL_isSailed_96) (up_iload _ _)) rfl ?_
  refine na_3 (q := 101) (one_d (so_ifne (M := np_M175) (pc := 98) dL_isSailed_98 (by decide)) (up_ifne _ _)) rfl ?_
  refine na_1 (q := 102) (one_d (so_aload_n (M := np_M175) (pc := 101) dL_isSailed_101 rfl) (up_aload _ _)) rfl ?_
  refine na_3 (q := 105) (one_c rfl mq_169 hl_175 rfl (sc_S (M := np_M175) (pc := 102) dL_isSailed_102 cw_L_isSailed_L_digest wd_888 wd_889)) rfl ?_
  refine na_1 (q := 106) (one_d (so_lload_n (M := np_M175) (pc := 105) dL_isSailed_105 rfl) (up_lload _ _)) rfl ?_
  refine na_1 (q := 107) (one_d (so_lcmp (M := np_M175) (pc := 106) dL_isSailed_106) (up_lcmp _)) rfl ?_
  refine na_3 (q := 110) (one_d (so_ifne (M := np_M175) (pc := 107) dL_isSailed_107 (by decide)) (up_ifne _ _)) rfl ?_
  refine na_1 (q := 111) (one_d (so_iconst (M := np_M175) (pc := 110) dL_isSailed_110 (by decide)) (up_cst _ _)) rfl ?_
  refine na_3 (q := 114) (one_d (so_goto (M := np_M175) (pc := 111) dL_isSailed_111 (by decide)) (up_goto _)) rfl ?_
  refine na_1 (q := 115) (one_d (so_iconst (M := np_M175) (pc := 114) dL_isSailed_114 (by decide)) (up_cst _ _)) rfl ?_
  refine na_1 (q := 116) (one_d (so_reti (M := np_M175) (pc := 115) dL_isSailed_115 rfl) (up_reti _)) rfl ?_
  refine na_2 (q := 118) (one_d (so_iload (M := np_M175) (pc := 116) dL_isSailed_116) (up_iload _ _)) rfl ?_
  refine na_1 (q := 119) (one_d (so_iconst (M := np_M175) (pc := 118) dL_isSailed_118 (by decide)) (up_cst _ _)) rfl ?_
  refine na_2 (q := 121) (one_d (so_iload (M := np_M175) (pc := 119) dL_isSailed_119) (up_iload _ _)) rfl ?_
  refine na_3 (q := 124) (one_d (so_min (M := np_M175) (pc := 121) dL_isSailed_121 wd_1199 wd_444 wd_37 cd_min (by decide)) (up_min _)) rfl ?_
  refine na_3 (q := 127) (one_d (so_cne (M := np_M175) (pc := 124) dL_isSailed_124 (by decide)) (up_cne _ _)) rfl ?_
  refine na_1 (q := 128) (one_d (so_aload_n (M := np_M175) (pc := 127) dL_isSailed_127 rfl) (up_aload _ _)) rfl ?_
  refine na_1 (q := 129) (one_d (so_iload_n (M := np_M175) (pc := 128) dL_isSailed_128 rfl) (up_iload _ _)) rfl ?_
  refine na_2 (q := 131) (one_d (so_iload (M := np_M175) (pc := 129) dL_isSailed_129) (up_iload _ _)) rfl ?_
  refine na_2 (q := 133) (one_d (so_iload (M := np_M175) (pc := 131) dL_isSailed_131) (up_iload _ _)) rfl ?_
  refine na_3 (q := 136) (one_c rfl mq_176 hl_175 rfl (sc_S (M := np_M175) (pc := 133) dL_isSailed_133 cw_L_isSailed_L_distanceOf wd_1203 wd_1204)) rfl ?_
  refine na_2 (q := 138) (one_d (so_iload (M := np_M175) (pc := 136) dL_isSailed_136) (up_iload _ _)) rfl ?_
  refine na_3 (q := 141) (one_d (so_cne (M := np_M175) (pc := 138) dL_isSailed_138 (by decide)) (up_cne _ _)) rfl ?_
  refine na_1 (q := 142) (one_d (so_aload_n (M := np_M175) (pc := 141) dL_isSailed_141 rfl) (up_aload _ _)) rfl ?_
  refine na_3 (q := 145) (one_c rfl mq_146 hl_175 rfl (sc_SX (M := np_M175) (pc := 142) dL_isSailed_142 (by decide) hd_L_actionsLeft wd_22 ⟨by decide, by decide, by decide +kernel⟩ (by decide) (by decide) wd_942 wd_943)) rfl ?_
  refine na_2 (q := 147) (one_d (so_iload (M := np_M175) (pc := 145) dL_isSailed_145) (up_iload _ _)) rfl ?_
  refine na_1 (q := 148) (one_d (so_iconst (M := np_M175) (pc := 147) dL_isSailed_147 (by decide)) (up_cst _ _)) rfl ?_
  refine na_1 (q := 149) (one_d (so_isub (M := np_M175) (pc := 148) dL_isSailed_148) (up_i2 _ _)) rfl ?_
  refine na_3 (q := 152) (one_d (so_cne (M := np_M175) (pc := 149) dL_isSailed_149 (by decide)) (up_cne _ _)) rfl ?_
  refine na_1 (q := 153) (one_d (so_aload_n (M := np_M175) (pc := 152) dL_isSailed_152 rfl) (up_aload _ _)) rfl ?_
  refine na_3 (q := 156) (one_c rfl mq_110 hl_175 rfl (sc_V (M := np_M175) (pc := 153) dL_isSailed_153 cw_L_isSailed_X7_cellsSailed rfl wd_907 wd_908 wd_909 (nv_rcO (ci := 5) rfl))) rfl ?_
  refine na_2 (q := 158) (one_d (so_lload (M := np_M175) (pc := 156) dL_isSailed_156) (up_lload _ _)) rfl ?_
  refine na_2 (q := 160) (one_d (so_iload (M := np_M175) (pc := 158) dL_isSailed_158) (up_iload _ _)) rfl ?_
  refine na_1 (q := 161) (one_d (so_i2l (M := np_M175) (pc := 160) dL_isSailed_160) (up_i2l _)) rfl ?_
  refine na_1 (q := 162) (one_d (so_ladd (M := np_M175) (pc := 161) dL_isSailed_161) (up_l2 _ _)) rfl ?_
  refine na_1 (q := 163) (one_d (so_lcmp (M := np_M175) (pc := 162) dL_isSailed_162) (up_lcmp _)) rfl ?_
  refine na_3 (q := 166) (one_d (so_ifne (M := np_M175) (pc := 163) dL_isSailed_163 (by decide)) (up_ifne _ _)) rfl ?_
  refine na_1 (q := 167) (one_d (so_aload_n (M := np_M175) (pc := 166) dL_isSailed_166 rfl) (up_aload _ _)) rfl ?_
  refine na_1 (q := 168) (one_d (so_iload_n (M := np_M175) (pc := 167) dL_isSailed_167 rfl) (up_iload _ _)) rfl ?_
  refine na_3 (q := 171) (one_c rfl mq_90 hl_175 rfl (sc_V (M := np_M175) (pc := 168) dL_isSailed_168 cw_L_isSailed_X7_cubesOf rfl wd_966 wd_967 wd_968 (nv_rcO (ci := 5) rfl))) rfl ?_
  refine na_2 (q := 173) (one_d (so_iload (M := np_M175) (pc := 171) dL_isSailed_171) (up_iload _ _)) rfl ?_
  refine na_1 (q := 174) (one_d (so_iload_n (M := np_M175) (pc := 173) dL_isSailed_173 rfl) (up_iload _ _)) rfl ?_
  refine na_3 (q := 177) (one_d (so_ifeq (M := np_M175) (pc := 174) dL_isSailed_174 (by decide)) (up_ifeq _ _)) rfl ?_
  refine na_1 (q := 178) (one_d (so_iconst (M := np_M175) (pc := 177) dL_isSailed_177 (by decide)) (up_cst _ _)) rfl ?_
  refine na_3 (q := 181) (one_d (so_goto (M := np_M175) (pc := 178) dL_isSailed_178 (by decide)) (up_goto _)) rfl ?_
  refine na_1 (q := 182) (one_d (so_iconst (M := np_M175) (pc := 181) dL_isSailed_181 (by decide)) (up_cst _ _)) rfl ?_
  refine na_1 (q := 183) (one_d (so_isub (M := np_M175) (pc := 182) dL_isSailed_182) (up_i2 _ _)) rfl ?_
  refine na_3 (q := 186) (one_d (so_cne (M := np_M175) (pc := 183) dL_isSailed_183 (by decide)) (up_cne _ _)) rfl ?_
  refine na_1 (q := 187) (one_d (so_iload_n (M := np_M175) (pc := 186) dL_isSailed_186 rfl) (up_iload _ _)) rfl ?_
  refine na_3 (q := 190) (one_d (so_ifne (M := np_M175) (pc := 187) dL_isSailed_187 (by decide)) (up_ifne _ _)) rfl ?_
  refine na_1 (q := 191) (one_d (so_aload_n (M := np_M175) (pc := 190) dL_isSailed_190 rfl) (up_aload _ _)) rfl ?_
  refine na_1 (q := 192) (one_d (so_iload_n (M := np_M175) (pc := 191) dL_isSailed_191 rfl) (up_iload _ _)) rfl ?_
  refine na_3 (q := 195) (one_c rfl mq_96 hl_175 rfl (sc_V (M := np_M175) (pc := 192) dL_isSailed_192 cw_L_isSailed_X7_isHidden rfl wd_1147 wd_1148 wd_1149 (nv_rcO (ci := 5) rfl))) rfl ?_
  refine na_3 (q := 198) (one_d (so_ifne (M := np_M175) (pc := 195) dL_isSailed_195 (by decide)) (up_ifne _ _)) rfl ?_
  refine na_1 (q := 199) (one_d (so_aload_n (M := np_M175) (pc := 198) dL_isSailed_198 rfl) (up_aload _ _)) rfl ?_
  refine na_3 (q := 202) (one_c rfl mq_177 hl_175 rfl (sc_S (M := np_M175) (pc := 199) dL_isSailed_199 cw_L_isSailed_L_areKnown wd_1206 wd_1207)) rfl ?_
  refine na_3 (q := 205) (one_d (so_ifeq (M := np_M175) (pc := 202) dL_isSailed_202 (by decide)) (up_ifeq _ _)) rfl ?_
  refine na_1 (q := 206) (one_d (so_aload_n (M := np_M175) (pc := 205) dL_isSailed_205 rfl) (up_aload _ _)) rfl ?_
  refine na_1 (q := 207) (one_d (so_iload_n (M := np_M175) (pc := 206) dL_isSailed_206 rfl) (up_iload _ _)) rfl ?_
  refine na_3 (q := 210) (one_c rfl mq_172 hl_175 rfl (sc_S (M := np_M175) (pc := 207) dL_isSailed_207 cw_L_isSailed_L_isSpoon wd_1144 wd_1145)) rfl ?_
  refine na_3 (q := 213) (one_d (so_ifeq (M := np_M175) (pc := 210) dL_isSailed_210 (by decide)) (up_ifeq _ _)) rfl ?_
  refine na_1 (q := 214) (one_d (so_iconst (M := np_M175) (pc := 213) dL_isSailed_213 (by decide)) (up_cst _ _)) rfl ?_
  refine na_3 (q := 217) (one_d (so_goto (M := np_M175) (pc := 214) dL_isSailed_214 (by decide)) (up_goto _)) rfl ?_
  refine na_1 (q := 218) (one_d (so_iconst (M := np_M175) (pc := 217) dL_isSailed_217 (by decide)) (up_cst _ _)) rfl ?_
  refine na_2 (q := 220) (one_d (so_istore (M := np_M175) (pc := 218) dL_isSailed_218 (by decide)) (up_istore _ _)) rfl ?_
  refine na_2 (q := 222) (one_d (so_iload (M := np_M175) (pc := 220) dL_isSailed_220) (up_iload _ _)) rfl ?_
  refine na_3 (q := 225) (one_d (so_ifeq (M := np_M175) (pc := 222) dL_isSailed_222 (by decide)) (up_ifeq _ _)) rfl ?_
  refine na_1 (q := 226) (one_d (so_aload_n (M := np_M175) (pc := 225) dL_isSailed_225 rfl) (up_aload _ _)) rfl ?_
  refine na_3 (q := 229) (one_c rfl mq_164 hl_175 rfl (sc_SX (M := np_M175) (pc := 226) dL_isSailed_226 (by decide) hd_L_undo wd_22 ⟨by decide, by decide, by decide +kernel⟩ (by decide) (by decide) wd_796 wd_797)) rfl ?_
  refine na_3 (q := 232) (one_d (so_iflt (M := np_M175) (pc := 229) dL_isSailed_229 (by decide)) (up_iflt _ _)) rfl ?_
  refine na_1 (q := 233) (one_d (so_aload_n (M := np_M175) (pc := 232) dL_isSailed_232 rfl) (up_aload _ _)) rfl ?_
  refine na_3 (q := 236) (one_c rfl mq_169 hl_175 rfl (sc_S (M := np_M175) (pc := 233) dL_isSailed_233 cw_L_isSailed_L_digest wd_888 wd_889)) rfl ?_
  refine na_1 (q := 237) (one_d (so_lload_n (M := np_M175) (pc := 236) dL_isSailed_236 rfl) (up_lload _ _)) rfl ?_
  refine na_1 (q := 238) (one_d (so_lcmp (M := np_M175) (pc := 237) dL_isSailed_237) (up_lcmp _)) rfl ?_
  refine na_3 (q := 241) (one_d (so_ifne (M := np_M175) (pc := 238) dL_isSailed_238 (by decide)) (up_ifne _ _)) rfl ?_
  refine na_1 (q := 242) (one_d (so_iconst (M := np_M175) (pc := 241) dL_isSailed_241 (by decide)) (up_cst _ _)) rfl ?_
  refine na_3 (q := 245) (one_d (so_goto (M := np_M175) (pc := 242) dL_isSailed_242 (by decide)) (up_goto _)) rfl ?_
  refine na_1 (q := 246) (one_d (so_iconst (M := np_M175) (pc := 245) dL_isSailed_245 (by decide)) (up_cst _ _)) rfl ?_
  refine na_1 (q := 247) (one_d (so_reti (M := np_M175) (pc := 246) dL_isSailed_246 rfl) (up_reti _)) rfl ?_
  exact na_z
theorem hl_176 : np_hls.getD 176 [] = [] := rfl
set_option maxRecDepth 100000 in
set_option maxHeartbeats 4000000 in
theorem ok_176 : nv_all np_M176 176 0 np_c176 := by
  unfold np_c176
  refine na_1 (q := 1) (one_d (so_aload_n (M := np_M176) (pc := 0) dL_distanceOf_0 rfl) (up_aload _ _)) rfl ?_
  refine na_1 (q := 2) (one_d (so_iload_n (M := np_M176) (pc := 1) dL_distanceOf_1 rfl) (up_iload _ _)) rfl ?_
  refine na_3 (q := 5) (one_c rfl mq_87 hl_176 rfl (sc_V (M := np_M176) (pc := 2) dL_distanceOf_2 cw_L_distanceOf_X7_xOf rfl wd_855 wd_856 wd_857 (nv_rcO (ci := 5) rfl))) rfl ?_
  refine na_1 (q := 6) (one_d (so_iload_n (M := np_M176) (pc := 5) dL_distanceOf_5 rfl) (up_iload _ _)) rfl ?_
  refine na_3 (q := 9) (one_c rfl mq_170 hl_176 rfl (sc_S (M := np_M176) (pc := 6) dL_distanceOf_6 cw_L_distanceOf_L_far wd_1188 wd_1189)) rfl ?_
  refine na_1 (q := 10) (one_d (so_aload_n (M := np_M176) (pc := 9) dL_distanceOf_9 rfl) (up_aload _ _)) rfl ?_
  refine na_1 (q := 11) (one_d (so_iload_n (M := np_M176) (pc := 10) dL_distanceOf_10 rfl) (up_iload _ _)) rfl ?_
  refine na_3 (q := 14) (one_c rfl mq_88 hl_176 rfl (sc_V (M := np_M176) (pc := 11) dL_distanceOf_11 cw_L_distanceOf_X7_yOf rfl wd_875 wd_876 wd_877 (nv_rcO (ci := 5) rfl))) rfl ?_
  refine na_1 (q := 15) (one_d (so_iload_n (M := np_M176) (pc := 14) dL_distanceOf_14 rfl) (up_iload _ _)) rfl ?_
  refine na_3 (q := 18) (one_c rfl mq_170 hl_176 rfl (sc_S (M := np_M176) (pc := 15) dL_distanceOf_15 cw_L_distanceOf_L_far wd_1188 wd_1189)) rfl ?_
  refine na_3 (q := 21) (one_d (so_max (M := np_M176) (pc := 18) dL_distanceOf_18 wd_871 wd_678 wd_37 cd_max (by decide)) (up_max _)) rfl ?_
  refine na_1 (q := 22) (one_d (so_reti (M := np_M176) (pc := 21) dL_distanceOf_21 rfl) (up_reti _)) rfl ?_
  exact na_z
theorem hl_177 : np_hls.getD 177 [] = [] := rfl
set_option maxRecDepth 100000 in
set_option maxHeartbeats 4000000 in
theorem ok_177 : nv_all np_M177 177 0 np_c177 := by
  unfold np_c177
  refine na_1 (q := 1) (one_d (so_iconst (M := np_M177) (pc := 0) dL_areKnown_0 (by decide)) (up_cst _ _)) rfl ?_
  refine na_1 (q := 2) (one_d (so_istore_n (M := np_M177) (pc := 1) dL_areKnown_1 rfl (by decide)) (up_istore _ _)) rfl ?_
  refine na_1 (q := 3) (one_d (so_iconst (M := np_M177) (pc := 2) dL_areKnown_2 (by decide)) (up_cst _ _)) rfl ?_
  refine na_1 (q := 4) (one_d (so_istore_n (M := np_M177) (pc := 3) dL_areKnown_3 rfl (by decide)) (up_istore _ _)) rfl ?_
  refine na_1 (q := 5) (one_d (so_iload_n (M := np_M177) (pc := 4) dL_areKnown_4 rfl) (up_iload _ _)) rfl ?_
  refine na_1 (q := 6) (one_d (so_aload_n (M := np_M177) (pc := 5) dL_areKnown_5 rfl) (up_aload _ _)) rfl ?_
  refine na_3 (q := 9) (one_c rfl mq_85 hl_177 rfl (sc_V (M := np_M177) (pc := 6) dL_areKnown_6 cw_L_areKnown_X7_spoonCount rfl wd_958 wd_959 wd_960 (nv_rcO (ci := 5) rfl))) rfl ?_
  refine na_3 (q := 12) (one_d (so_cge (M := np_M177) (pc := 9) dL_areKnown_9 (by decide)) (up_cge _ _)) rfl ?_
  refine na_1 (q := 13) (one_d (so_iconst (M := np_M177) (pc := 12) dL_areKnown_12 (by decide)) (up_cst _ _)) rfl ?_
  refine na_1 (q := 14) (one_d (so_istore_n (M := np_M177) (pc := 13) dL_areKnown_13 rfl (by decide)) (up_istore _ _)) rfl ?_
  refine na_1 (q := 15) (one_d (so_iload_n (M := np_M177) (pc := 14) dL_areKnown_14 rfl) (up_iload _ _)) rfl ?_
  refine na_3 (q := 18) (one_d (so_ifeq (M := np_M177) (pc := 15) dL_areKnown_15 (by decide)) (up_ifeq _ _)) rfl ?_
  refine na_1 (q := 19) (one_d (so_iload_n (M := np_M177) (pc := 18) dL_areKnown_18 rfl) (up_iload _ _)) rfl ?_
  refine na_1 (q := 20) (one_d (so_aload_n (M := np_M177) (pc := 19) dL_areKnown_19 rfl) (up_aload _ _)) rfl ?_
  refine na_3 (q := 23) (one_c rfl mq_85 hl_177 rfl (sc_V (M := np_M177) (pc := 20) dL_areKnown_20 cw_L_areKnown_X7_spoonCount rfl wd_958 wd_959 wd_960 (nv_rcO (ci := 5) rfl))) rfl ?_
  refine na_3 (q := 26) (one_d (so_cge (M := np_M177) (pc := 23) dL_areKnown_23 (by decide)) (up_cge _ _)) rfl ?_
  refine na_1 (q := 27) (one_d (so_aload_n (M := np_M177) (pc := 26) dL_areKnown_26 rfl) (up_aload _ _)) rfl ?_
  refine na_1 (q := 28) (one_d (so_iload_n (M := np_M177) (pc := 27) dL_areKnown_27 rfl) (up_iload _ _)) rfl ?_
  refine na_1 (q := 29) (one_d (so_iload_n (M := np_M177) (pc := 28) dL_areKnown_28 rfl) (up_iload _ _)) rfl ?_
  refine na_3 (q := 32) (one_c rfl mq_157 hl_177 rfl (sc_SX (M := np_M177) (pc := 29) dL_areKnown_29 (by decide) hd_L_distance wd_22 ⟨by decide, by decide, by decide +kernel⟩ (by decide) (by decide) wd_1179 wd_1180)) rfl ?_
  refine na_2 (q := 34) (one_d (so_istore (M := np_M177) (pc := 32) dL_areKnown_32 (by decide)) (up_istore _ _)) rfl ?_
  refine na_2 (q := 36) (one_d (so_iload (M := np_M177) (pc := 34) dL_areKnown_34) (up_iload _ _)) rfl ?_
  refine na_3 (q := 39) (one_d (so_sipush (M := np_M177) (pc := 36) dL_areKnown_36 (by decide)) (up_cst _ _)) rfl ?_
  refine na_3 (q := 42) (one_d (so_ceq (M := np_M177) (pc := 39) dL_areKnown_39 (by decide)) (up_ceq _ _)) rfl ?_
  refine na_2 (q := 44) (one_d (so_iload (M := np_M177) (pc := 42) dL_areKnown_42) (up_iload _ _)) rfl ?_
  refine na_1 (q := 45) (one_d (so_iconst (M := np_M177) (pc := 44) dL_areKnown_44 (by decide)) (up_cst _ _)) rfl ?_
  refine na_3 (q := 48) (one_d (so_cgt (M := np_M177) (pc := 45) dL_areKnown_45 (by decide)) (up_cgt _ _)) rfl ?_
  refine na_1 (q := 49) (one_d (so_aload_n (M := np_M177) (pc := 48) dL_areKnown_48 rfl) (up_aload _ _)) rfl ?_
  refine na_1 (q := 50) (one_d (so_iload_n (M := np_M177) (pc := 49) dL_areKnown_49 rfl) (up_iload _ _)) rfl ?_
  refine na_3 (q := 53) (one_c rfl mq_86 hl_177 rfl (sc_V (M := np_M177) (pc := 50) dL_areKnown_50 cw_L_areKnown_X7_fleetOf rfl wd_988 wd_989 wd_990 (nv_rcO (ci := 5) rfl))) rfl ?_
  refine na_1 (q := 54) (one_d (so_aload_n (M := np_M177) (pc := 53) dL_areKnown_53 rfl) (up_aload _ _)) rfl ?_
  refine na_1 (q := 55) (one_d (so_iload_n (M := np_M177) (pc := 54) dL_areKnown_54 rfl) (up_iload _ _)) rfl ?_
  refine na_3 (q := 58) (one_c rfl mq_86 hl_177 rfl (sc_V (M := np_M177) (pc := 55) dL_areKnown_55 cw_L_areKnown_X7_fleetOf rfl wd_988 wd_989 wd_990 (nv_rcO (ci := 5) rfl))) rfl ?_
  refine na_3 (q := 61) (one_d (so_ceq (M := np_M177) (pc := 58) dL_areKnown_58 (by decide)) (up_ceq _ _)) rfl ?_
  refine na_1 (q := 62) (one_d (so_aload_n (M := np_M177) (pc := 61) dL_areKnown_61 rfl) (up_aload _ _)) rfl ?_
  refine na_1 (q := 63) (one_d (so_iload_n (M := np_M177) (pc := 62) dL_areKnown_62 rfl) (up_iload _ _)) rfl ?_
  refine na_3 (q := 66) (one_c rfl mq_96 hl_177 rfl (sc_V (M := np_M177) (pc := 63) dL_areKnown_63 cw_L_areKnown_X7_isHidden rfl wd_1147 wd_1148 wd_1149 (nv_rcO (ci := 5) rfl))) rfl ?_
  refine na_3 (q := 69) (one_d (so_ifne (M := np_M177) (pc := 66) dL_areKnown_66 (by decide)) (up_ifne _ _)) rfl ?_
  refine na_1 (q := 70) (one_d (so_iconst (M := np_M177) (pc := 69) dL_areKnown_69 (by decide)) (up_cst _ _)) rfl ?_
  refine na_3 (q := 73) (one_d (so_goto (M := np_M177) (pc := 70) dL_areKnown_70 (by decide)) (up_goto _)) rfl ?_
  refine na_1 (q := 74) (one_d (so_iconst (M := np_M177) (pc := 73) dL_areKnown_73 (by decide)) (up_cst _ _)) rfl ?_
  refine na_1 (q := 75) (one_d (so_istore_n (M := np_M177) (pc := 74) dL_areKnown_74 rfl (by decide)) (up_istore _ _)) rfl ?_
  refine na_3 (q := 78) (one_d (so_iinc (M := np_M177) (pc := 75) dL_areKnown_75 (by decide) (by decide)) (up_iinc _ _ _)) rfl ?_
  refine na_3 (q := 81) (one_d (so_goto (M := np_M177) (pc := 78) dL_areKnown_78 (by decide)) (up_goto _)) rfl ?_
  refine na_3 (q := 84) (one_d (so_iinc (M := np_M177) (pc := 81) dL_areKnown_81 (by decide) (by decide)) (up_iinc _ _ _)) rfl ?_
  refine na_3 (q := 87) (one_d (so_goto (M := np_M177) (pc := 84) dL_areKnown_84 (by decide)) (up_goto _)) rfl ?_
  refine na_1 (q := 88) (one_d (so_iload_n (M := np_M177) (pc := 87) dL_areKnown_87 rfl) (up_iload _ _)) rfl ?_
  refine na_1 (q := 89) (one_d (so_reti (M := np_M177) (pc := 88) dL_areKnown_88 rfl) (up_reti _)) rfl ?_
  exact na_z
theorem hl_178 : np_hls.getD 178 [] = [] := rfl
set_option maxRecDepth 100000 in
set_option maxHeartbeats 4000000 in
theorem ok_178 : nv_all np_M178 178 0 np_c178 := by
  unfold np_c178
  refine na_1 (q := 1) (one_d (so_aload_n (M := np_M178) (pc := 0) dL_isFired_0 rfl) (up_aload _ _)) rfl ?_
  refine na_3 (q := 4) (one_c rfl mq_169 hl_178 rfl (sc_S (M := np_M178) (pc := 1) dL_isFired_1 cw_L_isFired_L_digest wd_888 wd_889)) rfl ?_
  refine na_1 (q := 5) (one_d (so_lstore_n (M := np_M178) (pc := 4) dL_isFired_4 rfl (by decide)) (up_lstore _ _)) rfl ?_
  refine na_1 (q := 6) (one_d (so_aload_n (M := np_M178) (pc := 5) dL_isFired_5 rfl) (up_aload _ _)) rfl ?_
  refine na_1 (q := 7) (one_d (so_iload_n (M := np_M178) (pc := 6) dL_isFired_6 rfl) (up_iload _ _)) rfl ?_
  refine na_3 (q := 10) (one_c rfl mq_151 hl_178 rfl (sc_SX (M := np_M178) (pc := 7) dL_isFired_7 (by decide) hd_L_xOf wd_22 ⟨by decide, by decide, by decide +kernel⟩ (by decide) (by decide) wd_852 wd_853)) rfl ?_
  refine na_2 (q := 12) (one_d (so_istore (M := np_M178) (pc := 10) dL_isFired_10 (by decide)) (up_istore _ _)) rfl ?_
  refine na_1 (q := 13) (one_d (so_aload_n (M := np_M178) (pc := 12) dL_isFired_12 rfl) (up_aload _ _)) rfl ?_
  refine na_1 (q := 14) (one_d (so_iload_n (M := np_M178) (pc := 13) dL_isFired_13 rfl) (up_iload _ _)) rfl ?_
  refine na_3 (q := 17) (one_c rfl mq_152 hl_178 rfl (sc_SX (M := np_M178) (pc := 14) dL_isFired_14 (by decide) hd_L_yOf wd_22 ⟨by decide, by decide, by decide +kernel⟩ (by decide) (by decide) wd_872 wd_873)) rfl ?_
  refine na_2 (q := 19) (one_d (so_istore (M := np_M178) (pc := 17) dL_isFired_17 (by decide)) (up_istore _ _)) rfl ?_
  refine na_2 (q := 21) (one_d (so_iload (M := np_M178) (pc := 19) dL_isFired_19) (up_iload _ _)) rfl ?_
  refine na_3 (q := 24) (one_d (so_sipush (M := np_M178) (pc := 21) dL_isFired_21 (by decide)) (up_cst _ _)) rfl ?_
  refine na_3 (q := 27) (one_d (so_cne (M := np_M178) (pc := 24) dL_isFired_24 (by decide)) (up_cne _ _)) rfl ?_
  refine na_1 (q := 28) (one_d (so_iconst (M := np_M178) (pc := 27) dL_isFired_27 (by decide)) (up_cst _ _)) rfl ?_
  refine na_1 (q := 29) (one_d (so_reti (M := np_M178) (pc := 28) dL_isFired_28 rfl) (up_reti _)) rfl ?_
  refine na_1 (q := 30) (one_d (so_aload_n (M := np_M178) (pc := 29) dL_isFired_29 rfl) (up_aload _ _)) rfl ?_
  refine na_1 (q := 31) (one_d (so_iload_n (M := np_M178) (pc := 30) dL_isFired_30 rfl) (up_iload _ _)) rfl ?_
  refine na_2 (q := 33) (one_d (so_iload (M := np_M178) (pc := 31) dL_isFired_31) (up_iload _ _)) rfl ?_
  refine na_2 (q := 35) (one_d (so_iload (M := np_M178) (pc := 33) dL_isFired_33) (up_iload _ _)) rfl ?_
  refine na_3 (q := 38) (one_c rfl mq_101 hl_178 rfl (sc_V (M := np_M178) (pc := 35) dL_isFired_35 cw_L_isFired_X7_isInReach rfl wd_1174 wd_1175 wd_1176 (nv_rcO (ci := 5) rfl))) rfl ?_
  refine na_2 (q := 40) (one_d (so_istore (M := np_M178) (pc := 38) dL_isFired_38 (by decide)) (up_istore _ _)) rfl ?_
  refine na_1 (q := 41) (one_d (so_aload_n (M := np_M178) (pc := 40) dL_isFired_40 rfl) (up_aload _ _)) rfl ?_
  refine na_3 (q := 44) (one_c rfl mq_146 hl_178 rfl (sc_SX (M := np_M178) (pc := 41) dL_isFired_41 (by decide) hd_L_actionsLeft wd_22 ⟨by decide, by decide, by decide +kernel⟩ (by decide) (by decide) wd_942 wd_943)) rfl ?_
  refine na_2 (q := 46) (one_d (so_istore (M := np_M178) (pc := 44) dL_isFired_44 (by decide)) (up_istore _ _)) rfl ?_
  refine na_1 (q := 47) (one_d (so_aload_n (M := np_M178) (pc := 46) dL_isFired_46 rfl) (up_aload _ _)) rfl ?_
  refine na_1 (q := 48) (one_d (so_iload_n (M := np_M178) (pc := 47) dL_isFired_47 rfl) (up_iload _ _)) rfl ?_
  refine na_3 (q := 51) (one_c rfl mq_90 hl_178 rfl (sc_V (M := np_M178) (pc := 48) dL_isFired_48 cw_L_isFired_X7_cubesOf rfl wd_966 wd_967 wd_968 (nv_rcO (ci := 5) rfl))) rfl ?_
  refine na_2 (q := 53) (one_d (so_istore (M := np_M178) (pc := 51) dL_isFired_51 (by decide)) (up_istore _ _)) rfl ?_
  refine na_1 (q := 54) (one_d (so_aload_n (M := np_M178) (pc := 53) dL_isFired_53 rfl) (up_aload _ _)) rfl ?_
  refine na_1 (q := 55) (one_d (so_iload_n (M := np_M178) (pc := 54) dL_isFired_54 rfl) (up_iload _ _)) rfl ?_
  refine na_3 (q := 58) (one_c rfl mq_91 hl_178 rfl (sc_V (M := np_M178) (pc := 55) dL_isFired_55 cw_L_isFired_X7_hullOf rfl wd_984 wd_985 wd_986 (nv_rcO (ci := 5) rfl))) rfl ?_
  refine na_2 (q := 60) (one_d (so_istore (M := np_M178) (pc := 58) dL_isFired_58 (by decide)) (up_istore _ _)) rfl ?_
  refine na_1 (q := 61) (one_d (so_aload_n (M := np_M178) (pc := 60) dL_isFired_60 rfl) (up_aload _ _)) rfl ?_
  refine na_3 (q := 64) (one_c rfl mq_109 hl_178 rfl (sc_V (M := np_M178) (pc := 61) dL_isFired_61 cw_L_isFired_X7_hitCount rfl wd_902 wd_903 wd_904 (nv_rcO (ci := 5) rfl))) rfl ?_
  refine na_2 (q := 66) (one_d (so_istore (M := np_M178) (pc := 64) dL_isFired_64 (by decide)) (up_istore _ _)) rfl ?_
  refine na_1 (q := 67) (one_d (so_aload_n (M := np_M178) (pc := 66) dL_isFired_66 rfl) (up_aload _ _)) rfl ?_
  refine na_1 (q := 68) (one_d (so_iload_n (M := np_M178) (pc := 67) dL_isFired_67 rfl) (up_iload _ _)) rfl ?_
  refine na_2 (q := 70) (one_d (so_iload (M := np_M178) (pc := 68) dL_isFired_68) (up_iload _ _)) rfl ?_
  refine na_2 (q := 72) (one_d (so_iload (M := np_M178) (pc := 70) dL_isFired_70) (up_iload _ _)) rfl ?_
  refine na_3 (q := 75) (one_c rfl mq_149 hl_178 rfl (sc_SX (M := np_M178) (pc := 72) dL_isFired_72 (by decide) hd_L_fire wd_22 ⟨by decide, by decide, by decide +kernel⟩ (by decide) (by decide) wd_879 wd_880)) rfl ?_
  refine na_2 (q := 77) (one_d (so_istore (M := np_M178) (pc := 75) dL_isFired_75 (by decide)) (up_istore _ _)) rfl ?_
  refine na_2 (q := 79) (one_d (so_iload (M := np_M178) (pc := 77) dL_isFired_77) (up_iload _ _)) rfl ?_
  refine na_2 (q := 81) (one_d (so_ldc (M := np_M178) (pc := 79) dL_isFired_79 wd_393) (up_cst _ _)) rfl ?_
  refine na_3 (q := 84) (one_d (so_cne (M := np_M178) (pc := 81) dL_isFired_81 (by decide)) (up_cne _ _)) rfl ?_
  refine na_2 (q := 86) (one_d (so_iload (M := np_M178) (pc := 84) dL_isFired_84) (up_iload _ _)) rfl ?_
  refine na_3 (q := 89) (one_d (so_ifeq (M := np_M178) (pc := 86) dL_isFired_86 (by decide)) (up_ifeq _ _)) rfl ?_
  refine na_2 (q := 91) (one_d (so_iload (M := np_M178) (pc := 89) dL_isFired_89) (up_iload _ _)) rfl ?_
  refine na_1 (q := 92) (one_d (so_iconst (M := np_M178) (pc := 91) dL_isFired_91 (by decide)) (up_cst _ _)) rfl ?_
  refine na_3 (q := 95) (one_d (so_clt (M := np_M178) (pc := 92) dL_isFired_92 (by decide)) (up_clt _ _)) rfl ?_
  refine na_1 (q := 96) (one_d (so_aload_n (M := np_M178) (pc := 95) dL_isFired_95 rfl) (up_aload _ _)) rfl ?_
  refine na_3 (q := 99) (one_c rfl mq_145 hl_178 rfl (sc_SX (M := np_M178) (pc := 96) dL_isFired_96 (by decide) hd_L_activeFleet wd_22 ⟨by decide, by decide, by decide +kernel⟩ (by decide) (by decide) wd_928 wd_929)) rfl ?_
  refine na_1 (q := 100) (one_d (so_aload_n (M := np_M178) (pc := 99) dL_isFired_99 rfl) (up_aload _ _)) rfl ?_
  refine na_1 (q := 101) (one_d (so_iload_n (M := np_M178) (pc := 100) dL_isFired_100 rfl) (up_iload _ _)) rfl ?_
  refine na_3 (q := 104) (one_c rfl mq_86 hl_178 rfl (sc_V (M := np_M178) (pc := 101) dL_isFired_101 cw_L_isFired_X7_fleetOf rfl wd_988 wd_989 wd_990 (nv_rcO (ci := 5) rfl))) rfl ?_
  refine na_3 (q := 107) (one_d (so_ceq (M := np_M178) (pc := 104) dL_isFired_104 (by decide)) (up_ceq _ _)) rfl ?_
  refine na_1 (q := 108) (one_d (so_aload_n (M := np_M178) (pc := 107) dL_isFired_107 rfl) (up_aload _ _)) rfl ?_
  refine na_3 (q := 111) (one_c rfl mq_169 hl_178 rfl (sc_S (M := np_M178) (pc := 108) dL_isFired_108 cw_L_isFired_L_digest wd_888 wd_889)) rfl ?_
  refine na_1 (q := 112) (one_d (so_lload_n (M := np_M178) (pc := 111) dL_isFired_111 rfl) (up_lload _ _)) rfl ?_
  refine na_1 (q := 113) (one_d (so_lcmp (M := np_M178) (pc := 112) dL_isFired_112) (up_lcmp _)) rfl ?_
  refine na_3 (q := 116) (one_d (so_ifne (M := np_M178) (pc := 113) dL_isFired_113 (by decide)) (up_ifne _ _)) rfl ?_
  refine na_1 (q := 117) (one_d (so_iconst (M := np_M178) (pc := 116) dL_isFired_116 (by decide)) (up_cst _ _)) rfl ?_
  refine na_3 (q := 120) (one_d (so_goto (M := np_M178) (pc := 117) dL_isFired_117 (by decide)) (up_goto _)) rfl ?_
  refine na_1 (q := 121) (one_d (so_iconst (M := np_M178) (pc := 120) dL_isFired_120 (by decide)) (up_cst _ _)) rfl ?_
  refine na_1 (q := 122) (one_d (so_reti (M := np_M178) (pc := 121) dL_isFired_121 rfl) (up_reti _)) rfl ?_
  refine na_2 (q := 124) (one_d (so_iload (M := np_M178) (pc := 122) dL_isFired_122) (up_iload _ _)) rfl ?_
  refine na_3 (q := 127) (one_d (so_ifeq (M := np_M178) (pc := 124) dL_isFired_124 (by decide)) (up_ifeq _ _)) rfl ?_
  refine na_2 (q := 129) (one_d (so_iload (M := np_M178) (pc := 127) dL_isFired_127) (up_iload _ _)) rfl ?_
  refine na_2 (q := 131) (one_d (so_iload (M := np_M178) (pc := 129) dL_isFired_129) (up_iload _ _)) rfl ?_
  refine na_1 (q := 132) (one_d (so_iconst (M := np_M178) (pc := 131) dL_isFired_131 (by decide)) (up_cst _ _)) rfl ?_
  refine na_3 (q := 135) (one_d (so_cne (M := np_M178) (pc := 132) dL_isFired_132 (by decide)) (up_cne _ _)) rfl ?_
  refine na_1 (q := 136) (one_d (so_iconst (M := np_M178) (pc := 135) dL_isFired_135 (by decide)) (up_cst _ _)) rfl ?_
  refine na_3 (q := 139) (one_d (so_goto (M := np_M178) (pc := 136) dL_isFired_136 (by decide)) (up_goto _)) rfl ?_
  refine na_1 (q := 140) (one_d (so_iconst (M := np_M178) (pc := 139) dL_isFired_139 (by decide)) (up_cst _ _)) rfl ?_
  refine na_3 (q := 143) (one_d (so_cne (M := np_M178) (pc := 140) dL_isFired_140 (by decide)) (up_cne _ _)) rfl ?_
  refine na_1 (q := 144) (one_d (so_aload_n (M := np_M178) (pc := 143) dL_isFired_143 rfl) (up_aload _ _)) rfl ?_
  refine na_1 (q := 145) (one_d (so_iload_n (M := np_M178) (pc := 144) dL_isFired_144 rfl) (up_iload _ _)) rfl ?_
  refine na_3 (q := 148) (one_c rfl mq_90 hl_178 rfl (sc_V (M := np_M178) (pc := 145) dL_isFired_145 cw_L_isFired_X7_cubesOf rfl wd_966 wd_967 wd_968 (nv_rcO (ci := 5) rfl))) rfl ?_
  refine na_2 (q := 150) (one_d (so_iload (M := np_M178) (pc := 148) dL_isFired_148) (up_iload _ _)) rfl ?_
  refine na_1 (q := 151) (one_d (so_iconst (M := np_M178) (pc := 150) dL_isFired_150 (by decide)) (up_cst _ _)) rfl ?_
  refine na_1 (q := 152) (one_d (so_isub (M := np_M178) (pc := 151) dL_isFired_151) (up_i2 _ _)) rfl ?_
  refine na_3 (q := 155) (one_d (so_cne (M := np_M178) (pc := 152) dL_isFired_152 (by decide)) (up_cne _ _)) rfl ?_
  refine na_1 (q := 156) (one_d (so_aload_n (M := np_M178) (pc := 155) dL_isFired_155 rfl) (up_aload _ _)) rfl ?_
  refine na_1 (q := 157) (one_d (so_iload_n (M := np_M178) (pc := 156) dL_isFired_156 rfl) (up_iload _ _)) rfl ?_
  refine na_3 (q := 160) (one_c rfl mq_91 hl_178 rfl (sc_V (M := np_M178) (pc := 157) dL_isFired_157 cw_L_isFired_X7_hullOf rfl wd_984 wd_985 wd_986 (nv_rcO (ci := 5) rfl))) rfl ?_
  refine na_2 (q := 162) (one_d (so_iload (M := np_M178) (pc := 160) dL_isFired_160) (up_iload _ _)) rfl ?_
  refine na_1 (q := 163) (one_d (so_iconst (M := np_M178) (pc := 162) dL_isFired_162 (by decide)) (up_cst _ _)) rfl ?_
  refine na_1 (q := 164) (one_d (so_isub (M := np_M178) (pc := 163) dL_isFired_163) (up_i2 _ _)) rfl ?_
  refine na_3 (q := 167) (one_d (so_cne (M := np_M178) (pc := 164) dL_isFired_164 (by decide)) (up_cne _ _)) rfl ?_
  refine na_1 (q := 168) (one_d (so_aload_n (M := np_M178) (pc := 167) dL_isFired_167 rfl) (up_aload _ _)) rfl ?_
  refine na_3 (q := 171) (one_c rfl mq_109 hl_178 rfl (sc_V (M := np_M178) (pc := 168) dL_isFired_168 cw_L_isFired_X7_hitCount rfl wd_902 wd_903 wd_904 (nv_rcO (ci := 5) rfl))) rfl ?_
  refine na_2 (q := 173) (one_d (so_iload (M := np_M178) (pc := 171) dL_isFired_171) (up_iload _ _)) rfl ?_
  refine na_1 (q := 174) (one_d (so_iconst (M := np_M178) (pc := 173) dL_isFired_173 (by decide)) (up_cst _ _)) rfl ?_
  refine na_1 (q := 175) (one_d (so_iadd (M := np_M178) (pc := 174) dL_isFired_174) (up_i2 _ _)) rfl ?_
  refine na_3 (q := 178) (one_d (so_cne (M := np_M178) (pc := 175) dL_isFired_175 (by decide)) (up_cne _ _)) rfl ?_
  refine na_1 (q := 179) (one_d (so_aload_n (M := np_M178) (pc := 178) dL_isFired_178 rfl) (up_aload _ _)) rfl ?_
  refine na_1 (q := 180) (one_d (so_iload_n (M := np_M178) (pc := 179) dL_isFired_179 rfl) (up_iload _ _)) rfl ?_
  refine na_3 (q := 183) (one_c rfl mq_96 hl_178 rfl (sc_V (M := np_M178) (pc := 180) dL_isFired_180 cw_L_isFired_X7_isHidden rfl wd_1147 wd_1148 wd_1149 (nv_rcO (ci := 5) rfl))) rfl ?_
  refine na_3 (q := 186) (one_d (so_ifne (M := np_M178) (pc := 183) dL_isFired_183 (by decide)) (up_ifne _ _)) rfl ?_
  refine na_1 (q := 187) (one_d (so_aload_n (M := np_M178) (pc := 186) dL_isFired_186 rfl) (up_aload _ _)) rfl ?_
  refine na_1 (q := 188) (one_d (so_iload_n (M := np_M178) (pc := 187) dL_isFired_187 rfl) (up_iload _ _)) rfl ?_
  refine na_3 (q := 191) (one_c rfl mq_96 hl_178 rfl (sc_V (M := np_M178) (pc := 188) dL_isFired_188 cw_L_isFired_X7_isHidden rfl wd_1147 wd_1148 wd_1149 (nv_rcO (ci := 5) rfl))) rfl ?_
  refine na_3 (q := 194) (one_d (so_ifne (M := np_M178) (pc := 191) dL_isFired_191 (by decide)) (up_ifne _ _)) rfl ?_
  refine na_1 (q := 195) (one_d (so_aload_n (M := np_M178) (pc := 194) dL_isFired_194 rfl) (up_aload _ _)) rfl ?_
  refine na_3 (q := 198) (one_c rfl mq_171 hl_178 rfl (sc_S (M := np_M178) (pc := 195) dL_isFired_195 cw_L_isFired_L_isGame wd_995 wd_996)) rfl ?_
  refine na_3 (q := 201) (one_d (so_ifeq (M := np_M178) (pc := 198) dL_isFired_198 (by decide)) (up_ifeq _ _)) rfl ?_
  refine na_1 (q := 202) (one_d (so_aload_n (M := np_M178) (pc := 201) dL_isFired_201 rfl) (up_aload _ _)) rfl ?_
  refine na_1 (q := 203) (one_d (so_iload_n (M := np_M178) (pc := 202) dL_isFired_202 rfl) (up_iload _ _)) rfl ?_
  refine na_3 (q := 206) (one_c rfl mq_172 hl_178 rfl (sc_S (M := np_M178) (pc := 203) dL_isFired_203 cw_L_isFired_L_isSpoon wd_1144 wd_1145)) rfl ?_
  refine na_3 (q := 209) (one_d (so_ifeq (M := np_M178) (pc := 206) dL_isFired_206 (by decide)) (up_ifeq _ _)) rfl ?_
  refine na_1 (q := 210) (one_d (so_iconst (M := np_M178) (pc := 209) dL_isFired_209 (by decide)) (up_cst _ _)) rfl ?_
  refine na_3 (q := 213) (one_d (so_goto (M := np_M178) (pc := 210) dL_isFired_210 (by decide)) (up_goto _)) rfl ?_
  refine na_1 (q := 214) (one_d (so_iconst (M := np_M178) (pc := 213) dL_isFired_213 (by decide)) (up_cst _ _)) rfl ?_
  refine na_2 (q := 216) (one_d (so_istore (M := np_M178) (pc := 214) dL_isFired_214 (by decide)) (up_istore _ _)) rfl ?_
  refine na_2 (q := 218) (one_d (so_iload (M := np_M178) (pc := 216) dL_isFired_216) (up_iload _ _)) rfl ?_
  refine na_3 (q := 221) (one_d (so_ifeq (M := np_M178) (pc := 218) dL_isFired_218 (by decide)) (up_ifeq _ _)) rfl ?_
  refine na_1 (q := 222) (one_d (so_aload_n (M := np_M178) (pc := 221) dL_isFired_221 rfl) (up_aload _ _)) rfl ?_
  refine na_3 (q := 225) (one_c rfl mq_164 hl_178 rfl (sc_SX (M := np_M178) (pc := 222) dL_isFired_222 (by decide) hd_L_undo wd_22 ⟨by decide, by decide, by decide +kernel⟩ (by decide) (by decide) wd_796 wd_797)) rfl ?_
  refine na_3 (q := 228) (one_d (so_iflt (M := np_M178) (pc := 225) dL_isFired_225 (by decide)) (up_iflt _ _)) rfl ?_
  refine na_1 (q := 229) (one_d (so_aload_n (M := np_M178) (pc := 228) dL_isFired_228 rfl) (up_aload _ _)) rfl ?_
  refine na_3 (q := 232) (one_c rfl mq_169 hl_178 rfl (sc_S (M := np_M178) (pc := 229) dL_isFired_229 cw_L_isFired_L_digest wd_888 wd_889)) rfl ?_
  refine na_1 (q := 233) (one_d (so_lload_n (M := np_M178) (pc := 232) dL_isFired_232 rfl) (up_lload _ _)) rfl ?_
  refine na_1 (q := 234) (one_d (so_lcmp (M := np_M178) (pc := 233) dL_isFired_233) (up_lcmp _)) rfl ?_
  refine na_3 (q := 237) (one_d (so_ifne (M := np_M178) (pc := 234) dL_isFired_234 (by decide)) (up_ifne _ _)) rfl ?_
  refine na_1 (q := 238) (one_d (so_iconst (M := np_M178) (pc := 237) dL_isFired_237 (by decide)) (up_cst _ _)) rfl ?_
  refine na_3 (q := 241) (one_d (so_goto (M := np_M178) (pc := 238) dL_isFired_238 (by decide)) (up_goto _)) rfl ?_
  refine na_1 (q := 242) (one_d (so_iconst (M := np_M178) (pc := 241) dL_isFired_241 (by decide)) (up_cst _ _)) rfl ?_
  refine na_1 (q := 243) (one_d (so_reti (M := np_M178) (pc := 242) dL_isFired_242 rfl) (up_reti _)) rfl ?_
  exact na_z
theorem hl_179 : np_hls.getD 179 [] = [] := rfl
set_option maxRecDepth 100000 in
set_option maxHeartbeats 4000000 in
theorem ok_179 : nv_all np_M179 179 0 np_c179 := by
  unfold np_c179
  refine na_1 (q := 1) (one_d (so_aload_n (M := np_M179) (pc := 0) dL_isFit_0 rfl) (up_aload _ _)) rfl ?_
  refine na_3 (q := 4) (one_c rfl mq_171 hl_179 rfl (sc_S (M := np_M179) (pc := 1) dL_isFit_1 cw_L_isFit_L_isGame wd_995 wd_996)) rfl ?_
  refine na_3 (q := 7) (one_d (so_ifeq (M := np_M179) (pc := 4) dL_isFit_4 (by decide)) (up_ifeq _ _)) rfl ?_
  refine na_1 (q := 8) (one_d (so_aload_n (M := np_M179) (pc := 7) dL_isFit_7 rfl) (up_aload _ _)) rfl ?_
  refine na_3 (q := 11) (one_c rfl mq_174 hl_179 rfl (sc_S (M := np_M179) (pc := 8) dL_isFit_8 cw_L_isFit_L_areRows wd_1094 wd_1095)) rfl ?_
  refine na_3 (q := 14) (one_d (so_ifeq (M := np_M179) (pc := 11) dL_isFit_11 (by decide)) (up_ifeq _ _)) rfl ?_
  refine na_1 (q := 15) (one_d (so_iconst (M := np_M179) (pc := 14) dL_isFit_14 (by decide)) (up_cst _ _)) rfl ?_
  refine na_3 (q := 18) (one_d (so_goto (M := np_M179) (pc := 15) dL_isFit_15 (by decide)) (up_goto _)) rfl ?_
  refine na_1 (q := 19) (one_d (so_iconst (M := np_M179) (pc := 18) dL_isFit_18 (by decide)) (up_cst _ _)) rfl ?_
  refine na_1 (q := 20) (one_d (so_istore_n (M := np_M179) (pc := 19) dL_isFit_19 rfl (by decide)) (up_istore _ _)) rfl ?_
  refine na_1 (q := 21) (one_d (so_iconst (M := np_M179) (pc := 20) dL_isFit_20 (by decide)) (up_cst _ _)) rfl ?_
  refine na_1 (q := 22) (one_d (so_istore_n (M := np_M179) (pc := 21) dL_isFit_21 rfl (by decide)) (up_istore _ _)) rfl ?_
  refine na_1 (q := 23) (one_d (so_iload_n (M := np_M179) (pc := 22) dL_isFit_22 rfl) (up_iload _ _)) rfl ?_
  refine na_3 (q := 26) (one_d (so_ifeq (M := np_M179) (pc := 23) dL_isFit_23 (by decide)) (up_ifeq _ _)) rfl ?_
  refine na_1 (q := 27) (one_d (so_iload_n (M := np_M179) (pc := 26) dL_isFit_26 rfl) (up_iload _ _)) rfl ?_
  refine na_1 (q := 28) (one_d (so_aload_n (M := np_M179) (pc := 27) dL_isFit_27 rfl) (up_aload _ _)) rfl ?_
  refine na_3 (q := 31) (one_c rfl mq_85 hl_179 rfl (sc_V (M := np_M179) (pc := 28) dL_isFit_28 cw_L_isFit_X7_spoonCount rfl wd_958 wd_959 wd_960 (nv_rcO (ci := 5) rfl))) rfl ?_
  refine na_3 (q := 34) (one_d (so_cge (M := np_M179) (pc := 31) dL_isFit_31 (by decide)) (up_cge _ _)) rfl ?_
  refine na_1 (q := 35) (one_d (so_aload_n (M := np_M179) (pc := 34) dL_isFit_34 rfl) (up_aload _ _)) rfl ?_
  refine na_1 (q := 36) (one_d (so_iload_n (M := np_M179) (pc := 35) dL_isFit_35 rfl) (up_iload _ _)) rfl ?_
  refine na_3 (q := 39) (one_c rfl mq_172 hl_179 rfl (sc_S (M := np_M179) (pc := 36) dL_isFit_36 cw_L_isFit_L_isSpoon wd_1144 wd_1145)) rfl ?_
  refine na_3 (q := 42) (one_d (so_ifeq (M := np_M179) (pc := 39) dL_isFit_39 (by decide)) (up_ifeq _ _)) rfl ?_
  refine na_1 (q := 43) (one_d (so_aload_n (M := np_M179) (pc := 42) dL_isFit_42 rfl) (up_aload _ _)) rfl ?_
  refine na_1 (q := 44) (one_d (so_iload_n (M := np_M179) (pc := 43) dL_isFit_43 rfl) (up_iload _ _)) rfl ?_
  refine na_1 (q := 45) (one_d (so_iconst (M := np_M179) (pc := 44) dL_isFit_44 (by decide)) (up_cst _ _)) rfl ?_
  refine na_3 (q := 48) (one_c rfl mq_175 hl_179 rfl (sc_S (M := np_M179) (pc := 45) dL_isFit_45 cw_L_isFit_L_isSailed wd_1200 wd_1201)) rfl ?_
  refine na_3 (q := 51) (one_d (so_ifeq (M := np_M179) (pc := 48) dL_isFit_48 (by decide)) (up_ifeq _ _)) rfl ?_
  refine na_1 (q := 52) (one_d (so_aload_n (M := np_M179) (pc := 51) dL_isFit_51 rfl) (up_aload _ _)) rfl ?_
  refine na_1 (q := 53) (one_d (so_iload_n (M := np_M179) (pc := 52) dL_isFit_52 rfl) (up_iload _ _)) rfl ?_
  refine na_1 (q := 54) (one_d (so_iconst (M := np_M179) (pc := 53) dL_isFit_53 (by decide)) (up_cst _ _)) rfl ?_
  refine na_3 (q := 57) (one_c rfl mq_175 hl_179 rfl (sc_S (M := np_M179) (pc := 54) dL_isFit_54 cw_L_isFit_L_isSailed wd_1200 wd_1201)) rfl ?_
  refine na_3 (q := 60) (one_d (so_ifeq (M := np_M179) (pc := 57) dL_isFit_57 (by decide)) (up_ifeq _ _)) rfl ?_
  refine na_1 (q := 61) (one_d (so_aload_n (M := np_M179) (pc := 60) dL_isFit_60 rfl) (up_aload _ _)) rfl ?_
  refine na_1 (q := 62) (one_d (so_iload_n (M := np_M179) (pc := 61) dL_isFit_61 rfl) (up_iload _ _)) rfl ?_
  refine na_1 (q := 63) (one_d (so_iload_n (M := np_M179) (pc := 62) dL_isFit_62 rfl) (up_iload _ _)) rfl ?_
  refine na_1 (q := 64) (one_d (so_iconst (M := np_M179) (pc := 63) dL_isFit_63 (by decide)) (up_cst _ _)) rfl ?_
  refine na_1 (q := 65) (one_d (so_iadd (M := np_M179) (pc := 64) dL_isFit_64) (up_i2 _ _)) rfl ?_
  refine na_1 (q := 66) (one_d (so_aload_n (M := np_M179) (pc := 65) dL_isFit_65 rfl) (up_aload _ _)) rfl ?_
  refine na_3 (q := 69) (one_c rfl mq_85 hl_179 rfl (sc_V (M := np_M179) (pc := 66) dL_isFit_66 cw_L_isFit_X7_spoonCount rfl wd_958 wd_959 wd_960 (nv_rcO (ci := 5) rfl))) rfl ?_
  refine na_1 (q := 70) (one_d (so_irem (M := np_M179) (pc := 69) dL_isFit_69) (up_irem _)) rfl ?_
  refine na_3 (q := 73) (one_c rfl mq_178 hl_179 rfl (sc_S (M := np_M179) (pc := 70) dL_isFit_70 cw_L_isFit_L_isFired wd_1209 wd_1210)) rfl ?_
  refine na_3 (q := 76) (one_d (so_ifeq (M := np_M179) (pc := 73) dL_isFit_73 (by decide)) (up_ifeq _ _)) rfl ?_
  refine na_1 (q := 77) (one_d (so_iconst (M := np_M179) (pc := 76) dL_isFit_76 (by decide)) (up_cst _ _)) rfl ?_
  refine na_3 (q := 80) (one_d (so_goto (M := np_M179) (pc := 77) dL_isFit_77 (by decide)) (up_goto _)) rfl ?_
  refine na_1 (q := 81) (one_d (so_iconst (M := np_M179) (pc := 80) dL_isFit_80 (by decide)) (up_cst _ _)) rfl ?_
  refine na_1 (q := 82) (one_d (so_istore_n (M := np_M179) (pc := 81) dL_isFit_81 rfl (by decide)) (up_istore _ _)) rfl ?_
  refine na_3 (q := 85) (one_d (so_iinc (M := np_M179) (pc := 82) dL_isFit_82 (by decide) (by decide)) (up_iinc _ _ _)) rfl ?_
  refine na_3 (q := 88) (one_d (so_goto (M := np_M179) (pc := 85) dL_isFit_85 (by decide)) (up_goto _)) rfl ?_
  refine na_1 (q := 89) (one_d (so_iload_n (M := np_M179) (pc := 88) dL_isFit_88 rfl) (up_iload _ _)) rfl ?_
  refine na_1 (q := 90) (one_d (so_reti (M := np_M179) (pc := 89) dL_isFit_89 rfl) (up_reti _)) rfl ?_
  exact na_z
theorem hl_180 : np_hls.getD 180 [] = [] := rfl
set_option maxRecDepth 100000 in
set_option maxHeartbeats 4000000 in
theorem ok_180 : nv_all np_M180 180 0 np_c180 := by
  unfold np_c180
  refine na_3 (q := 3) (one_d (so_new (M := np_M180) (pc := 0) kd_5 dL_law_0 wd_47 wd_48 wd_23 rfl df_5) (up_new _ _ _)) rfl ?_
  refine na_1 (q := 4) (one_d (so_dup (M := np_M180) (pc := 3) dL_law_3) (up_dup _)) rfl ?_
  refine na_3 (q := 7) (one_c rfl mq_71 hl_180 rfl (sc_I (M := np_M180) (pc := 4) (ci := 5) rfl dL_law_4 cw_L_law_X7_init rfl rfl (Or.inl wd_49) wd_50)) rfl ?_
  refine na_1 (q := 8) (one_d (so_astore_n (M := np_M180) (pc := 7) dL_law_7 rfl (by decide)) (up_astore _ _)) rfl ?_
  refine na_1 (q := 9) (one_d (so_iconst (M := np_M180) (pc := 8) dL_law_8 (by decide)) (up_cst _ _)) rfl ?_
  refine na_1 (q := 10) (one_d (so_istore_n (M := np_M180) (pc := 9) dL_law_9 rfl (by decide)) (up_istore _ _)) rfl ?_
  refine na_1 (q := 11) (one_d (so_iload_n (M := np_M180) (pc := 10) dL_law_10 rfl) (up_iload _ _)) rfl ?_
  refine na_2 (q := 13) (one_d (so_bipush (M := np_M180) (pc := 11) dL_law_11 (by decide)) (up_cst _ _)) rfl ?_
  refine na_3 (q := 16) (one_d (so_cge (M := np_M180) (pc := 13) dL_law_13 (by decide)) (up_cge _ _)) rfl ?_
  refine na_1 (q := 17) (one_d (so_aload_n (M := np_M180) (pc := 16) dL_law_16 rfl) (up_aload _ _)) rfl ?_
  refine na_1 (q := 18) (one_d (so_iload_n (M := np_M180) (pc := 17) dL_law_17 rfl) (up_iload _ _)) rfl ?_
  refine na_1 (q := 19) (one_d (so_iconst (M := np_M180) (pc := 18) dL_law_18 (by decide)) (up_cst _ _)) rfl ?_
  refine na_1 (q := 20) (one_d (so_iand (M := np_M180) (pc := 19) dL_law_19) (up_i2 _ _)) rfl ?_
  refine na_1 (q := 21) (one_d (so_aload_n (M := np_M180) (pc := 20) dL_law_20 rfl) (up_aload _ _)) rfl ?_
  refine na_1 (q := 22) (one_d (so_iload_n (M := np_M180) (pc := 21) dL_law_21 rfl) (up_iload _ _)) rfl ?_
  refine na_3 (q := 25) (one_c rfl mq_140 hl_180 rfl (sc_S (M := np_M180) (pc := 22) dL_law_22 cw_L_law_L_cell wd_303 wd_304)) rfl ?_
  refine na_1 (q := 26) (one_d (so_iconst (M := np_M180) (pc := 25) dL_law_25 (by decide)) (up_cst _ _)) rfl ?_
  refine na_1 (q := 27) (one_d (so_ishr (M := np_M180) (pc := 26) dL_law_26) (up_i2 _ _)) rfl ?_
  refine na_2 (q := 29) (one_d (so_bipush (M := np_M180) (pc := 27) dL_law_27 (by decide)) (up_cst _ _)) rfl ?_
  refine na_1 (q := 30) (one_d (so_iand (M := np_M180) (pc := 29) dL_law_29) (up_i2 _ _)) rfl ?_
  refine na_2 (q := 32) (one_d (so_bipush (M := np_M180) (pc := 30) dL_law_30 (by decide)) (up_cst _ _)) rfl ?_
  refine na_1 (q := 33) (one_d (so_irem (M := np_M180) (pc := 32) dL_law_32) (up_irem _)) rfl ?_
  refine na_1 (q := 34) (one_d (so_iconst (M := np_M180) (pc := 33) dL_law_33 (by decide)) (up_cst _ _)) rfl ?_
  refine na_1 (q := 35) (one_d (so_iadd (M := np_M180) (pc := 34) dL_law_34) (up_i2 _ _)) rfl ?_
  refine na_1 (q := 36) (one_d (so_aload_n (M := np_M180) (pc := 35) dL_law_35 rfl) (up_aload _ _)) rfl ?_
  refine na_1 (q := 37) (one_d (so_iload_n (M := np_M180) (pc := 36) dL_law_36 rfl) (up_iload _ _)) rfl ?_
  refine na_1 (q := 38) (one_d (so_iconst (M := np_M180) (pc := 37) dL_law_37 (by decide)) (up_cst _ _)) rfl ?_
  refine na_1 (q := 39) (one_d (so_iadd (M := np_M180) (pc := 38) dL_law_38) (up_i2 _ _)) rfl ?_
  refine na_3 (q := 42) (one_c rfl mq_140 hl_180 rfl (sc_S (M := np_M180) (pc := 39) dL_law_39 cw_L_law_L_cell wd_303 wd_304)) rfl ?_
  refine na_1 (q := 43) (one_d (so_iconst (M := np_M180) (pc := 42) dL_law_42 (by decide)) (up_cst _ _)) rfl ?_
  refine na_1 (q := 44) (one_d (so_ishr (M := np_M180) (pc := 43) dL_law_43) (up_i2 _ _)) rfl ?_
  refine na_2 (q := 46) (one_d (so_bipush (M := np_M180) (pc := 44) dL_law_44 (by decide)) (up_cst _ _)) rfl ?_
  refine na_1 (q := 47) (one_d (so_iand (M := np_M180) (pc := 46) dL_law_46) (up_i2 _ _)) rfl ?_
  refine na_2 (q := 49) (one_d (so_bipush (M := np_M180) (pc := 47) dL_law_47 (by decide)) (up_cst _ _)) rfl ?_
  refine na_1 (q := 50) (one_d (so_irem (M := np_M180) (pc := 49) dL_law_49) (up_irem _)) rfl ?_
  refine na_1 (q := 51) (one_d (so_iconst (M := np_M180) (pc := 50) dL_law_50 (by decide)) (up_cst _ _)) rfl ?_
  refine na_1 (q := 52) (one_d (so_iadd (M := np_M180) (pc := 51) dL_law_51) (up_i2 _ _)) rfl ?_
  refine na_1 (q := 53) (one_d (so_aload_n (M := np_M180) (pc := 52) dL_law_52 rfl) (up_aload _ _)) rfl ?_
  refine na_1 (q := 54) (one_d (so_iload_n (M := np_M180) (pc := 53) dL_law_53 rfl) (up_iload _ _)) rfl ?_
  refine na_3 (q := 57) (one_c rfl mq_140 hl_180 rfl (sc_S (M := np_M180) (pc := 54) dL_law_54 cw_L_law_L_cell wd_303 wd_304)) rfl ?_
  refine na_2 (q := 59) (one_d (so_bipush (M := np_M180) (pc := 57) dL_law_57 (by decide)) (up_cst _ _)) rfl ?_
  refine na_1 (q := 60) (one_d (so_ishr (M := np_M180) (pc := 59) dL_law_59) (up_i2 _ _)) rfl ?_
  refine na_2 (q := 62) (one_d (so_bipush (M := np_M180) (pc := 60) dL_law_60 (by decide)) (up_cst _ _)) rfl ?_
  refine na_1 (q := 63) (one_d (so_iand (M := np_M180) (pc := 62) dL_law_62) (up_i2 _ _)) rfl ?_
  refine na_1 (q := 64) (one_d (so_iconst (M := np_M180) (pc := 63) dL_law_63 (by decide)) (up_cst _ _)) rfl ?_
  refine na_1 (q := 65) (one_d (so_aload_n (M := np_M180) (pc := 64) dL_law_64 rfl) (up_aload _ _)) rfl ?_
  refine na_1 (q := 66) (one_d (so_iload_n (M := np_M180) (pc := 65) dL_law_65 rfl) (up_iload _ _)) rfl ?_
  refine na_3 (q := 69) (one_c rfl mq_140 hl_180 rfl (sc_S (M := np_M180) (pc := 66) dL_law_66 cw_L_law_L_cell wd_303 wd_304)) rfl ?_
  refine na_1 (q := 70) (one_d (so_iconst (M := np_M180) (pc := 69) dL_law_69 (by decide)) (up_cst _ _)) rfl ?_
  refine na_1 (q := 71) (one_d (so_ishr (M := np_M180) (pc := 70) dL_law_70) (up_i2 _ _)) rfl ?_
  refine na_1 (q := 72) (one_d (so_iconst (M := np_M180) (pc := 71) dL_law_71 (by decide)) (up_cst _ _)) rfl ?_
  refine na_1 (q := 73) (one_d (so_iand (M := np_M180) (pc := 72) dL_law_72) (up_i2 _ _)) rfl ?_
  refine na_1 (q := 74) (one_d (so_iadd (M := np_M180) (pc := 73) dL_law_73) (up_i2 _ _)) rfl ?_
  refine na_3 (q := 77) (one_c rfl mq_141 hl_180 rfl (sc_SX (M := np_M180) (pc := 74) dL_law_74 (by decide) hd_L_addSpoon wd_22 ⟨by decide, by decide, by decide +kernel⟩ (by decide) (by decide) wd_307 wd_308)) rfl ?_
  refine na_1 (q := 78) (one_d (so_pop (M := np_M180) (pc := 77) dL_law_77) (up_pop _)) rfl ?_
  refine na_3 (q := 81) (one_d (so_iinc (M := np_M180) (pc := 78) dL_law_78 (by decide) (by decide)) (up_iinc _ _ _)) rfl ?_
  refine na_3 (q := 84) (one_d (so_goto (M := np_M180) (pc := 81) dL_law_81 (by decide)) (up_goto _)) rfl ?_
  refine na_1 (q := 85) (one_d (so_aload_n (M := np_M180) (pc := 84) dL_law_84 rfl) (up_aload _ _)) rfl ?_
  refine na_3 (q := 88) (one_c rfl mq_142 hl_180 rfl (sc_SX (M := np_M180) (pc := 85) dL_law_85 (by decide) hd_L_start wd_22 ⟨by decide, by decide, by decide +kernel⟩ (by decide) (by decide) wd_512 wd_513)) rfl ?_
  refine na_1 (q := 89) (one_d (so_pop (M := np_M180) (pc := 88) dL_law_88) (up_pop _)) rfl ?_
  refine na_1 (q := 90) (one_d (so_aload_n (M := np_M180) (pc := 89) dL_law_89 rfl) (up_aload _ _)) rfl ?_
  refine na_1 (q := 91) (one_d (so_scl (M := np_M180) (pc := 90) dL_law_90) (up_scl _)) rfl ?_
  refine na_2 (q := 93) (one_d (so_bipush (M := np_M180) (pc := 91) dL_law_91 (by decide)) (up_cst _ _)) rfl ?_
  refine na_3 (q := 96) (one_d (so_cge (M := np_M180) (pc := 93) dL_law_93 (by decide)) (up_cge _ _)) rfl ?_
  refine na_1 (q := 97) (one_d (so_aload_n (M := np_M180) (pc := 96) dL_law_96 rfl) (up_aload _ _)) rfl ?_
  refine na_1 (q := 98) (one_d (so_scl (M := np_M180) (pc := 97) dL_law_97) (up_scl _)) rfl ?_
  refine na_3 (q := 101) (one_d (so_goto (M := np_M180) (pc := 98) dL_law_98 (by decide)) (up_goto _)) rfl ?_
  refine na_2 (q := 103) (one_d (so_bipush (M := np_M180) (pc := 101) dL_law_101 (by decide)) (up_cst _ _)) rfl ?_
  refine na_1 (q := 104) (one_d (so_istore_n (M := np_M180) (pc := 103) dL_law_103 rfl (by decide)) (up_istore _ _)) rfl ?_
  refine na_1 (q := 105) (one_d (so_iconst (M := np_M180) (pc := 104) dL_law_104 (by decide)) (up_cst _ _)) rfl ?_
  refine na_1 (q := 106) (one_d (so_istore_n (M := np_M180) (pc := 105) dL_law_105 rfl (by decide)) (up_istore _ _)) rfl ?_
  refine na_1 (q := 107) (one_d (so_iload_n (M := np_M180) (pc := 106) dL_law_106 rfl) (up_iload _ _)) rfl ?_
  refine na_1 (q := 108) (one_d (so_iload_n (M := np_M180) (pc := 107) dL_law_107 rfl) (up_iload _ _)) rfl ?_
  refine na_3 (q := 111) (one_d (so_cge (M := np_M180) (pc := 108) dL_law_108 (by decide)) (up_cge _ _)) rfl ?_
  refine na_1 (q := 112) (one_d (so_aload_n (M := np_M180) (pc := 111) dL_law_111 rfl) (up_aload _ _)) rfl ?_
  refine na_3 (q := 115) (one_c rfl mq_169 hl_180 rfl (sc_S (M := np_M180) (pc := 112) dL_law_112 cw_L_law_L_digest wd_888 wd_889)) rfl ?_
  refine na_2 (q := 117) (one_d (so_lstore (M := np_M180) (pc := 115) dL_law_115 (by decide)) (up_lstore _ _)) rfl ?_
  refine na_1 (q := 118) (one_d (so_aload_n (M := np_M180) (pc := 117) dL_law_117 rfl) (up_aload _ _)) rfl ?_
  refine na_1 (q := 119) (one_d (so_aload_n (M := np_M180) (pc := 118) dL_law_118 rfl) (up_aload _ _)) rfl ?_
  refine na_1 (q := 120) (one_d (so_iload_n (M := np_M180) (pc := 119) dL_law_119 rfl) (up_iload _ _)) rfl ?_
  refine na_3 (q := 123) (one_c rfl mq_140 hl_180 rfl (sc_S (M := np_M180) (pc := 120) dL_law_120 cw_L_law_L_cell wd_303 wd_304)) rfl ?_
  refine na_3 (q := 126) (one_c rfl mq_168 hl_180 rfl (sc_S (M := np_M180) (pc := 123) dL_law_123 cw_L_law_L_act wd_842 wd_843)) rfl ?_
  refine na_2 (q := 128) (one_d (so_ldc (M := np_M180) (pc := 126) dL_law_126 wd_393) (up_cst _ _)) rfl ?_
  refine na_3 (q := 131) (one_d (so_cne (M := np_M180) (pc := 128) dL_law_128 (by decide)) (up_cne _ _)) rfl ?_
  refine na_1 (q := 132) (one_d (so_aload_n (M := np_M180) (pc := 131) dL_law_131 rfl) (up_aload _ _)) rfl ?_
  refine na_3 (q := 135) (one_c rfl mq_169 hl_180 rfl (sc_S (M := np_M180) (pc := 132) dL_law_132 cw_L_law_L_digest wd_888 wd_889)) rfl ?_
  refine na_2 (q := 137) (one_d (so_lload (M := np_M180) (pc := 135) dL_law_135) (up_lload _ _)) rfl ?_
  refine na_1 (q := 138) (one_d (so_lcmp (M := np_M180) (pc := 137) dL_law_137) (up_lcmp _)) rfl ?_
  refine na_3 (q := 141) (one_d (so_ifeq (M := np_M180) (pc := 138) dL_law_138 (by decide)) (up_ifeq _ _)) rfl ?_
  refine na_1 (q := 142) (one_d (so_iconst (M := np_M180) (pc := 141) dL_law_141 (by decide)) (up_cst _ _)) rfl ?_
  refine na_1 (q := 143) (one_d (so_reti (M := np_M180) (pc := 142) dL_law_142 rfl) (up_reti _)) rfl ?_
  refine na_3 (q := 146) (one_d (so_iinc (M := np_M180) (pc := 143) dL_law_143 (by decide) (by decide)) (up_iinc _ _ _)) rfl ?_
  refine na_3 (q := 149) (one_d (so_goto (M := np_M180) (pc := 146) dL_law_146 (by decide)) (up_goto _)) rfl ?_
  refine na_1 (q := 150) (one_d (so_aload_n (M := np_M180) (pc := 149) dL_law_149 rfl) (up_aload _ _)) rfl ?_
  refine na_3 (q := 153) (one_c rfl mq_179 hl_180 rfl (sc_S (M := np_M180) (pc := 150) dL_law_150 cw_L_law_L_isFit wd_992 wd_993)) rfl ?_
  refine na_1 (q := 154) (one_d (so_istore_n (M := np_M180) (pc := 153) dL_law_153 rfl (by decide)) (up_istore _ _)) rfl ?_
  refine na_1 (q := 155) (one_d (so_aload_n (M := np_M180) (pc := 154) dL_law_154 rfl) (up_aload _ _)) rfl ?_
  refine na_3 (q := 158) (one_c rfl mq_162 hl_180 rfl (sc_SX (M := np_M180) (pc := 155) dL_law_155 (by decide) hd_L_run wd_22 ⟨by decide, by decide, by decide +kernel⟩ (by decide) (by decide) wd_584 wd_585)) rfl ?_
  refine na_1 (q := 159) (one_d (so_pop (M := np_M180) (pc := 158) dL_law_158) (up_pop _)) rfl ?_
  refine na_1 (q := 160) (one_d (so_aload_n (M := np_M180) (pc := 159) dL_law_159 rfl) (up_aload _ _)) rfl ?_
  refine na_3 (q := 163) (one_c rfl mq_169 hl_180 rfl (sc_S (M := np_M180) (pc := 160) dL_law_160 cw_L_law_L_digest wd_888 wd_889)) rfl ?_
  refine na_2 (q := 165) (one_d (so_lstore (M := np_M180) (pc := 163) dL_law_163 (by decide)) (up_lstore _ _)) rfl ?_
  refine na_1 (q := 166) (one_d (so_aload_n (M := np_M180) (pc := 165) dL_law_165 rfl) (up_aload _ _)) rfl ?_
  refine na_3 (q := 169) (one_c rfl mq_121 hl_180 rfl (sc_V (M := np_M180) (pc := 166) dL_law_166 cw_L_law_X7_save rfl wd_287 wd_288 wd_289 (nv_rcO (ci := 5) rfl))) rfl ?_
  refine na_2 (q := 171) (one_d (so_istore (M := np_M180) (pc := 169) dL_law_169 (by decide)) (up_istore _ _)) rfl ?_
  refine na_1 (q := 172) (one_d (so_iconst (M := np_M180) (pc := 171) dL_law_171 (by decide)) (up_cst _ _)) rfl ?_
  refine na_2 (q := 174) (one_d (so_istore (M := np_M180) (pc := 172) dL_law_172 (by decide)) (up_istore _ _)) rfl ?_
  refine na_1 (q := 175) (one_d (so_iload_n (M := np_M180) (pc := 174) dL_law_174 rfl) (up_iload _ _)) rfl ?_
  refine na_3 (q := 178) (one_d (so_ifeq (M := np_M180) (pc := 175) dL_law_175 (by decide)) (up_ifeq _ _)) rfl ?_
  refine na_2 (q := 180) (one_d (so_iload (M := np_M180) (pc := 178) dL_law_178) (up_iload _ _)) rfl ?_
  refine na_3 (q := 183) (one_d (so_gTEXTS (M := np_M180) (pc := 180) dL_law_180 wd_886) (up_cst _ _)) rfl ?_
  refine na_1 (q := 184) (one_d (so_lTEXTS (M := np_M180) (pc := 183) dL_law_183) (up_slen _ _ _)) rfl ?_
  refine na_3 (q := 187) (one_d (so_cge (M := np_M180) (pc := 184) dL_law_184 (by decide)) (up_cge _ _)) rfl ?_
  refine na_1 (q := 188) (one_d (so_aload_n (M := np_M180) (pc := 187) dL_law_187 rfl) (up_aload _ _)) rfl ?_
  refine na_3 (q := 191) (one_d (so_gTEXTS (M := np_M180) (pc := 188) dL_law_188 wd_886) (up_cst _ _)) rfl ?_
  refine na_2 (q := 193) (one_d (so_iload (M := np_M180) (pc := 191) dL_law_191) (up_iload _ _)) rfl ?_
  refine na_1 (q := 194) (one_d (so_ldTEXTS (M := np_M180) (pc := 193) dL_law_193) (up_sald _ _ _)) rfl ?_
  refine na_3 (q := 197) (one_c rfl mq_167 hl_180 rfl (sc_S (M := np_M180) (pc := 194) dL_law_194 cw_L_law_L_write wd_820 wd_821)) rfl ?_
  refine na_3 (q := 200) (one_c rfl mq_162 hl_180 rfl (sc_SX (M := np_M180) (pc := 197) dL_law_197 (by decide) hd_L_run wd_22 ⟨by decide, by decide, by decide +kernel⟩ (by decide) (by decide) wd_584 wd_585)) rfl ?_
  refine na_2 (q := 202) (one_d (so_istore (M := np_M180) (pc := 200) dL_law_200 (by decide)) (up_istore _ _)) rfl ?_
  refine na_2 (q := 204) (one_d (so_iload (M := np_M180) (pc := 202) dL_law_202) (up_iload _ _)) rfl ?_
  refine na_2 (q := 206) (one_d (so_ldc (M := np_M180) (pc := 204) dL_law_204 wd_393) (up_cst _ _)) rfl ?_
  refine na_3 (q := 209) (one_d (so_cne (M := np_M180) (pc := 206) dL_law_206 (by decide)) (up_cne _ _)) rfl ?_
  refine na_1 (q := 210) (one_d (so_aload_n (M := np_M180) (pc := 209) dL_law_209 rfl) (up_aload _ _)) rfl ?_
  refine na_3 (q := 213) (one_c rfl mq_163 hl_180 rfl (sc_SX (M := np_M180) (pc := 210) dL_law_210 (by decide) hd_L_failedCommand wd_22 ⟨by decide, by decide, by decide +kernel⟩ (by decide) (by decide) wd_772 wd_773)) rfl ?_
  refine na_3 (q := 216) (one_d (so_iflt (M := np_M180) (pc := 213) dL_law_213 (by decide)) (up_iflt _ _)) rfl ?_
  refine na_3 (q := 219) (one_d (so_goto (M := np_M180) (pc := 216) dL_law_216 (by decide)) (up_goto _)) rfl ?_
  refine na_1 (q := 220) (one_d (so_aload_n (M := np_M180) (pc := 219) dL_law_219 rfl) (up_aload _ _)) rfl ?_
  refine na_3 (q := 223) (one_c rfl mq_164 hl_180 rfl (sc_SX (M := np_M180) (pc := 220) dL_law_220 (by decide) hd_L_undo wd_22 ⟨by decide, by decide, by decide +kernel⟩ (by decide) (by decide) wd_796 wd_797)) rfl ?_
  refine na_3 (q := 226) (one_d (so_iflt (M := np_M180) (pc := 223) dL_law_223 (by decide)) (up_iflt _ _)) rfl ?_
  refine na_1 (q := 227) (one_d (so_aload_n (M := np_M180) (pc := 226) dL_law_226 rfl) (up_aload _ _)) rfl ?_
  refine na_3 (q := 230) (one_c rfl mq_169 hl_180 rfl (sc_S (M := np_M180) (pc := 227) dL_law_227 cw_L_law_L_digest wd_888 wd_889)) rfl ?_
  refine na_2 (q := 232) (one_d (so_lload (M := np_M180) (pc := 230) dL_law_230) (up_lload _ _)) rfl ?_
  refine na_1 (q := 233) (one_d (so_lcmp (M := np_M180) (pc := 232) dL_law_232) (up_lcmp _)) rfl ?_
  refine na_3 (q := 236) (one_d (so_ifne (M := np_M180) (pc := 233) dL_law_233 (by decide)) (up_ifne _ _)) rfl ?_
  refine na_1 (q := 237) (one_d (so_iconst (M := np_M180) (pc := 236) dL_law_236 (by decide)) (up_cst _ _)) rfl ?_
  refine na_3 (q := 240) (one_d (so_goto (M := np_M180) (pc := 237) dL_law_237 (by decide)) (up_goto _)) rfl ?_
  refine na_1 (q := 241) (one_d (so_iconst (M := np_M180) (pc := 240) dL_law_240 (by decide)) (up_cst _ _)) rfl ?_
  refine na_1 (q := 242) (one_d (so_istore_n (M := np_M180) (pc := 241) dL_law_241 rfl (by decide)) (up_istore _ _)) rfl ?_
  refine na_3 (q := 245) (one_d (so_iinc (M := np_M180) (pc := 242) dL_law_242 (by decide) (by decide)) (up_iinc _ _ _)) rfl ?_
  refine na_3 (q := 248) (one_d (so_goto (M := np_M180) (pc := 245) dL_law_245 (by decide)) (up_goto _)) rfl ?_
  refine na_1 (q := 249) (one_d (so_iconst (M := np_M180) (pc := 248) dL_law_248 (by decide)) (up_cst _ _)) rfl ?_
  refine na_2 (q := 251) (one_d (so_istore (M := np_M180) (pc := 249) dL_law_249 (by decide)) (up_istore _ _)) rfl ?_
  refine na_1 (q := 252) (one_d (so_iload_n (M := np_M180) (pc := 251) dL_law_251 rfl) (up_iload _ _)) rfl ?_
  refine na_3 (q := 255) (one_d (so_ifeq (M := np_M180) (pc := 252) dL_law_252 (by decide)) (up_ifeq _ _)) rfl ?_
  refine na_2 (q := 257) (one_d (so_iload (M := np_M180) (pc := 255) dL_law_255) (up_iload _ _)) rfl ?_
  refine na_1 (q := 258) (one_d (so_iconst (M := np_M180) (pc := 257) dL_law_257 (by decide)) (up_cst _ _)) rfl ?_
  refine na_3 (q := 261) (one_d (so_cge (M := np_M180) (pc := 258) dL_law_258 (by decide)) (up_cge _ _)) rfl ?_
  refine na_1 (q := 262) (one_d (so_aload_n (M := np_M180) (pc := 261) dL_law_261 rfl) (up_aload _ _)) rfl ?_
  refine na_3 (q := 265) (one_c rfl mq_143 hl_180 rfl (sc_SX (M := np_M180) (pc := 262) dL_law_262 (by decide) hd_L_endTurn wd_22 ⟨by decide, by decide, by decide +kernel⟩ (by decide) (by decide) wd_523 wd_524)) rfl ?_
  refine na_1 (q := 266) (one_d (so_pop (M := np_M180) (pc := 265) dL_law_265) (up_pop _)) rfl ?_
  refine na_1 (q := 267) (one_d (so_aload_n (M := np_M180) (pc := 266) dL_law_266 rfl) (up_aload _ _)) rfl ?_
  refine na_2 (q := 269) (one_d (so_iload (M := np_M180) (pc := 267) dL_law_267) (up_iload _ _)) rfl ?_
  refine na_1 (q := 270) (one_d (so_iconst (M := np_M180) (pc := 269) dL_law_269 (by decide)) (up_cst _ _)) rfl ?_
  refine na_3 (q := 273) (one_c rfl mq_150 hl_180 rfl (sc_SX (M := np_M180) (pc := 270) dL_law_270 (by decide) hd_L_load wd_22 ⟨by decide, by decide, by decide +kernel⟩ (by decide) (by decide) wd_573 wd_574)) rfl ?_
  refine na_1 (q := 274) (one_d (so_pop (M := np_M180) (pc := 273) dL_law_273) (up_pop _)) rfl ?_
  refine na_1 (q := 275) (one_d (so_aload_n (M := np_M180) (pc := 274) dL_law_274 rfl) (up_aload _ _)) rfl ?_
  refine na_2 (q := 277) (one_d (so_iload (M := np_M180) (pc := 275) dL_law_275) (up_iload _ _)) rfl ?_
  refine na_1 (q := 278) (one_d (so_iconst (M := np_M180) (pc := 277) dL_law_277 (by decide)) (up_cst _ _)) rfl ?_
  refine na_2 (q := 280) (one_d (so_iload (M := np_M180) (pc := 278) dL_law_278) (up_iload _ _)) rfl ?_
  refine na_1 (q := 281) (one_d (so_imul (M := np_M180) (pc := 280) dL_law_280) (up_i2 _ _)) rfl ?_
  refine na_3 (q := 284) (one_c rfl mq_147 hl_180 rfl (sc_SX (M := np_M180) (pc := 281) dL_law_281 (by decide) hd_L_turnTo wd_22 ⟨by decide, by decide, by decide +kernel⟩ (by decide) (by decide) wd_542 wd_543)) rfl ?_
  refine na_1 (q := 285) (one_d (so_pop (M := np_M180) (pc := 284) dL_law_284) (up_pop _)) rfl ?_
  refine na_1 (q := 286) (one_d (so_aload_n (M := np_M180) (pc := 285) dL_law_285 rfl) (up_aload _ _)) rfl ?_
  refine na_3 (q := 289) (one_c rfl mq_179 hl_180 rfl (sc_S (M := np_M180) (pc := 286) dL_law_286 cw_L_law_L_isFit wd_992 wd_993)) rfl ?_
  refine na_1 (q := 290) (one_d (so_istore_n (M := np_M180) (pc := 289) dL_law_289 rfl (by decide)) (up_istore _ _)) rfl ?_
  refine na_3 (q := 293) (one_d (so_iinc (M := np_M180) (pc := 290) dL_law_290 (by decide) (by decide)) (up_iinc _ _ _)) rfl ?_
  refine na_3 (q := 296) (one_d (so_goto (M := np_M180) (pc := 293) dL_law_293 (by decide)) (up_goto _)) rfl ?_
  refine na_1 (q := 297) (one_d (so_iload_n (M := np_M180) (pc := 296) dL_law_296 rfl) (up_iload _ _)) rfl ?_
  refine na_3 (q := 300) (one_d (so_ifeq (M := np_M180) (pc := 297) dL_law_297 (by decide)) (up_ifeq _ _)) rfl ?_
  refine na_1 (q := 301) (one_d (so_aload_n (M := np_M180) (pc := 300) dL_law_300 rfl) (up_aload _ _)) rfl ?_
  refine na_3 (q := 304) (one_c rfl mq_165 hl_180 rfl (sc_SX (M := np_M180) (pc := 301) dL_law_301 (by decide) hd_L_restore wd_22 ⟨by decide, by decide, by decide +kernel⟩ (by decide) (by decide) wd_808 wd_809)) rfl ?_
  refine na_2 (q := 306) (one_d (so_iload (M := np_M180) (pc := 304) dL_law_304) (up_iload _ _)) rfl ?_
  refine na_3 (q := 309) (one_d (so_cne (M := np_M180) (pc := 306) dL_law_306 (by decide)) (up_cne _ _)) rfl ?_
  refine na_1 (q := 310) (one_d (so_aload_n (M := np_M180) (pc := 309) dL_law_309 rfl) (up_aload _ _)) rfl ?_
  refine na_3 (q := 313) (one_c rfl mq_169 hl_180 rfl (sc_S (M := np_M180) (pc := 310) dL_law_310 cw_L_law_L_digest wd_888 wd_889)) rfl ?_
  refine na_2 (q := 315) (one_d (so_lload (M := np_M180) (pc := 313) dL_law_313) (up_lload _ _)) rfl ?_
  refine na_1 (q := 316) (one_d (so_lcmp (M := np_M180) (pc := 315) dL_law_315) (up_lcmp _)) rfl ?_
  refine na_3 (q := 319) (one_d (so_ifne (M := np_M180) (pc := 316) dL_law_316 (by decide)) (up_ifne _ _)) rfl ?_
  refine na_1 (q := 320) (one_d (so_aload_n (M := np_M180) (pc := 319) dL_law_319 rfl) (up_aload _ _)) rfl ?_
  refine na_3 (q := 323) (one_c rfl mq_164 hl_180 rfl (sc_SX (M := np_M180) (pc := 320) dL_law_320 (by decide) hd_L_undo wd_22 ⟨by decide, by decide, by decide +kernel⟩ (by decide) (by decide) wd_796 wd_797)) rfl ?_
  refine na_2 (q := 325) (one_d (so_ldc (M := np_M180) (pc := 323) dL_law_323 wd_393) (up_cst _ _)) rfl ?_
  refine na_3 (q := 328) (one_d (so_cne (M := np_M180) (pc := 325) dL_law_325 (by decide)) (up_cne _ _)) rfl ?_
  refine na_1 (q := 329) (one_d (so_iconst (M := np_M180) (pc := 328) dL_law_328 (by decide)) (up_cst _ _)) rfl ?_
  refine na_3 (q := 332) (one_d (so_goto (M := np_M180) (pc := 329) dL_law_329 (by decide)) (up_goto _)) rfl ?_
  refine na_1 (q := 333) (one_d (so_iconst (M := np_M180) (pc := 332) dL_law_332 (by decide)) (up_cst _ _)) rfl ?_
  refine na_1 (q := 334) (one_d (so_reti (M := np_M180) (pc := 333) dL_law_333 rfl) (up_reti _)) rfl ?_
  exact na_z
