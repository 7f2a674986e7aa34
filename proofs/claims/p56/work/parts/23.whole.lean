/-! SOUNDNESS OF THE ABSTRACT CODE, 3: all of it. -/
def nv_alls : Nat → List (List (Option nv_Ins)) → Prop
  | _, [] => True
  | y, c :: r => nv_all (np_M y) y 0 c ∧ nv_alls (y + 1) r
theorem nv_alls_at : ∀ (l : List (List (Option nv_Ins))) (y : Nat), nv_alls y l → ∀ (k : Nat), nv_all (np_M (y + k)) (y + k) 0 (l.getD k [])
  | [], y, _, k => trivial
  | c :: r, y, h, 0 => h.1
  | c :: r, y, h, k + 1 => by
    have := nv_alls_at r (y + 1) h.2 k
    rw [show y + (k + 1) = y + 1 + k by omega]
    exact this
theorem ol_0 : nv_all (np_M 0) 0 0 np_c0 := (congrArg (fun M => nv_all M 0 0 np_c0) mq_0).mpr ok_0
theorem ol_1 : nv_all (np_M 1) 1 0 np_c1 := (congrArg (fun M => nv_all M 1 0 np_c1) mq_1).mpr ok_1
theorem ol_2 : nv_all (np_M 2) 2 0 np_c2 := (congrArg (fun M => nv_all M 2 0 np_c2) mq_2).mpr ok_2
theorem ol_3 : nv_all (np_M 3) 3 0 np_c3 := (congrArg (fun M => nv_all M 3 0 np_c3) mq_3).mpr ok_3
theorem ol_4 : nv_all (np_M 4) 4 0 np_c4 := (congrArg (fun M => nv_all M 4 0 np_c4) mq_4).mpr ok_4
theorem ol_5 : nv_all (np_M 5) 5 0 np_c5 := (congrArg (fun M => nv_all M 5 0 np_c5) mq_5).mpr ok_5
theorem ol_6 : nv_all (np_M 6) 6 0 np_c6 := (congrArg (fun M => nv_all M 6 0 np_c6) mq_6).mpr ok_6
theorem ol_7 : nv_all (np_M 7) 7 0 np_c7 := (congrArg (fun M => nv_all M 7 0 np_c7) mq_7).mpr ok_7
theorem ol_8 : nv_all (np_M 8) 8 0 np_c8 := (congrArg (fun M => nv_all M 8 0 np_c8) mq_8).mpr ok_8
theorem ol_9 : nv_all (np_M 9) 9 0 np_c9 := (congrArg (fun M => nv_all M 9 0 np_c9) mq_9).mpr ok_9
theorem ol_10 : nv_all (np_M 10) 10 0 np_c10 := (congrArg (fun M => nv_all M 10 0 np_c10) mq_10).mpr ok_10
theorem ol_11 : nv_all (np_M 11) 11 0 np_c11 := (congrArg (fun M => nv_all M 11 0 np_c11) mq_11).mpr ok_11
theorem ol_12 : nv_all (np_M 12) 12 0 np_c12 := (congrArg (fun M => nv_all M 12 0 np_c12) mq_12).mpr ok_12
theorem ol_13 : nv_all (np_M 13) 13 0 np_c13 := (congrArg (fun M => nv_all M 13 0 np_c13) mq_13).mpr ok_13
theorem ol_14 : nv_all (np_M 14) 14 0 np_c14 := (congrArg (fun M => nv_all M 14 0 np_c14) mq_14).mpr ok_14
theorem ol_15 : nv_all (np_M 15) 15 0 np_c15 := (congrArg (fun M => nv_all M 15 0 np_c15) mq_15).mpr ok_15
theorem ol_16 : nv_all (np_M 16) 16 0 np_c16 := (congrArg (fun M => nv_all M 16 0 np_c16) mq_16).mpr ok_16
theorem ol_17 : nv_all (np_M 17) 17 0 np_c17 := (congrArg (fun M => nv_all M 17 0 np_c17) mq_17).mpr ok_17
theorem ol_18 : nv_all (np_M 18) 18 0 np_c18 := (congrArg (fun M => nv_all M 18 0 np_c18) mq_18).mpr ok_18
theorem ol_19 : nv_all (np_M 19) 19 0 np_c19 := (congrArg (fun M => nv_all M 19 0 np_c19) mq_19).mpr ok_19
theorem ol_20 : nv_all (np_M 20) 20 0 np_c20 := (congrArg (fun M => nv_all M 20 0 np_c20) mq_20).mpr ok_20
theorem ol_21 : nv_all (np_M 21) 21 0 np_c21 := (congrArg (fun M => nv_all M 21 0 np_c21) mq_21).mpr ok_21
theorem ol_22 : nv_all (np_M 22) 22 0 np_c22 := (congrArg (fun M => nv_all M 22 0 np_c22) mq_22).mpr ok_22
theorem ol_23 : nv_all (np_M 23) 23 0 np_c23 := (congrArg (fun M => nv_all M 23 0 np_c23) mq_23).mpr ok_23
theorem ol_24 : nv_all (np_M 24) 24 0 np_c24 := (congrArg (fun M => nv_all M 24 0 np_c24) mq_24).mpr ok_24
theorem ol_25 : nv_all (np_M 25) 25 0 np_c25 := (congrArg (fun M => nv_all M 25 0 np_c25) mq_25).mpr ok_25
theorem ol_26 : nv_all (np_M 26) 26 0 np_c26 := (congrArg (fun M => nv_all M 26 0 np_c26) mq_26).mpr ok_26
theorem ol_27 : nv_all (np_M 27) 27 0 np_c27 := (congrArg (fun M => nv_all M 27 0 np_c27) mq_27).mpr ok_27
theorem ol_28 : nv_all (np_M 28) 28 0 np_c28 := (congrArg (fun M => nv_all M 28 0 np_c28) mq_28).mpr ok_28
theorem ol_29 : nv_all (np_M 29) 29 0 np_c29 := (congrArg (fun M => nv_all M 29 0 np_c29) mq_29).mpr ok_29
theorem ol_30 : nv_all (np_M 30) 30 0 np_c30 := (congrArg (fun M => nv_all M 30 0 np_c30) mq_30).mpr ok_30
theorem ol_31 : nv_all (np_M 31) 31 0 np_c31 := (congrArg (fun M => nv_all M 31 0 np_c31) mq_31).mpr ok_31
theorem ol_32 : nv_all (np_M 32) 32 0 np_c32 := (congrArg (fun M => nv_all M 32 0 np_c32) mq_32).mpr ok_32
theorem ol_33 : nv_all (np_M 33) 33 0 np_c33 := (congrArg (fun M => nv_all M 33 0 np_c33) mq_33).mpr ok_33
theorem ol_34 : nv_all (np_M 34) 34 0 np_c34 := (congrArg (fun M => nv_all M 34 0 np_c34) mq_34).mpr ok_34
theorem ol_35 : nv_all (np_M 35) 35 0 np_c35 := (congrArg (fun M => nv_all M 35 0 np_c35) mq_35).mpr ok_35
theorem ol_36 : nv_all (np_M 36) 36 0 np_c36 := (congrArg (fun M => nv_all M 36 0 np_c36) mq_36).mpr ok_36
theorem ol_37 : nv_all (np_M 37) 37 0 np_c37 := (congrArg (fun M => nv_all M 37 0 np_c37) mq_37).mpr ok_37
theorem ol_38 : nv_all (np_M 38) 38 0 np_c38 := (congrArg (fun M => nv_all M 38 0 np_c38) mq_38).mpr ok_38
theorem ol_39 : nv_all (np_M 39) 39 0 np_c39 := (congrArg (fun M => nv_all M 39 0 np_c39) mq_39).mpr ok_39
theorem ol_40 : nv_all (np_M 40) 40 0 np_c40 := (congrArg (fun M => nv_all M 40 0 np_c40) mq_40).mpr ok_40
theorem ol_41 : nv_all (np_M 41) 41 0 np_c41 := (congrArg (fun M => nv_all M 41 0 np_c41) mq_41).mpr ok_41
theorem ol_42 : nv_all (np_M 42) 42 0 np_c42 := (congrArg (fun M => nv_all M 42 0 np_c42) mq_42).mpr ok_42
theorem ol_43 : nv_all (np_M 43) 43 0 np_c43 := (congrArg (fun M => nv_all M 43 0 np_c43) mq_43).mpr ok_43
theorem ol_44 : nv_all (np_M 44) 44 0 np_c44 := (congrArg (fun M => nv_all M 44 0 np_c44) mq_44).mpr ok_44
theorem ol_45 : nv_all (np_M 45) 45 0 np_c45 := (congrArg (fun M => nv_all M 45 0 np_c45) mq_45).mpr ok_45
theorem ol_46 : nv_all (np_M 46) 46 0 np_c46 := (congrArg (fun M => nv_all M 46 0 np_c46) mq_46).mpr ok_46
theorem ol_47 : nv_all (np_M 47) 47 0 np_c47 := (congrArg (fun M => nv_all M 47 0 np_c47) mq_47).mpr ok_47
theorem ol_48 : nv_all (np_M 48) 48 0 np_c48 := (congrArg (fun M => nv_all M 48 0 np_c48) mq_48).mpr ok_48
theorem ol_49 : nv_all (np_M 49) 49 0 np_c49 := (congrArg (fun M => nv_all M 49 0 np_c49) mq_49).mpr ok_49
theorem ol_50 : nv_all (np_M 50) 50 0 np_c50 := (congrArg (fun M => nv_all M 50 0 np_c50) mq_50).mpr ok_50
theorem ol_51 : nv_all (np_M 51) 51 0 np_c51 := (congrArg (fun M => nv_all M 51 0 np_c51) mq_51).mpr ok_51
theorem ol_52 : nv_all (np_M 52) 52 0 np_c52 := (congrArg (fun M => nv_all M 52 0 np_c52) mq_52).mpr ok_52
theorem ol_53 : nv_all (np_M 53) 53 0 np_c53 := (congrArg (fun M => nv_all M 53 0 np_c53) mq_53).mpr ok_53
theorem ol_54 : nv_all (np_M 54) 54 0 np_c54 := (congrArg (fun M => nv_all M 54 0 np_c54) mq_54).mpr ok_54
theorem ol_55 : nv_all (np_M 55) 55 0 np_c55 := (congrArg (fun M => nv_all M 55 0 np_c55) mq_55).mpr ok_55
theorem ol_56 : nv_all (np_M 56) 56 0 np_c56 := (congrArg (fun M => nv_all M 56 0 np_c56) mq_56).mpr ok_56
theorem ol_57 : nv_all (np_M 57) 57 0 np_c57 := (congrArg (fun M => nv_all M 57 0 np_c57) mq_57).mpr ok_57
theorem ol_58 : nv_all (np_M 58) 58 0 np_c58 := (congrArg (fun M => nv_all M 58 0 np_c58) mq_58).mpr ok_58
theorem ol_59 : nv_all (np_M 59) 59 0 np_c59 := (congrArg (fun M => nv_all M 59 0 np_c59) mq_59).mpr ok_59
theorem ol_60 : nv_all (np_M 60) 60 0 np_c60 := (congrArg (fun M => nv_all M 60 0 np_c60) mq_60).mpr ok_60
theorem ol_61 : nv_all (np_M 61) 61 0 np_c61 := (congrArg (fun M => nv_all M 61 0 np_c61) mq_61).mpr ok_61
theorem ol_62 : nv_all (np_M 62) 62 0 np_c62 := (congrArg (fun M => nv_all M 62 0 np_c62) mq_62).mpr ok_62
theorem ol_63 : nv_all (np_M 63) 63 0 np_c63 := (congrArg (fun M => nv_all M 63 0 np_c63) mq_63).mpr ok_63
theorem ol_64 : nv_all (np_M 64) 64 0 np_c64 := (congrArg (fun M => nv_all M 64 0 np_c64) mq_64).mpr ok_64
theorem ol_65 : nv_all (np_M 65) 65 0 np_c65 := (congrArg (fun M => nv_all M 65 0 np_c65) mq_65).mpr ok_65
theorem ol_66 : nv_all (np_M 66) 66 0 np_c66 := (congrArg (fun M => nv_all M 66 0 np_c66) mq_66).mpr ok_66
theorem ol_67 : nv_all (np_M 67) 67 0 np_c67 := (congrArg (fun M => nv_all M 67 0 np_c67) mq_67).mpr ok_67
theorem ol_68 : nv_all (np_M 68) 68 0 np_c68 := (congrArg (fun M => nv_all M 68 0 np_c68) mq_68).mpr ok_68
theorem ol_69 : nv_all (np_M 69) 69 0 np_c69 := (congrArg (fun M => nv_all M 69 0 np_c69) mq_69).mpr ok_69
theorem ol_70 : nv_all (np_M 70) 70 0 np_c70 := (congrArg (fun M => nv_all M 70 0 np_c70) mq_70).mpr ok_70
theorem ol_71 : nv_all (np_M 71) 71 0 np_c71 := (congrArg (fun M => nv_all M 71 0 np_c71) mq_71).mpr ok_71
theorem ol_72 : nv_all (np_M 72) 72 0 np_c72 := (congrArg (fun M => nv_all M 72 0 np_c72) mq_72).mpr ok_72
theorem ol_73 : nv_all (np_M 73) 73 0 np_c73 := (congrArg (fun M => nv_all M 73 0 np_c73) mq_73).mpr ok_73
theorem ol_74 : nv_all (np_M 74) 74 0 np_c74 := (congrArg (fun M => nv_all M 74 0 np_c74) mq_74).mpr ok_74
theorem ol_75 : nv_all (np_M 75) 75 0 np_c75 := (congrArg (fun M => nv_all M 75 0 np_c75) mq_75).mpr ok_75
theorem ol_76 : nv_all (np_M 76) 76 0 np_c76 := (congrArg (fun M => nv_all M 76 0 np_c76) mq_76).mpr ok_76
theorem ol_77 : nv_all (np_M 77) 77 0 np_c77 := (congrArg (fun M => nv_all M 77 0 np_c77) mq_77).mpr ok_77
theorem ol_78 : nv_all (np_M 78) 78 0 np_c78 := (congrArg (fun M => nv_all M 78 0 np_c78) mq_78).mpr ok_78
theorem ol_79 : nv_all (np_M 79) 79 0 np_c79 := (congrArg (fun M => nv_all M 79 0 np_c79) mq_79).mpr ok_79
theorem ol_80 : nv_all (np_M 80) 80 0 np_c80 := (congrArg (fun M => nv_all M 80 0 np_c80) mq_80).mpr ok_80
theorem ol_81 : nv_all (np_M 81) 81 0 np_c81 := (congrArg (fun M => nv_all M 81 0 np_c81) mq_81).mpr ok_81
theorem ol_82 : nv_all (np_M 82) 82 0 np_c82 := (congrArg (fun M => nv_all M 82 0 np_c82) mq_82).mpr ok_82
theorem ol_83 : nv_all (np_M 83) 83 0 np_c83 := (congrArg (fun M => nv_all M 83 0 np_c83) mq_83).mpr ok_83
theorem ol_84 : nv_all (np_M 84) 84 0 np_c84 := (congrArg (fun M => nv_all M 84 0 np_c84) mq_84).mpr ok_84
theorem ol_85 : nv_all (np_M 85) 85 0 np_c85 := (congrArg (fun M => nv_all M 85 0 np_c85) mq_85).mpr ok_85
theorem ol_86 : nv_all (np_M 86) 86 0 np_c86 := (congrArg (fun M => nv_all M 86 0 np_c86) mq_86).mpr ok_86
theorem ol_87 : nv_all (np_M 87) 87 0 np_c87 := (congrArg (fun M => nv_all M 87 0 np_c87) mq_87).mpr ok_87
theorem ol_88 : nv_all (np_M 88) 88 0 np_c88 := (congrArg (fun M => nv_all M 88 0 np_c88) mq_88).mpr ok_88
theorem ol_89 : nv_all (np_M 89) 89 0 np_c89 := (congrArg (fun M => nv_all M 89 0 np_c89) mq_89).mpr ok_89
theorem ol_90 : nv_all (np_M 90) 90 0 np_c90 := (congrArg (fun M => nv_all M 90 0 np_c90) mq_90).mpr ok_90
theorem ol_91 : nv_all (np_M 91) 91 0 np_c91 := (congrArg (fun M => nv_all M 91 0 np_c91) mq_91).mpr ok_91
theorem ol_92 : nv_all (np_M 92) 92 0 np_c92 := (congrArg (fun M => nv_all M 92 0 np_c92) mq_92).mpr ok_92
theorem ol_93 : nv_all (np_M 93) 93 0 np_c93 := (congrArg (fun M => nv_all M 93 0 np_c93) mq_93).mpr ok_93
theorem ol_94 : nv_all (np_M 94) 94 0 np_c94 := (congrArg (fun M => nv_all M 94 0 np_c94) mq_94).mpr ok_94
theorem ol_95 : nv_all (np_M 95) 95 0 np_c95 := (congrArg (fun M => nv_all M 95 0 np_c95) mq_95).mpr ok_95
theorem ol_96 : nv_all (np_M 96) 96 0 np_c96 := (congrArg (fun M => nv_all M 96 0 np_c96) mq_96).mpr ok_96
theorem ol_97 : nv_all (np_M 97) 97 0 np_c97 := (congrArg (fun M => nv_all M 97 0 np_c97) mq_97).mpr ok_97
theorem ol_98 : nv_all (np_M 98) 98 0 np_c98 := (congrArg (fun M => nv_all M 98 0 np_c98) mq_98).mpr ok_98
theorem ol_99 : nv_all (np_M 99) 99 0 np_c99 := (congrArg (fun M => nv_all M 99 0 np_c99) mq_99).mpr ok_99
theorem ol_100 : nv_all (np_M 100) 100 0 np_c100 := (congrArg (fun M => nv_all M 100 0 np_c100) mq_100).mpr ok_100
theorem ol_101 : nv_all (np_M 101) 101 0 np_c101 := (congrArg (fun M => nv_all M 101 0 np_c101) mq_101).mpr ok_101
theorem ol_102 : nv_all (np_M 102) 102 0 np_c102 := (congrArg (fun M => nv_all M 102 0 np_c102) mq_102).mpr ok_102
theorem ol_103 : nv_all (np_M 103) 103 0 np_c103 := (congrArg (fun M => nv_all M 103 0 np_c103) mq_103).mpr ok_103
theorem ol_104 : nv_all (np_M 104) 104 0 np_c104 := (congrArg (fun M => nv_all M 104 0 np_c104) mq_104).mpr ok_104
theorem ol_105 : nv_all (np_M 105) 105 0 np_c105 := (congrArg (fun M => nv_all M 105 0 np_c105) mq_105).mpr ok_105
theorem ol_106 : nv_all (np_M 106) 106 0 np_c106 := (congrArg (fun M => nv_all M 106 0 np_c106) mq_106).mpr ok_106
theorem ol_107 : nv_all (np_M 107) 107 0 np_c107 := (congrArg (fun M => nv_all M 107 0 np_c107) mq_107).mpr ok_107
theorem ol_108 : nv_all (np_M 108) 108 0 np_c108 := (congrArg (fun M => nv_all M 108 0 np_c108) mq_108).mpr ok_108
theorem ol_109 : nv_all (np_M 109) 109 0 np_c109 := (congrArg (fun M => nv_all M 109 0 np_c109) mq_109).mpr ok_109
theorem ol_110 : nv_all (np_M 110) 110 0 np_c110 := (congrArg (fun M => nv_all M 110 0 np_c110) mq_110).mpr ok_110
theorem ol_111 : nv_all (np_M 111) 111 0 np_c111 := (congrArg (fun M => nv_all M 111 0 np_c111) mq_111).mpr ok_111
theorem ol_112 : nv_all (np_M 112) 112 0 np_c112 := (congrArg (fun M => nv_all M 112 0 np_c112) mq_112).mpr ok_112
theorem ol_113 : nv_all (np_M 113) 113 0 np_c113 := (congrArg (fun M => nv_all M 113 0 np_c113) mq_113).mpr ok_113
theorem ol_114 : nv_all (np_M 114) 114 0 np_c114 := (congrArg (fun M => nv_all M 114 0 np_c114) mq_114).mpr ok_114
theorem ol_115 : nv_all (np_M 115) 115 0 np_c115 := (congrArg (fun M => nv_all M 115 0 np_c115) mq_115).mpr ok_115
theorem ol_116 : nv_all (np_M 116) 116 0 np_c116 := (congrArg (fun M => nv_all M 116 0 np_c116) mq_116).mpr ok_116
theorem ol_117 : nv_all (np_M 117) 117 0 np_c117 := (congrArg (fun M => nv_all M 117 0 np_c117) mq_117).mpr ok_117
theorem ol_118 : nv_all (np_M 118) 118 0 np_c118 := (congrArg (fun M => nv_all M 118 0 np_c118) mq_118).mpr ok_118
theorem ol_119 : nv_all (np_M 119) 119 0 np_c119 := (congrArg (fun M => nv_all M 119 0 np_c119) mq_119).mpr ok_119
theorem ol_120 : nv_all (np_M 120) 120 0 np_c120 := (congrArg (fun M => nv_all M 120 0 np_c120) mq_120).mpr ok_120
theorem ol_121 : nv_all (np_M 121) 121 0 np_c121 := (congrArg (fun M => nv_all M 121 0 np_c121) mq_121).mpr ok_121
theorem ol_122 : nv_all (np_M 122) 122 0 np_c122 := (congrArg (fun M => nv_all M 122 0 np_c122) mq_122).mpr ok_122
theorem ol_123 : nv_all (np_M 123) 123 0 np_c123 := (congrArg (fun M => nv_all M 123 0 np_c123) mq_123).mpr ok_123
theorem ol_124 : nv_all (np_M 124) 124 0 np_c124 := (congrArg (fun M => nv_all M 124 0 np_c124) mq_124).mpr ok_124
theorem ol_125 : nv_all (np_M 125) 125 0 np_c125 := (congrArg (fun M => nv_all M 125 0 np_c125) mq_125).mpr ok_125
theorem ol_126 : nv_all (np_M 126) 126 0 np_c126 := (congrArg (fun M => nv_all M 126 0 np_c126) mq_126).mpr ok_126
theorem ol_127 : nv_all (np_M 127) 127 0 np_c127 := (congrArg (fun M => nv_all M 127 0 np_c127) mq_127).mpr ok_127
theorem ol_128 : nv_all (np_M 128) 128 0 np_c128 := (congrArg (fun M => nv_all M 128 0 np_c128) mq_128).mpr ok_128
theorem ol_129 : nv_all (np_M 129) 129 0 np_c129 := (congrArg (fun M => nv_all M 129 0 np_c129) mq_129).mpr ok_129
theorem ol_130 : nv_all (np_M 130) 130 0 np_c130 := (congrArg (fun M => nv_all M 130 0 np_c130) mq_130).mpr ok_130
theorem ol_131 : nv_all (np_M 131) 131 0 np_c131 := (congrArg (fun M => nv_all M 131 0 np_c131) mq_131).mpr ok_131
theorem ol_132 : nv_all (np_M 132) 132 0 np_c132 := (congrArg (fun M => nv_all M 132 0 np_c132) mq_132).mpr ok_132
theorem ol_133 : nv_all (np_M 133) 133 0 np_c133 := (congrArg (fun M => nv_all M 133 0 np_c133) mq_133).mpr ok_133
theorem ol_134 : nv_all (np_M 134) 134 0 np_c134 := (congrArg (fun M => nv_all M 134 0 np_c134) mq_134).mpr ok_134
theorem ol_135 : nv_all (np_M 135) 135 0 np_c135 := (congrArg (fun M => nv_all M 135 0 np_c135) mq_135).mpr ok_135
theorem ol_136 : nv_all (np_M 136) 136 0 np_c136 := (congrArg (fun M => nv_all M 136 0 np_c136) mq_136).mpr ok_136
theorem ol_137 : nv_all (np_M 137) 137 0 np_c137 := (congrArg (fun M => nv_all M 137 0 np_c137) mq_137).mpr ok_137
theorem ol_138 : nv_all (np_M 138) 138 0 np_c138 := (congrArg (fun M => nv_all M 138 0 np_c138) mq_138).mpr ok_138
theorem ol_139 : nv_all (np_M 139) 139 0 np_c139 := (congrArg (fun M => nv_all M 139 0 np_c139) mq_139).mpr ok_139
theorem ol_140 : nv_all (np_M 140) 140 0 np_c140 := (congrArg (fun M => nv_all M 140 0 np_c140) mq_140).mpr ok_140
theorem ol_141 : nv_all (np_M 141) 141 0 np_c141 := (congrArg (fun M => nv_all M 141 0 np_c141) mq_141).mpr ok_141
theorem ol_142 : nv_all (np_M 142) 142 0 np_c142 := (congrArg (fun M => nv_all M 142 0 np_c142) mq_142).mpr ok_142
theorem ol_143 : nv_all (np_M 143) 143 0 np_c143 := (congrArg (fun M => nv_all M 143 0 np_c143) mq_143).mpr ok_143
theorem ol_144 : nv_all (np_M 144) 144 0 np_c144 := (congrArg (fun M => nv_all M 144 0 np_c144) mq_144).mpr ok_144
theorem ol_145 : nv_all (np_M 145) 145 0 np_c145 := (congrArg (fun M => nv_all M 145 0 np_c145) mq_145).mpr ok_145
theorem ol_146 : nv_all (np_M 146) 146 0 np_c146 := (congrArg (fun M => nv_all M 146 0 np_c146) mq_146).mpr ok_146
theorem ol_147 : nv_all (np_M 147) 147 0 np_c147 := (congrArg (fun M => nv_all M 147 0 np_c147) mq_147).mpr ok_147
theorem ol_148 : nv_all (np_M 148) 148 0 np_c148 := (congrArg (fun M => nv_all M 148 0 np_c148) mq_148).mpr ok_148
theorem ol_149 : nv_all (np_M 149) 149 0 np_c149 := (congrArg (fun M => nv_all M 149 0 np_c149) mq_149).mpr ok_149
theorem ol_150 : nv_all (np_M 150) 150 0 np_c150 := (congrArg (fun M => nv_all M 150 0 np_c150) mq_150).mpr ok_150
theorem ol_151 : nv_all (np_M 151) 151 0 np_c151 := (congrArg (fun M => nv_all M 151 0 np_c151) mq_151).mpr ok_151
theorem ol_152 : nv_all (np_M 152) 152 0 np_c152 := (congrArg (fun M => nv_all M 152 0 np_c152) mq_152).mpr ok_152
theorem ol_153 : nv_all (np_M 153) 153 0 np_c153 := (congrArg (fun M => nv_all M 153 0 np_c153) mq_153).mpr ok_153
theorem ol_154 : nv_all (np_M 154) 154 0 np_c154 := (congrArg (fun M => nv_all M 154 0 np_c154) mq_154).mpr ok_154
theorem ol_155 : nv_all (np_M 155) 155 0 np_c155 := (congrArg (fun M => nv_all M 155 0 np_c155) mq_155).mpr ok_155
theorem ol_156 : nv_all (np_M 156) 156 0 np_c156 := (congrArg (fun M => nv_all M 156 0 np_c156) mq_156).mpr ok_156
theorem ol_157 : nv_all (np_M 157) 157 0 np_c157 := (congrArg (fun M => nv_all M 157 0 np_c157) mq_157).mpr ok_157
theorem ol_158 : nv_all (np_M 158) 158 0 np_c158 := (congrArg (fun M => nv_all M 158 0 np_c158) mq_158).mpr ok_158
theorem ol_159 : nv_all (np_M 159) 159 0 np_c159 := (congrArg (fun M => nv_all M 159 0 np_c159) mq_159).mpr ok_159
theorem ol_160 : nv_all (np_M 160) 160 0 np_c160 := (congrArg (fun M => nv_all M 160 0 np_c160) mq_160).mpr ok_160
theorem ol_161 : nv_all (np_M 161) 161 0 np_c161 := (congrArg (fun M => nv_all M 161 0 np_c161) mq_161).mpr ok_161
theorem ol_162 : nv_all (np_M 162) 162 0 np_c162 := (congrArg (fun M => nv_all M 162 0 np_c162) mq_162).mpr ok_162
theorem ol_163 : nv_all (np_M 163) 163 0 np_c163 := (congrArg (fun M => nv_all M 163 0 np_c163) mq_163).mpr ok_163
theorem ol_164 : nv_all (np_M 164) 164 0 np_c164 := (congrArg (fun M => nv_all M 164 0 np_c164) mq_164).mpr ok_164
theorem ol_165 : nv_all (np_M 165) 165 0 np_c165 := (congrArg (fun M => nv_all M 165 0 np_c165) mq_165).mpr ok_165
theorem ol_166 : nv_all (np_M 166) 166 0 np_c166 := (congrArg (fun M => nv_all M 166 0 np_c166) mq_166).mpr ok_166
theorem ol_167 : nv_all (np_M 167) 167 0 np_c167 := (congrArg (fun M => nv_all M 167 0 np_c167) mq_167).mpr ok_167
theorem ol_168 : nv_all (np_M 168) 168 0 np_c168 := (congrArg (fun M => nv_all M 168 0 np_c168) mq_168).mpr ok_168
theorem ol_169 : nv_all (np_M 169) 169 0 np_c169 := (congrArg (fun M => nv_all M 169 0 np_c169) mq_169).mpr ok_169
theorem ol_170 : nv_all (np_M 170) 170 0 np_c170 := (congrArg (fun M => nv_all M 170 0 np_c170) mq_170).mpr ok_170
theorem ol_171 : nv_all (np_M 171) 171 0 np_c171 := (congrArg (fun M => nv_all M 171 0 np_c171) mq_171).mpr ok_171
theorem ol_172 : nv_all (np_M 172) 172 0 np_c172 := (congrArg (fun M => nv_all M 172 0 np_c172) mq_172).mpr ok_172
theorem ol_173 : nv_all (np_M 173) 173 0 np_c173 := (congrArg (fun M => nv_all M 173 0 np_c173) mq_173).mpr ok_173
theorem ol_174 : nv_all (np_M 174) 174 0 np_c174 := (congrArg (fun M => nv_all M 174 0 np_c174) mq_174).mpr ok_174
theorem ol_175 : nv_all (np_M 175) 175 0 np_c175 := (congrArg (fun M => nv_all M 175 0 np_c175) mq_175).mpr ok_175
theorem ol_176 : nv_all (np_M 176) 176 0 np_c176 := (congrArg (fun M => nv_all M 176 0 np_c176) mq_176).mpr ok_176
theorem ol_177 : nv_all (np_M 177) 177 0 np_c177 := (congrArg (fun M => nv_all M 177 0 np_c177) mq_177).mpr ok_177
theorem ol_178 : nv_all (np_M 178) 178 0 np_c178 := (congrArg (fun M => nv_all M 178 0 np_c178) mq_178).mpr ok_178
theorem ol_179 : nv_all (np_M 179) 179 0 np_c179 := (congrArg (fun M => nv_all M 179 0 np_c179) mq_179).mpr ok_179
theorem ol_180 : nv_all (np_M 180) 180 0 np_c180 := (congrArg (fun M => nv_all M 180 0 np_c180) mq_180).mpr ok_180
theorem np_alls : nv_alls 0 np_cs := by
  unfold np_cs
  exact ⟨ol_0, ol_1, ol_2, ol_3, ol_4, ol_5, ol_6, ol_7, ol_8, ol_9, ol_10, ol_11, ol_12, ol_13, ol_14, ol_15, ol_16, ol_17, ol_18, ol_19, ol_20, ol_21, ol_22, ol_23, ol_24, ol_25, ol_26, ol_27, ol_28, ol_29, ol_30, ol_31, ol_32, ol_33, ol_34, ol_35, ol_36, ol_37, ol_38, ol_39, ol_40, ol_41, ol_42, ol_43, ol_44, ol_45, ol_46, ol_47, ol_48, ol_49, ol_50, ol_51, ol_52, ol_53, ol_54, ol_55, ol_56, ol_57, ol_58, ol_59, ol_60, ol_61, ol_62, ol_63, ol_64, ol_65, ol_66, ol_67, ol_68, ol_69, ol_70, ol_71, ol_72, ol_73, ol_74, ol_75, ol_76, ol_77, ol_78, ol_79, ol_80, ol_81, ol_82, ol_83, ol_84, ol_85, ol_86, ol_87, ol_88, ol_89, ol_90, ol_91, ol_92, ol_93, ol_94, ol_95, ol_96, ol_97, ol_98, ol_99, ol_100, ol_101, ol_102, ol_103, ol_104, ol_105, ol_106, ol_107, ol_108, ol_109, ol_110, ol_111, ol_112, ol_113, ol_114, ol_115, ol_116, ol_117, ol_118, ol_119, ol_120, ol_121, ol_122, ol_123, ol_124, ol_125, ol_126, ol_127, ol_128, ol_129, ol_130, ol_131, ol_132, ol_133, ol_134, ol_135, ol_136, ol_137, ol_138, ol_139, ol_140, ol_141, ol_142, ol_143, ol_144, ol_145, ol_146, ol_147, ol_148, ol_149, ol_150, ol_151, ol_152, ol_153, ol_154, ol_155, ol_156, ol_157, ol_158, ol_159, ol_160, ol_161, ol_162, ol_163, ol_164, ol_165, ol_166, ol_167, ol_168, ol_169, ol_170, ol_171, ol_172, ol_173, ol_174, ol_175, ol_176, ol_177, ol_178, ol_179, ol_180, trivial⟩
theorem np_one {y pc : Nat} {i : nv_Ins} (h : (np_P.1 y)[pc]? = some (some i)) : nv_one (np_M y) y pc i := by
  have h1 := nv_alls_at np_cs 0 np_alls y
  rw [Nat.zero_add] at h1
  have h2 := nv_all_at _ 0 h1 pc i h
  rw [Nat.zero_add] at h2
  exact h2
theorem np_tabs : ∀ y, y < 181 → np_P.2.1 y = (np_M y).2.2.1 ∧ plainName (np_M y).1.cls = true := by decide +kernel
theorem np_tab (y : Nat) : np_P.2.1 y = (np_M y).2.2.1 ∧ plainName (np_M y).1.cls = true := by
  by_cases h : y < 181
  · exact np_tabs y h
  · have e1 : np_P.2.1 y = 0 := by
      show np_mxs.getD y 0 = 0
      rw [List.getD_eq_getElem?_getD, List.getElem?_eq_none (by have : np_mxs.length = 181 := rfl; omega)]
      rfl
    have e2 : np_M y = (⟨"SpoonNavy", "", ""⟩, ByteArray.empty, 0, none, [], 0) := by
      unfold np_M
      rw [List.getD_eq_getElem?_getD, List.getElem?_eq_none (by have : np_Ms.length = 181 := rfl; omega)]
      rfl
    rw [e1, e2]
    exact ⟨rfl, by decide +kernel⟩
theorem np_sound : nv_Sound np_P np_M := ⟨np_tab, fun y pc op h => np_one h, fun y pc y' k nx o h => np_one h, fun y pc E h => np_one h⟩
theorem np_keeps (y pc : Nat) (op : nv_Op) (h : (np_P.1 y)[pc]? = some (some (Sum.inl op))) (ls : nv_Ls) (st : List Value) (σ : nv_St) (cfg : nv_Cfg) (hc : op ls st σ = some (.inl cfg)) : cfg.2.2.2.2.2.2.2 = σ.2.2.2.2 := ((np_sound.2.1 y pc op h).2 ls st σ cfg hc).2
theorem np_body {l : Launch} (hl : l.stackTraces = false) (n : Nat) : nv_Bd l np_P np_M n := nv_body hl np_sound np_keeps n
