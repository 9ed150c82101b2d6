-- layouts of the two systems, links of fields and calls by constant, rules of calls by arity (written by wip/whole/gen/gen2.py)
def LC : nw_L := [.inl (9, [some 1, some 3, some 10, some 34, some 58, some 82, some 101, some 110, some 117, some 122, some 129, none, none, none]), .inl (0, [some 2]), .inr (false, 60), .inl (3, [some 4, some 6, some 8, none, none, none, none, none, none]), .inl (0, [some 5]), .inr (false, 60), .inl (0, [some 7]), .inr (false, 60), .inl (0, [some 9]), .inr (false, 31), .inl (2, [some 11, some 30, some 32, none]), .inl (1, [some 12, some 14, some 16, some 18, some 20, some 22, some 24, some 26, some 28, none]), .inl (0, [some 13]), .inr (false, 31), .inl (0, [some 15]), .inr (false, 31), .inl (0, [some 17]), .inr (false, 31), .inl (0, [some 19]), .inr (false, 31), .inl (0, [some 21]), .inr (false, 31), .inl (0, [some 23]), .inr (false, 31), .inl (0, [some 25]), .inr (false, 31), .inl (0, [some 27]), .inr (false, 31), .inl (0, [some 29]), .inr (false, 31), .inl (0, [some 31]), .inr (false, 8), .inl (0, [some 33]), .inr (false, 5), .inl (2, [some 35, some 54, some 56, none]), .inl (1, [some 36, some 38, some 40, some 42, some 44, some 46, some 48, some 50, some 52, none]), .inl (0, [some 37]), .inr (false, 31), .inl (0, [some 39]), .inr (false, 31), .inl (0, [some 41]), .inr (false, 31), .inl (0, [some 43]), .inr (false, 31), .inl (0, [some 45]), .inr (false, 31), .inl (0, [some 47]), .inr (false, 31), .inl (0, [some 49]), .inr (false, 31), .inl (0, [some 51]), .inr (false, 31), .inl (0, [some 53]), .inr (false, 31), .inl (0, [some 55]), .inr (false, 8), .inl (0, [some 57]), .inr (false, 5), .inl (2, [some 59, some 78, some 80, none]), .inl (1, [some 60, some 62, some 64, some 66, some 68, some 70, some 72, some 74, some 76, none]), .inl (0, [some 61]), .inr (false, 31), .inl (0, [some 63]), .inr (false, 31), .inl (0, [some 65]), .inr (false, 31), .inl (0, [some 67]), .inr (false, 31), .inl (0, [some 69]), .inr (false, 31), .inl (0, [some 71]), .inr (false, 31), .inl (0, [some 73]), .inr (false, 31), .inl (0, [some 75]), .inr (false, 31), .inl (0, [some 77]), .inr (false, 31), .inl (0, [some 79]), .inr (false, 8), .inl (0, [some 81]), .inr (false, 5), .inl (1, [some 83, some 85, some 87, some 89, some 91, some 93, some 95, some 97, some 99, none]), .inl (0, [some 84]), .inr (false, 31), .inl (0, [some 86]), .inr (false, 31), .inl (0, [some 88]), .inr (false, 31), .inl (0, [some 90]), .inr (false, 31), .inl (0, [some 92]), .inr (false, 31), .inl (0, [some 94]), .inr (false, 31), .inl (0, [some 96]), .inr (false, 31), .inl (0, [some 98]), .inr (false, 31), .inl (0, [some 100]), .inr (false, 31), .inl (4, [some 102, some 104, some 106, some 108, none, none]), .inl (0, [some 103]), .inr (false, 10), .inl (0, [some 105]), .inr (false, 10), .inl (0, [some 107]), .inr (false, 10), .inl (0, [some 109]), .inr (false, 50), .inl (5, [some 111, some 113, some 115, none, none]), .inl (0, [some 112]), .inr (false, 217), .inl (0, [some 114]), .inr (false, 217), .inl (0, [some 116]), .inr (false, 31), .inl (6, [some 118, some 120, none, none, none]), .inl (0, [some 119]), .inr (false, 465), .inl (0, [some 121]), .inr (false, 31), .inl (7, [some 123, some 125, some 127, none, none]), .inl (0, [some 124]), .inr (false, 31), .inl (0, [some 126]), .inr (false, 6), .inl (0, [some 128]), .inr (false, 31), .inl (8, [some 130, some 132, some 134, none, none, none, none]), .inl (0, [some 131]), .inr (false, 5), .inl (0, [some 133]), .inr (false, 5), .inl (5, [some 135, some 137, some 139, none, none]), .inl (0, [some 136]), .inr (false, 217), .inl (0, [some 138]), .inr (false, 217), .inl (0, [some 140]), .inr (false, 31)]
theorem lc_0 : LC[0]? = some (.inl (9, [some 1, some 3, some 10, some 34, some 58, some 82, some 101, some 110, some 117, some 122, some 129, none, none, none])) := rfl
theorem lc_1 : LC[1]? = some (.inl (0, [some 2])) := rfl
theorem lc_2 : LC[2]? = some (.inr (false, 60)) := rfl
theorem lc_3 : LC[3]? = some (.inl (3, [some 4, some 6, some 8, none, none, none, none, none, none])) := rfl
theorem lc_4 : LC[4]? = some (.inl (0, [some 5])) := rfl
theorem lc_5 : LC[5]? = some (.inr (false, 60)) := rfl
theorem lc_6 : LC[6]? = some (.inl (0, [some 7])) := rfl
theorem lc_7 : LC[7]? = some (.inr (false, 60)) := rfl
theorem lc_8 : LC[8]? = some (.inl (0, [some 9])) := rfl
theorem lc_9 : LC[9]? = some (.inr (false, 31)) := rfl
theorem lc_10 : LC[10]? = some (.inl (2, [some 11, some 30, some 32, none])) := rfl
theorem lc_11 : LC[11]? = some (.inl (1, [some 12, some 14, some 16, some 18, some 20, some 22, some 24, some 26, some 28, none])) := rfl
theorem lc_12 : LC[12]? = some (.inl (0, [some 13])) := rfl
theorem lc_13 : LC[13]? = some (.inr (false, 31)) := rfl
theorem lc_14 : LC[14]? = some (.inl (0, [some 15])) := rfl
theorem lc_15 : LC[15]? = some (.inr (false, 31)) := rfl
theorem lc_16 : LC[16]? = some (.inl (0, [some 17])) := rfl
theorem lc_17 : LC[17]? = some (.inr (false, 31)) := rfl
theorem lc_18 : LC[18]? = some (.inl (0, [some 19])) := rfl
theorem lc_19 : LC[19]? = some (.inr (false, 31)) := rfl
theorem lc_20 : LC[20]? = some (.inl (0, [some 21])) := rfl
theorem lc_21 : LC[21]? = some (.inr (false, 31)) := rfl
theorem lc_22 : LC[22]? = some (.inl (0, [some 23])) := rfl
theorem lc_23 : LC[23]? = some (.inr (false, 31)) := rfl
theorem lc_24 : LC[24]? = some (.inl (0, [some 25])) := rfl
theorem lc_25 : LC[25]? = some (.inr (false, 31)) := rfl
theorem lc_26 : LC[26]? = some (.inl (0, [some 27])) := rfl
theorem lc_27 : LC[27]? = some (.inr (false, 31)) := rfl
theorem lc_28 : LC[28]? = some (.inl (0, [some 29])) := rfl
theorem lc_29 : LC[29]? = some (.inr (false, 31)) := rfl
theorem lc_30 : LC[30]? = some (.inl (0, [some 31])) := rfl
theorem lc_31 : LC[31]? = some (.inr (false, 8)) := rfl
theorem lc_32 : LC[32]? = some (.inl (0, [some 33])) := rfl
theorem lc_33 : LC[33]? = some (.inr (false, 5)) := rfl
theorem lc_34 : LC[34]? = some (.inl (2, [some 35, some 54, some 56, none])) := rfl
theorem lc_35 : LC[35]? = some (.inl (1, [some 36, some 38, some 40, some 42, some 44, some 46, some 48, some 50, some 52, none])) := rfl
theorem lc_36 : LC[36]? = some (.inl (0, [some 37])) := rfl
theorem lc_37 : LC[37]? = some (.inr (false, 31)) := rfl
theorem lc_38 : LC[38]? = some (.inl (0, [some 39])) := rfl
theorem lc_39 : LC[39]? = some (.inr (false, 31)) := rfl
theorem lc_40 : LC[40]? = some (.inl (0, [some 41])) := rfl
theorem lc_41 : LC[41]? = some (.inr (false, 31)) := rfl
theorem lc_42 : LC[42]? = some (.inl (0, [some 43])) := rfl
theorem lc_43 : LC[43]? = some (.inr (false, 31)) := rfl
theorem lc_44 : LC[44]? = some (.inl (0, [some 45])) := rfl
theorem lc_45 : LC[45]? = some (.inr (false, 31)) := rfl
theorem lc_46 : LC[46]? = some (.inl (0, [some 47])) := rfl
theorem lc_47 : LC[47]? = some (.inr (false, 31)) := rfl
theorem lc_48 : LC[48]? = some (.inl (0, [some 49])) := rfl
theorem lc_49 : LC[49]? = some (.inr (false, 31)) := rfl
theorem lc_50 : LC[50]? = some (.inl (0, [some 51])) := rfl
theorem lc_51 : LC[51]? = some (.inr (false, 31)) := rfl
theorem lc_52 : LC[52]? = some (.inl (0, [some 53])) := rfl
theorem lc_53 : LC[53]? = some (.inr (false, 31)) := rfl
theorem lc_54 : LC[54]? = some (.inl (0, [some 55])) := rfl
theorem lc_55 : LC[55]? = some (.inr (false, 8)) := rfl
theorem lc_56 : LC[56]? = some (.inl (0, [some 57])) := rfl
theorem lc_57 : LC[57]? = some (.inr (false, 5)) := rfl
theorem lc_58 : LC[58]? = some (.inl (2, [some 59, some 78, some 80, none])) := rfl
theorem lc_59 : LC[59]? = some (.inl (1, [some 60, some 62, some 64, some 66, some 68, some 70, some 72, some 74, some 76, none])) := rfl
theorem lc_60 : LC[60]? = some (.inl (0, [some 61])) := rfl
theorem lc_61 : LC[61]? = some (.inr (false, 31)) := rfl
theorem lc_62 : LC[62]? = some (.inl (0, [some 63])) := rfl
theorem lc_63 : LC[63]? = some (.inr (false, 31)) := rfl
theorem lc_64 : LC[64]? = some (.inl (0, [some 65])) := rfl
theorem lc_65 : LC[65]? = some (.inr (false, 31)) := rfl
theorem lc_66 : LC[66]? = some (.inl (0, [some 67])) := rfl
theorem lc_67 : LC[67]? = some (.inr (false, 31)) := rfl
theorem lc_68 : LC[68]? = some (.inl (0, [some 69])) := rfl
theorem lc_69 : LC[69]? = some (.inr (false, 31)) := rfl
theorem lc_70 : LC[70]? = some (.inl (0, [some 71])) := rfl
theorem lc_71 : LC[71]? = some (.inr (false, 31)) := rfl
theorem lc_72 : LC[72]? = some (.inl (0, [some 73])) := rfl
theorem lc_73 : LC[73]? = some (.inr (false, 31)) := rfl
theorem lc_74 : LC[74]? = some (.inl (0, [some 75])) := rfl
theorem lc_75 : LC[75]? = some (.inr (false, 31)) := rfl
theorem lc_76 : LC[76]? = some (.inl (0, [some 77])) := rfl
theorem lc_77 : LC[77]? = some (.inr (false, 31)) := rfl
theorem lc_78 : LC[78]? = some (.inl (0, [some 79])) := rfl
theorem lc_79 : LC[79]? = some (.inr (false, 8)) := rfl
theorem lc_80 : LC[80]? = some (.inl (0, [some 81])) := rfl
theorem lc_81 : LC[81]? = some (.inr (false, 5)) := rfl
theorem lc_82 : LC[82]? = some (.inl (1, [some 83, some 85, some 87, some 89, some 91, some 93, some 95, some 97, some 99, none])) := rfl
theorem lc_83 : LC[83]? = some (.inl (0, [some 84])) := rfl
theorem lc_84 : LC[84]? = some (.inr (false, 31)) := rfl
theorem lc_85 : LC[85]? = some (.inl (0, [some 86])) := rfl
theorem lc_86 : LC[86]? = some (.inr (false, 31)) := rfl
theorem lc_87 : LC[87]? = some (.inl (0, [some 88])) := rfl
theorem lc_88 : LC[88]? = some (.inr (false, 31)) := rfl
theorem lc_89 : LC[89]? = some (.inl (0, [some 90])) := rfl
theorem lc_90 : LC[90]? = some (.inr (false, 31)) := rfl
theorem lc_91 : LC[91]? = some (.inl (0, [some 92])) := rfl
theorem lc_92 : LC[92]? = some (.inr (false, 31)) := rfl
theorem lc_93 : LC[93]? = some (.inl (0, [some 94])) := rfl
theorem lc_94 : LC[94]? = some (.inr (false, 31)) := rfl
theorem lc_95 : LC[95]? = some (.inl (0, [some 96])) := rfl
theorem lc_96 : LC[96]? = some (.inr (false, 31)) := rfl
theorem lc_97 : LC[97]? = some (.inl (0, [some 98])) := rfl
theorem lc_98 : LC[98]? = some (.inr (false, 31)) := rfl
theorem lc_99 : LC[99]? = some (.inl (0, [some 100])) := rfl
theorem lc_100 : LC[100]? = some (.inr (false, 31)) := rfl
theorem lc_101 : LC[101]? = some (.inl (4, [some 102, some 104, some 106, some 108, none, none])) := rfl
theorem lc_102 : LC[102]? = some (.inl (0, [some 103])) := rfl
theorem lc_103 : LC[103]? = some (.inr (false, 10)) := rfl
theorem lc_104 : LC[104]? = some (.inl (0, [some 105])) := rfl
theorem lc_105 : LC[105]? = some (.inr (false, 10)) := rfl
theorem lc_106 : LC[106]? = some (.inl (0, [some 107])) := rfl
theorem lc_107 : LC[107]? = some (.inr (false, 10)) := rfl
theorem lc_108 : LC[108]? = some (.inl (0, [some 109])) := rfl
theorem lc_109 : LC[109]? = some (.inr (false, 50)) := rfl
theorem lc_110 : LC[110]? = some (.inl (5, [some 111, some 113, some 115, none, none])) := rfl
theorem lc_111 : LC[111]? = some (.inl (0, [some 112])) := rfl
theorem lc_112 : LC[112]? = some (.inr (false, 217)) := rfl
theorem lc_113 : LC[113]? = some (.inl (0, [some 114])) := rfl
theorem lc_114 : LC[114]? = some (.inr (false, 217)) := rfl
theorem lc_115 : LC[115]? = some (.inl (0, [some 116])) := rfl
theorem lc_116 : LC[116]? = some (.inr (false, 31)) := rfl
theorem lc_117 : LC[117]? = some (.inl (6, [some 118, some 120, none, none, none])) := rfl
theorem lc_118 : LC[118]? = some (.inl (0, [some 119])) := rfl
theorem lc_119 : LC[119]? = some (.inr (false, 465)) := rfl
theorem lc_120 : LC[120]? = some (.inl (0, [some 121])) := rfl
theorem lc_121 : LC[121]? = some (.inr (false, 31)) := rfl
theorem lc_122 : LC[122]? = some (.inl (7, [some 123, some 125, some 127, none, none])) := rfl
theorem lc_123 : LC[123]? = some (.inl (0, [some 124])) := rfl
theorem lc_124 : LC[124]? = some (.inr (false, 31)) := rfl
theorem lc_125 : LC[125]? = some (.inl (0, [some 126])) := rfl
theorem lc_126 : LC[126]? = some (.inr (false, 6)) := rfl
theorem lc_127 : LC[127]? = some (.inl (0, [some 128])) := rfl
theorem lc_128 : LC[128]? = some (.inr (false, 31)) := rfl
theorem lc_129 : LC[129]? = some (.inl (8, [some 130, some 132, some 134, none, none, none, none])) := rfl
theorem lc_130 : LC[130]? = some (.inl (0, [some 131])) := rfl
theorem lc_131 : LC[131]? = some (.inr (false, 5)) := rfl
theorem lc_132 : LC[132]? = some (.inl (0, [some 133])) := rfl
theorem lc_133 : LC[133]? = some (.inr (false, 5)) := rfl
theorem lc_134 : LC[134]? = some (.inl (5, [some 135, some 137, some 139, none, none])) := rfl
theorem lc_135 : LC[135]? = some (.inl (0, [some 136])) := rfl
theorem lc_136 : LC[136]? = some (.inr (false, 217)) := rfl
theorem lc_137 : LC[137]? = some (.inl (0, [some 138])) := rfl
theorem lc_138 : LC[138]? = some (.inr (false, 217)) := rfl
theorem lc_139 : LC[139]? = some (.inl (0, [some 140])) := rfl
theorem lc_140 : LC[140]? = some (.inr (false, 31)) := rfl
def LM : nw_L := [.inl (10, [none, some 1, none, none, none, some 2, some 3, some 4, some 5, none, some 6, some 7, none, none, some 8, none, some 9, some 10, none, some 11, some 12, some 13, some 14, some 15, none, some 16, none, some 17, none, some 18, some 19, some 20]), .inr (false, 60), .inr (false, 138), .inr (false, 138), .inr (false, 138), .inr (false, 1380), .inr (false, 276), .inr (true, 2), .inr (false, 64), .inr (false, 64), .inr (false, 64), .inr (true, 31), .inr (false, 217), .inr (false, 217), .inr (false, 31), .inr (false, 1280), .inr (false, 640), .inr (false, 31), .inr (false, 8), .inr (false, 32), .inr (false, 31)]
theorem lm_0 : LM[0]? = some (.inl (10, [none, some 1, none, none, none, some 2, some 3, some 4, some 5, none, some 6, some 7, none, none, some 8, none, some 9, some 10, none, some 11, some 12, some 13, some 14, some 15, none, some 16, none, some 17, none, some 18, some 19, some 20])) := rfl
theorem lm_1 : LM[1]? = some (.inr (false, 60)) := rfl
theorem lm_2 : LM[2]? = some (.inr (false, 138)) := rfl
theorem lm_3 : LM[3]? = some (.inr (false, 138)) := rfl
theorem lm_4 : LM[4]? = some (.inr (false, 138)) := rfl
theorem lm_5 : LM[5]? = some (.inr (false, 1380)) := rfl
theorem lm_6 : LM[6]? = some (.inr (false, 276)) := rfl
theorem lm_7 : LM[7]? = some (.inr (true, 2)) := rfl
theorem lm_8 : LM[8]? = some (.inr (false, 64)) := rfl
theorem lm_9 : LM[9]? = some (.inr (false, 64)) := rfl
theorem lm_10 : LM[10]? = some (.inr (false, 64)) := rfl
theorem lm_11 : LM[11]? = some (.inr (true, 31)) := rfl
theorem lm_12 : LM[12]? = some (.inr (false, 217)) := rfl
theorem lm_13 : LM[13]? = some (.inr (false, 217)) := rfl
theorem lm_14 : LM[14]? = some (.inr (false, 31)) := rfl
theorem lm_15 : LM[15]? = some (.inr (false, 1280)) := rfl
theorem lm_16 : LM[16]? = some (.inr (false, 640)) := rfl
theorem lm_17 : LM[17]? = some (.inr (false, 31)) := rfl
theorem lm_18 : LM[18]? = some (.inr (false, 8)) := rfl
theorem lm_19 : LM[19]? = some (.inr (false, 32)) := rfl
theorem lm_20 : LM[20]? = some (.inr (false, 31)) := rfl
theorem nf_Row_13 : nf_ok "NeedCode$Row" 13 0 0 := ⟨_, rfl, by decide, rfl, Or.inl w_32⟩
theorem nf_Reader_14 : nf_ok "NeedCode$Reader" 14 3 0 := ⟨_, rfl, by decide, rfl, Or.inl w_45⟩
theorem nf_Reader_20 : nf_ok "NeedCode$Reader" 20 3 1 := ⟨_, rfl, by decide, rfl, Or.inl w_46⟩
theorem nf_Reader_23 : nf_ok "NeedCode$Reader" 23 3 2 := ⟨_, rfl, by decide, rfl, Or.inl w_47⟩
theorem nf_Reader_26 : nf_ok "NeedCode$Reader" 26 3 3 := ⟨_, rfl, by decide, rfl, Or.inl w_48⟩
theorem nf_Reader_30 : nf_ok "NeedCode$Reader" 30 3 4 := ⟨_, rfl, by decide, rfl, Or.inl w_49⟩
theorem nf_Reader_33 : nf_ok "NeedCode$Reader" 33 3 5 := ⟨_, rfl, by decide, rfl, Or.inl w_50⟩
theorem nf_Reader_36 : nf_ok "NeedCode$Reader" 36 3 6 := ⟨_, rfl, by decide, rfl, Or.inl w_51⟩
theorem nf_Reader_39 : nf_ok "NeedCode$Reader" 39 3 7 := ⟨_, rfl, by decide, rfl, Or.inl w_52⟩
theorem nf_Reader_43 : nf_ok "NeedCode$Reader" 43 3 8 := ⟨_, rfl, by decide, rfl, Or.inl w_53⟩
theorem nf_Tree_14 : nf_ok "NeedCode$Tree" 14 1 0 := ⟨_, rfl, by decide, rfl, Or.inl w_87⟩
theorem nf_Device_60 : nf_ok "NeedCode$Device" 60 1 0 := ⟨_, rfl, by decide, rfl, Or.inr ⟨_, w_88⟩⟩
theorem nf_Need_125 : nf_ok "NeedCode" 125 1 0 := ⟨_, rfl, by decide, rfl, Or.inr ⟨_, w_89⟩⟩
theorem nf_Program_87 : nf_ok "NeedCode$Program" 87 1 0 := ⟨_, rfl, by decide, rfl, Or.inr ⟨_, w_90⟩⟩
theorem nf_Tree_20 : nf_ok "NeedCode$Tree" 20 1 1 := ⟨_, rfl, by decide, rfl, Or.inl w_91⟩
theorem nf_Device_63 : nf_ok "NeedCode$Device" 63 1 1 := ⟨_, rfl, by decide, rfl, Or.inr ⟨_, w_92⟩⟩
theorem nf_Need_132 : nf_ok "NeedCode" 132 1 1 := ⟨_, rfl, by decide, rfl, Or.inr ⟨_, w_93⟩⟩
theorem nf_Program_90 : nf_ok "NeedCode$Program" 90 1 1 := ⟨_, rfl, by decide, rfl, Or.inr ⟨_, w_94⟩⟩
theorem nf_Tree_23 : nf_ok "NeedCode$Tree" 23 1 2 := ⟨_, rfl, by decide, rfl, Or.inl w_95⟩
theorem nf_Device_43 : nf_ok "NeedCode$Device" 43 1 2 := ⟨_, rfl, by decide, rfl, Or.inr ⟨_, w_96⟩⟩
theorem nf_Program_65 : nf_ok "NeedCode$Program" 65 1 2 := ⟨_, rfl, by decide, rfl, Or.inr ⟨_, w_97⟩⟩
theorem nf_Costs_59 : nf_ok "NeedCode$Costs" 59 1 2 := ⟨_, rfl, by decide, rfl, Or.inr ⟨_, w_98⟩⟩
theorem nf_Need_135 : nf_ok "NeedCode" 135 1 2 := ⟨_, rfl, by decide, rfl, Or.inr ⟨_, w_99⟩⟩
theorem nf_Tree_26 : nf_ok "NeedCode$Tree" 26 1 3 := ⟨_, rfl, by decide, rfl, Or.inl w_100⟩
theorem nf_Device_46 : nf_ok "NeedCode$Device" 46 1 3 := ⟨_, rfl, by decide, rfl, Or.inr ⟨_, w_101⟩⟩
theorem nf_Need_138 : nf_ok "NeedCode" 138 1 3 := ⟨_, rfl, by decide, rfl, Or.inr ⟨_, w_102⟩⟩
theorem nf_Program_71 : nf_ok "NeedCode$Program" 71 1 3 := ⟨_, rfl, by decide, rfl, Or.inr ⟨_, w_103⟩⟩
theorem nf_Costs_69 : nf_ok "NeedCode$Costs" 69 1 3 := ⟨_, rfl, by decide, rfl, Or.inr ⟨_, w_104⟩⟩
theorem nf_Tree_29 : nf_ok "NeedCode$Tree" 29 1 4 := ⟨_, rfl, by decide, rfl, Or.inl w_105⟩
theorem nf_Need_141 : nf_ok "NeedCode" 141 1 4 := ⟨_, rfl, by decide, rfl, Or.inr ⟨_, w_106⟩⟩
theorem nf_Tree_32 : nf_ok "NeedCode$Tree" 32 1 5 := ⟨_, rfl, by decide, rfl, Or.inl w_107⟩
theorem nf_Need_144 : nf_ok "NeedCode" 144 1 5 := ⟨_, rfl, by decide, rfl, Or.inr ⟨_, w_108⟩⟩
theorem nf_Tree_35 : nf_ok "NeedCode$Tree" 35 1 6 := ⟨_, rfl, by decide, rfl, Or.inl w_109⟩
theorem nf_Need_147 : nf_ok "NeedCode" 147 1 6 := ⟨_, rfl, by decide, rfl, Or.inr ⟨_, w_110⟩⟩
theorem nf_Tree_38 : nf_ok "NeedCode$Tree" 38 1 7 := ⟨_, rfl, by decide, rfl, Or.inl w_111⟩
theorem nf_Device_30 : nf_ok "NeedCode$Device" 30 1 7 := ⟨_, rfl, by decide, rfl, Or.inr ⟨_, w_112⟩⟩
theorem nf_Need_150 : nf_ok "NeedCode" 150 1 7 := ⟨_, rfl, by decide, rfl, Or.inr ⟨_, w_113⟩⟩
theorem nf_Tree_41 : nf_ok "NeedCode$Tree" 41 1 8 := ⟨_, rfl, by decide, rfl, Or.inl w_114⟩
theorem nf_Shares_43 : nf_ok "NeedCode$Shares" 43 1 8 := ⟨_, rfl, by decide, rfl, Or.inr ⟨_, w_115⟩⟩
theorem nf_Need_153 : nf_ok "NeedCode" 153 1 8 := ⟨_, rfl, by decide, rfl, Or.inr ⟨_, w_116⟩⟩
theorem nf_Tree_44 : nf_ok "NeedCode$Tree" 44 1 9 := ⟨_, rfl, by decide, rfl, Or.inl w_117⟩
theorem nf_Shares_38 : nf_ok "NeedCode$Shares" 38 1 9 := ⟨_, rfl, by decide, rfl, Or.inr ⟨_, w_118⟩⟩
theorem nf_Costs_30 : nf_ok "NeedCode$Costs" 30 1 9 := ⟨_, rfl, by decide, rfl, Or.inr ⟨_, w_119⟩⟩
theorem nf_Need_118 : nf_ok "NeedCode" 118 1 9 := ⟨_, rfl, by decide, rfl, Or.inr ⟨_, w_120⟩⟩
theorem nf_Image_12 : nf_ok "NeedCode$Image" 12 2 0 := ⟨_, rfl, by decide, rfl, Or.inl w_144⟩
theorem nf_Need_101 : nf_ok "NeedCode" 101 2 0 := ⟨_, rfl, by decide, rfl, Or.inr ⟨_, w_145⟩⟩
theorem nf_Image_23 : nf_ok "NeedCode$Image" 23 2 1 := ⟨_, rfl, by decide, rfl, Or.inl w_146⟩
theorem nf_Need_156 : nf_ok "NeedCode" 156 2 1 := ⟨_, rfl, by decide, rfl, Or.inr ⟨_, w_147⟩⟩
theorem nf_Image_27 : nf_ok "NeedCode$Image" 27 2 2 := ⟨_, rfl, by decide, rfl, Or.inl w_148⟩
theorem nf_Need_84 : nf_ok "NeedCode" 84 2 2 := ⟨_, rfl, by decide, rfl, Or.inr ⟨_, w_149⟩⟩
theorem nf_Need_108 : nf_ok "NeedCode" 108 2 3 := ⟨_, rfl, by decide, rfl, Or.inr ⟨_, w_150⟩⟩
theorem nf_Acts_14 : nf_ok "NeedCode$Acts" 14 4 0 := ⟨_, rfl, by decide, rfl, Or.inl w_170⟩
theorem nf_Acts_20 : nf_ok "NeedCode$Acts" 20 4 1 := ⟨_, rfl, by decide, rfl, Or.inl w_171⟩
theorem nf_Acts_23 : nf_ok "NeedCode$Acts" 23 4 2 := ⟨_, rfl, by decide, rfl, Or.inl w_172⟩
theorem nf_Acts_26 : nf_ok "NeedCode$Acts" 26 4 3 := ⟨_, rfl, by decide, rfl, Or.inl w_173⟩
theorem nf_Acts_37 : nf_ok "NeedCode$Acts" 37 4 4 := ⟨_, rfl, by decide, rfl, Or.inl w_174⟩
theorem nf_Acts_29 : nf_ok "NeedCode$Acts" 29 4 5 := ⟨_, rfl, by decide, rfl, Or.inl w_175⟩
theorem nf_Need_231 : nf_ok "NeedCode" 231 4 5 := ⟨_, rfl, by decide, rfl, Or.inr ⟨_, w_176⟩⟩
theorem nf_Costs_16 : nf_ok "NeedCode$Costs" 16 5 0 := ⟨_, rfl, by decide, rfl, Or.inl w_198⟩
theorem nf_Costs_20 : nf_ok "NeedCode$Costs" 20 5 1 := ⟨_, rfl, by decide, rfl, Or.inl w_199⟩
theorem nf_Costs_23 : nf_ok "NeedCode$Costs" 23 5 2 := ⟨_, rfl, by decide, rfl, Or.inl w_200⟩
theorem nf_Costs_79 : nf_ok "NeedCode$Costs" 79 5 3 := ⟨_, rfl, by decide, rfl, Or.inl w_201⟩
theorem nf_Costs_89 : nf_ok "NeedCode$Costs" 89 5 4 := ⟨_, rfl, by decide, rfl, Or.inl w_202⟩
theorem nf_Program_14 : nf_ok "NeedCode$Program" 14 6 0 := ⟨_, rfl, by decide, rfl, Or.inl w_222⟩
theorem nf_Program_20 : nf_ok "NeedCode$Program" 20 6 1 := ⟨_, rfl, by decide, rfl, Or.inl w_223⟩
theorem nf_Program_31 : nf_ok "NeedCode$Program" 31 6 2 := ⟨_, rfl, by decide, rfl, Or.inl w_224⟩
theorem nf_Need_189 : nf_ok "NeedCode" 189 6 2 := ⟨_, rfl, by decide, rfl, Or.inr ⟨_, w_225⟩⟩
theorem nf_Program_34 : nf_ok "NeedCode$Program" 34 6 3 := ⟨_, rfl, by decide, rfl, Or.inl w_226⟩
theorem nf_Need_192 : nf_ok "NeedCode" 192 6 3 := ⟨_, rfl, by decide, rfl, Or.inr ⟨_, w_227⟩⟩
theorem nf_Program_27 : nf_ok "NeedCode$Program" 27 6 4 := ⟨_, rfl, by decide, rfl, Or.inl w_228⟩
theorem nf_Device_14 : nf_ok "NeedCode$Device" 14 7 0 := ⟨_, rfl, by decide, rfl, Or.inl w_248⟩
theorem nf_Device_20 : nf_ok "NeedCode$Device" 20 7 1 := ⟨_, rfl, by decide, rfl, Or.inl w_249⟩
theorem nf_Device_23 : nf_ok "NeedCode$Device" 23 7 2 := ⟨_, rfl, by decide, rfl, Or.inl w_250⟩
theorem nf_Device_53 : nf_ok "NeedCode$Device" 53 7 3 := ⟨_, rfl, by decide, rfl, Or.inl w_251⟩
theorem nf_Need_278 : nf_ok "NeedCode" 278 7 3 := ⟨_, rfl, by decide, rfl, Or.inr ⟨_, w_252⟩⟩
theorem nf_Device_26 : nf_ok "NeedCode$Device" 26 7 4 := ⟨_, rfl, by decide, rfl, Or.inl w_253⟩
theorem nf_Need_275 : nf_ok "NeedCode" 275 7 4 := ⟨_, rfl, by decide, rfl, Or.inr ⟨_, w_254⟩⟩
theorem nf_Shares_14 : nf_ok "NeedCode$Shares" 14 8 0 := ⟨_, rfl, by decide, rfl, Or.inl w_276⟩
theorem nf_Need_252 : nf_ok "NeedCode" 252 8 0 := ⟨_, rfl, by decide, rfl, Or.inr ⟨_, w_277⟩⟩
theorem nf_Shares_20 : nf_ok "NeedCode$Shares" 20 8 1 := ⟨_, rfl, by decide, rfl, Or.inl w_278⟩
theorem nf_Need_255 : nf_ok "NeedCode" 255 8 1 := ⟨_, rfl, by decide, rfl, Or.inr ⟨_, w_279⟩⟩
theorem nf_Shares_26 : nf_ok "NeedCode$Shares" 26 8 2 := ⟨_, rfl, by decide, rfl, Or.inl w_280⟩
theorem nf_Shares_30 : nf_ok "NeedCode$Shares" 30 8 3 := ⟨_, rfl, by decide, rfl, Or.inl w_281⟩
theorem nf_Need_249 : nf_ok "NeedCode" 249 8 3 := ⟨_, rfl, by decide, rfl, Or.inr ⟨_, w_282⟩⟩
theorem nf_Shares_72 : nf_ok "NeedCode$Shares" 72 8 4 := ⟨_, rfl, by decide, rfl, Or.inl w_283⟩
theorem nf_Need_262 : nf_ok "NeedCode" 262 8 4 := ⟨_, rfl, by decide, rfl, Or.inr ⟨_, w_284⟩⟩
theorem nf_Shares_65 : nf_ok "NeedCode$Shares" 65 8 5 := ⟨_, rfl, by decide, rfl, Or.inl w_285⟩
theorem nf_Need_265 : nf_ok "NeedCode" 265 8 5 := ⟨_, rfl, by decide, rfl, Or.inr ⟨_, w_286⟩⟩
theorem nf_Shares_34 : nf_ok "NeedCode$Shares" 34 8 6 := ⟨_, rfl, by decide, rfl, Or.inl w_287⟩
theorem nf_Need_14 : nf_ok "NeedCode" 14 9 0 := ⟨_, rfl, by decide, rfl, Or.inl w_307⟩
theorem nf_Need_21 : nf_ok "NeedCode" 21 9 1 := ⟨_, rfl, by decide, rfl, Or.inl w_308⟩
theorem nf_Need_28 : nf_ok "NeedCode" 28 9 2 := ⟨_, rfl, by decide, rfl, Or.inl w_309⟩
theorem nf_Need_32 : nf_ok "NeedCode" 32 9 3 := ⟨_, rfl, by decide, rfl, Or.inl w_310⟩
theorem nf_Need_35 : nf_ok "NeedCode" 35 9 4 := ⟨_, rfl, by decide, rfl, Or.inl w_311⟩
theorem nf_Need_41 : nf_ok "NeedCode" 41 9 5 := ⟨_, rfl, by decide, rfl, Or.inl w_312⟩
theorem nf_Need_48 : nf_ok "NeedCode" 48 9 6 := ⟨_, rfl, by decide, rfl, Or.inl w_313⟩
theorem nf_Need_55 : nf_ok "NeedCode" 55 9 7 := ⟨_, rfl, by decide, rfl, Or.inl w_314⟩
theorem nf_Need_62 : nf_ok "NeedCode" 62 9 8 := ⟨_, rfl, by decide, rfl, Or.inl w_315⟩
theorem nf_Need_69 : nf_ok "NeedCode" 69 9 9 := ⟨_, rfl, by decide, rfl, Or.inl w_316⟩
theorem nf_Need_76 : nf_ok "NeedCode" 76 9 10 := ⟨_, rfl, by decide, rfl, Or.inl w_317⟩
theorem nf_Need_91 : nf_ok "NeedCode" 91 9 11 := ⟨_, rfl, by decide, rfl, Or.inl w_318⟩
theorem nf_Need_218 : nf_ok "NeedCode" 218 9 12 := ⟨_, rfl, by decide, rfl, Or.inl w_319⟩
theorem nf_Need_80 : nf_ok "NeedCode" 80 9 13 := ⟨_, rfl, by decide, rfl, Or.inl w_320⟩
theorem nf_Model_75 : nf_ok "NeedCodeModel" 75 10 0 := ⟨_, rfl, by decide, rfl, Or.inl w_840⟩
theorem nf_Model_7 : nf_ok "NeedCodeModel" 7 10 1 := ⟨_, rfl, by decide, rfl, Or.inl w_841⟩
theorem nf_Model_82 : nf_ok "NeedCodeModel" 82 10 2 := ⟨_, rfl, by decide, rfl, Or.inl w_842⟩
theorem nf_Model_85 : nf_ok "NeedCodeModel" 85 10 3 := ⟨_, rfl, by decide, rfl, Or.inl w_843⟩
theorem nf_Model_92 : nf_ok "NeedCodeModel" 92 10 4 := ⟨_, rfl, by decide, rfl, Or.inl w_844⟩
theorem nf_Model_13 : nf_ok "NeedCodeModel" 13 10 5 := ⟨_, rfl, by decide, rfl, Or.inl w_845⟩
theorem nf_Model_16 : nf_ok "NeedCodeModel" 16 10 6 := ⟨_, rfl, by decide, rfl, Or.inl w_846⟩
theorem nf_Model_19 : nf_ok "NeedCodeModel" 19 10 7 := ⟨_, rfl, by decide, rfl, Or.inl w_847⟩
theorem nf_Model_22 : nf_ok "NeedCodeModel" 22 10 8 := ⟨_, rfl, by decide, rfl, Or.inl w_848⟩
theorem nf_Model_142 : nf_ok "NeedCodeModel" 142 10 9 := ⟨_, rfl, by decide, rfl, Or.inl w_849⟩
theorem nf_Model_25 : nf_ok "NeedCodeModel" 25 10 10 := ⟨_, rfl, by decide, rfl, Or.inl w_850⟩
theorem nf_Model_28 : nf_ok "NeedCodeModel" 28 10 11 := ⟨_, rfl, by decide, rfl, Or.inl w_851⟩
theorem nf_Model_194 : nf_ok "NeedCodeModel" 194 10 12 := ⟨_, rfl, by decide, rfl, Or.inl w_852⟩
theorem nf_Model_71 : nf_ok "NeedCodeModel" 71 10 13 := ⟨_, rfl, by decide, rfl, Or.inl w_853⟩
theorem nf_Model_32 : nf_ok "NeedCodeModel" 32 10 14 := ⟨_, rfl, by decide, rfl, Or.inl w_854⟩
theorem nf_Model_95 : nf_ok "NeedCodeModel" 95 10 15 := ⟨_, rfl, by decide, rfl, Or.inl w_855⟩
theorem nf_Model_35 : nf_ok "NeedCodeModel" 35 10 16 := ⟨_, rfl, by decide, rfl, Or.inl w_856⟩
theorem nf_Model_38 : nf_ok "NeedCodeModel" 38 10 17 := ⟨_, rfl, by decide, rfl, Or.inl w_857⟩
theorem nf_Model_98 : nf_ok "NeedCodeModel" 98 10 18 := ⟨_, rfl, by decide, rfl, Or.inl w_858⟩
theorem nf_Model_41 : nf_ok "NeedCodeModel" 41 10 19 := ⟨_, rfl, by decide, rfl, Or.inl w_859⟩
theorem nf_Model_44 : nf_ok "NeedCodeModel" 44 10 20 := ⟨_, rfl, by decide, rfl, Or.inl w_860⟩
theorem nf_Model_47 : nf_ok "NeedCodeModel" 47 10 21 := ⟨_, rfl, by decide, rfl, Or.inl w_861⟩
theorem nf_Model_50 : nf_ok "NeedCodeModel" 50 10 22 := ⟨_, rfl, by decide, rfl, Or.inl w_862⟩
theorem nf_Model_53 : nf_ok "NeedCodeModel" 53 10 23 := ⟨_, rfl, by decide, rfl, Or.inl w_863⟩
theorem nf_Model_216 : nf_ok "NeedCodeModel" 216 10 24 := ⟨_, rfl, by decide, rfl, Or.inl w_864⟩
theorem nf_Model_56 : nf_ok "NeedCodeModel" 56 10 25 := ⟨_, rfl, by decide, rfl, Or.inl w_865⟩
theorem nf_Model_222 : nf_ok "NeedCodeModel" 222 10 26 := ⟨_, rfl, by decide, rfl, Or.inl w_866⟩
theorem nf_Model_59 : nf_ok "NeedCodeModel" 59 10 27 := ⟨_, rfl, by decide, rfl, Or.inl w_867⟩
theorem nf_Model_235 : nf_ok "NeedCodeModel" 235 10 28 := ⟨_, rfl, by decide, rfl, Or.inl w_868⟩
theorem nf_Model_62 : nf_ok "NeedCodeModel" 62 10 29 := ⟨_, rfl, by decide, rfl, Or.inl w_869⟩
theorem nf_Model_65 : nf_ok "NeedCodeModel" 65 10 30 := ⟨_, rfl, by decide, rfl, Or.inl w_870⟩
theorem nf_Model_68 : nf_ok "NeedCodeModel" 68 10 31 := ⟨_, rfl, by decide, rfl, Or.inl w_871⟩
theorem nfin_Tree_9 : nf_fin 1 9 .int := ⟨fun q h => by cases h; rfl, rfl⟩
theorem nfin_Image_3 : nf_fin 2 3 .boolean := ⟨fun q h => by cases h; rfl, rfl⟩
theorem nfin_Reader_3 : nf_fin 3 3 .int := ⟨fun q h => by cases h; rfl, rfl⟩
theorem nfin_Reader_4 : nf_fin 3 4 .int := ⟨fun q h => by cases h; rfl, rfl⟩
theorem nfin_Reader_5 : nf_fin 3 5 .int := ⟨fun q h => by cases h; rfl, rfl⟩
theorem nfin_Reader_6 : nf_fin 3 6 .int := ⟨fun q h => by cases h; rfl, rfl⟩
theorem nfin_Reader_7 : nf_fin 3 7 .boolean := ⟨fun q h => by cases h; rfl, rfl⟩
theorem nfin_Reader_8 : nf_fin 3 8 .boolean := ⟨fun q h => by cases h; rfl, rfl⟩
theorem nfin_Acts_4 : nf_fin 4 4 .int := ⟨fun q h => by cases h; rfl, rfl⟩
theorem nfin_Acts_5 : nf_fin 4 5 .int := ⟨fun q h => by cases h; rfl, rfl⟩
theorem nfin_Costs_3 : nf_fin 5 3 .int := ⟨fun q h => by cases h; rfl, rfl⟩
theorem nfin_Costs_4 : nf_fin 5 4 .int := ⟨fun q h => by cases h; rfl, rfl⟩
theorem nfin_Program_2 : nf_fin 6 2 .int := ⟨fun q h => by cases h; rfl, rfl⟩
theorem nfin_Program_3 : nf_fin 6 3 .int := ⟨fun q h => by cases h; rfl, rfl⟩
theorem nfin_Program_4 : nf_fin 6 4 .int := ⟨fun q h => by cases h; rfl, rfl⟩
theorem nfin_Device_3 : nf_fin 7 3 .int := ⟨fun q h => by cases h; rfl, rfl⟩
theorem nfin_Device_4 : nf_fin 7 4 .int := ⟨fun q h => by cases h; rfl, rfl⟩
theorem nfin_Shares_3 : nf_fin 8 3 .int := ⟨fun q h => by cases h; rfl, rfl⟩
theorem nfin_Shares_4 : nf_fin 8 4 .int := ⟨fun q h => by cases h; rfl, rfl⟩
theorem nfin_Shares_5 : nf_fin 8 5 .int := ⟨fun q h => by cases h; rfl, rfl⟩
theorem nfin_Shares_6 : nf_fin 8 6 .boolean := ⟨fun q h => by cases h; rfl, rfl⟩
theorem nfin_Need_11 : nf_fin 9 11 .int := ⟨fun q h => by cases h; rfl, rfl⟩
theorem nfin_Need_12 : nf_fin 9 12 .int := ⟨fun q h => by cases h; rfl, rfl⟩
theorem nfin_Need_13 : nf_fin 9 13 .int := ⟨fun q h => by cases h; rfl, rfl⟩
theorem nfin_Model_0 : nf_fin 10 0 .int := ⟨fun q h => by cases h; rfl, rfl⟩
theorem nfin_Model_2 : nf_fin 10 2 .int := ⟨fun q h => by cases h; rfl, rfl⟩
theorem nfin_Model_3 : nf_fin 10 3 .int := ⟨fun q h => by cases h; rfl, rfl⟩
theorem nfin_Model_4 : nf_fin 10 4 .int := ⟨fun q h => by cases h; rfl, rfl⟩
theorem nfin_Model_9 : nf_fin 10 9 .int := ⟨fun q h => by cases h; rfl, rfl⟩
theorem nfin_Model_12 : nf_fin 10 12 .int := ⟨fun q h => by cases h; rfl, rfl⟩
theorem nfin_Model_13 : nf_fin 10 13 .int := ⟨fun q h => by cases h; rfl, rfl⟩
theorem nfin_Model_15 : nf_fin 10 15 .int := ⟨fun q h => by cases h; rfl, rfl⟩
theorem nfin_Model_18 : nf_fin 10 18 .int := ⟨fun q h => by cases h; rfl, rfl⟩
theorem nfin_Model_24 : nf_fin 10 24 .int := ⟨fun q h => by cases h; rfl, rfl⟩
theorem nfin_Model_26 : nf_fin 10 26 .int := ⟨fun q h => by cases h; rfl, rfl⟩
theorem nfin_Model_28 : nf_fin 10 28 .int := ⟨fun q h => by cases h; rfl, rfl⟩
def mV (k : nk_T) (n ci : Nat) : Prop := mfV k n ∧ (classes[ci]?).map (fun q => q.1) = some k.1.cls
theorem v_Row_put : mV m_Row_put 2 0 := ⟨f_Row_put, rfl⟩
theorem v_Need_type : mV m_Need_type 1 9 := ⟨f_Need_type, rfl⟩
theorem v_Need_clear : mV m_Need_clear 0 9 := ⟨f_Need_clear, rfl⟩
theorem v_Need_tree : mV m_Need_tree 0 9 := ⟨f_Need_tree, rfl⟩
theorem v_Reader_read : mV m_Reader_read 3 3 := ⟨f_Reader_read, rfl⟩
theorem v_Tree_empty : mV m_Tree_empty 0 1 := ⟨f_Tree_empty, rfl⟩
theorem v_Row_get : mV m_Row_get 1 0 := ⟨f_Row_get, rfl⟩
theorem v_Reader_takePart : mV m_Reader_takePart 4 3 := ⟨f_Reader_takePart, rfl⟩
theorem v_Reader_digitsHere : mV m_Reader_digitsHere 2 3 := ⟨f_Reader_digitsHere, rfl⟩
theorem v_Reader_pile : mV m_Reader_pile 1 3 := ⟨f_Reader_pile, rfl⟩
theorem v_Reader_addLeaf : mV m_Reader_addLeaf 4 3 := ⟨f_Reader_addLeaf, rfl⟩
theorem v_Reader_addNode : mV m_Reader_addNode 6 3 := ⟨f_Reader_addNode, rfl⟩
theorem v_Tree_isFull : mV m_Tree_isFull 0 1 := ⟨f_Tree_isFull, rfl⟩
theorem v_Tree_add : mV m_Tree_add 4 1 := ⟨f_Tree_add, rfl⟩
theorem v_Tree_root : mV m_Tree_root 0 1 := ⟨f_Tree_root, rfl⟩
theorem v_Reader_takeOperator : mV m_Reader_takeOperator 2 3 := ⟨f_Reader_takeOperator, rfl⟩
theorem v_Reader_settle : mV m_Reader_settle 2 3 := ⟨f_Reader_settle, rfl⟩
theorem v_Reader_takeOff : mV m_Reader_takeOff 0 3 := ⟨f_Reader_takeOff, rfl⟩
theorem v_Tree_derive : mV m_Tree_derive 0 1 := ⟨f_Tree_derive, rfl⟩
theorem v_Tree_isLeaf : mV m_Tree_isLeaf 1 1 := ⟨f_Tree_isLeaf, rfl⟩
theorem v_Tree_deriveLeaf : mV m_Tree_deriveLeaf 1 1 := ⟨f_Tree_deriveLeaf, rfl⟩
theorem v_Tree_isPair : mV m_Tree_isPair 1 1 := ⟨f_Tree_isPair, rfl⟩
theorem v_Tree_derivePair : mV m_Tree_derivePair 1 1 := ⟨f_Tree_derivePair, rfl⟩
theorem v_Tree_leastOfPair : mV m_Tree_leastOfPair 3 1 := ⟨f_Tree_leastOfPair, rfl⟩
theorem v_Tree_isCommuting : mV m_Tree_isCommuting 1 1 := ⟨f_Tree_isCommuting, rfl⟩
theorem v_Tree_mayTrap : mV m_Tree_mayTrap 1 1 := ⟨f_Tree_mayTrap, rfl⟩
theorem v_Tree_deriveSingle : mV m_Tree_deriveSingle 1 1 := ⟨f_Tree_deriveSingle, rfl⟩
theorem v_Tree_lowestAlike : mV m_Tree_lowestAlike 1 1 := ⟨f_Tree_lowestAlike, rfl⟩
theorem v_Tree_areAlike : mV m_Tree_areAlike 2 1 := ⟨f_Tree_areAlike, rfl⟩
theorem v_Tree_kindOf : mV m_Tree_kindOf 1 1 := ⟨f_Tree_kindOf, rfl⟩
theorem v_Tree_copy : mV m_Tree_copy 1 1 := ⟨f_Tree_copy, rfl⟩
theorem v_Row_copy : mV m_Row_copy 1 0 := ⟨f_Row_copy, rfl⟩
theorem v_Acts_forget : mV m_Acts_forget 0 4 := ⟨f_Acts_forget, rfl⟩
theorem v_Need_refresh : mV m_Need_refresh 0 9 := ⟨f_Need_refresh, rfl⟩
theorem v_Shares_find : mV m_Shares_find 1 8 := ⟨f_Shares_find, rfl⟩
theorem v_Costs_fill : mV m_Costs_fill 2 5 := ⟨f_Costs_fill, rfl⟩
theorem v_Costs_fillNode : mV m_Costs_fillNode 3 5 := ⟨f_Costs_fillNode, rfl⟩
theorem v_Costs_countAsLeaf : mV m_Costs_countAsLeaf 2 5 := ⟨f_Costs_countAsLeaf, rfl⟩
theorem v_Costs_put : mV m_Costs_put 4 5 := ⟨f_Costs_put, rfl⟩
theorem v_Costs_choose : mV m_Costs_choose 4 5 := ⟨f_Costs_choose, rfl⟩
theorem v_Costs_costOf : mV m_Costs_costOf 2 5 := ⟨f_Costs_costOf, rfl⟩
theorem v_Costs_keptOf : mV m_Costs_keptOf 3 5 := ⟨f_Costs_keptOf, rfl⟩
theorem v_Tree_bothMayTrap : mV m_Tree_bothMayTrap 1 1 := ⟨f_Tree_bothMayTrap, rfl⟩
theorem v_Costs_offer : mV m_Costs_offer 3 5 := ⟨f_Costs_offer, rfl⟩
theorem v_Program_forget : mV m_Program_forget 0 6 := ⟨f_Program_forget, rfl⟩
theorem v_Need_node : mV m_Need_node 2 9 := ⟨f_Need_node, rfl⟩
theorem v_Tree_has : mV m_Tree_has 1 1 := ⟨f_Tree_has, rfl⟩
theorem v_Need_value : mV m_Need_value 1 9 := ⟨f_Need_value, rfl⟩
theorem v_Device_evaluate : mV m_Device_evaluate 3 7 := ⟨f_Device_evaluate, rfl⟩
theorem v_Device_operate : mV m_Device_operate 4 7 := ⟨f_Device_operate, rfl⟩
theorem v_Need_tell : mV m_Need_tell 1 9 := ⟨f_Need_tell, rfl⟩
theorem v_Need_cost : mV m_Need_cost 2 9 := ⟨f_Need_cost, rfl⟩
theorem v_Need_hasRegisters : mV m_Need_hasRegisters 1 9 := ⟨f_Need_hasRegisters, rfl⟩
theorem v_Need_registers : mV m_Need_registers 0 9 := ⟨f_Need_registers, rfl⟩
theorem v_Need_way : mV m_Need_way 2 9 := ⟨f_Need_way, rfl⟩
theorem v_Costs_wayOf : mV m_Costs_wayOf 2 5 := ⟨f_Costs_wayOf, rfl⟩
theorem v_Need_program : mV m_Need_program 2 9 := ⟨f_Need_program, rfl⟩
theorem v_Tree_isEmpty : mV m_Tree_isEmpty 0 1 := ⟨f_Tree_isEmpty, rfl⟩
theorem v_Program_makeBy : mV m_Program_makeBy 3 6 := ⟨f_Program_makeBy, rfl⟩
theorem v_Program_have : mV m_Program_have 6 6 := ⟨f_Program_have, rfl⟩
theorem v_Program_sourceNumber : mV m_Program_sourceNumber 2 6 := ⟨f_Program_sourceNumber, rfl⟩
theorem v_Program_add : mV m_Program_add 5 6 := ⟨f_Program_add, rfl⟩
theorem v_Program_haveByWay : mV m_Program_haveByWay 6 6 := ⟨f_Program_haveByWay, rfl⟩
theorem v_Program_haveKept : mV m_Program_haveKept 6 6 := ⟨f_Program_haveKept, rfl⟩
theorem v_Need_line : mV m_Need_line 2 9 := ⟨f_Need_line, rfl⟩
theorem v_Program_part : mV m_Program_part 2 6 := ⟨f_Program_part, rfl⟩
theorem v_Need_run : mV m_Need_run 1 9 := ⟨f_Need_run, rfl⟩
theorem v_Device_goThrough : mV m_Device_goThrough 4 7 := ⟨f_Device_goThrough, rfl⟩
theorem v_Row_empty : mV m_Row_empty 0 0 := ⟨f_Row_empty, rfl⟩
theorem v_Device_step : mV m_Device_step 4 7 := ⟨f_Device_step, rfl⟩
theorem v_Device_source : mV m_Device_source 3 7 := ⟨f_Device_source, rfl⟩
theorem v_Need_fewest : mV m_Need_fewest 0 9 := ⟨f_Need_fewest, rfl⟩
theorem v_Need_exchange : mV m_Need_exchange 1 9 := ⟨f_Need_exchange, rfl⟩
theorem v_Tree_isExchangeable : mV m_Tree_isExchangeable 1 1 := ⟨f_Tree_isExchangeable, rfl⟩
theorem v_Acts_addExchange : mV m_Acts_addExchange 1 4 := ⟨f_Acts_addExchange, rfl⟩
theorem v_Acts_add : mV m_Acts_add 3 4 := ⟨f_Acts_add, rfl⟩
theorem v_Tree_turn : mV m_Tree_turn 2 1 := ⟨f_Tree_turn, rfl⟩
theorem v_Tree_move : mV m_Tree_move 3 1 := ⟨f_Tree_move, rfl⟩
theorem v_Need_rootCost : mV m_Need_rootCost 0 9 := ⟨f_Need_rootCost, rfl⟩
theorem v_Need_let : mV m_Need_let 2 9 := ⟨f_Need_let, rfl⟩
theorem v_Acts_addLet : mV m_Acts_addLet 2 4 := ⟨f_Acts_addLet, rfl⟩
theorem v_Need_machine : mV m_Need_machine 5 9 := ⟨f_Need_machine, rfl⟩
theorem v_Acts_addMachine : mV m_Acts_addMachine 1 4 := ⟨f_Acts_addMachine, rfl⟩
theorem v_Need_undo : mV m_Need_undo 0 9 := ⟨f_Need_undo, rfl⟩
theorem v_Acts_latestKind : mV m_Acts_latestKind 0 4 := ⟨f_Acts_latestKind, rfl⟩
theorem v_Acts_latestPlace : mV m_Acts_latestPlace 0 4 := ⟨f_Acts_latestPlace, rfl⟩
theorem v_Acts_latestNumber : mV m_Acts_latestNumber 0 4 := ⟨f_Acts_latestNumber, rfl⟩
theorem v_Acts_tellMachine : mV m_Acts_tellMachine 1 4 := ⟨f_Acts_tellMachine, rfl⟩
theorem v_Acts_drop : mV m_Acts_drop 0 4 := ⟨f_Acts_drop, rfl⟩
theorem v_Need_shared : mV m_Need_shared 2 9 := ⟨f_Need_shared, rfl⟩
theorem v_Need_cheapest : mV m_Need_cheapest 1 9 := ⟨f_Need_cheapest, rfl⟩
theorem v_Shares_weigh : mV m_Shares_weigh 2 8 := ⟨f_Shares_weigh, rfl⟩
theorem v_Shares_sumBy : mV m_Shares_sumBy 3 8 := ⟨f_Shares_sumBy, rfl⟩
theorem v_Shares_isOfSet : mV m_Shares_isOfSet 2 8 := ⟨f_Shares_isOfSet, rfl⟩
theorem v_Need_keep : mV m_Need_keep 1 9 := ⟨f_Need_keep, rfl⟩
theorem v_Need_imageOf : mV m_Need_imageOf 1 9 := ⟨f_Need_imageOf, rfl⟩
theorem v_Image_copy : mV m_Image_copy 1 2 := ⟨f_Image_copy, rfl⟩
theorem v_Need_back : mV m_Need_back 1 9 := ⟨f_Need_back, rfl⟩
theorem v_Need_asked : mV m_Need_asked 0 9 := ⟨f_Need_asked, rfl⟩
theorem v_Need_trapped : mV m_Need_trapped 0 9 := ⟨f_Need_trapped, rfl⟩
theorem v_Need_count : mV m_Need_count 1 9 := ⟨f_Need_count, rfl⟩
theorem v_Model_type : mV m_Model_type 1 10 := ⟨f_Model_type, rfl⟩
theorem v_Model_clear : mV m_Model_clear 0 10 := ⟨f_Model_clear, rfl⟩
theorem v_Model_tree : mV m_Model_tree 0 10 := ⟨f_Model_tree, rfl⟩
theorem v_Model_isWell : mV m_Model_isWell 0 10 := ⟨f_Model_isWell, rfl⟩
theorem v_Model_blanks : mV m_Model_blanks 0 10 := ⟨f_Model_blanks, rfl⟩
theorem v_Model_letterAt : mV m_Model_letterAt 1 10 := ⟨f_Model_letterAt, rfl⟩
theorem v_Model_readsPart : mV m_Model_readsPart 0 10 := ⟨f_Model_readsPart, rfl⟩
theorem v_Model_waits : mV m_Model_waits 1 10 := ⟨f_Model_waits, rfl⟩
theorem v_Model_readsNumber : mV m_Model_readsNumber 0 10 := ⟨f_Model_readsNumber, rfl⟩
theorem v_Model_makes : mV m_Model_makes 5 10 := ⟨f_Model_makes, rfl⟩
theorem v_Model_partDone : mV m_Model_partDone 0 10 := ⟨f_Model_partDone, rfl⟩
theorem v_Model_lastWaiting : mV m_Model_lastWaiting 0 10 := ⟨f_Model_lastWaiting, rfl⟩
theorem v_Model_doesLast : mV m_Model_doesLast 0 10 := ⟨f_Model_doesLast, rfl⟩
theorem v_Model_readsBehind : mV m_Model_readsBehind 0 10 := ⟨f_Model_readsBehind, rfl⟩
theorem v_Model_node : mV m_Model_node 2 10 := ⟨f_Model_node, rfl⟩
theorem v_Model_isNode : mV m_Model_isNode 1 10 := ⟨f_Model_isNode, rfl⟩
theorem v_Model_needOf : mV m_Model_needOf 2 10 := ⟨f_Model_needOf, rfl⟩
theorem v_Model_needAs : mV m_Model_needAs 2 10 := ⟨f_Model_needAs, rfl⟩
theorem v_Model_isLeaf : mV m_Model_isLeaf 1 10 := ⟨f_Model_isLeaf, rfl⟩
theorem v_Model_isRight : mV m_Model_isRight 1 10 := ⟨f_Model_isRight, rfl⟩
theorem v_Model_mayTrap : mV m_Model_mayTrap 1 10 := ⟨f_Model_mayTrap, rfl⟩
theorem v_Model_sizeOf : mV m_Model_sizeOf 1 10 := ⟨f_Model_sizeOf, rfl⟩
theorem v_Model_lowestAlike : mV m_Model_lowestAlike 1 10 := ⟨f_Model_lowestAlike, rfl⟩
theorem v_Model_isAlike : mV m_Model_isAlike 2 10 := ⟨f_Model_isAlike, rfl⟩
theorem v_Model_value : mV m_Model_value 1 10 := ⟨f_Model_value, rfl⟩
theorem v_Model_leafValue : mV m_Model_leafValue 1 10 := ⟨f_Model_leafValue, rfl⟩
theorem v_Model_cost : mV m_Model_cost 2 10 := ⟨f_Model_cost, rfl⟩
theorem v_Model_isRegisters : mV m_Model_isRegisters 1 10 := ⟨f_Model_isRegisters, rfl⟩
theorem v_Model_reckonsAll : mV m_Model_reckonsAll 0 10 := ⟨f_Model_reckonsAll, rfl⟩
theorem v_Model_reckons : mV m_Model_reckons 0 10 := ⟨f_Model_reckons, rfl⟩
theorem v_Model_costAt : mV m_Model_costAt 2 10 := ⟨f_Model_costAt, rfl⟩
theorem v_Model_costBy : mV m_Model_costBy 3 10 := ⟨f_Model_costBy, rfl⟩
theorem v_Model_keptAt : mV m_Model_keptAt 2 10 := ⟨f_Model_keptAt, rfl⟩
theorem v_Model_way : mV m_Model_way 2 10 := ⟨f_Model_way, rfl⟩
theorem v_Model_program : mV m_Model_program 2 10 := ⟨f_Model_program, rfl⟩
theorem v_Model_programs : mV m_Model_programs 1 10 := ⟨f_Model_programs, rfl⟩
theorem v_Model_toDo : mV m_Model_toDo 5 10 := ⟨f_Model_toDo, rfl⟩
theorem v_Model_plans : mV m_Model_plans 3 10 := ⟨f_Model_plans, rfl⟩
theorem v_Model_lies : mV m_Model_lies 2 10 := ⟨f_Model_lies, rfl⟩
theorem v_Model_writes : mV m_Model_writes 5 10 := ⟨f_Model_writes, rfl⟩
theorem v_Model_toKeep : mV m_Model_toKeep 3 10 := ⟨f_Model_toKeep, rfl⟩
theorem v_Model_line : mV m_Model_line 2 10 := ⟨f_Model_line, rfl⟩
theorem v_Model_run : mV m_Model_run 1 10 := ⟨f_Model_run, rfl⟩
theorem v_Model_from : mV m_Model_from 2 10 := ⟨f_Model_from, rfl⟩
theorem v_Model_fewest : mV m_Model_fewest 0 10 := ⟨f_Model_fewest, rfl⟩
theorem v_Model_exchange : mV m_Model_exchange 1 10 := ⟨f_Model_exchange, rfl⟩
theorem v_Model_notes : mV m_Model_notes 0 10 := ⟨f_Model_notes, rfl⟩
theorem v_Model_moves : mV m_Model_moves 2 10 := ⟨f_Model_moves, rfl⟩
theorem v_Model_rootCost : mV m_Model_rootCost 0 10 := ⟨f_Model_rootCost, rfl⟩
theorem v_Model_let : mV m_Model_let 2 10 := ⟨f_Model_let, rfl⟩
theorem v_Model_machine : mV m_Model_machine 5 10 := ⟨f_Model_machine, rfl⟩
theorem v_Model_undo : mV m_Model_undo 0 10 := ⟨f_Model_undo, rfl⟩
theorem v_Model_shared : mV m_Model_shared 2 10 := ⟨f_Model_shared, rfl⟩
theorem v_Model_sharedFirst : mV m_Model_sharedFirst 1 10 := ⟨f_Model_sharedFirst, rfl⟩
theorem v_Model_occurs : mV m_Model_occurs 1 10 := ⟨f_Model_occurs, rfl⟩
theorem v_Model_cheapest : mV m_Model_cheapest 1 10 := ⟨f_Model_cheapest, rfl⟩
theorem v_Model_costBySet : mV m_Model_costBySet 1 10 := ⟨f_Model_costBySet, rfl⟩
theorem v_Model_sharedMany : mV m_Model_sharedMany 0 10 := ⟨f_Model_sharedMany, rfl⟩
theorem v_Model_keep : mV m_Model_keep 1 10 := ⟨f_Model_keep, rfl⟩
theorem v_Model_back : mV m_Model_back 1 10 := ⟨f_Model_back, rfl⟩
theorem v_Model_asked : mV m_Model_asked 0 10 := ⟨f_Model_asked, rfl⟩
theorem v_Model_trapped : mV m_Model_trapped 0 10 := ⟨f_Model_trapped, rfl⟩
theorem v_Model_count : mV m_Model_count 1 10 := ⟨f_Model_count, rfl⟩
section RCA
variable {G : nw_G} {L : nw_L} {k : nk_T} {d : Nat} {P : Option Value → nw_M → Prop} {pc : Nat} {lv : List (Option Value)} {rest : List Value} {M : nw_M}
theorem r_V0 {k2 : nk_T} {d2 idx b ci : Nat} {fl : List (Option Nat)} {r : Option Value} {N : nw_M} (hf : mV k2 0 ci) (hl2 : Cond.methodLink k.1.cls idx k2.1 ∈ lw_tbl) (hL : L[b]? = some (.inl (ci, fl))) (hM : CF G L k2 d2 [.ref (G.2.2 b)] M r N) (hdd : d2 + 1 ≤ d) (hroom : (rest.map fun v => v.category).sum ≤ 8) (hd : decode k.2.1 pc = .ok (.invokevirtual idx, 3)) (kk : RJ G L k d P (pc + 3) lv (r.toList ++ rest) N) : RJ G L k d P pc lv (.ref (G.2.2 b) :: rest) M :=
  r_callVF hf.1 hl2 hL hf.2 hM hdd rfl rfl hroom hd kk
theorem r_VN0 {k2 : nk_T} {d2 idx b ci : Nat} {host : String} {fl : List (Option Nat)} {r : Option Value} {N : nw_M} (hf : mV k2 0 ci) (hl2 : Cond.methodLinkNest k.1.cls idx k2.1 host ∈ lw_tbl) (hL : L[b]? = some (.inl (ci, fl))) (hM : CF G L k2 d2 [.ref (G.2.2 b)] M r N) (hdd : d2 + 1 ≤ d) (hroom : (rest.map fun v => v.category).sum ≤ 8) (hd : decode k.2.1 pc = .ok (.invokevirtual idx, 3)) (kk : RJ G L k d P (pc + 3) lv (r.toList ++ rest) N) : RJ G L k d P pc lv (.ref (G.2.2 b) :: rest) M :=
  r_callVNF hf.1 hl2 hL hf.2 hM hdd rfl rfl hroom hd kk
theorem r_W0 {k2 : nk_T} {d2 idx b ci : Nat} {fl : List (Option Nat)} {P2 : Option Value → nw_M → Prop} (hf : mV k2 0 ci) (hl2 : Cond.methodLink k.1.cls idx k2.1 ∈ lw_tbl) (hL : L[b]? = some (.inl (ci, fl))) (hM : CJ G L k2 d2 [.ref (G.2.2 b)] M P2) (hdd : d2 + 1 ≤ d) (hroom : (rest.map fun v => v.category).sum ≤ 8) (hd : decode k.2.1 pc = .ok (.invokevirtual idx, 3)) (kk : ∀ v N, P2 v N → RJ G L k d P (pc + 3) lv (v.toList ++ rest) N) : RJ G L k d P pc lv (.ref (G.2.2 b) :: rest) M :=
  r_callV hf.1 hl2 hL hf.2 hM hdd rfl rfl hroom hd kk
theorem r_V1 {k2 : nk_T} {d2 idx b ci : Nat} {fl : List (Option Nat)} {a0 : Value} {r : Option Value} {N : nw_M} (hf : mV k2 1 ci) (hl2 : Cond.methodLink k.1.cls idx k2.1 ∈ lw_tbl) (hL : L[b]? = some (.inl (ci, fl))) (hM : CF G L k2 d2 [.ref (G.2.2 b), a0] M r N) (hdd : d2 + 1 ≤ d) (hroom : (rest.map fun v => v.category).sum ≤ 8) (hd : decode k.2.1 pc = .ok (.invokevirtual idx, 3)) (kk : RJ G L k d P (pc + 3) lv (r.toList ++ rest) N) : RJ G L k d P pc lv (a0 :: .ref (G.2.2 b) :: rest) M :=
  r_callVF hf.1 hl2 hL hf.2 hM hdd rfl rfl hroom hd kk
theorem r_VN1 {k2 : nk_T} {d2 idx b ci : Nat} {host : String} {fl : List (Option Nat)} {a0 : Value} {r : Option Value} {N : nw_M} (hf : mV k2 1 ci) (hl2 : Cond.methodLinkNest k.1.cls idx k2.1 host ∈ lw_tbl) (hL : L[b]? = some (.inl (ci, fl))) (hM : CF G L k2 d2 [.ref (G.2.2 b), a0] M r N) (hdd : d2 + 1 ≤ d) (hroom : (rest.map fun v => v.category).sum ≤ 8) (hd : decode k.2.1 pc = .ok (.invokevirtual idx, 3)) (kk : RJ G L k d P (pc + 3) lv (r.toList ++ rest) N) : RJ G L k d P pc lv (a0 :: .ref (G.2.2 b) :: rest) M :=
  r_callVNF hf.1 hl2 hL hf.2 hM hdd rfl rfl hroom hd kk
theorem r_W1 {k2 : nk_T} {d2 idx b ci : Nat} {fl : List (Option Nat)} {a0 : Value} {P2 : Option Value → nw_M → Prop} (hf : mV k2 1 ci) (hl2 : Cond.methodLink k.1.cls idx k2.1 ∈ lw_tbl) (hL : L[b]? = some (.inl (ci, fl))) (hM : CJ G L k2 d2 [.ref (G.2.2 b), a0] M P2) (hdd : d2 + 1 ≤ d) (hroom : (rest.map fun v => v.category).sum ≤ 8) (hd : decode k.2.1 pc = .ok (.invokevirtual idx, 3)) (kk : ∀ v N, P2 v N → RJ G L k d P (pc + 3) lv (v.toList ++ rest) N) : RJ G L k d P pc lv (a0 :: .ref (G.2.2 b) :: rest) M :=
  r_callV hf.1 hl2 hL hf.2 hM hdd rfl rfl hroom hd kk
theorem r_S1 {k2 : nk_T} {d2 idx : Nat} {a0 : Value} {r : Option Value} {N : nw_M} (hf : mfS k2 1) (hl2 : Cond.methodLink k.1.cls idx k2.1 ∈ lw_tbl) (hM : CF G L k2 d2 [a0] M r N) (hdd : d2 + 1 ≤ d) (hroom : (rest.map fun v => v.category).sum ≤ 8) (hd : decode k.2.1 pc = .ok (.invokestatic idx, 3)) (kk : RJ G L k d P (pc + 3) lv (r.toList ++ rest) N) : RJ G L k d P pc lv (a0 :: rest) M :=
  r_callSF hf hl2 hM hdd rfl rfl hroom hd kk
theorem r_T1 {k2 : nk_T} {d2 idx : Nat} {a0 : Value} {P2 : Option Value → nw_M → Prop} (hf : mfS k2 1) (hl2 : Cond.methodLink k.1.cls idx k2.1 ∈ lw_tbl) (hM : CJ G L k2 d2 [a0] M P2) (hdd : d2 + 1 ≤ d) (hroom : (rest.map fun v => v.category).sum ≤ 8) (hd : decode k.2.1 pc = .ok (.invokestatic idx, 3)) (kk : ∀ v N, P2 v N → RJ G L k d P (pc + 3) lv (v.toList ++ rest) N) : RJ G L k d P pc lv (a0 :: rest) M :=
  r_callS hf hl2 hM hdd rfl rfl hroom hd kk
theorem r_V2 {k2 : nk_T} {d2 idx b ci : Nat} {fl : List (Option Nat)} {a0 a1 : Value} {r : Option Value} {N : nw_M} (hf : mV k2 2 ci) (hl2 : Cond.methodLink k.1.cls idx k2.1 ∈ lw_tbl) (hL : L[b]? = some (.inl (ci, fl))) (hM : CF G L k2 d2 [.ref (G.2.2 b), a0, a1] M r N) (hdd : d2 + 1 ≤ d) (hroom : (rest.map fun v => v.category).sum ≤ 8) (hd : decode k.2.1 pc = .ok (.invokevirtual idx, 3)) (kk : RJ G L k d P (pc + 3) lv (r.toList ++ rest) N) : RJ G L k d P pc lv (a1 :: a0 :: .ref (G.2.2 b) :: rest) M :=
  r_callVF hf.1 hl2 hL hf.2 hM hdd rfl rfl hroom hd kk
theorem r_VN2 {k2 : nk_T} {d2 idx b ci : Nat} {host : String} {fl : List (Option Nat)} {a0 a1 : Value} {r : Option Value} {N : nw_M} (hf : mV k2 2 ci) (hl2 : Cond.methodLinkNest k.1.cls idx k2.1 host ∈ lw_tbl) (hL : L[b]? = some (.inl (ci, fl))) (hM : CF G L k2 d2 [.ref (G.2.2 b), a0, a1] M r N) (hdd : d2 + 1 ≤ d) (hroom : (rest.map fun v => v.category).sum ≤ 8) (hd : decode k.2.1 pc = .ok (.invokevirtual idx, 3)) (kk : RJ G L k d P (pc + 3) lv (r.toList ++ rest) N) : RJ G L k d P pc lv (a1 :: a0 :: .ref (G.2.2 b) :: rest) M :=
  r_callVNF hf.1 hl2 hL hf.2 hM hdd rfl rfl hroom hd kk
theorem r_W2 {k2 : nk_T} {d2 idx b ci : Nat} {fl : List (Option Nat)} {a0 a1 : Value} {P2 : Option Value → nw_M → Prop} (hf : mV k2 2 ci) (hl2 : Cond.methodLink k.1.cls idx k2.1 ∈ lw_tbl) (hL : L[b]? = some (.inl (ci, fl))) (hM : CJ G L k2 d2 [.ref (G.2.2 b), a0, a1] M P2) (hdd : d2 + 1 ≤ d) (hroom : (rest.map fun v => v.category).sum ≤ 8) (hd : decode k.2.1 pc = .ok (.invokevirtual idx, 3)) (kk : ∀ v N, P2 v N → RJ G L k d P (pc + 3) lv (v.toList ++ rest) N) : RJ G L k d P pc lv (a1 :: a0 :: .ref (G.2.2 b) :: rest) M :=
  r_callV hf.1 hl2 hL hf.2 hM hdd rfl rfl hroom hd kk
theorem r_S2 {k2 : nk_T} {d2 idx : Nat} {a0 a1 : Value} {r : Option Value} {N : nw_M} (hf : mfS k2 2) (hl2 : Cond.methodLink k.1.cls idx k2.1 ∈ lw_tbl) (hM : CF G L k2 d2 [a0, a1] M r N) (hdd : d2 + 1 ≤ d) (hroom : (rest.map fun v => v.category).sum ≤ 8) (hd : decode k.2.1 pc = .ok (.invokestatic idx, 3)) (kk : RJ G L k d P (pc + 3) lv (r.toList ++ rest) N) : RJ G L k d P pc lv (a1 :: a0 :: rest) M :=
  r_callSF hf hl2 hM hdd rfl rfl hroom hd kk
theorem r_T2 {k2 : nk_T} {d2 idx : Nat} {a0 a1 : Value} {P2 : Option Value → nw_M → Prop} (hf : mfS k2 2) (hl2 : Cond.methodLink k.1.cls idx k2.1 ∈ lw_tbl) (hM : CJ G L k2 d2 [a0, a1] M P2) (hdd : d2 + 1 ≤ d) (hroom : (rest.map fun v => v.category).sum ≤ 8) (hd : decode k.2.1 pc = .ok (.invokestatic idx, 3)) (kk : ∀ v N, P2 v N → RJ G L k d P (pc + 3) lv (v.toList ++ rest) N) : RJ G L k d P pc lv (a1 :: a0 :: rest) M :=
  r_callS hf hl2 hM hdd rfl rfl hroom hd kk
theorem r_V3 {k2 : nk_T} {d2 idx b ci : Nat} {fl : List (Option Nat)} {a0 a1 a2 : Value} {r : Option Value} {N : nw_M} (hf : mV k2 3 ci) (hl2 : Cond.methodLink k.1.cls idx k2.1 ∈ lw_tbl) (hL : L[b]? = some (.inl (ci, fl))) (hM : CF G L k2 d2 [.ref (G.2.2 b), a0, a1, a2] M r N) (hdd : d2 + 1 ≤ d) (hroom : (rest.map fun v => v.category).sum ≤ 8) (hd : decode k.2.1 pc = .ok (.invokevirtual idx, 3)) (kk : RJ G L k d P (pc + 3) lv (r.toList ++ rest) N) : RJ G L k d P pc lv (a2 :: a1 :: a0 :: .ref (G.2.2 b) :: rest) M :=
  r_callVF hf.1 hl2 hL hf.2 hM hdd rfl rfl hroom hd kk
theorem r_VN3 {k2 : nk_T} {d2 idx b ci : Nat} {host : String} {fl : List (Option Nat)} {a0 a1 a2 : Value} {r : Option Value} {N : nw_M} (hf : mV k2 3 ci) (hl2 : Cond.methodLinkNest k.1.cls idx k2.1 host ∈ lw_tbl) (hL : L[b]? = some (.inl (ci, fl))) (hM : CF G L k2 d2 [.ref (G.2.2 b), a0, a1, a2] M r N) (hdd : d2 + 1 ≤ d) (hroom : (rest.map fun v => v.category).sum ≤ 8) (hd : decode k.2.1 pc = .ok (.invokevirtual idx, 3)) (kk : RJ G L k d P (pc + 3) lv (r.toList ++ rest) N) : RJ G L k d P pc lv (a2 :: a1 :: a0 :: .ref (G.2.2 b) :: rest) M :=
  r_callVNF hf.1 hl2 hL hf.2 hM hdd rfl rfl hroom hd kk
theorem r_W3 {k2 : nk_T} {d2 idx b ci : Nat} {fl : List (Option Nat)} {a0 a1 a2 : Value} {P2 : Option Value → nw_M → Prop} (hf : mV k2 3 ci) (hl2 : Cond.methodLink k.1.cls idx k2.1 ∈ lw_tbl) (hL : L[b]? = some (.inl (ci, fl))) (hM : CJ G L k2 d2 [.ref (G.2.2 b), a0, a1, a2] M P2) (hdd : d2 + 1 ≤ d) (hroom : (rest.map fun v => v.category).sum ≤ 8) (hd : decode k.2.1 pc = .ok (.invokevirtual idx, 3)) (kk : ∀ v N, P2 v N → RJ G L k d P (pc + 3) lv (v.toList ++ rest) N) : RJ G L k d P pc lv (a2 :: a1 :: a0 :: .ref (G.2.2 b) :: rest) M :=
  r_callV hf.1 hl2 hL hf.2 hM hdd rfl rfl hroom hd kk
theorem r_S3 {k2 : nk_T} {d2 idx : Nat} {a0 a1 a2 : Value} {r : Option Value} {N : nw_M} (hf : mfS k2 3) (hl2 : Cond.methodLink k.1.cls idx k2.1 ∈ lw_tbl) (hM : CF G L k2 d2 [a0, a1, a2] M r N) (hdd : d2 + 1 ≤ d) (hroom : (rest.map fun v => v.category).sum ≤ 8) (hd : decode k.2.1 pc = .ok (.invokestatic idx, 3)) (kk : RJ G L k d P (pc + 3) lv (r.toList ++ rest) N) : RJ G L k d P pc lv (a2 :: a1 :: a0 :: rest) M :=
  r_callSF hf hl2 hM hdd rfl rfl hroom hd kk
theorem r_T3 {k2 : nk_T} {d2 idx : Nat} {a0 a1 a2 : Value} {P2 : Option Value → nw_M → Prop} (hf : mfS k2 3) (hl2 : Cond.methodLink k.1.cls idx k2.1 ∈ lw_tbl) (hM : CJ G L k2 d2 [a0, a1, a2] M P2) (hdd : d2 + 1 ≤ d) (hroom : (rest.map fun v => v.category).sum ≤ 8) (hd : decode k.2.1 pc = .ok (.invokestatic idx, 3)) (kk : ∀ v N, P2 v N → RJ G L k d P (pc + 3) lv (v.toList ++ rest) N) : RJ G L k d P pc lv (a2 :: a1 :: a0 :: rest) M :=
  r_callS hf hl2 hM hdd rfl rfl hroom hd kk
theorem r_V4 {k2 : nk_T} {d2 idx b ci : Nat} {fl : List (Option Nat)} {a0 a1 a2 a3 : Value} {r : Option Value} {N : nw_M} (hf : mV k2 4 ci) (hl2 : Cond.methodLink k.1.cls idx k2.1 ∈ lw_tbl) (hL : L[b]? = some (.inl (ci, fl))) (hM : CF G L k2 d2 [.ref (G.2.2 b), a0, a1, a2, a3] M r N) (hdd : d2 + 1 ≤ d) (hroom : (rest.map fun v => v.category).sum ≤ 8) (hd : decode k.2.1 pc = .ok (.invokevirtual idx, 3)) (kk : RJ G L k d P (pc + 3) lv (r.toList ++ rest) N) : RJ G L k d P pc lv (a3 :: a2 :: a1 :: a0 :: .ref (G.2.2 b) :: rest) M :=
  r_callVF hf.1 hl2 hL hf.2 hM hdd rfl rfl hroom hd kk
theorem r_VN4 {k2 : nk_T} {d2 idx b ci : Nat} {host : String} {fl : List (Option Nat)} {a0 a1 a2 a3 : Value} {r : Option Value} {N : nw_M} (hf : mV k2 4 ci) (hl2 : Cond.methodLinkNest k.1.cls idx k2.1 host ∈ lw_tbl) (hL : L[b]? = some (.inl (ci, fl))) (hM : CF G L k2 d2 [.ref (G.2.2 b), a0, a1, a2, a3] M r N) (hdd : d2 + 1 ≤ d) (hroom : (rest.map fun v => v.category).sum ≤ 8) (hd : decode k.2.1 pc = .ok (.invokevirtual idx, 3)) (kk : RJ G L k d P (pc + 3) lv (r.toList ++ rest) N) : RJ G L k d P pc lv (a3 :: a2 :: a1 :: a0 :: .ref (G.2.2 b) :: rest) M :=
  r_callVNF hf.1 hl2 hL hf.2 hM hdd rfl rfl hroom hd kk
theorem r_W4 {k2 : nk_T} {d2 idx b ci : Nat} {fl : List (Option Nat)} {a0 a1 a2 a3 : Value} {P2 : Option Value → nw_M → Prop} (hf : mV k2 4 ci) (hl2 : Cond.methodLink k.1.cls idx k2.1 ∈ lw_tbl) (hL : L[b]? = some (.inl (ci, fl))) (hM : CJ G L k2 d2 [.ref (G.2.2 b), a0, a1, a2, a3] M P2) (hdd : d2 + 1 ≤ d) (hroom : (rest.map fun v => v.category).sum ≤ 8) (hd : decode k.2.1 pc = .ok (.invokevirtual idx, 3)) (kk : ∀ v N, P2 v N → RJ G L k d P (pc + 3) lv (v.toList ++ rest) N) : RJ G L k d P pc lv (a3 :: a2 :: a1 :: a0 :: .ref (G.2.2 b) :: rest) M :=
  r_callV hf.1 hl2 hL hf.2 hM hdd rfl rfl hroom hd kk
theorem r_V5 {k2 : nk_T} {d2 idx b ci : Nat} {fl : List (Option Nat)} {a0 a1 a2 a3 a4 : Value} {r : Option Value} {N : nw_M} (hf : mV k2 5 ci) (hl2 : Cond.methodLink k.1.cls idx k2.1 ∈ lw_tbl) (hL : L[b]? = some (.inl (ci, fl))) (hM : CF G L k2 d2 [.ref (G.2.2 b), a0, a1, a2, a3, a4] M r N) (hdd : d2 + 1 ≤ d) (hroom : (rest.map fun v => v.category).sum ≤ 8) (hd : decode k.2.1 pc = .ok (.invokevirtual idx, 3)) (kk : RJ G L k d P (pc + 3) lv (r.toList ++ rest) N) : RJ G L k d P pc lv (a4 :: a3 :: a2 :: a1 :: a0 :: .ref (G.2.2 b) :: rest) M :=
  r_callVF hf.1 hl2 hL hf.2 hM hdd rfl rfl hroom hd kk
theorem r_VN5 {k2 : nk_T} {d2 idx b ci : Nat} {host : String} {fl : List (Option Nat)} {a0 a1 a2 a3 a4 : Value} {r : Option Value} {N : nw_M} (hf : mV k2 5 ci) (hl2 : Cond.methodLinkNest k.1.cls idx k2.1 host ∈ lw_tbl) (hL : L[b]? = some (.inl (ci, fl))) (hM : CF G L k2 d2 [.ref (G.2.2 b), a0, a1, a2, a3, a4] M r N) (hdd : d2 + 1 ≤ d) (hroom : (rest.map fun v => v.category).sum ≤ 8) (hd : decode k.2.1 pc = .ok (.invokevirtual idx, 3)) (kk : RJ G L k d P (pc + 3) lv (r.toList ++ rest) N) : RJ G L k d P pc lv (a4 :: a3 :: a2 :: a1 :: a0 :: .ref (G.2.2 b) :: rest) M :=
  r_callVNF hf.1 hl2 hL hf.2 hM hdd rfl rfl hroom hd kk
theorem r_W5 {k2 : nk_T} {d2 idx b ci : Nat} {fl : List (Option Nat)} {a0 a1 a2 a3 a4 : Value} {P2 : Option Value → nw_M → Prop} (hf : mV k2 5 ci) (hl2 : Cond.methodLink k.1.cls idx k2.1 ∈ lw_tbl) (hL : L[b]? = some (.inl (ci, fl))) (hM : CJ G L k2 d2 [.ref (G.2.2 b), a0, a1, a2, a3, a4] M P2) (hdd : d2 + 1 ≤ d) (hroom : (rest.map fun v => v.category).sum ≤ 8) (hd : decode k.2.1 pc = .ok (.invokevirtual idx, 3)) (kk : ∀ v N, P2 v N → RJ G L k d P (pc + 3) lv (v.toList ++ rest) N) : RJ G L k d P pc lv (a4 :: a3 :: a2 :: a1 :: a0 :: .ref (G.2.2 b) :: rest) M :=
  r_callV hf.1 hl2 hL hf.2 hM hdd rfl rfl hroom hd kk
theorem r_V6 {k2 : nk_T} {d2 idx b ci : Nat} {fl : List (Option Nat)} {a0 a1 a2 a3 a4 a5 : Value} {r : Option Value} {N : nw_M} (hf : mV k2 6 ci) (hl2 : Cond.methodLink k.1.cls idx k2.1 ∈ lw_tbl) (hL : L[b]? = some (.inl (ci, fl))) (hM : CF G L k2 d2 [.ref (G.2.2 b), a0, a1, a2, a3, a4, a5] M r N) (hdd : d2 + 1 ≤ d) (hroom : (rest.map fun v => v.category).sum ≤ 8) (hd : decode k.2.1 pc = .ok (.invokevirtual idx, 3)) (kk : RJ G L k d P (pc + 3) lv (r.toList ++ rest) N) : RJ G L k d P pc lv (a5 :: a4 :: a3 :: a2 :: a1 :: a0 :: .ref (G.2.2 b) :: rest) M :=
  r_callVF hf.1 hl2 hL hf.2 hM hdd rfl rfl hroom hd kk
theorem r_VN6 {k2 : nk_T} {d2 idx b ci : Nat} {host : String} {fl : List (Option Nat)} {a0 a1 a2 a3 a4 a5 : Value} {r : Option Value} {N : nw_M} (hf : mV k2 6 ci) (hl2 : Cond.methodLinkNest k.1.cls idx k2.1 host ∈ lw_tbl) (hL : L[b]? = some (.inl (ci, fl))) (hM : CF G L k2 d2 [.ref (G.2.2 b), a0, a1, a2, a3, a4, a5] M r N) (hdd : d2 + 1 ≤ d) (hroom : (rest.map fun v => v.category).sum ≤ 8) (hd : decode k.2.1 pc = .ok (.invokevirtual idx, 3)) (kk : RJ G L k d P (pc + 3) lv (r.toList ++ rest) N) : RJ G L k d P pc lv (a5 :: a4 :: a3 :: a2 :: a1 :: a0 :: .ref (G.2.2 b) :: rest) M :=
  r_callVNF hf.1 hl2 hL hf.2 hM hdd rfl rfl hroom hd kk
theorem r_W6 {k2 : nk_T} {d2 idx b ci : Nat} {fl : List (Option Nat)} {a0 a1 a2 a3 a4 a5 : Value} {P2 : Option Value → nw_M → Prop} (hf : mV k2 6 ci) (hl2 : Cond.methodLink k.1.cls idx k2.1 ∈ lw_tbl) (hL : L[b]? = some (.inl (ci, fl))) (hM : CJ G L k2 d2 [.ref (G.2.2 b), a0, a1, a2, a3, a4, a5] M P2) (hdd : d2 + 1 ≤ d) (hroom : (rest.map fun v => v.category).sum ≤ 8) (hd : decode k.2.1 pc = .ok (.invokevirtual idx, 3)) (kk : ∀ v N, P2 v N → RJ G L k d P (pc + 3) lv (v.toList ++ rest) N) : RJ G L k d P pc lv (a5 :: a4 :: a3 :: a2 :: a1 :: a0 :: .ref (G.2.2 b) :: rest) M :=
  r_callV hf.1 hl2 hL hf.2 hM hdd rfl rfl hroom hd kk
end RCA
theorem ic_m1 : Int32.ofInt (-1) = (-1) := by decide
theorem ic_0 : Int32.ofInt 0 = 0 := by decide
theorem ic_1 : Int32.ofInt 1 = 1 := by decide
theorem ic_2 : Int32.ofInt 2 = 2 := by decide
theorem ic_3 : Int32.ofInt 3 = 3 := by decide
theorem ic_4 : Int32.ofInt 4 = 4 := by decide
theorem ic_5 : Int32.ofInt 5 = 5 := by decide
theorem ic_6 : Int32.ofInt 6 = 6 := by decide
theorem bp_m10 : (Int8.ofInt (-10)).toInt32 = (-10) := by decide
theorem bp_m9 : (Int8.ofInt (-9)).toInt32 = (-9) := by decide
theorem bp_m4 : (Int8.ofInt (-4)).toInt32 = (-4) := by decide
theorem bp_m3 : (Int8.ofInt (-3)).toInt32 = (-3) := by decide
theorem bp_m2 : (Int8.ofInt (-2)).toInt32 = (-2) := by decide
theorem bp_6 : (Int8.ofInt 6).toInt32 = 6 := by decide
theorem bp_7 : (Int8.ofInt 7).toInt32 = 7 := by decide
theorem bp_8 : (Int8.ofInt 8).toInt32 = 8 := by decide
theorem bp_9 : (Int8.ofInt 9).toInt32 = 9 := by decide
theorem bp_10 : (Int8.ofInt 10).toInt32 = 10 := by decide
theorem bp_31 : (Int8.ofInt 31).toInt32 = 31 := by decide
theorem bp_32 : (Int8.ofInt 32).toInt32 = 32 := by decide
theorem bp_35 : (Int8.ofInt 35).toInt32 = 35 := by decide
theorem bp_40 : (Int8.ofInt 40).toInt32 = 40 := by decide
theorem bp_41 : (Int8.ofInt 41).toInt32 = 41 := by decide
theorem bp_42 : (Int8.ofInt 42).toInt32 = 42 := by decide
theorem bp_43 : (Int8.ofInt 43).toInt32 = 43 := by decide
theorem bp_45 : (Int8.ofInt 45).toInt32 = 45 := by decide
theorem bp_47 : (Int8.ofInt 47).toInt32 = 47 := by decide
theorem bp_48 : (Int8.ofInt 48).toInt32 = 48 := by decide
theorem bp_50 : (Int8.ofInt 50).toInt32 = 50 := by decide
theorem bp_57 : (Int8.ofInt 57).toInt32 = 57 := by decide
theorem bp_60 : (Int8.ofInt 60).toInt32 = 60 := by decide
theorem bp_63 : (Int8.ofInt 63).toInt32 = 63 := by decide
theorem bp_64 : (Int8.ofInt 64).toInt32 = 64 := by decide
theorem bp_94 : (Int8.ofInt 94).toInt32 = 94 := by decide
theorem bp_97 : (Int8.ofInt 97).toInt32 = 97 := by decide
theorem bp_99 : (Int8.ofInt 99).toInt32 = 99 := by decide
theorem bp_104 : (Int8.ofInt 104).toInt32 = 104 := by decide
theorem bp_125 : (Int8.ofInt 125).toInt32 = 125 := by decide
theorem bp_126 : (Int8.ofInt 126).toInt32 = 126 := by decide
theorem sp_133 : (Int16.ofInt 133).toInt32 = 133 := by decide
theorem sp_134 : (Int16.ofInt 134).toInt32 = 134 := by decide
theorem sp_135 : (Int16.ofInt 135).toInt32 = 135 := by decide
theorem sp_136 : (Int16.ofInt 136).toInt32 = 136 := by decide
theorem sp_137 : (Int16.ofInt 137).toInt32 = 137 := by decide
theorem sp_138 : (Int16.ofInt 138).toInt32 = 138 := by decide
theorem sp_217 : (Int16.ofInt 217).toInt32 = 217 := by decide
theorem sp_255 : (Int16.ofInt 255).toInt32 = 255 := by decide
theorem sp_276 : (Int16.ofInt 276).toInt32 = 276 := by decide
theorem sp_465 : (Int16.ofInt 465).toInt32 = 465 := by decide
theorem sp_640 : (Int16.ofInt 640).toInt32 = 640 := by decide
theorem sp_1242 : (Int16.ofInt 1242).toInt32 = 1242 := by decide
theorem sp_1280 : (Int16.ofInt 1280).toInt32 = 1280 := by decide
theorem sp_1380 : (Int16.ofInt 1380).toInt32 = 1380 := by decide
def isRow (c b n : Nat) : Prop := LC[c]? = some (.inl (0, [some b])) ∧ LC[b]? = some (.inr (false, n)) ∧ n < 1000
def isTree (t : Nat) : Prop := LC[t]? = some (.inl (1, [some (t + 1), some (t + 3), some (t + 5), some (t + 7), some (t + 9), some (t + 11), some (t + 13), some (t + 15), some (t + 17), none])) ∧ isRow (t + 1) (t + 2) 31 ∧ isRow (t + 3) (t + 4) 31 ∧ isRow (t + 5) (t + 6) 31 ∧ isRow (t + 7) (t + 8) 31 ∧ isRow (t + 9) (t + 10) 31 ∧ isRow (t + 11) (t + 12) 31 ∧ isRow (t + 13) (t + 14) 31 ∧ isRow (t + 15) (t + 16) 31 ∧ isRow (t + 17) (t + 18) 31
theorem isTree.letters {t : Nat} (h : isTree t) : isRow (t + 1) (t + 2) 31 := h.2.1
theorem isTree.numbers {t : Nat} (h : isTree t) : isRow (t + 3) (t + 4) 31 := h.2.2.1
theorem isTree.lefts {t : Nat} (h : isTree t) : isRow (t + 5) (t + 6) 31 := h.2.2.2.1
theorem isTree.rights {t : Nat} (h : isTree t) : isRow (t + 7) (t + 8) 31 := h.2.2.2.2.1
theorem isTree.needs {t : Nat} (h : isTree t) : isRow (t + 9) (t + 10) 31 := h.2.2.2.2.2.1
theorem isTree.leasts {t : Nat} (h : isTree t) : isRow (t + 11) (t + 12) 31 := h.2.2.2.2.2.2.1
theorem isTree.traps {t : Nat} (h : isTree t) : isRow (t + 13) (t + 14) 31 := h.2.2.2.2.2.2.2.1
theorem isTree.spans {t : Nat} (h : isTree t) : isRow (t + 15) (t + 16) 31 := h.2.2.2.2.2.2.2.2.1
theorem isTree.alikes {t : Nat} (h : isTree t) : isRow (t + 17) (t + 18) 31 := h.2.2.2.2.2.2.2.2.2
def isCosts (c : Nat) : Prop := LC[c]? = some (.inl (5, [some (c + 1), some (c + 3), some (c + 5), none, none])) ∧ isRow (c + 1) (c + 2) 217 ∧ isRow (c + 3) (c + 4) 217 ∧ isRow (c + 5) (c + 6) 31
theorem isCosts.costs {c : Nat} (h : isCosts c) : isRow (c + 1) (c + 2) 217 := h.2.1
theorem isCosts.ways {c : Nat} (h : isCosts c) : isRow (c + 3) (c + 4) 217 := h.2.2.1
theorem isCosts.leaves {c : Nat} (h : isCosts c) : isRow (c + 5) (c + 6) 31 := h.2.2.2
def isImage (i : Nat) : Prop := LC[i]? = some (.inl (2, [some (i + 1), some (i + 20), some (i + 22), none])) ∧ isTree (i + 1) ∧ isRow (i + 20) (i + 21) 8 ∧ isRow (i + 22) (i + 23) 5
theorem isImage.tree {i : Nat} (h : isImage i) : isTree (i + 1) := h.2.1
theorem isImage.names {i : Nat} (h : isImage i) : isRow (i + 20) (i + 21) 8 := h.2.2.1
theorem isImage.machine {i : Nat} (h : isImage i) : isRow (i + 22) (i + 23) 5 := h.2.2.2
theorem row_1 : isRow 1 2 60 := ⟨rfl, rfl, by decide⟩
theorem row_4 : isRow 4 5 60 := ⟨rfl, rfl, by decide⟩
theorem row_6 : isRow 6 7 60 := ⟨rfl, rfl, by decide⟩
theorem row_8 : isRow 8 9 31 := ⟨rfl, rfl, by decide⟩
theorem row_12 : isRow 12 13 31 := ⟨rfl, rfl, by decide⟩
theorem row_14 : isRow 14 15 31 := ⟨rfl, rfl, by decide⟩
theorem row_16 : isRow 16 17 31 := ⟨rfl, rfl, by decide⟩
theorem row_18 : isRow 18 19 31 := ⟨rfl, rfl, by decide⟩
theorem row_20 : isRow 20 21 31 := ⟨rfl, rfl, by decide⟩
theorem row_22 : isRow 22 23 31 := ⟨rfl, rfl, by decide⟩
theorem row_24 : isRow 24 25 31 := ⟨rfl, rfl, by decide⟩
theorem row_26 : isRow 26 27 31 := ⟨rfl, rfl, by decide⟩
theorem row_28 : isRow 28 29 31 := ⟨rfl, rfl, by decide⟩
theorem row_30 : isRow 30 31 8 := ⟨rfl, rfl, by decide⟩
theorem row_32 : isRow 32 33 5 := ⟨rfl, rfl, by decide⟩
theorem row_36 : isRow 36 37 31 := ⟨rfl, rfl, by decide⟩
theorem row_38 : isRow 38 39 31 := ⟨rfl, rfl, by decide⟩
theorem row_40 : isRow 40 41 31 := ⟨rfl, rfl, by decide⟩
theorem row_42 : isRow 42 43 31 := ⟨rfl, rfl, by decide⟩
theorem row_44 : isRow 44 45 31 := ⟨rfl, rfl, by decide⟩
theorem row_46 : isRow 46 47 31 := ⟨rfl, rfl, by decide⟩
theorem row_48 : isRow 48 49 31 := ⟨rfl, rfl, by decide⟩
theorem row_50 : isRow 50 51 31 := ⟨rfl, rfl, by decide⟩
theorem row_52 : isRow 52 53 31 := ⟨rfl, rfl, by decide⟩
theorem row_54 : isRow 54 55 8 := ⟨rfl, rfl, by decide⟩
theorem row_56 : isRow 56 57 5 := ⟨rfl, rfl, by decide⟩
theorem row_60 : isRow 60 61 31 := ⟨rfl, rfl, by decide⟩
theorem row_62 : isRow 62 63 31 := ⟨rfl, rfl, by decide⟩
theorem row_64 : isRow 64 65 31 := ⟨rfl, rfl, by decide⟩
theorem row_66 : isRow 66 67 31 := ⟨rfl, rfl, by decide⟩
theorem row_68 : isRow 68 69 31 := ⟨rfl, rfl, by decide⟩
theorem row_70 : isRow 70 71 31 := ⟨rfl, rfl, by decide⟩
theorem row_72 : isRow 72 73 31 := ⟨rfl, rfl, by decide⟩
theorem row_74 : isRow 74 75 31 := ⟨rfl, rfl, by decide⟩
theorem row_76 : isRow 76 77 31 := ⟨rfl, rfl, by decide⟩
theorem row_78 : isRow 78 79 8 := ⟨rfl, rfl, by decide⟩
theorem row_80 : isRow 80 81 5 := ⟨rfl, rfl, by decide⟩
theorem row_83 : isRow 83 84 31 := ⟨rfl, rfl, by decide⟩
theorem row_85 : isRow 85 86 31 := ⟨rfl, rfl, by decide⟩
theorem row_87 : isRow 87 88 31 := ⟨rfl, rfl, by decide⟩
theorem row_89 : isRow 89 90 31 := ⟨rfl, rfl, by decide⟩
theorem row_91 : isRow 91 92 31 := ⟨rfl, rfl, by decide⟩
theorem row_93 : isRow 93 94 31 := ⟨rfl, rfl, by decide⟩
theorem row_95 : isRow 95 96 31 := ⟨rfl, rfl, by decide⟩
theorem row_97 : isRow 97 98 31 := ⟨rfl, rfl, by decide⟩
theorem row_99 : isRow 99 100 31 := ⟨rfl, rfl, by decide⟩
theorem row_102 : isRow 102 103 10 := ⟨rfl, rfl, by decide⟩
theorem row_104 : isRow 104 105 10 := ⟨rfl, rfl, by decide⟩
theorem row_106 : isRow 106 107 10 := ⟨rfl, rfl, by decide⟩
theorem row_108 : isRow 108 109 50 := ⟨rfl, rfl, by decide⟩
theorem row_111 : isRow 111 112 217 := ⟨rfl, rfl, by decide⟩
theorem row_113 : isRow 113 114 217 := ⟨rfl, rfl, by decide⟩
theorem row_115 : isRow 115 116 31 := ⟨rfl, rfl, by decide⟩
theorem row_118 : isRow 118 119 465 := ⟨rfl, rfl, by decide⟩
theorem row_120 : isRow 120 121 31 := ⟨rfl, rfl, by decide⟩
theorem row_123 : isRow 123 124 31 := ⟨rfl, rfl, by decide⟩
theorem row_125 : isRow 125 126 6 := ⟨rfl, rfl, by decide⟩
theorem row_127 : isRow 127 128 31 := ⟨rfl, rfl, by decide⟩
theorem row_130 : isRow 130 131 5 := ⟨rfl, rfl, by decide⟩
theorem row_132 : isRow 132 133 5 := ⟨rfl, rfl, by decide⟩
theorem row_135 : isRow 135 136 217 := ⟨rfl, rfl, by decide⟩
theorem row_137 : isRow 137 138 217 := ⟨rfl, rfl, by decide⟩
theorem row_139 : isRow 139 140 31 := ⟨rfl, rfl, by decide⟩
theorem tree_11 : isTree 11 := ⟨rfl, row_12, row_14, row_16, row_18, row_20, row_22, row_24, row_26, row_28⟩
theorem tree_35 : isTree 35 := ⟨rfl, row_36, row_38, row_40, row_42, row_44, row_46, row_48, row_50, row_52⟩
theorem tree_59 : isTree 59 := ⟨rfl, row_60, row_62, row_64, row_66, row_68, row_70, row_72, row_74, row_76⟩
theorem tree_82 : isTree 82 := ⟨rfl, row_83, row_85, row_87, row_89, row_91, row_93, row_95, row_97, row_99⟩
theorem costs_110 : isCosts 110 := ⟨rfl, row_111, row_113, row_115⟩
theorem costs_134 : isCosts 134 := ⟨rfl, row_135, row_137, row_139⟩
theorem image_10 : isImage 10 := ⟨rfl, tree_11, row_30, row_32⟩
theorem image_34 : isImage 34 := ⟨rfl, tree_35, row_54, row_56⟩
theorem image_58 : isImage 58 := ⟨rfl, tree_59, row_78, row_80⟩
