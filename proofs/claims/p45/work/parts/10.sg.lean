def SG : List SE := [(11, 13, [some 2, some 25, none, some 48, some 92, some 99, some 103, some 110, some 113, some 116, some 121, some 122, some 1]), (100, 12, []), (1, 11, [some 3, some 5, some 7, some 9, some 11, some 13, some 15, some 17, some 19, some 21, some 23]), (9, 4, [some 4, none, none, none]), (100, 96, []), (9, 4, [some 6, none, none, none]), (100, 40, []), (9, 4, [some 8, none, none, none]), (100, 7, []), (9, 4, [some 10, none, none, none]), (100, 600, []), (9, 4, [some 12, none, none, none]), (100, 64, []), (9, 4, [some 14, none, none, none]), (100, 800, []), (9, 4, [some 16, none, none, none]), (100, 64, []), (9, 4, [some 18, none, none, none]), (100, 64, []), (9, 4, [some 20, none, none, none]), (100, 64, []), (9, 4, [some 22, none, none, none]), (100, 16, []), (9, 4, [some 24, none, none, none]), (100, 10, []), (1, 11, [some 26, some 28, some 30, some 32, some 34, some 36, some 38, some 40, some 42, some 44, some 46]), (9, 4, [some 27, none, none, none]), (100, 96, []), (9, 4, [some 29, none, none, none]), (100, 40, []), (9, 4, [some 31, none, none, none]), (100, 7, []), (9, 4, [some 33, none, none, none]), (100, 600, []), (9, 4, [some 35, none, none, none]), (100, 64, []), (9, 4, [some 37, none, none, none]), (100, 800, []), (9, 4, [some 39, none, none, none]), (100, 64, []), (9, 4, [some 41, none, none, none]), (100, 64, []), (9, 4, [some 43, none, none, none]), (100, 64, []), (9, 4, [some 45, none, none, none]), (100, 16, []), (9, 4, [some 47, none, none, none]), (100, 10, []), (4, 3, [some 49, none, none]), (101, 6, [some 50, some 57, some 64, some 71, some 78, some 85]), (3, 4, [some 51, some 53, some 55, none]), (9, 4, [some 52, none, none, none]), (100, 96, []), (9, 4, [some 54, none, none, none]), (100, 40, []), (9, 4, [some 56, none, none, none]), (100, 7, []), (3, 4, [some 58, some 60, some 62, none]), (9, 4, [some 59, none, none, none]), (100, 96, []), (9, 4, [some 61, none, none, none]), (100, 40, []), (9, 4, [some 63, none, none, none]), (100, 7, []), (3, 4, [some 65, some 67, some 69, none]), (9, 4, [some 66, none, none, none]), (100, 96, []), (9, 4, [some 68, none, none, none]), (100, 40, []), (9, 4, [some 70, none, none, none]), (100, 7, []), (3, 4, [some 72, some 74, some 76, none]), (9, 4, [some 73, none, none, none]), (100, 96, []), (9, 4, [some 75, none, none, none]), (100, 40, []), (9, 4, [some 77, none, none, none]), (100, 7, []), (3, 4, [some 79, some 81, some 83, none]), (9, 4, [some 80, none, none, none]), (100, 96, []), (9, 4, [some 82, none, none, none]), (100, 40, []), (9, 4, [some 84, none, none, none]), (100, 7, []), (3, 4, [some 86, some 88, some 90, none]), (9, 4, [some 87, none, none, none]), (100, 96, []), (9, 4, [some 89, none, none, none]), (100, 40, []), (9, 4, [some 91, none, none, none]), (100, 7, []), (3, 4, [some 93, some 95, some 97, none]), (9, 4, [some 94, none, none, none]), (100, 96, []), (9, 4, [some 96, none, none, none]), (100, 40, []), (9, 4, [some 98, none, none, none]), (100, 7, []), (10, 7, [some 100, some 101, none, none, none, none, none]), (100, 400, []), (9, 4, [some 102, none, none, none]), (100, 1203, []), (6, 12, [some 99, some 104, some 106, none, none, some 108, none, none, none, none, none, none]), (9, 4, [some 105, none, none, none]), (100, 64, []), (9, 4, [some 107, none, none, none]), (100, 800, []), (9, 4, [some 109, none, none, none]), (100, 400, []), (2, 3, [some 2, some 111, some 112]), (100, 10, []), (100, 22, []), (8, 7, [some 2, some 110, some 114, some 115, none, none, none]), (100, 12, []), (100, 12, []), (0, 7, [some 2, some 110, some 113, some 117, some 119, none, none]), (9, 4, [some 118, none, none, none]), (100, 60, []), (9, 4, [some 120, none, none, none]), (100, 5, []), (7, 1, [some 2]), (5, 1, [some 2])]
def sgd (r : Nat) : SE := SG.getD r (999, 0, [])
def tg (r : Nat) : Nat := (sgd r).1
def al (r : Nat) : Nat := (sgd r).2.1
def rq (r j : Nat) : Nat := ((sgd r).2.2.getD j none).getD 0
theorem sg_0 : SG[0]? = some (11, 13, [some 2, some 25, none, some 48, some 92, some 99, some 103, some 110, some 113, some 116, some 121, some 122, some 1]) := rfl
theorem tg_0 : tg 0 = 11 := rfl
theorem sg_1 : SG[1]? = some (100, 12, []) := rfl
theorem tg_1 : tg 1 = 100 := rfl
theorem sg_2 : SG[2]? = some (1, 11, [some 3, some 5, some 7, some 9, some 11, some 13, some 15, some 17, some 19, some 21, some 23]) := rfl
theorem tg_2 : tg 2 = 1 := rfl
theorem sg_3 : SG[3]? = some (9, 4, [some 4, none, none, none]) := rfl
theorem tg_3 : tg 3 = 9 := rfl
theorem sg_4 : SG[4]? = some (100, 96, []) := rfl
theorem tg_4 : tg 4 = 100 := rfl
theorem sg_5 : SG[5]? = some (9, 4, [some 6, none, none, none]) := rfl
theorem tg_5 : tg 5 = 9 := rfl
theorem sg_6 : SG[6]? = some (100, 40, []) := rfl
theorem tg_6 : tg 6 = 100 := rfl
theorem sg_7 : SG[7]? = some (9, 4, [some 8, none, none, none]) := rfl
theorem tg_7 : tg 7 = 9 := rfl
theorem sg_8 : SG[8]? = some (100, 7, []) := rfl
theorem tg_8 : tg 8 = 100 := rfl
theorem sg_9 : SG[9]? = some (9, 4, [some 10, none, none, none]) := rfl
theorem tg_9 : tg 9 = 9 := rfl
theorem sg_10 : SG[10]? = some (100, 600, []) := rfl
theorem tg_10 : tg 10 = 100 := rfl
theorem sg_11 : SG[11]? = some (9, 4, [some 12, none, none, none]) := rfl
theorem tg_11 : tg 11 = 9 := rfl
theorem sg_12 : SG[12]? = some (100, 64, []) := rfl
theorem tg_12 : tg 12 = 100 := rfl
theorem sg_13 : SG[13]? = some (9, 4, [some 14, none, none, none]) := rfl
theorem tg_13 : tg 13 = 9 := rfl
theorem sg_14 : SG[14]? = some (100, 800, []) := rfl
theorem tg_14 : tg 14 = 100 := rfl
theorem sg_15 : SG[15]? = some (9, 4, [some 16, none, none, none]) := rfl
theorem tg_15 : tg 15 = 9 := rfl
theorem sg_16 : SG[16]? = some (100, 64, []) := rfl
theorem tg_16 : tg 16 = 100 := rfl
theorem sg_17 : SG[17]? = some (9, 4, [some 18, none, none, none]) := rfl
theorem tg_17 : tg 17 = 9 := rfl
theorem sg_18 : SG[18]? = some (100, 64, []) := rfl
theorem tg_18 : tg 18 = 100 := rfl
theorem sg_19 : SG[19]? = some (9, 4, [some 20, none, none, none]) := rfl
theorem tg_19 : tg 19 = 9 := rfl
theorem sg_20 : SG[20]? = some (100, 64, []) := rfl
theorem tg_20 : tg 20 = 100 := rfl
theorem sg_21 : SG[21]? = some (9, 4, [some 22, none, none, none]) := rfl
theorem tg_21 : tg 21 = 9 := rfl
theorem sg_22 : SG[22]? = some (100, 16, []) := rfl
theorem tg_22 : tg 22 = 100 := rfl
theorem sg_23 : SG[23]? = some (9, 4, [some 24, none, none, none]) := rfl
theorem tg_23 : tg 23 = 9 := rfl
theorem sg_24 : SG[24]? = some (100, 10, []) := rfl
theorem tg_24 : tg 24 = 100 := rfl
theorem sg_25 : SG[25]? = some (1, 11, [some 26, some 28, some 30, some 32, some 34, some 36, some 38, some 40, some 42, some 44, some 46]) := rfl
theorem tg_25 : tg 25 = 1 := rfl
theorem sg_26 : SG[26]? = some (9, 4, [some 27, none, none, none]) := rfl
theorem tg_26 : tg 26 = 9 := rfl
theorem sg_27 : SG[27]? = some (100, 96, []) := rfl
theorem tg_27 : tg 27 = 100 := rfl
theorem sg_28 : SG[28]? = some (9, 4, [some 29, none, none, none]) := rfl
theorem tg_28 : tg 28 = 9 := rfl
theorem sg_29 : SG[29]? = some (100, 40, []) := rfl
theorem tg_29 : tg 29 = 100 := rfl
theorem sg_30 : SG[30]? = some (9, 4, [some 31, none, none, none]) := rfl
theorem tg_30 : tg 30 = 9 := rfl
theorem sg_31 : SG[31]? = some (100, 7, []) := rfl
theorem tg_31 : tg 31 = 100 := rfl
theorem sg_32 : SG[32]? = some (9, 4, [some 33, none, none, none]) := rfl
theorem tg_32 : tg 32 = 9 := rfl
theorem sg_33 : SG[33]? = some (100, 600, []) := rfl
theorem tg_33 : tg 33 = 100 := rfl
theorem sg_34 : SG[34]? = some (9, 4, [some 35, none, none, none]) := rfl
theorem tg_34 : tg 34 = 9 := rfl
theorem sg_35 : SG[35]? = some (100, 64, []) := rfl
theorem tg_35 : tg 35 = 100 := rfl
theorem sg_36 : SG[36]? = some (9, 4, [some 37, none, none, none]) := rfl
theorem tg_36 : tg 36 = 9 := rfl
theorem sg_37 : SG[37]? = some (100, 800, []) := rfl
theorem tg_37 : tg 37 = 100 := rfl
theorem sg_38 : SG[38]? = some (9, 4, [some 39, none, none, none]) := rfl
theorem tg_38 : tg 38 = 9 := rfl
theorem sg_39 : SG[39]? = some (100, 64, []) := rfl
theorem tg_39 : tg 39 = 100 := rfl
theorem sg_40 : SG[40]? = some (9, 4, [some 41, none, none, none]) := rfl
theorem tg_40 : tg 40 = 9 := rfl
theorem sg_41 : SG[41]? = some (100, 64, []) := rfl
theorem tg_41 : tg 41 = 100 := rfl
theorem sg_42 : SG[42]? = some (9, 4, [some 43, none, none, none]) := rfl
theorem tg_42 : tg 42 = 9 := rfl
theorem sg_43 : SG[43]? = some (100, 64, []) := rfl
theorem tg_43 : tg 43 = 100 := rfl
theorem sg_44 : SG[44]? = some (9, 4, [some 45, none, none, none]) := rfl
theorem tg_44 : tg 44 = 9 := rfl
theorem sg_45 : SG[45]? = some (100, 16, []) := rfl
theorem tg_45 : tg 45 = 100 := rfl
theorem sg_46 : SG[46]? = some (9, 4, [some 47, none, none, none]) := rfl
theorem tg_46 : tg 46 = 9 := rfl
theorem sg_47 : SG[47]? = some (100, 10, []) := rfl
theorem tg_47 : tg 47 = 100 := rfl
theorem sg_48 : SG[48]? = some (4, 3, [some 49, none, none]) := rfl
theorem tg_48 : tg 48 = 4 := rfl
theorem sg_49 : SG[49]? = some (101, 6, [some 50, some 57, some 64, some 71, some 78, some 85]) := rfl
theorem tg_49 : tg 49 = 101 := rfl
theorem sg_50 : SG[50]? = some (3, 4, [some 51, some 53, some 55, none]) := rfl
theorem tg_50 : tg 50 = 3 := rfl
theorem sg_51 : SG[51]? = some (9, 4, [some 52, none, none, none]) := rfl
theorem tg_51 : tg 51 = 9 := rfl
theorem sg_52 : SG[52]? = some (100, 96, []) := rfl
theorem tg_52 : tg 52 = 100 := rfl
theorem sg_53 : SG[53]? = some (9, 4, [some 54, none, none, none]) := rfl
theorem tg_53 : tg 53 = 9 := rfl
theorem sg_54 : SG[54]? = some (100, 40, []) := rfl
theorem tg_54 : tg 54 = 100 := rfl
theorem sg_55 : SG[55]? = some (9, 4, [some 56, none, none, none]) := rfl
theorem tg_55 : tg 55 = 9 := rfl
theorem sg_56 : SG[56]? = some (100, 7, []) := rfl
theorem tg_56 : tg 56 = 100 := rfl
theorem sg_57 : SG[57]? = some (3, 4, [some 58, some 60, some 62, none]) := rfl
theorem tg_57 : tg 57 = 3 := rfl
theorem sg_58 : SG[58]? = some (9, 4, [some 59, none, none, none]) := rfl
theorem tg_58 : tg 58 = 9 := rfl
theorem sg_59 : SG[59]? = some (100, 96, []) := rfl
theorem tg_59 : tg 59 = 100 := rfl
theorem sg_60 : SG[60]? = some (9, 4, [some 61, none, none, none]) := rfl
theorem tg_60 : tg 60 = 9 := rfl
theorem sg_61 : SG[61]? = some (100, 40, []) := rfl
theorem tg_61 : tg 61 = 100 := rfl
theorem sg_62 : SG[62]? = some (9, 4, [some 63, none, none, none]) := rfl
theorem tg_62 : tg 62 = 9 := rfl
theorem sg_63 : SG[63]? = some (100, 7, []) := rfl
theorem tg_63 : tg 63 = 100 := rfl
theorem sg_64 : SG[64]? = some (3, 4, [some 65, some 67, some 69, none]) := rfl
theorem tg_64 : tg 64 = 3 := rfl
theorem sg_65 : SG[65]? = some (9, 4, [some 66, none, none, none]) := rfl
theorem tg_65 : tg 65 = 9 := rfl
theorem sg_66 : SG[66]? = some (100, 96, []) := rfl
theorem tg_66 : tg 66 = 100 := rfl
theorem sg_67 : SG[67]? = some (9, 4, [some 68, none, none, none]) := rfl
theorem tg_67 : tg 67 = 9 := rfl
theorem sg_68 : SG[68]? = some (100, 40, []) := rfl
theorem tg_68 : tg 68 = 100 := rfl
theorem sg_69 : SG[69]? = some (9, 4, [some 70, none, none, none]) := rfl
theorem tg_69 : tg 69 = 9 := rfl
theorem sg_70 : SG[70]? = some (100, 7, []) := rfl
theorem tg_70 : tg 70 = 100 := rfl
theorem sg_71 : SG[71]? = some (3, 4, [some 72, some 74, some 76, none]) := rfl
theorem tg_71 : tg 71 = 3 := rfl
theorem sg_72 : SG[72]? = some (9, 4, [some 73, none, none, none]) := rfl
theorem tg_72 : tg 72 = 9 := rfl
theorem sg_73 : SG[73]? = some (100, 96, []) := rfl
theorem tg_73 : tg 73 = 100 := rfl
theorem sg_74 : SG[74]? = some (9, 4, [some 75, none, none, none]) := rfl
theorem tg_74 : tg 74 = 9 := rfl
theorem sg_75 : SG[75]? = some (100, 40, []) := rfl
theorem tg_75 : tg 75 = 100 := rfl
theorem sg_76 : SG[76]? = some (9, 4, [some 77, none, none, none]) := rfl
theorem tg_76 : tg 76 = 9 := rfl
theorem sg_77 : SG[77]? = some (100, 7, []) := rfl
theorem tg_77 : tg 77 = 100 := rfl
theorem sg_78 : SG[78]? = some (3, 4, [some 79, some 81, some 83, none]) := rfl
theorem tg_78 : tg 78 = 3 := rfl
theorem sg_79 : SG[79]? = some (9, 4, [some 80, none, none, none]) := rfl
theorem tg_79 : tg 79 = 9 := rfl
theorem sg_80 : SG[80]? = some (100, 96, []) := rfl
theorem tg_80 : tg 80 = 100 := rfl
theorem sg_81 : SG[81]? = some (9, 4, [some 82, none, none, none]) := rfl
theorem tg_81 : tg 81 = 9 := rfl
theorem sg_82 : SG[82]? = some (100, 40, []) := rfl
theorem tg_82 : tg 82 = 100 := rfl
theorem sg_83 : SG[83]? = some (9, 4, [some 84, none, none, none]) := rfl
theorem tg_83 : tg 83 = 9 := rfl
theorem sg_84 : SG[84]? = some (100, 7, []) := rfl
theorem tg_84 : tg 84 = 100 := rfl
theorem sg_85 : SG[85]? = some (3, 4, [some 86, some 88, some 90, none]) := rfl
theorem tg_85 : tg 85 = 3 := rfl
theorem sg_86 : SG[86]? = some (9, 4, [some 87, none, none, none]) := rfl
theorem tg_86 : tg 86 = 9 := rfl
theorem sg_87 : SG[87]? = some (100, 96, []) := rfl
theorem tg_87 : tg 87 = 100 := rfl
theorem sg_88 : SG[88]? = some (9, 4, [some 89, none, none, none]) := rfl
theorem tg_88 : tg 88 = 9 := rfl
theorem sg_89 : SG[89]? = some (100, 40, []) := rfl
theorem tg_89 : tg 89 = 100 := rfl
theorem sg_90 : SG[90]? = some (9, 4, [some 91, none, none, none]) := rfl
theorem tg_90 : tg 90 = 9 := rfl
theorem sg_91 : SG[91]? = some (100, 7, []) := rfl
theorem tg_91 : tg 91 = 100 := rfl
theorem sg_92 : SG[92]? = some (3, 4, [some 93, some 95, some 97, none]) := rfl
theorem tg_92 : tg 92 = 3 := rfl
theorem sg_93 : SG[93]? = some (9, 4, [some 94, none, none, none]) := rfl
theorem tg_93 : tg 93 = 9 := rfl
theorem sg_94 : SG[94]? = some (100, 96, []) := rfl
theorem tg_94 : tg 94 = 100 := rfl
theorem sg_95 : SG[95]? = some (9, 4, [some 96, none, none, none]) := rfl
theorem tg_95 : tg 95 = 9 := rfl
theorem sg_96 : SG[96]? = some (100, 40, []) := rfl
theorem tg_96 : tg 96 = 100 := rfl
theorem sg_97 : SG[97]? = some (9, 4, [some 98, none, none, none]) := rfl
theorem tg_97 : tg 97 = 9 := rfl
theorem sg_98 : SG[98]? = some (100, 7, []) := rfl
theorem tg_98 : tg 98 = 100 := rfl
theorem sg_99 : SG[99]? = some (10, 7, [some 100, some 101, none, none, none, none, none]) := rfl
theorem tg_99 : tg 99 = 10 := rfl
theorem sg_100 : SG[100]? = some (100, 400, []) := rfl
theorem tg_100 : tg 100 = 100 := rfl
theorem sg_101 : SG[101]? = some (9, 4, [some 102, none, none, none]) := rfl
theorem tg_101 : tg 101 = 9 := rfl
theorem sg_102 : SG[102]? = some (100, 1203, []) := rfl
theorem tg_102 : tg 102 = 100 := rfl
theorem sg_103 : SG[103]? = some (6, 12, [some 99, some 104, some 106, none, none, some 108, none, none, none, none, none, none]) := rfl
theorem tg_103 : tg 103 = 6 := rfl
theorem sg_104 : SG[104]? = some (9, 4, [some 105, none, none, none]) := rfl
theorem tg_104 : tg 104 = 9 := rfl
theorem sg_105 : SG[105]? = some (100, 64, []) := rfl
theorem tg_105 : tg 105 = 100 := rfl
theorem sg_106 : SG[106]? = some (9, 4, [some 107, none, none, none]) := rfl
theorem tg_106 : tg 106 = 9 := rfl
theorem sg_107 : SG[107]? = some (100, 800, []) := rfl
theorem tg_107 : tg 107 = 100 := rfl
theorem sg_108 : SG[108]? = some (9, 4, [some 109, none, none, none]) := rfl
theorem tg_108 : tg 108 = 9 := rfl
theorem sg_109 : SG[109]? = some (100, 400, []) := rfl
theorem tg_109 : tg 109 = 100 := rfl
theorem sg_110 : SG[110]? = some (2, 3, [some 2, some 111, some 112]) := rfl
theorem tg_110 : tg 110 = 2 := rfl
theorem sg_111 : SG[111]? = some (100, 10, []) := rfl
theorem tg_111 : tg 111 = 100 := rfl
theorem sg_112 : SG[112]? = some (100, 22, []) := rfl
theorem tg_112 : tg 112 = 100 := rfl
theorem sg_113 : SG[113]? = some (8, 7, [some 2, some 110, some 114, some 115, none, none, none]) := rfl
theorem tg_113 : tg 113 = 8 := rfl
theorem sg_114 : SG[114]? = some (100, 12, []) := rfl
theorem tg_114 : tg 114 = 100 := rfl
theorem sg_115 : SG[115]? = some (100, 12, []) := rfl
theorem tg_115 : tg 115 = 100 := rfl
theorem sg_116 : SG[116]? = some (0, 7, [some 2, some 110, some 113, some 117, some 119, none, none]) := rfl
theorem tg_116 : tg 116 = 0 := rfl
theorem sg_117 : SG[117]? = some (9, 4, [some 118, none, none, none]) := rfl
theorem tg_117 : tg 117 = 9 := rfl
theorem sg_118 : SG[118]? = some (100, 60, []) := rfl
theorem tg_118 : tg 118 = 100 := rfl
theorem sg_119 : SG[119]? = some (9, 4, [some 120, none, none, none]) := rfl
theorem tg_119 : tg 119 = 9 := rfl
theorem sg_120 : SG[120]? = some (100, 5, []) := rfl
theorem tg_120 : tg 120 = 100 := rfl
theorem sg_121 : SG[121]? = some (7, 1, [some 2]) := rfl
theorem tg_121 : tg 121 = 7 := rfl
theorem sg_122 : SG[122]? = some (5, 1, [some 2]) := rfl
theorem tg_122 : tg 122 = 5 := rfl
theorem sg_big {r : Nat} (h : 123 ≤ r) : tg r = 999 := by
  unfold tg sgd
  rw [List.getD_eq_getElem?_getD, List.getElem?_eq_none (by exact h)]
  rfl
theorem sg_lt {r t : Nat} (h : tg r = t) (ht : t ≠ 999) : r < 123 := by
  rcases Nat.lt_or_ge r 123 with q | q
  · exact q
  · exact absurd ((sg_big q).symm.trans h) (fun z => ht z.symm)
theorem sg_of {r : Nat} (h : r < 123) : SG[r]? = some (tg r, al r, (sgd r).2.2) := by
  have h2 : r < SG.length := h
  unfold tg al sgd
  rw [List.getD_eq_getElem?_getD, List.getElem?_eq_getElem h2]
  rfl
theorem sg_Taz : ∀ r, r < 123 → tg r = 9 → al r = 4 ∧ (sgd r).2.2 = [some (rq r 0), none, none, none] := by decide +kernel
theorem sg_Ta (r : Nat) (h : tg r = 9) : al r = 4 ∧ (sgd r).2.2 = [some (rq r 0), none, none, none] := sg_Taz r (sg_lt h (by decide)) h
theorem sg_T (r : Nat) (h : tg r = 9) : SG[r]? = some (9, 4, [some (rq r 0), none, none, none]) := by
  have h2 := sg_Ta r h
  rw [sg_of (sg_lt h (by decide)), h, h2.1, h2.2]
theorem sg_Maz : ∀ r, r < 123 → tg r = 3 → al r = 4 ∧ (sgd r).2.2 = [some (rq r 0), some (rq r 1), some (rq r 2), none] := by decide +kernel
theorem sg_Ma (r : Nat) (h : tg r = 3) : al r = 4 ∧ (sgd r).2.2 = [some (rq r 0), some (rq r 1), some (rq r 2), none] := sg_Maz r (sg_lt h (by decide)) h
theorem sg_M (r : Nat) (h : tg r = 3) : SG[r]? = some (3, 4, [some (rq r 0), some (rq r 1), some (rq r 2), none]) := by
  have h2 := sg_Ma r h
  rw [sg_of (sg_lt h (by decide)), h, h2.1, h2.2]
theorem sg_Haz : ∀ r, r < 123 → tg r = 1 → al r = 11 ∧ (sgd r).2.2 = [some (rq r 0), some (rq r 1), some (rq r 2), some (rq r 3), some (rq r 4), some (rq r 5), some (rq r 6), some (rq r 7), some (rq r 8), some (rq r 9), some (rq r 10)] := by decide +kernel
theorem sg_Ha (r : Nat) (h : tg r = 1) : al r = 11 ∧ (sgd r).2.2 = [some (rq r 0), some (rq r 1), some (rq r 2), some (rq r 3), some (rq r 4), some (rq r 5), some (rq r 6), some (rq r 7), some (rq r 8), some (rq r 9), some (rq r 10)] := sg_Haz r (sg_lt h (by decide)) h
theorem sg_H (r : Nat) (h : tg r = 1) : SG[r]? = some (1, 11, [some (rq r 0), some (rq r 1), some (rq r 2), some (rq r 3), some (rq r 4), some (rq r 5), some (rq r 6), some (rq r 7), some (rq r 8), some (rq r 9), some (rq r 10)]) := by
  have h2 := sg_Ha r h
  rw [sg_of (sg_lt h (by decide)), h, h2.1, h2.2]
theorem sg_Aaz : ∀ r, r < 123 → tg r = 100 → (sgd r).2.2 = [] := by decide +kernel
theorem sg_Aa (r : Nat) (h : tg r = 100) : (sgd r).2.2 = [] := sg_Aaz r (sg_lt h (by decide)) h
theorem sg_A (r : Nat) (h : tg r = 100) : SG[r]? = some (100, al r, []) := by
  rw [sg_of (sg_lt h (by decide)), h, sg_Aa r h]
theorem rt_9_0z : ∀ r, r < 123 → tg r = 9 → tg (rq r 0) = 100 := by decide +kernel
theorem rt_9_0 (r : Nat) (h : tg r = 9) : tg (rq r 0) = 100 := rt_9_0z r (sg_lt h (by decide)) h
theorem rt_3_0z : ∀ r, r < 123 → tg r = 3 → tg (rq r 0) = 9 := by decide +kernel
theorem rt_3_0 (r : Nat) (h : tg r = 3) : tg (rq r 0) = 9 := rt_3_0z r (sg_lt h (by decide)) h
theorem rt_3_1z : ∀ r, r < 123 → tg r = 3 → tg (rq r 1) = 9 := by decide +kernel
theorem rt_3_1 (r : Nat) (h : tg r = 3) : tg (rq r 1) = 9 := rt_3_1z r (sg_lt h (by decide)) h
theorem rt_3_2z : ∀ r, r < 123 → tg r = 3 → tg (rq r 2) = 9 := by decide +kernel
theorem rt_3_2 (r : Nat) (h : tg r = 3) : tg (rq r 2) = 9 := rt_3_2z r (sg_lt h (by decide)) h
theorem rt_1_0z : ∀ r, r < 123 → tg r = 1 → tg (rq r 0) = 9 := by decide +kernel
theorem rt_1_0 (r : Nat) (h : tg r = 1) : tg (rq r 0) = 9 := rt_1_0z r (sg_lt h (by decide)) h
theorem rt_1_1z : ∀ r, r < 123 → tg r = 1 → tg (rq r 1) = 9 := by decide +kernel
theorem rt_1_1 (r : Nat) (h : tg r = 1) : tg (rq r 1) = 9 := rt_1_1z r (sg_lt h (by decide)) h
theorem rt_1_2z : ∀ r, r < 123 → tg r = 1 → tg (rq r 2) = 9 := by decide +kernel
theorem rt_1_2 (r : Nat) (h : tg r = 1) : tg (rq r 2) = 9 := rt_1_2z r (sg_lt h (by decide)) h
theorem rt_1_3z : ∀ r, r < 123 → tg r = 1 → tg (rq r 3) = 9 := by decide +kernel
theorem rt_1_3 (r : Nat) (h : tg r = 1) : tg (rq r 3) = 9 := rt_1_3z r (sg_lt h (by decide)) h
theorem rt_1_4z : ∀ r, r < 123 → tg r = 1 → tg (rq r 4) = 9 := by decide +kernel
theorem rt_1_4 (r : Nat) (h : tg r = 1) : tg (rq r 4) = 9 := rt_1_4z r (sg_lt h (by decide)) h
theorem rt_1_5z : ∀ r, r < 123 → tg r = 1 → tg (rq r 5) = 9 := by decide +kernel
theorem rt_1_5 (r : Nat) (h : tg r = 1) : tg (rq r 5) = 9 := rt_1_5z r (sg_lt h (by decide)) h
theorem rt_1_6z : ∀ r, r < 123 → tg r = 1 → tg (rq r 6) = 9 := by decide +kernel
theorem rt_1_6 (r : Nat) (h : tg r = 1) : tg (rq r 6) = 9 := rt_1_6z r (sg_lt h (by decide)) h
theorem rt_1_7z : ∀ r, r < 123 → tg r = 1 → tg (rq r 7) = 9 := by decide +kernel
theorem rt_1_7 (r : Nat) (h : tg r = 1) : tg (rq r 7) = 9 := rt_1_7z r (sg_lt h (by decide)) h
theorem rt_1_8z : ∀ r, r < 123 → tg r = 1 → tg (rq r 8) = 9 := by decide +kernel
theorem rt_1_8 (r : Nat) (h : tg r = 1) : tg (rq r 8) = 9 := rt_1_8z r (sg_lt h (by decide)) h
theorem rt_1_9z : ∀ r, r < 123 → tg r = 1 → tg (rq r 9) = 9 := by decide +kernel
theorem rt_1_9 (r : Nat) (h : tg r = 1) : tg (rq r 9) = 9 := rt_1_9z r (sg_lt h (by decide)) h
theorem rt_1_10z : ∀ r, r < 123 → tg r = 1 → tg (rq r 10) = 9 := by decide +kernel
theorem rt_1_10 (r : Nat) (h : tg r = 1) : tg (rq r 10) = 9 := rt_1_10z r (sg_lt h (by decide)) h
def mo (i : Int32) : Nat := [50, 57, 64, 71, 78, 85].getD i.toNatClampNeg 50
theorem tg_mo (i : Int32) : tg (mo i) = 3 := by
  unfold mo
  generalize i.toNatClampNeg = k
  match k with
  | 0 => rfl
  | 1 => rfl
  | 2 => rfl
  | 3 => rfl
  | 4 => rfl
  | 5 => rfl
  | k + 6 => rfl
theorem mo_lt (i : Int32) : mo i < 2 ^ 31 := by
  have := sg_lt (tg_mo i) (by decide)
  omega
theorem mo_at {i : Int32} (h : inb i 6 = true) : ([some 50, some 57, some 64, some 71, some 78, some 85] : List (Option Nat)).getD i.toNatClampNeg none = some (mo i) := by
  have hk : i.toNatClampNeg < 6 := by
    simp only [inb, Bool.and_eq_true, decide_eq_true_eq] at h
    exact h.2
  unfold mo
  generalize i.toNatClampNeg = k at hk ⊢
  match k, hk with
  | 0, _ => rfl
  | 1, _ => rfl
  | 2, _ => rfl
  | 3, _ => rfl
  | 4, _ => rfl
  | 5, _ => rfl
theorem F_Encores_9 : FL "Encores" 9 11 12 := ⟨by decide, by decide, fl_Encores_9⟩
theorem F_Encores_16 : FL "Encores" 16 11 0 := ⟨by decide, by decide, fl_Encores_16⟩
theorem F_Encores_20 : FL "Encores" 20 11 1 := ⟨by decide, by decide, fl_Encores_20⟩
theorem F_Encores_23 : FL "Encores" 23 11 2 := ⟨by decide, by decide, fl_Encores_23⟩
theorem F_Encores_30 : FL "Encores" 30 11 3 := ⟨by decide, by decide, fl_Encores_30⟩
theorem F_Encores_37 : FL "Encores" 37 11 4 := ⟨by decide, by decide, fl_Encores_37⟩
theorem F_Encores_44 : FL "Encores" 44 11 5 := ⟨by decide, by decide, fl_Encores_44⟩
theorem F_Encores_53 : FL "Encores" 53 11 6 := ⟨by decide, by decide, fl_Encores_53⟩
theorem F_Encores_62 : FL "Encores" 62 11 7 := ⟨by decide, by decide, fl_Encores_62⟩
theorem F_Encores_71 : FL "Encores" 71 11 8 := ⟨by decide, by decide, fl_Encores_71⟩
theorem F_Encores_80 : FL "Encores" 80 11 9 := ⟨by decide, by decide, fl_Encores_80⟩
theorem F_Encores_87 : FL "Encores" 87 11 10 := ⟨by decide, by decide, fl_Encores_87⟩
theorem F_Encores_94 : FL "Encores" 94 11 11 := ⟨by decide, by decide, fl_Encores_94⟩
theorem F_Encores_113 : FL "Encores" 113 1 0 := ⟨by decide, by decide, fl_Encores_113⟩
theorem F_Encores_117 : FL "Encores" 117 9 3 := ⟨by decide, by decide, fl_Encores_117⟩
theorem F_Encores_131 : FL "Encores" 131 1 1 := ⟨by decide, by decide, fl_Encores_131⟩
theorem F_Encores_175 : FL "Encores" 175 10 2 := ⟨by decide, by decide, fl_Encores_175⟩
theorem F_Encores_181 : FL "Encores" 181 6 3 := ⟨by decide, by decide, fl_Encores_181⟩
theorem F_Encores_184 : FL "Encores" 184 6 1 := ⟨by decide, by decide, fl_Encores_184⟩
theorem F_Encores_186 : FL "Encores" 186 6 2 := ⟨by decide, by decide, fl_Encores_186⟩
theorem F_Encores_212 : FL "Encores" 212 1 3 := ⟨by decide, by decide, fl_Encores_212⟩
theorem F_Encores_218 : FL "Encores" 218 1 4 := ⟨by decide, by decide, fl_Encores_218⟩
theorem F_Encores_221 : FL "Encores" 221 1 6 := ⟨by decide, by decide, fl_Encores_221⟩
theorem F_Encores_224 : FL "Encores" 224 1 7 := ⟨by decide, by decide, fl_Encores_224⟩
theorem F_Encores_226 : FL "Encores" 226 1 8 := ⟨by decide, by decide, fl_Encores_226⟩
theorem F_Encores_229 : FL "Encores" 229 1 9 := ⟨by decide, by decide, fl_Encores_229⟩
theorem F_Encores_232 : FL "Encores" 232 4 2 := ⟨by decide, by decide, fl_Encores_232⟩
theorem F_Encores_Fewest_14 : FL "Encores$Fewest" 14 0 3 := ⟨by decide, by decide, fl_Encores_Fewest_14⟩
theorem F_Encores_Fewest_20 : FL "Encores$Fewest" 20 0 4 := ⟨by decide, by decide, fl_Encores_Fewest_20⟩
theorem F_Encores_Fewest_23 : FL "Encores$Fewest" 23 0 0 := ⟨by decide, by decide, fl_Encores_Fewest_23⟩
theorem F_Encores_Fewest_27 : FL "Encores$Fewest" 27 0 1 := ⟨by decide, by decide, fl_Encores_Fewest_27⟩
theorem F_Encores_Fewest_31 : FL "Encores$Fewest" 31 0 2 := ⟨by decide, by decide, fl_Encores_Fewest_31⟩
theorem F_Encores_House_14 : FL "Encores$House" 14 1 0 := ⟨by decide, by decide, fl_Encores_House_14⟩
theorem F_Encores_House_20 : FL "Encores$House" 20 1 1 := ⟨by decide, by decide, fl_Encores_House_20⟩
theorem F_Encores_House_23 : FL "Encores$House" 23 1 2 := ⟨by decide, by decide, fl_Encores_House_23⟩
theorem F_Encores_House_26 : FL "Encores$House" 26 1 3 := ⟨by decide, by decide, fl_Encores_House_26⟩
theorem F_Encores_House_29 : FL "Encores$House" 29 1 4 := ⟨by decide, by decide, fl_Encores_House_29⟩
theorem F_Encores_House_32 : FL "Encores$House" 32 1 5 := ⟨by decide, by decide, fl_Encores_House_32⟩
theorem F_Encores_House_35 : FL "Encores$House" 35 1 6 := ⟨by decide, by decide, fl_Encores_House_35⟩
theorem F_Encores_House_38 : FL "Encores$House" 38 1 7 := ⟨by decide, by decide, fl_Encores_House_38⟩
theorem F_Encores_House_41 : FL "Encores$House" 41 1 8 := ⟨by decide, by decide, fl_Encores_House_41⟩
theorem F_Encores_House_44 : FL "Encores$House" 44 1 9 := ⟨by decide, by decide, fl_Encores_House_44⟩
theorem F_Encores_House_47 : FL "Encores$House" 47 1 10 := ⟨by decide, by decide, fl_Encores_House_47⟩
theorem F_Encores_House_66 : FL "Encores$House" 66 9 3 := ⟨by decide, by decide, fl_Encores_House_66⟩
theorem F_Encores_Law_9 : FL "Encores$Law" 9 2 1 := ⟨by decide, by decide, fl_Encores_Law_9⟩
theorem F_Encores_Law_15 : FL "Encores$Law" 15 2 2 := ⟨by decide, by decide, fl_Encores_Law_15⟩
theorem F_Encores_Law_18 : FL "Encores$Law" 18 2 0 := ⟨by decide, by decide, fl_Encores_Law_18⟩
theorem F_Encores_Law_34 : FL "Encores$Law" 34 1 0 := ⟨by decide, by decide, fl_Encores_Law_34⟩
theorem F_Encores_Law_50 : FL "Encores$Law" 50 1 1 := ⟨by decide, by decide, fl_Encores_Law_50⟩
theorem F_Encores_Law_53 : FL "Encores$Law" 53 1 2 := ⟨by decide, by decide, fl_Encores_Law_53⟩
theorem F_Encores_Law_56 : FL "Encores$Law" 56 1 4 := ⟨by decide, by decide, fl_Encores_Law_56⟩
theorem F_Encores_Law_59 : FL "Encores$Law" 59 9 3 := ⟨by decide, by decide, fl_Encores_Law_59⟩
theorem F_Encores_Law_80 : FL "Encores$Law" 80 1 5 := ⟨by decide, by decide, fl_Encores_Law_80⟩
theorem F_Encores_Moment_14 : FL "Encores$Moment" 14 3 0 := ⟨by decide, by decide, fl_Encores_Moment_14⟩
theorem F_Encores_Moment_20 : FL "Encores$Moment" 20 3 1 := ⟨by decide, by decide, fl_Encores_Moment_20⟩
theorem F_Encores_Moment_23 : FL "Encores$Moment" 23 3 2 := ⟨by decide, by decide, fl_Encores_Moment_23⟩
theorem F_Encores_Moment_26 : FL "Encores$Moment" 26 1 0 := ⟨by decide, by decide, fl_Encores_Moment_26⟩
theorem F_Encores_Moment_33 : FL "Encores$Moment" 33 1 1 := ⟨by decide, by decide, fl_Encores_Moment_33⟩
theorem F_Encores_Moment_34 : FL "Encores$Moment" 34 1 2 := ⟨by decide, by decide, fl_Encores_Moment_34⟩
theorem F_Encores_Moment_35 : FL "Encores$Moment" 35 1 3 := ⟨by decide, by decide, fl_Encores_Moment_35⟩
theorem F_Encores_Moment_38 : FL "Encores$Moment" 38 9 3 := ⟨by decide, by decide, fl_Encores_Moment_38⟩
theorem F_Encores_Moment_42 : FL "Encores$Moment" 42 3 3 := ⟨by decide, by decide, fl_Encores_Moment_42⟩
theorem F_Encores_Past_11 : FL "Encores$Past" 11 4 0 := ⟨by decide, by decide, fl_Encores_Past_11⟩
theorem F_Encores_Past_18 : FL "Encores$Past" 18 4 1 := ⟨by decide, by decide, fl_Encores_Past_18⟩
theorem F_Encores_Past_30 : FL "Encores$Past" 30 4 2 := ⟨by decide, by decide, fl_Encores_Past_30⟩
theorem F_Encores_Programme_9 : FL "Encores$Programme" 9 5 0 := ⟨by decide, by decide, fl_Encores_Programme_9⟩
theorem F_Encores_Reader_14 : FL "Encores$Reader" 14 6 1 := ⟨by decide, by decide, fl_Encores_Reader_14⟩
theorem F_Encores_Reader_20 : FL "Encores$Reader" 20 6 2 := ⟨by decide, by decide, fl_Encores_Reader_20⟩
theorem F_Encores_Reader_23 : FL "Encores$Reader" 23 6 5 := ⟨by decide, by decide, fl_Encores_Reader_23⟩
theorem F_Encores_Reader_26 : FL "Encores$Reader" 26 6 0 := ⟨by decide, by decide, fl_Encores_Reader_26⟩
theorem F_Encores_Reader_30 : FL "Encores$Reader" 30 6 3 := ⟨by decide, by decide, fl_Encores_Reader_30⟩
theorem F_Encores_Reader_34 : FL "Encores$Reader" 34 6 4 := ⟨by decide, by decide, fl_Encores_Reader_34⟩
theorem F_Encores_Reader_37 : FL "Encores$Reader" 37 9 3 := ⟨by decide, by decide, fl_Encores_Reader_37⟩
theorem F_Encores_Reader_39 : FL "Encores$Reader" 39 6 10 := ⟨by decide, by decide, fl_Encores_Reader_39⟩
theorem F_Encores_Reader_42 : FL "Encores$Reader" 42 6 11 := ⟨by decide, by decide, fl_Encores_Reader_42⟩
theorem F_Encores_Reader_54 : FL "Encores$Reader" 54 10 3 := ⟨by decide, by decide, fl_Encores_Reader_54⟩
theorem F_Encores_Reader_68 : FL "Encores$Reader" 68 6 9 := ⟨by decide, by decide, fl_Encores_Reader_68⟩
theorem F_Encores_Reader_95 : FL "Encores$Reader" 95 10 5 := ⟨by decide, by decide, fl_Encores_Reader_95⟩
theorem F_Encores_Reader_101 : FL "Encores$Reader" 101 10 4 := ⟨by decide, by decide, fl_Encores_Reader_101⟩
theorem F_Encores_Reader_104 : FL "Encores$Reader" 104 6 6 := ⟨by decide, by decide, fl_Encores_Reader_104⟩
theorem F_Encores_Reader_107 : FL "Encores$Reader" 107 6 7 := ⟨by decide, by decide, fl_Encores_Reader_107⟩
theorem F_Encores_Reader_110 : FL "Encores$Reader" 110 6 8 := ⟨by decide, by decide, fl_Encores_Reader_110⟩
theorem F_Encores_Seats_9 : FL "Encores$Seats" 9 7 0 := ⟨by decide, by decide, fl_Encores_Seats_9⟩
theorem F_Encores_Stage_9 : FL "Encores$Stage" 9 8 2 := ⟨by decide, by decide, fl_Encores_Stage_9⟩
theorem F_Encores_Stage_15 : FL "Encores$Stage" 15 8 3 := ⟨by decide, by decide, fl_Encores_Stage_15⟩
theorem F_Encores_Stage_18 : FL "Encores$Stage" 18 8 0 := ⟨by decide, by decide, fl_Encores_Stage_18⟩
theorem F_Encores_Stage_22 : FL "Encores$Stage" 22 8 1 := ⟨by decide, by decide, fl_Encores_Stage_22⟩
theorem F_Encores_Stage_32 : FL "Encores$Stage" 32 1 7 := ⟨by decide, by decide, fl_Encores_Stage_32⟩
theorem F_Encores_Stage_36 : FL "Encores$Stage" 36 9 3 := ⟨by decide, by decide, fl_Encores_Stage_36⟩
theorem F_Encores_Stage_94 : FL "Encores$Stage" 94 1 1 := ⟨by decide, by decide, fl_Encores_Stage_94⟩
theorem F_Encores_Stage_106 : FL "Encores$Stage" 106 1 0 := ⟨by decide, by decide, fl_Encores_Stage_106⟩
theorem F_Encores_Stage_109 : FL "Encores$Stage" 109 8 4 := ⟨by decide, by decide, fl_Encores_Stage_109⟩
theorem F_Encores_Stage_116 : FL "Encores$Stage" 116 8 5 := ⟨by decide, by decide, fl_Encores_Stage_116⟩
theorem F_Encores_Stage_119 : FL "Encores$Stage" 119 8 6 := ⟨by decide, by decide, fl_Encores_Stage_119⟩
theorem F_Encores_Table_15 : FL "Encores$Table" 15 9 1 := ⟨by decide, by decide, fl_Encores_Table_15⟩
theorem F_Encores_Table_21 : FL "Encores$Table" 21 9 2 := ⟨by decide, by decide, fl_Encores_Table_21⟩
theorem F_Encores_Table_24 : FL "Encores$Table" 24 9 0 := ⟨by decide, by decide, fl_Encores_Table_24⟩
theorem F_Encores_Table_28 : FL "Encores$Table" 28 9 3 := ⟨by decide, by decide, fl_Encores_Table_28⟩
theorem F_Encores_Tape_9 : FL "Encores$Tape" 9 10 0 := ⟨by decide, by decide, fl_Encores_Tape_9⟩
theorem F_Encores_Tape_20 : FL "Encores$Tape" 20 10 1 := ⟨by decide, by decide, fl_Encores_Tape_20⟩
theorem F_Encores_Tape_24 : FL "Encores$Tape" 24 10 2 := ⟨by decide, by decide, fl_Encores_Tape_24⟩
theorem F_Encores_Tape_28 : FL "Encores$Tape" 28 9 3 := ⟨by decide, by decide, fl_Encores_Tape_28⟩
theorem F_Encores_Tape_46 : FL "Encores$Tape" 46 10 6 := ⟨by decide, by decide, fl_Encores_Tape_46⟩
theorem F_Encores_Tape_56 : FL "Encores$Tape" 56 10 3 := ⟨by decide, by decide, fl_Encores_Tape_56⟩
theorem F_Encores_Tape_59 : FL "Encores$Tape" 59 10 4 := ⟨by decide, by decide, fl_Encores_Tape_59⟩
theorem F_Encores_Tape_62 : FL "Encores$Tape" 62 10 5 := ⟨by decide, by decide, fl_Encores_Tape_62⟩
theorem F_EncoresLaw_House_7 : FL "EncoresLaw$House" 7 12 4 := ⟨by decide, by decide, fl_EncoresLaw_House_7⟩
theorem F_EncoresLaw_House_13 : FL "EncoresLaw$House" 13 12 10 := ⟨by decide, by decide, fl_EncoresLaw_House_13⟩
theorem F_EncoresLaw_House_16 : FL "EncoresLaw$House" 16 12 11 := ⟨by decide, by decide, fl_EncoresLaw_House_16⟩
theorem F_EncoresLaw_House_21 : FL "EncoresLaw$House" 21 12 15 := ⟨by decide, by decide, fl_EncoresLaw_House_21⟩
theorem F_EncoresLaw_House_25 : FL "EncoresLaw$House" 25 12 16 := ⟨by decide, by decide, fl_EncoresLaw_House_25⟩
theorem F_EncoresLaw_House_28 : FL "EncoresLaw$House" 28 12 17 := ⟨by decide, by decide, fl_EncoresLaw_House_28⟩
theorem F_EncoresLaw_House_31 : FL "EncoresLaw$House" 31 12 18 := ⟨by decide, by decide, fl_EncoresLaw_House_31⟩
theorem F_EncoresLaw_House_34 : FL "EncoresLaw$House" 34 12 19 := ⟨by decide, by decide, fl_EncoresLaw_House_34⟩
theorem F_EncoresLaw_House_37 : FL "EncoresLaw$House" 37 12 20 := ⟨by decide, by decide, fl_EncoresLaw_House_37⟩
theorem F_EncoresLaw_House_41 : FL "EncoresLaw$House" 41 12 0 := ⟨by decide, by decide, fl_EncoresLaw_House_41⟩
theorem F_EncoresLaw_House_44 : FL "EncoresLaw$House" 44 12 1 := ⟨by decide, by decide, fl_EncoresLaw_House_44⟩
theorem F_EncoresLaw_House_47 : FL "EncoresLaw$House" 47 12 2 := ⟨by decide, by decide, fl_EncoresLaw_House_47⟩
theorem F_EncoresLaw_House_50 : FL "EncoresLaw$House" 50 12 3 := ⟨by decide, by decide, fl_EncoresLaw_House_50⟩
theorem F_EncoresLaw_House_53 : FL "EncoresLaw$House" 53 12 5 := ⟨by decide, by decide, fl_EncoresLaw_House_53⟩
theorem F_EncoresLaw_House_56 : FL "EncoresLaw$House" 56 12 6 := ⟨by decide, by decide, fl_EncoresLaw_House_56⟩
theorem F_EncoresLaw_House_59 : FL "EncoresLaw$House" 59 12 7 := ⟨by decide, by decide, fl_EncoresLaw_House_59⟩
theorem F_EncoresLaw_House_62 : FL "EncoresLaw$House" 62 12 8 := ⟨by decide, by decide, fl_EncoresLaw_House_62⟩
theorem F_EncoresLaw_House_65 : FL "EncoresLaw$House" 65 12 9 := ⟨by decide, by decide, fl_EncoresLaw_House_65⟩
theorem F_EncoresLaw_House_68 : FL "EncoresLaw$House" 68 12 12 := ⟨by decide, by decide, fl_EncoresLaw_House_68⟩
theorem F_EncoresLaw_House_71 : FL "EncoresLaw$House" 71 12 13 := ⟨by decide, by decide, fl_EncoresLaw_House_71⟩
theorem F_EncoresLaw_House_74 : FL "EncoresLaw$House" 74 12 14 := ⟨by decide, by decide, fl_EncoresLaw_House_74⟩
theorem F_EncoresLaw_House_77 : FL "EncoresLaw$House" 77 12 21 := ⟨by decide, by decide, fl_EncoresLaw_House_77⟩
theorem F_EncoresLaw_House_105 : FL "EncoresLaw$House" 105 12 22 := ⟨by decide, by decide, fl_EncoresLaw_House_105⟩
theorem F_EncoresLaw_House_108 : FL "EncoresLaw$House" 108 12 23 := ⟨by decide, by decide, fl_EncoresLaw_House_108⟩
theorem F_EncoresLaw_House_122 : FL "EncoresLaw$House" 122 12 24 := ⟨by decide, by decide, fl_EncoresLaw_House_122⟩
theorem F_java_lang_AbstractStringBuilder_15 : FL "java/lang/AbstractStringBuilder" 15 13 0 := ⟨by decide, by decide, fl_java_lang_AbstractStringBuilder_15⟩
theorem F_java_lang_AbstractStringBuilder_22 : FL "java/lang/AbstractStringBuilder" 22 13 1 := ⟨by decide, by decide, fl_java_lang_AbstractStringBuilder_22⟩
theorem F_java_lang_AbstractStringBuilder_79 : FL "java/lang/AbstractStringBuilder" 79 13 3 := ⟨by decide, by decide, fl_java_lang_AbstractStringBuilder_79⟩
theorem F_java_lang_String_9 : FL "java/lang/String" 9 14 0 := ⟨by decide, by decide, fl_java_lang_String_9⟩
theorem F_java_lang_String_15 : FL "java/lang/String" 15 14 1 := ⟨by decide, by decide, fl_java_lang_String_15⟩
theorem F_java_lang_String_1048 : FL "java/lang/String" 1048 13 2 := ⟨by decide, by decide, fl_java_lang_String_1048⟩
theorem pZ_0_0 : parseFieldDescriptor ((vwC 0).2.1 0).2.2.1 = some (.object "Encores$House") := by decide +kernel
theorem pZ_0_1 : parseFieldDescriptor ((vwC 0).2.1 1).2.2.1 = some (.object "Encores$Law") := by decide +kernel
theorem pZ_0_2 : parseFieldDescriptor ((vwC 0).2.1 2).2.2.1 = some (.object "Encores$Stage") := by decide +kernel
theorem pZ_0_3 : parseFieldDescriptor ((vwC 0).2.1 3).2.2.1 = some (.object "Encores$Table") := by decide +kernel
theorem pZ_0_4 : parseFieldDescriptor ((vwC 0).2.1 4).2.2.1 = some (.object "Encores$Table") := by decide +kernel
theorem pZ_0_5 : parseFieldDescriptor ((vwC 0).2.1 5).2.2.1 = some .int := by decide +kernel
theorem pZ_0_6 : parseFieldDescriptor ((vwC 0).2.1 6).2.2.1 = some .boolean := by decide +kernel
theorem pZ_1_0 : parseFieldDescriptor ((vwC 1).2.1 0).2.2.1 = some (.object "Encores$Table") := by decide +kernel
theorem pZ_1_1 : parseFieldDescriptor ((vwC 1).2.1 1).2.2.1 = some (.object "Encores$Table") := by decide +kernel
theorem pZ_1_2 : parseFieldDescriptor ((vwC 1).2.1 2).2.2.1 = some (.object "Encores$Table") := by decide +kernel
theorem pZ_1_3 : parseFieldDescriptor ((vwC 1).2.1 3).2.2.1 = some (.object "Encores$Table") := by decide +kernel
theorem pZ_1_4 : parseFieldDescriptor ((vwC 1).2.1 4).2.2.1 = some (.object "Encores$Table") := by decide +kernel
theorem pZ_1_5 : parseFieldDescriptor ((vwC 1).2.1 5).2.2.1 = some (.object "Encores$Table") := by decide +kernel
theorem pZ_1_6 : parseFieldDescriptor ((vwC 1).2.1 6).2.2.1 = some (.object "Encores$Table") := by decide +kernel
theorem pZ_1_7 : parseFieldDescriptor ((vwC 1).2.1 7).2.2.1 = some (.object "Encores$Table") := by decide +kernel
theorem pZ_1_8 : parseFieldDescriptor ((vwC 1).2.1 8).2.2.1 = some (.object "Encores$Table") := by decide +kernel
theorem pZ_1_9 : parseFieldDescriptor ((vwC 1).2.1 9).2.2.1 = some (.object "Encores$Table") := by decide +kernel
theorem pZ_1_10 : parseFieldDescriptor ((vwC 1).2.1 10).2.2.1 = some (.object "Encores$Table") := by decide +kernel
theorem pZ_2_0 : parseFieldDescriptor ((vwC 2).2.1 0).2.2.1 = some (.object "Encores$House") := by decide +kernel
theorem pZ_2_1 : parseFieldDescriptor ((vwC 2).2.1 1).2.2.1 = some (.array .int) := by decide +kernel
theorem pZ_2_2 : parseFieldDescriptor ((vwC 2).2.1 2).2.2.1 = some (.array .int) := by decide +kernel
theorem pZ_3_0 : parseFieldDescriptor ((vwC 3).2.1 0).2.2.1 = some (.object "Encores$Table") := by decide +kernel
theorem pZ_3_1 : parseFieldDescriptor ((vwC 3).2.1 1).2.2.1 = some (.object "Encores$Table") := by decide +kernel
theorem pZ_3_2 : parseFieldDescriptor ((vwC 3).2.1 2).2.2.1 = some (.object "Encores$Table") := by decide +kernel
theorem pZ_3_3 : parseFieldDescriptor ((vwC 3).2.1 3).2.2.1 = some .int := by decide +kernel
theorem pZ_4_0 : parseFieldDescriptor ((vwC 4).2.1 0).2.2.1 = some (.array (.object "Encores$Moment")) := by decide +kernel
theorem pZ_4_1 : parseFieldDescriptor ((vwC 4).2.1 1).2.2.1 = some .int := by decide +kernel
theorem pZ_4_2 : parseFieldDescriptor ((vwC 4).2.1 2).2.2.1 = some .int := by decide +kernel
theorem pZ_5_0 : parseFieldDescriptor ((vwC 5).2.1 0).2.2.1 = some (.object "Encores$House") := by decide +kernel
theorem pZ_6_0 : parseFieldDescriptor ((vwC 6).2.1 0).2.2.1 = some (.object "Encores$Tape") := by decide +kernel
theorem pZ_6_1 : parseFieldDescriptor ((vwC 6).2.1 1).2.2.1 = some (.object "Encores$Table") := by decide +kernel
theorem pZ_6_2 : parseFieldDescriptor ((vwC 6).2.1 2).2.2.1 = some (.object "Encores$Table") := by decide +kernel
theorem pZ_6_3 : parseFieldDescriptor ((vwC 6).2.1 3).2.2.1 = some .int := by decide +kernel
theorem pZ_6_4 : parseFieldDescriptor ((vwC 6).2.1 4).2.2.1 = some .int := by decide +kernel
theorem pZ_6_5 : parseFieldDescriptor ((vwC 6).2.1 5).2.2.1 = some (.object "Encores$Table") := by decide +kernel
theorem pZ_6_6 : parseFieldDescriptor ((vwC 6).2.1 6).2.2.1 = some .int := by decide +kernel
theorem pZ_6_7 : parseFieldDescriptor ((vwC 6).2.1 7).2.2.1 = some .int := by decide +kernel
theorem pZ_6_8 : parseFieldDescriptor ((vwC 6).2.1 8).2.2.1 = some .int := by decide +kernel
theorem pZ_6_9 : parseFieldDescriptor ((vwC 6).2.1 9).2.2.1 = some .int := by decide +kernel
theorem pZ_6_10 : parseFieldDescriptor ((vwC 6).2.1 10).2.2.1 = some .int := by decide +kernel
theorem pZ_6_11 : parseFieldDescriptor ((vwC 6).2.1 11).2.2.1 = some .int := by decide +kernel
theorem pZ_7_0 : parseFieldDescriptor ((vwC 7).2.1 0).2.2.1 = some (.object "Encores$House") := by decide +kernel
theorem pZ_8_0 : parseFieldDescriptor ((vwC 8).2.1 0).2.2.1 = some (.object "Encores$House") := by decide +kernel
theorem pZ_8_1 : parseFieldDescriptor ((vwC 8).2.1 1).2.2.1 = some (.object "Encores$Law") := by decide +kernel
theorem pZ_8_2 : parseFieldDescriptor ((vwC 8).2.1 2).2.2.1 = some (.array .int) := by decide +kernel
theorem pZ_8_3 : parseFieldDescriptor ((vwC 8).2.1 3).2.2.1 = some (.array .int) := by decide +kernel
theorem pZ_8_4 : parseFieldDescriptor ((vwC 8).2.1 4).2.2.1 = some .boolean := by decide +kernel
theorem pZ_8_5 : parseFieldDescriptor ((vwC 8).2.1 5).2.2.1 = some .int := by decide +kernel
theorem pZ_8_6 : parseFieldDescriptor ((vwC 8).2.1 6).2.2.1 = some .int := by decide +kernel
theorem pZ_9_0 : parseFieldDescriptor ((vwC 9).2.1 0).2.2.1 = some (.array .int) := by decide +kernel
theorem pZ_9_1 : parseFieldDescriptor ((vwC 9).2.1 1).2.2.1 = some .int := by decide +kernel
theorem pZ_9_2 : parseFieldDescriptor ((vwC 9).2.1 2).2.2.1 = some .int := by decide +kernel
theorem pZ_9_3 : parseFieldDescriptor ((vwC 9).2.1 3).2.2.1 = some .int := by decide +kernel
theorem pZ_10_0 : parseFieldDescriptor ((vwC 10).2.1 0).2.2.1 = some (.array .int) := by decide +kernel
theorem pZ_10_1 : parseFieldDescriptor ((vwC 10).2.1 1).2.2.1 = some (.object "Encores$Table") := by decide +kernel
theorem pZ_10_2 : parseFieldDescriptor ((vwC 10).2.1 2).2.2.1 = some .int := by decide +kernel
theorem pZ_10_3 : parseFieldDescriptor ((vwC 10).2.1 3).2.2.1 = some .int := by decide +kernel
theorem pZ_10_4 : parseFieldDescriptor ((vwC 10).2.1 4).2.2.1 = some .int := by decide +kernel
theorem pZ_10_5 : parseFieldDescriptor ((vwC 10).2.1 5).2.2.1 = some .int := by decide +kernel
theorem pZ_10_6 : parseFieldDescriptor ((vwC 10).2.1 6).2.2.1 = some .int := by decide +kernel
theorem pZ_11_0 : parseFieldDescriptor ((vwC 11).2.1 0).2.2.1 = some (.object "Encores$House") := by decide +kernel
theorem pZ_11_1 : parseFieldDescriptor ((vwC 11).2.1 1).2.2.1 = some (.object "Encores$House") := by decide +kernel
theorem pZ_11_2 : parseFieldDescriptor ((vwC 11).2.1 2).2.2.1 = some .boolean := by decide +kernel
theorem pZ_11_3 : parseFieldDescriptor ((vwC 11).2.1 3).2.2.1 = some (.object "Encores$Past") := by decide +kernel
theorem pZ_11_4 : parseFieldDescriptor ((vwC 11).2.1 4).2.2.1 = some (.object "Encores$Moment") := by decide +kernel
theorem pZ_11_5 : parseFieldDescriptor ((vwC 11).2.1 5).2.2.1 = some (.object "Encores$Tape") := by decide +kernel
theorem pZ_11_6 : parseFieldDescriptor ((vwC 11).2.1 6).2.2.1 = some (.object "Encores$Reader") := by decide +kernel
theorem pZ_11_7 : parseFieldDescriptor ((vwC 11).2.1 7).2.2.1 = some (.object "Encores$Law") := by decide +kernel
theorem pZ_11_8 : parseFieldDescriptor ((vwC 11).2.1 8).2.2.1 = some (.object "Encores$Stage") := by decide +kernel
theorem pZ_11_9 : parseFieldDescriptor ((vwC 11).2.1 9).2.2.1 = some (.object "Encores$Fewest") := by decide +kernel
theorem pZ_11_10 : parseFieldDescriptor ((vwC 11).2.1 10).2.2.1 = some (.object "Encores$Seats") := by decide +kernel
theorem pZ_11_11 : parseFieldDescriptor ((vwC 11).2.1 11).2.2.1 = some (.object "Encores$Programme") := by decide +kernel
theorem pZ_11_12 : parseFieldDescriptor ((vwC 11).2.1 12).2.2.1 = some (.array .int) := by decide +kernel
theorem pZ_12_0 : parseFieldDescriptor ((vwC 12).2.1 0).2.2.1 = some .int := by decide +kernel
theorem pZ_12_1 : parseFieldDescriptor ((vwC 12).2.1 1).2.2.1 = some .int := by decide +kernel
theorem pZ_12_2 : parseFieldDescriptor ((vwC 12).2.1 2).2.2.1 = some .int := by decide +kernel
theorem pZ_12_3 : parseFieldDescriptor ((vwC 12).2.1 3).2.2.1 = some .int := by decide +kernel
theorem pZ_12_4 : parseFieldDescriptor ((vwC 12).2.1 4).2.2.1 = some .int := by decide +kernel
theorem pZ_12_5 : parseFieldDescriptor ((vwC 12).2.1 5).2.2.1 = some .int := by decide +kernel
theorem pZ_12_6 : parseFieldDescriptor ((vwC 12).2.1 6).2.2.1 = some .int := by decide +kernel
theorem pZ_12_7 : parseFieldDescriptor ((vwC 12).2.1 7).2.2.1 = some .int := by decide +kernel
theorem pZ_12_8 : parseFieldDescriptor ((vwC 12).2.1 8).2.2.1 = some .int := by decide +kernel
theorem pZ_12_9 : parseFieldDescriptor ((vwC 12).2.1 9).2.2.1 = some .int := by decide +kernel
theorem pZ_12_10 : parseFieldDescriptor ((vwC 12).2.1 10).2.2.1 = some .int := by decide +kernel
theorem pZ_12_11 : parseFieldDescriptor ((vwC 12).2.1 11).2.2.1 = some .int := by decide +kernel
theorem pZ_12_12 : parseFieldDescriptor ((vwC 12).2.1 12).2.2.1 = some .int := by decide +kernel
theorem pZ_12_13 : parseFieldDescriptor ((vwC 12).2.1 13).2.2.1 = some .int := by decide +kernel
theorem pZ_12_14 : parseFieldDescriptor ((vwC 12).2.1 14).2.2.1 = some .int := by decide +kernel
theorem pZ_12_15 : parseFieldDescriptor ((vwC 12).2.1 15).2.2.1 = some (.array (.array .int)) := by decide +kernel
theorem pZ_12_16 : parseFieldDescriptor ((vwC 12).2.1 16).2.2.1 = some (.array (.array .int)) := by decide +kernel
theorem pZ_12_17 : parseFieldDescriptor ((vwC 12).2.1 17).2.2.1 = some (.array (.array .int)) := by decide +kernel
theorem pZ_12_18 : parseFieldDescriptor ((vwC 12).2.1 18).2.2.1 = some (.array (.array .int)) := by decide +kernel
theorem pZ_12_19 : parseFieldDescriptor ((vwC 12).2.1 19).2.2.1 = some (.array (.array .int)) := by decide +kernel
theorem pZ_12_20 : parseFieldDescriptor ((vwC 12).2.1 20).2.2.1 = some (.array .int) := by decide +kernel
theorem pZ_12_21 : parseFieldDescriptor ((vwC 12).2.1 21).2.2.1 = some (.array .int) := by decide +kernel
theorem pZ_12_22 : parseFieldDescriptor ((vwC 12).2.1 22).2.2.1 = some .int := by decide +kernel
theorem pZ_12_23 : parseFieldDescriptor ((vwC 12).2.1 23).2.2.1 = some .int := by decide +kernel
theorem pZ_12_24 : parseFieldDescriptor ((vwC 12).2.1 24).2.2.1 = some .int := by decide +kernel
theorem pZ_13_0 : parseFieldDescriptor ((vwC 13).2.1 0).2.2.1 = some (.array .byte) := by decide +kernel
theorem pZ_13_1 : parseFieldDescriptor ((vwC 13).2.1 1).2.2.1 = some .byte := by decide +kernel
theorem pZ_13_2 : parseFieldDescriptor ((vwC 13).2.1 2).2.2.1 = some .boolean := by decide +kernel
theorem pZ_13_3 : parseFieldDescriptor ((vwC 13).2.1 3).2.2.1 = some .int := by decide +kernel
theorem pZ_14_0 : parseFieldDescriptor ((vwC 14).2.1 0).2.2.1 = some (.array .byte) := by decide +kernel
theorem pZ_14_1 : parseFieldDescriptor ((vwC 14).2.1 1).2.2.1 = some .byte := by decide +kernel
theorem pZ_14_2 : parseFieldDescriptor ((vwC 14).2.1 2).2.2.1 = some .int := by decide +kernel
theorem pZ_14_3 : parseFieldDescriptor ((vwC 14).2.1 3).2.2.1 = some .boolean := by decide +kernel
/-! texts -/
def sN (r : Nat) : Nat := strLen.getD (r - 1000000) 0
def sL (r : Nat) : Int32 := Int32.ofNat (sN r)
def sC (r : Nat) (i : Int32) : Int32 := (strByt.getD (r - 1000000) []).getD i.toNatClampNeg 0
section STR
variable {SX : SXT} {Sh' Sh Sh1 : List SE} {d : Nat} {M M' : MD} {pc : Nat} {L : List (Option Value)} {st st0 : List Value} {μ : Mem} {x y : Ans} {f : Int32 → Mem → Ans} {own : String} {idx np r : Nat} {i : Int32}
theorem Ok.goZ {n : Nat} {st' : List Value} (g : ∀ {p : Program} {l : Launch} {e : Env} {R : Room} {s : State} {m : MethodId} {args : Array Value} {below : List Frame} {meth : Method} {c : Code} {H : Heap} {locs : List Loc} {cells slots : Nat} {Q : State → Prop} {D : va_G} {σ : Nat → Nat} {A : Nat → Prop} {ls : Array Slot},
    Ctx M p s m args meth c D σ → Zs SX σ A s s.heap → va_S A s.heap H locs → W p l e R s m args below meth c H locs cells slots Q (F0 m n ls (st'.map (av σ))) → W p l e R s m args below meth c H locs cells slots Q (F0 m pc ls (st.map (av σ))))
    (k : Ok SX Sh' d M n L st' Sh μ x) : Ok SX Sh' d M pc L st Sh μ x := by
  intro v μ' hx p l e R s m args below meth c H locs cells slots Q D σ A mc ms ls C Z hA hR hP hD hS hL h1 h2 hQ
  exact g C Z hS (k v μ' hx p l e R s m args below meth c H locs cells slots Q D σ A mc ms ls C Z hA hR hP hD hS hL h1 h2 hQ)
theorem str_of (hr : 1000000 ≤ r ∧ r < 1000000 + strN) : ∃ k, k < strN ∧ r = 1000000 + k := ⟨r - 1000000, by omega, by omega⟩
theorem ok_ldcS (n k : Nat) {q : String × Nat × String} (hd : decode M.1 pc = .ok (.ldc idx, 2)) (hp : pc + 2 = n) (hk : strAll[k]? = some q) (hq : (q.1, q.2.1) = (M.2.1.cls, idx)) (kk : Ok SX Sh' d M n L (.ref (strNo k) :: st) Sh μ x) : Ok SX Sh' d M pc L st Sh μ x := by
  subst hp
  refine Ok.goZ (fun {_ _ _ _ _ _ _ _ _ _ _ _ _ _ _ _ σ _ _} C Z hS k1 => ?_) kk
  have h1 : q.1 = M.2.1.cls := congrArg Prod.fst hq
  have h2 : q.2.1 = idx := congrArg Prod.snd hq
  have hv := C.2.2.2.2.2.2.2.1 k q hk
  rw [h1, h2] at hv
  exact va_ldcS C.1 C.2.1 C.2.2.2.1 hv hd k1
theorem ok_getSv (n : Nat) (hd : decode M.1 pc = .ok (.getfield idx, 3)) (hp : pc + 3 = n) (ho : M.2.1.cls = own) (hl : Cond.fieldLink own idx "java/lang/String" "value" "[B" ∈ TB) (hr : 1000000 ≤ r ∧ r < 1000000 + strN) (kk : Ok SX Sh' d M n L (.ref (100 + r) :: st) Sh μ x) : Ok SX Sh' d M pc L (.ref r :: st) Sh μ x := by
  subst hp; subst ho
  obtain ⟨k, hk, rfl⟩ := str_of hr
  refine Ok.goZ (fun {_ _ _ _ _ _ _ _ _ _ _ _ _ _ _ _ σ _ _} C Z hS k1 => ?_) kk
  refine vk_getf C.1 C.2.1 (Z.1.1.1 k hk).2.2.1 hS C.2.2.2.1 (C.2.2.2.2.1 _ hl) (fun _ h => h) hd ?_
  have e : (fun i => σ (1000100 + i)) k = σ (100 + (1000000 + k)) := by
    show σ (1000100 + k) = _
    congr 1; omega
  rw [e]
  exact k1
theorem ok_getSc (n : Nat) (hd : decode M.1 pc = .ok (.getfield idx, 3)) (hp : pc + 3 = n) (ho : M.2.1.cls = own) (hl : Cond.fieldLink own idx "java/lang/String" "coder" "B" ∈ TB) (hr : 1000000 ≤ r ∧ r < 1000000 + strN) (kk : Ok SX Sh' d M n L (.int 0 :: st) Sh μ x) : Ok SX Sh' d M pc L (.ref r :: st) Sh μ x := by
  subst hp; subst ho
  obtain ⟨k, hk, rfl⟩ := str_of hr
  refine Ok.goZ (fun {_ _ _ _ _ _ _ _ _ _ _ _ _ _ _ _ σ _ _} C Z hS k1 => ?_) kk
  exact vk_getf C.1 C.2.1 (Z.1.1.1 k hk).2.1 hS C.2.2.2.1 (C.2.2.2.2.1 _ hl) (fun _ h => h) hd k1
theorem ok_alenS (n : Nat) (hd : decode M.1 pc = .ok (.arraylength, 1)) (hp : pc + 1 = n) (hr : 1000000 ≤ r ∧ r < 1000000 + strN) (kk : Ok SX Sh' d M n L (.int (sL r) :: st) Sh μ x) : Ok SX Sh' d M pc L (.ref (100 + r) :: st) Sh μ x := by
  subst hp
  obtain ⟨k, hk, rfl⟩ := str_of hr
  refine Ok.goZ (fun {_ _ _ _ _ _ _ _ _ _ _ _ _ _ _ _ σ _ _} C Z hS k1 => ?_) kk
  have e : (fun i => σ (1000100 + i)) k = σ (100 + (1000000 + k)) := by
    show σ (1000100 + k) = _
    congr 1; omega
  have h := (Z.1.1.1 k hk).2.2.2
  rw [e] at h
  exact va_tlen C.1 C.2.1 h hS (v := sL (1000000 + k)) (by simp [sL, sN]) hd k1
theorem ok_baldS (n : Nat) (hd : decode M.1 pc = .ok (.baload, 1)) (hp : pc + 1 = n) (hr : 1000000 ≤ r ∧ r < 1000000 + strN) (kk : Ok SX Sh' d M n L (.int (sC r i) :: st) Sh μ x) : Ok SX Sh' d M pc L (.int i :: .ref (100 + r) :: st) Sh μ (chk (inb i (sN r)) x) := by
  subst hp
  obtain ⟨k, hk, rfl⟩ := str_of hr
  refine ok_chk fun hin => Ok.goZ (fun {_ _ _ _ _ _ _ _ _ _ _ _ _ _ _ _ σ _ _} C Z hS k1 => ?_) kk
  have e : (fun i => σ (1000100 + i)) k = σ (100 + (1000000 + k)) := by
    show σ (1000100 + k) = _
    congr 1; omega
  have h := (Z.1.1.1 k hk).2.2.2
  rw [e] at h
  refine va_tb C.1 C.2.1 h hS (v := .int (sC (1000000 + k) i)) (inb_in (by simpa [sN] using hin)) (by simp [sC]) hd k1
theorem ok_getsC (n : Nat) (hd : decode M.1 pc = .ok (.getstatic idx, 3)) (hp : pc + 3 = n) (ho : M.2.1.cls = own) (hl : Cond.fieldLink own idx "java/lang/String" "COMPACT_STRINGS" "Z" ∈ TB) (kk : Ok SX Sh' d M n L (.int 1 :: st) Sh μ x) : Ok SX Sh' d M pc L st Sh μ x := by
  subst hp; subst ho
  refine Ok.goZ (fun {_ _ _ _ _ _ _ _ _ _ _ _ _ _ _ _ σ _ _} C Z hS k1 => ?_) kk
  exact va_gets C.1 C.2.1 Z.1.2.1 hS C.2.2.2.1 (C.2.2.2.2.1 _ hl) (fun _ h => h) hd k1
theorem ok_getsQ (n : Nat) (hd : decode M.1 pc = .ok (.getstatic idx, 3)) (hp : pc + 3 = n) (ho : M.2.1.cls = own) (hl : Cond.fieldLink own idx "jdk/internal/util/Preconditions" "SIOOBE_FORMATTER" "Ljava/util/function/BiFunction;" ∈ TB) (kk : ∀ w : Value, w.category = 1 → Ok SX Sh' d M n L (w :: st) Sh μ x) : Ok SX Sh' d M pc L st Sh μ x := by
  subst hp; subst ho
  intro v μ' hx p l e R s m args below meth c H locs cells slots Q D σ A mc ms ls C Z hA hR hP hD hS hL h1 h2 hQ
  rcases Z.1.2.2.1 with z | z
  · exact va_gets C.1 C.2.1 z hS C.2.2.2.1 (C.2.2.2.2.1 _ hl) (fun _ h => h) hd (kk .null rfl v μ' hx p l e R s m args below meth c H locs cells slots Q D σ A mc ms ls C Z hA hR hP hD hS hL h1 h2 hQ)
  · exact va_gets C.1 C.2.1 z hS C.2.2.2.1 (C.2.2.2.2.1 _ hl) (fun _ h => h) hd (kk (.ref 1002001) rfl v μ' hx p l e R s m args below meth c H locs cells slots Q D σ A mc ms ls C Z hA hR hP hD hS hL h1 h2 hQ)
def isC (a : Int32) : Bool := decide ((a.toUInt32 % 65536).toInt32 = a)
theorem isC_n {a : Int32} (h : isC a = true) : narrow .char (.int a) = .int a := by
  have e := of_decide_eq_true h
  rw [← e]
  exact pk_nc a
theorem ok_i2c {a : Int32} (n : Nat) (hd : decode M.1 pc = .ok (.i2c, 1)) (hp : pc + 1 = n) (k : Ok SX Sh' d M n L (.int (a.toUInt32 % 65536).toInt32 :: st) Sh μ x) : Ok SX Sh' d M pc L (.int a :: st) Sh μ x := by
  subst hp; exact Ok.go (fun C _ _ => lv_i2c C.1 C.2.1 hd rfl) k
theorem ok_cret {a : Int32} (hd : decode M.1 pc = .ok (.ireturn, 1)) (hr : M.2.2.2 = some .char) : Ok SX Sh d M pc L [.int a] Sh μ (chk (isC a) (some (a, μ))) := ok_chk fun h => ok_iretT hd hr ⟨(fun _ h => by cases h), (fun _ h => by cases h)⟩ (isC_n h)
theorem ok_bretc {a : Int32} (hd : decode M.1 pc = .ok (.ireturn, 1)) (hr : M.2.2.2 = some .byte) (hn : narrow .byte (.int a) = .int a) : Ok SX Sh d M pc L [.int a] Sh μ (some (a, μ)) := ok_iretT hd hr ⟨(fun _ h => by cases h), (fun _ h => by cases h)⟩ hn
theorem ok_aloadA (n k : Nat) {z : Fin 4} (hd : decode M.1 pc = .ok (.aload_n z, 1)) (hp : pc + 1 = n) (hi : (z : Nat) = k) {w : Value} (hl : L[k]? = some (some w)) (kk : Ok SX Sh' d M n L (w :: st) Sh μ none) : Ok SX Sh' d M pc L st Sh μ none := Ok.none
/-- a call on a text -/
theorem ok_callVStr {As : List Value} (n : Nat) (hd : decode M.1 pc = .ok (.invokevirtual idx, 3)) (hp : pc + 3 = n) (ho : M.2.1.cls = own) (km : KM M' np) (ki : Cond.instanceMethod M'.2.1 ∈ TB) (kv : Cond.selects M'.2.1.cls M'.2.1 M'.2.1 ∈ TB) (hl : Cond.methodLink own idx M'.2.1 ∈ TB) (hm : M'.2.2.1 ≤ 21) (hr : 1000000 ≤ r ∧ r < 1000000 + strN) (hcl : "java/lang/String" = M'.2.1.cls) (hst0 : st0 = As.reverse ++ .ref r :: st) (hAs : As.length = np) (h8 : (st.map Value.category).sum ≤ 8) (hC : CM SX d M' Sh1 Sh (.ref r :: As) μ y) (hgr : csz Sh1 ≤ csz Sh' ∧ ssz Sh1 ≤ ssz Sh') (hn : csz Sh1 = csz Sh ∨ okR (csz Sh) L st) (hrt : psh M' = fun v => [.int v])
    (k : ∀ v μ1, y = some (v, μ1) → Ok SX Sh' (d + 1) M n L (.int v :: st) Sh1 μ1 (f v μ1)) : Ok SX Sh' (d + 1) M pc L st0 Sh μ (bd y f) := by
  subst hst0; subst ho
  refine Ok.call (M' := M') hp hC hgr hn (fun {_ _ _ _ _ _ _ _ _ _ _ _ _ _ D σ _ _ _ _ _ _ _} C Z hP hS hL hM hbl r1 r2 hf hpre => ?_) (fun v μ1 q => by rw [hrt]; exact k v μ1 q)
  refine va_runV (As := As.map (av σ)) (b := σ r) (C := M'.2.1.cls) (n := np) ⟨C.1, C.2.1, C.2.2.1, C.2.2.2.1, C.2.2.2.2.1⟩ hM ⟨callB_M C.2.2.2.2.1 km hl hm ⟨r1, r2⟩, C.2.2.2.2.1 _ ki, C.2.2.2.2.1 _ kv⟩ ⟨hbl, ?_, hpre⟩ rfl (by simpa using hAs) hL.1 ?_ (lv_room (st8 h8)) hd hf
  · rw [← hcl]
    obtain ⟨k, hk, rfl⟩ := str_of hr
    exact vk_recv (i := k) Z.1.1 hk hS
  · simp [av]
/-! calls by what comes back -/
theorem ok_callVi {As : List Value} {ci r : Nat} {e0 : SE} (n : Nat) (hd : decode M.1 pc = .ok (.invokevirtual idx, 3)) (hp : pc + 3 = n) (ho : M.2.1.cls = own) (km : KM M' np) (ki : Cond.instanceMethod M'.2.1 ∈ TB) (kv : Cond.selects M'.2.1.cls M'.2.1 M'.2.1 ∈ TB) (hl : Cond.methodLink own idx M'.2.1 ∈ TB) (hm : M'.2.2.1 ≤ 21) (hS0 : Sh[r]? = some e0) (he : e0.1 = ci) (hci : ci < 15) (hcl : (vwC ci).1 = M'.2.1.cls) (hst0 : st0 = As.reverse ++ .ref r :: st) (hAs : As.length = np) (h8 : (st.map Value.category).sum ≤ 8) (hC : CM SX d M' Sh1 Sh (.ref r :: As) μ y) (hgr : csz Sh1 ≤ csz Sh' ∧ ssz Sh1 ≤ ssz Sh') (hn : csz Sh1 = csz Sh ∨ okR (csz Sh) L st) (hrt : psh M' = fun v => [.int v])
    (k : ∀ v μ1, y = some (v, μ1) → Ok SX Sh' (d + 1) M n L (.int v :: st) Sh1 μ1 (f v μ1)) : Ok SX Sh' (d + 1) M pc L st0 Sh μ (bd y f) :=
  ok_callV n hd hp ho km ki kv hl hm hS0 he hci hcl hst0 hAs h8 hC hgr hn (fun v μ1 q => by rw [hrt]; exact k v μ1 q)
theorem ok_callVv {As : List Value} {ci r : Nat} {e0 : SE} (n : Nat) (hd : decode M.1 pc = .ok (.invokevirtual idx, 3)) (hp : pc + 3 = n) (ho : M.2.1.cls = own) (km : KM M' np) (ki : Cond.instanceMethod M'.2.1 ∈ TB) (kv : Cond.selects M'.2.1.cls M'.2.1 M'.2.1 ∈ TB) (hl : Cond.methodLink own idx M'.2.1 ∈ TB) (hm : M'.2.2.1 ≤ 21) (hS0 : Sh[r]? = some e0) (he : e0.1 = ci) (hci : ci < 15) (hcl : (vwC ci).1 = M'.2.1.cls) (hst0 : st0 = As.reverse ++ .ref r :: st) (hAs : As.length = np) (h8 : (st.map Value.category).sum ≤ 8) (hC : CM SX d M' Sh1 Sh (.ref r :: As) μ y) (hgr : csz Sh1 ≤ csz Sh' ∧ ssz Sh1 ≤ ssz Sh') (hn : csz Sh1 = csz Sh ∨ okR (csz Sh) L st) (hrt : psh M' = fun _ => [])
    (k : ∀ v μ1, y = some (v, μ1) → Ok SX Sh' (d + 1) M n L st Sh1 μ1 (f v μ1)) : Ok SX Sh' (d + 1) M pc L st0 Sh μ (bd y f) :=
  ok_callV n hd hp ho km ki kv hl hm hS0 he hci hcl hst0 hAs h8 hC hgr hn (fun v μ1 q => by rw [hrt]; exact k v μ1 q)
theorem ok_callVr {As : List Value} {ci r : Nat} {e0 : SE} (n : Nat) (hd : decode M.1 pc = .ok (.invokevirtual idx, 3)) (hp : pc + 3 = n) (ho : M.2.1.cls = own) (km : KM M' np) (ki : Cond.instanceMethod M'.2.1 ∈ TB) (kv : Cond.selects M'.2.1.cls M'.2.1 M'.2.1 ∈ TB) (hl : Cond.methodLink own idx M'.2.1 ∈ TB) (hm : M'.2.2.1 ≤ 21) (hS0 : Sh[r]? = some e0) (he : e0.1 = ci) (hci : ci < 15) (hcl : (vwC ci).1 = M'.2.1.cls) (hst0 : st0 = As.reverse ++ .ref r :: st) (hAs : As.length = np) (h8 : (st.map Value.category).sum ≤ 8) (hC : CM SX d M' Sh1 Sh (.ref r :: As) μ y) (hgr : csz Sh1 ≤ csz Sh' ∧ ssz Sh1 ≤ ssz Sh') (hn : csz Sh1 = csz Sh ∨ okR (csz Sh) L st) (hrt : psh M' = fun v => [if v = -1 then .null else .ref v.toNatClampNeg])
    (k : ∀ v μ1, y = some (v, μ1) → v ≠ -1 → Ok SX Sh' (d + 1) M n L (.ref v.toNatClampNeg :: st) Sh1 μ1 (f v μ1)) : Ok SX Sh' (d + 1) M pc L st0 Sh μ (bd y (fun v μ1 => chk (decide (v ≠ -1)) (f v μ1))) :=
  ok_callV n hd hp ho km ki kv hl hm hS0 he hci hcl hst0 hAs h8 hC hgr hn (fun v μ1 q => ok_chk fun h => by
    have h := of_decide_eq_true h
    rw [hrt]
    simp only [if_neg h]
    exact k v μ1 q h)
theorem ok_callSi {As : List Value} (n : Nat) (hd : decode M.1 pc = .ok (.invokestatic idx, 3)) (hp : pc + 3 = n) (ho : M.2.1.cls = own) (km : KM M' np) (ks : Cond.static M'.2.1 ∈ TB) (hl : Cond.methodLink own idx M'.2.1 ∈ TB) (hm : M'.2.2.1 ≤ 21) (hst0 : st0 = As.reverse ++ st) (hAs : As.length = np) (h8 : (st.map Value.category).sum ≤ 8) (hC : CM SX d M' Sh1 Sh As μ y) (hgr : csz Sh1 ≤ csz Sh' ∧ ssz Sh1 ≤ ssz Sh') (hn : csz Sh1 = csz Sh ∨ okR (csz Sh) L st) (hrt : psh M' = fun v => [.int v])
    (k : ∀ v μ1, y = some (v, μ1) → Ok SX Sh' (d + 1) M n L (.int v :: st) Sh1 μ1 (f v μ1)) : Ok SX Sh' (d + 1) M pc L st0 Sh μ (bd y f) :=
  ok_callS n hd hp ho km ks hl hm hst0 hAs h8 hC hgr hn (fun v μ1 q => by rw [hrt]; exact k v μ1 q)
theorem ok_callSv {As : List Value} (n : Nat) (hd : decode M.1 pc = .ok (.invokestatic idx, 3)) (hp : pc + 3 = n) (ho : M.2.1.cls = own) (km : KM M' np) (ks : Cond.static M'.2.1 ∈ TB) (hl : Cond.methodLink own idx M'.2.1 ∈ TB) (hm : M'.2.2.1 ≤ 21) (hst0 : st0 = As.reverse ++ st) (hAs : As.length = np) (h8 : (st.map Value.category).sum ≤ 8) (hC : CM SX d M' Sh1 Sh As μ y) (hgr : csz Sh1 ≤ csz Sh' ∧ ssz Sh1 ≤ ssz Sh') (hn : csz Sh1 = csz Sh ∨ okR (csz Sh) L st) (hrt : psh M' = fun _ => [])
    (k : ∀ v μ1, y = some (v, μ1) → Ok SX Sh' (d + 1) M n L st Sh1 μ1 (f v μ1)) : Ok SX Sh' (d + 1) M pc L st0 Sh μ (bd y f) :=
  ok_callS n hd hp ho km ks hl hm hst0 hAs h8 hC hgr hn (fun v μ1 q => by rw [hrt]; exact k v μ1 q)
theorem ok_callSNi {As : List Value} {host : String} (n i : Nat) (hd : decode M.1 pc = .ok (.invokestatic idx, 3)) (hp : pc + 3 = n) (ho : M.2.1.cls = own) (km : KM M' np) (ks : Cond.static M'.2.1 ∈ TB) (hl : nestL[i]? = some (own, idx, M'.2.1, host)) (hm : M'.2.2.1 ≤ 21) (hst0 : st0 = As.reverse ++ st) (hAs : As.length = np) (h8 : (st.map Value.category).sum ≤ 8) (hC : CM SX d M' Sh1 Sh As μ y) (hgr : csz Sh1 ≤ csz Sh' ∧ ssz Sh1 ≤ ssz Sh') (hn : csz Sh1 = csz Sh ∨ okR (csz Sh) L st) (hrt : psh M' = fun v => [.int v])
    (k : ∀ v μ1, y = some (v, μ1) → Ok SX Sh' (d + 1) M n L (.int v :: st) Sh1 μ1 (f v μ1)) : Ok SX Sh' (d + 1) M pc L st0 Sh μ (bd y f) :=
  ok_callSN n i hd hp ho km ks hl hm hst0 hAs h8 hC hgr hn (fun v μ1 q => by rw [hrt]; exact k v μ1 q)
theorem ok_aaldS {i : Int32} (n : Nat) (hd : decode M.1 pc = .ok (.aaload, 1)) (hp : pc + 1 = n) (k : Ok SX Sh' d M n L (.ref (mo i) :: st) SG μ x) : Ok SX Sh' d M pc L (.int i :: .ref 49 :: st) SG μ (chk (inb i 6) x) :=
  ok_chk fun h => ok_aaldc n _ hd hp sg_49 h (mo_at h) k
theorem lsw_none {ps : List (Int × Int)} {z k : Int} {pc t : Int} (ht : pc + z = t) (h : ∀ q ∈ ps, k ≠ q.1) : pc + Op.lookupswitch.offset ps z k = t := by
  have : Op.lookupswitch.offset ps z k = z := by
    induction ps with
    | nil => rfl
    | cons q ps ih =>
      obtain ⟨a, b⟩ := q
      have h1 : ¬ a = k := fun e => h (a, b) List.mem_cons_self e.symm
      simp only [Op.lookupswitch.offset, h1, if_false]
      exact ih (fun q hq => h q (List.mem_cons_of_mem _ hq))
  rw [this]; exact ht
end STR
