/-! The shape of the cells; the bounds of what they hold (X: how many forfeits were done at most). -/
def shp : List JS := [.inl (11, [.inr 1, .inr 2, .inl 0, .inl 0, .inr 4, .inr 5, .inr 27, .inr 45, .inr 46, .inr 47, .inr 55, .inr 121, .inr 123, .inr 127, .inr 131, .inr 133, .inr 136, .inl 0]), .inl (10, [.inr 2, .inr 3, .inl 0, .inl 0, .inl 0, .inl 0, .inl 0, .inl 0, .inl 2, .inl 0, .inl 2, .inl 0, .inl 0, .inl 0]), .inr (.inl (0, 940)), .inr (.inl (2, 24)), .inl (0, [.inr 5, .inr 23, .inr 25, .inr 26, .inl 0]), .inl (2, [.inr 6, .inr 7, .inr 8, .inr 9, .inr 10, .inr 11, .inl 0, .inl 0, .inr 12, .inr 20]), .inr (.inl (1, 3)), .inr (.inl (2, 18)), .inr (.inl (1, 6)), .inr (.inl (1, 6)), .inr (.inl (1, 36)), .inr (.inl (1, 6)), .inl (8, [.inr 13, .inr 14, .inr 15, .inr 16, .inr 17, .inr 18, .inr 19, .inl 0]), .inr (.inl (1, 6)), .inr (.inl (1, 6)), .inr (.inl (1, 6)), .inr (.inl (1, 6)), .inr (.inl (1, 36)), .inr (.inl (1, 36)), .inr (.inl (1, 36)), .inl (7, [.inr 21, .inr 22, .inl 0, .inl 0]), .inr (.inl (1, 40)), .inr (.inl (1, 20)), .inl (6, [.inr 24, .inl 0]), .inr (.inl (1, 6)), .inr (.inl (1, 64)), .inr (.inl (1, 64)), .inl (2, [.inr 28, .inr 29, .inr 30, .inr 31, .inr 32, .inr 33, .inl 0, .inl 0, .inr 34, .inr 42]), .inr (.inl (1, 3)), .inr (.inl (2, 18)), .inr (.inl (1, 6)), .inr (.inl (1, 6)), .inr (.inl (1, 36)), .inr (.inl (1, 6)), .inl (8, [.inr 35, .inr 36, .inr 37, .inr 38, .inr 39, .inr 40, .inr 41, .inl 0]), .inr (.inl (1, 6)), .inr (.inl (1, 6)), .inr (.inl (1, 6)), .inr (.inl (1, 6)), .inr (.inl (1, 36)), .inr (.inl (1, 36)), .inr (.inl (1, 36)), .inl (7, [.inr 43, .inr 44, .inl 0, .inl 0]), .inr (.inl (1, 40)), .inr (.inl (1, 20)), .inr (.inr (4, [137, 155])), .inr (.inl (3, 2)), .inl (8, [.inr 48, .inr 49, .inr 50, .inr 51, .inr 52, .inr 53, .inr 54, .inl 0]), .inr (.inl (1, 6)), .inr (.inl (1, 6)), .inr (.inl (1, 6)), .inr (.inl (1, 6)), .inr (.inl (1, 36)), .inr (.inl (1, 36)), .inr (.inl (1, 36)), .inl (4, [.inr 56, .inl 0, .inl 0]), .inr (.inr (5, [57, 65, 73, 81, 89, 97, 105, 113])), .inl (8, [.inr 58, .inr 59, .inr 60, .inr 61, .inr 62, .inr 63, .inr 64, .inl 0]), .inr (.inl (1, 6)), .inr (.inl (1, 6)), .inr (.inl (1, 6)), .inr (.inl (1, 6)), .inr (.inl (1, 36)), .inr (.inl (1, 36)), .inr (.inl (1, 36)), .inl (8, [.inr 66, .inr 67, .inr 68, .inr 69, .inr 70, .inr 71, .inr 72, .inl 0]), .inr (.inl (1, 6)), .inr (.inl (1, 6)), .inr (.inl (1, 6)), .inr (.inl (1, 6)), .inr (.inl (1, 36)), .inr (.inl (1, 36)), .inr (.inl (1, 36)), .inl (8, [.inr 74, .inr 75, .inr 76, .inr 77, .inr 78, .inr 79, .inr 80, .inl 0]), .inr (.inl (1, 6)), .inr (.inl (1, 6)), .inr (.inl (1, 6)), .inr (.inl (1, 6)), .inr (.inl (1, 36)), .inr (.inl (1, 36)), .inr (.inl (1, 36)), .inl (8, [.inr 82, .inr 83, .inr 84, .inr 85, .inr 86, .inr 87, .inr 88, .inl 0]), .inr (.inl (1, 6)), .inr (.inl (1, 6)), .inr (.inl (1, 6)), .inr (.inl (1, 6)), .inr (.inl (1, 36)), .inr (.inl (1, 36)), .inr (.inl (1, 36)), .inl (8, [.inr 90, .inr 91, .inr 92, .inr 93, .inr 94, .inr 95, .inr 96, .inl 0]), .inr (.inl (1, 6)), .inr (.inl (1, 6)), .inr (.inl (1, 6)), .inr (.inl (1, 6)), .inr (.inl (1, 36)), .inr (.inl (1, 36)), .inr (.inl (1, 36)), .inl (8, [.inr 98, .inr 99, .inr 100, .inr 101, .inr 102, .inr 103, .inr 104, .inl 0]), .inr (.inl (1, 6)), .inr (.inl (1, 6)), .inr (.inl (1, 6)), .inr (.inl (1, 6)), .inr (.inl (1, 36)), .inr (.inl (1, 36)), .inr (.inl (1, 36)), .inl (8, [.inr 106, .inr 107, .inr 108, .inr 109, .inr 110, .inr 111, .inr 112, .inl 0]), .inr (.inl (1, 6)), .inr (.inl (1, 6)), .inr (.inl (1, 6)), .inr (.inl (1, 6)), .inr (.inl (1, 36)), .inr (.inl (1, 36)), .inr (.inl (1, 36)), .inl (8, [.inr 114, .inr 115, .inr 116, .inr 117, .inr 118, .inr 119, .inr 120, .inl 0]), .inr (.inl (1, 6)), .inr (.inl (1, 6)), .inr (.inl (1, 6)), .inr (.inl (1, 6)), .inr (.inl (1, 36)), .inr (.inl (1, 36)), .inr (.inl (1, 36)), .inl (6, [.inr 122, .inl 0]), .inr (.inl (1, 6)), .inl (5, [.inr 124, .inr 125, .inr 126, .inl 0]), .inr (.inl (1, 700)), .inr (.inl (1, 126)), .inr (.inl (1, 6)), .inl (9, [.inr 128, .inr 129, .inr 130, .inl 0]), .inr (.inl (1, 36)), .inr (.inl (3, 847)), .inr (.inl (1, 6)), .inl (3, [.inr 132, .inl 0]), .inr (.inl (1, 6)), .inl (1, [.inr 134, .inl 0, .inr 135, .inl 0]), .inr (.inl (1, 160)), .inr (.inl (1, 4)), .inr (.inl (0, 40)), .inl (2, [.inr 138, .inr 139, .inr 140, .inr 141, .inr 142, .inr 143, .inl 0, .inl 0, .inr 144, .inr 152]), .inr (.inl (1, 3)), .inr (.inl (2, 18)), .inr (.inl (1, 6)), .inr (.inl (1, 6)), .inr (.inl (1, 36)), .inr (.inl (1, 6)), .inl (8, [.inr 145, .inr 146, .inr 147, .inr 148, .inr 149, .inr 150, .inr 151, .inl 0]), .inr (.inl (1, 6)), .inr (.inl (1, 6)), .inr (.inl (1, 6)), .inr (.inl (1, 6)), .inr (.inl (1, 36)), .inr (.inl (1, 36)), .inr (.inl (1, 36)), .inl (7, [.inr 153, .inr 154, .inl 0, .inl 0]), .inr (.inl (1, 40)), .inr (.inl (1, 20)), .inl (2, [.inr 156, .inr 157, .inr 158, .inr 159, .inr 160, .inr 161, .inl 0, .inl 0, .inr 162, .inr 170]), .inr (.inl (1, 3)), .inr (.inl (2, 18)), .inr (.inl (1, 6)), .inr (.inl (1, 6)), .inr (.inl (1, 36)), .inr (.inl (1, 6)), .inl (8, [.inr 163, .inr 164, .inr 165, .inr 166, .inr 167, .inr 168, .inr 169, .inl 0]), .inr (.inl (1, 6)), .inr (.inl (1, 6)), .inr (.inl (1, 6)), .inr (.inl (1, 6)), .inr (.inl (1, 36)), .inr (.inl (1, 36)), .inr (.inl (1, 36)), .inl (7, [.inr 171, .inr 172, .inl 0, .inl 0]), .inr (.inl (1, 40)), .inr (.inl (1, 20)), .inl (12, [.inl 0, .inr 174, .inl 0, .inl 0, .inl 0, .inl 0, .inl 0, .inl 0, .inl 0, .inl 0, .inl 0, .inl 0, .inl 2, .inl 0, .inr 175, .inr 176, .inr 177, .inr 178, .inr 179, .inr 180, .inr 181, .inr 182, .inr 183, .inl 0, .inl 1, .inl 1, .inr 184, .inr 185, .inl 0, .inr 186, .inr 187, .inl 0, .inl 1, .inr 188, .inr 189, .inl 0, .inr 190, .inr 191, .inr 192, .inr 193, .inl 1, .inr 194, .inl 0, .inl 0, .inr 195, .inr 196, .inl 0, .inl 1, .inr 197, .inl 0, .inl 0, .inl 0, .inl 0]), .inr (.inl (1, 940)), .inr (.inl (1, 476)), .inr (.inl (1, 101)), .inr (.inl (1, 952)), .inr (.inl (1, 1064)), .inr (.inl (1, 133)), .inr (.inl (2, 18)), .inr (.inl (2, 18)), .inr (.inl (2, 36)), .inr (.inl (3, 2)), .inr (.inl (1, 6)), .inr (.inl (1, 6)), .inr (.inl (1, 700)), .inr (.inl (1, 6)), .inr (.inl (1, 64)), .inr (.inl (1, 6)), .inr (.inl (1, 6)), .inr (.inl (1, 36)), .inr (.inl (3, 847)), .inr (.inl (1, 6)), .inr (.inl (1, 64)), .inr (.inl (1, 160)), .inr (.inl (1, 4)), .inr (.inl (1, 240)), .inr (.inl (2, 1))]
theorem sh_0 : shp[0]? = some (.inl (11, [.inr 1, .inr 2, .inl 0, .inl 0, .inr 4, .inr 5, .inr 27, .inr 45, .inr 46, .inr 47, .inr 55, .inr 121, .inr 123, .inr 127, .inr 131, .inr 133, .inr 136, .inl 0])) := rfl
theorem sh_1 : shp[1]? = some (.inl (10, [.inr 2, .inr 3, .inl 0, .inl 0, .inl 0, .inl 0, .inl 0, .inl 0, .inl 2, .inl 0, .inl 2, .inl 0, .inl 0, .inl 0])) := rfl
theorem sh_2 : shp[2]? = some (.inr (.inl (0, 940))) := rfl
theorem sh_3 : shp[3]? = some (.inr (.inl (2, 24))) := rfl
theorem sh_4 : shp[4]? = some (.inl (0, [.inr 5, .inr 23, .inr 25, .inr 26, .inl 0])) := rfl
theorem sh_5 : shp[5]? = some (.inl (2, [.inr 6, .inr 7, .inr 8, .inr 9, .inr 10, .inr 11, .inl 0, .inl 0, .inr 12, .inr 20])) := rfl
theorem sh_6 : shp[6]? = some (.inr (.inl (1, 3))) := rfl
theorem sh_7 : shp[7]? = some (.inr (.inl (2, 18))) := rfl
theorem sh_8 : shp[8]? = some (.inr (.inl (1, 6))) := rfl
theorem sh_9 : shp[9]? = some (.inr (.inl (1, 6))) := rfl
theorem sh_10 : shp[10]? = some (.inr (.inl (1, 36))) := rfl
theorem sh_11 : shp[11]? = some (.inr (.inl (1, 6))) := rfl
theorem sh_12 : shp[12]? = some (.inl (8, [.inr 13, .inr 14, .inr 15, .inr 16, .inr 17, .inr 18, .inr 19, .inl 0])) := rfl
theorem sh_13 : shp[13]? = some (.inr (.inl (1, 6))) := rfl
theorem sh_14 : shp[14]? = some (.inr (.inl (1, 6))) := rfl
theorem sh_15 : shp[15]? = some (.inr (.inl (1, 6))) := rfl
theorem sh_16 : shp[16]? = some (.inr (.inl (1, 6))) := rfl
theorem sh_17 : shp[17]? = some (.inr (.inl (1, 36))) := rfl
theorem sh_18 : shp[18]? = some (.inr (.inl (1, 36))) := rfl
theorem sh_19 : shp[19]? = some (.inr (.inl (1, 36))) := rfl
theorem sh_20 : shp[20]? = some (.inl (7, [.inr 21, .inr 22, .inl 0, .inl 0])) := rfl
theorem sh_21 : shp[21]? = some (.inr (.inl (1, 40))) := rfl
theorem sh_22 : shp[22]? = some (.inr (.inl (1, 20))) := rfl
theorem sh_23 : shp[23]? = some (.inl (6, [.inr 24, .inl 0])) := rfl
theorem sh_24 : shp[24]? = some (.inr (.inl (1, 6))) := rfl
theorem sh_25 : shp[25]? = some (.inr (.inl (1, 64))) := rfl
theorem sh_26 : shp[26]? = some (.inr (.inl (1, 64))) := rfl
theorem sh_27 : shp[27]? = some (.inl (2, [.inr 28, .inr 29, .inr 30, .inr 31, .inr 32, .inr 33, .inl 0, .inl 0, .inr 34, .inr 42])) := rfl
theorem sh_28 : shp[28]? = some (.inr (.inl (1, 3))) := rfl
theorem sh_29 : shp[29]? = some (.inr (.inl (2, 18))) := rfl
theorem sh_30 : shp[30]? = some (.inr (.inl (1, 6))) := rfl
theorem sh_31 : shp[31]? = some (.inr (.inl (1, 6))) := rfl
theorem sh_32 : shp[32]? = some (.inr (.inl (1, 36))) := rfl
theorem sh_33 : shp[33]? = some (.inr (.inl (1, 6))) := rfl
theorem sh_34 : shp[34]? = some (.inl (8, [.inr 35, .inr 36, .inr 37, .inr 38, .inr 39, .inr 40, .inr 41, .inl 0])) := rfl
theorem sh_35 : shp[35]? = some (.inr (.inl (1, 6))) := rfl
theorem sh_36 : shp[36]? = some (.inr (.inl (1, 6))) := rfl
theorem sh_37 : shp[37]? = some (.inr (.inl (1, 6))) := rfl
theorem sh_38 : shp[38]? = some (.inr (.inl (1, 6))) := rfl
theorem sh_39 : shp[39]? = some (.inr (.inl (1, 36))) := rfl
theorem sh_40 : shp[40]? = some (.inr (.inl (1, 36))) := rfl
theorem sh_41 : shp[41]? = some (.inr (.inl (1, 36))) := rfl
theorem sh_42 : shp[42]? = some (.inl (7, [.inr 43, .inr 44, .inl 0, .inl 0])) := rfl
theorem sh_43 : shp[43]? = some (.inr (.inl (1, 40))) := rfl
theorem sh_44 : shp[44]? = some (.inr (.inl (1, 20))) := rfl
theorem sh_45 : shp[45]? = some (.inr (.inr (4, [137, 155]))) := rfl
theorem sh_46 : shp[46]? = some (.inr (.inl (3, 2))) := rfl
theorem sh_47 : shp[47]? = some (.inl (8, [.inr 48, .inr 49, .inr 50, .inr 51, .inr 52, .inr 53, .inr 54, .inl 0])) := rfl
theorem sh_48 : shp[48]? = some (.inr (.inl (1, 6))) := rfl
theorem sh_49 : shp[49]? = some (.inr (.inl (1, 6))) := rfl
theorem sh_50 : shp[50]? = some (.inr (.inl (1, 6))) := rfl
theorem sh_51 : shp[51]? = some (.inr (.inl (1, 6))) := rfl
theorem sh_52 : shp[52]? = some (.inr (.inl (1, 36))) := rfl
theorem sh_53 : shp[53]? = some (.inr (.inl (1, 36))) := rfl
theorem sh_54 : shp[54]? = some (.inr (.inl (1, 36))) := rfl
theorem sh_55 : shp[55]? = some (.inl (4, [.inr 56, .inl 0, .inl 0])) := rfl
theorem sh_56 : shp[56]? = some (.inr (.inr (5, [57, 65, 73, 81, 89, 97, 105, 113]))) := rfl
theorem sh_57 : shp[57]? = some (.inl (8, [.inr 58, .inr 59, .inr 60, .inr 61, .inr 62, .inr 63, .inr 64, .inl 0])) := rfl
theorem sh_58 : shp[58]? = some (.inr (.inl (1, 6))) := rfl
theorem sh_59 : shp[59]? = some (.inr (.inl (1, 6))) := rfl
theorem sh_60 : shp[60]? = some (.inr (.inl (1, 6))) := rfl
theorem sh_61 : shp[61]? = some (.inr (.inl (1, 6))) := rfl
theorem sh_62 : shp[62]? = some (.inr (.inl (1, 36))) := rfl
theorem sh_63 : shp[63]? = some (.inr (.inl (1, 36))) := rfl
theorem sh_64 : shp[64]? = some (.inr (.inl (1, 36))) := rfl
theorem sh_65 : shp[65]? = some (.inl (8, [.inr 66, .inr 67, .inr 68, .inr 69, .inr 70, .inr 71, .inr 72, .inl 0])) := rfl
theorem sh_66 : shp[66]? = some (.inr (.inl (1, 6))) := rfl
theorem sh_67 : shp[67]? = some (.inr (.inl (1, 6))) := rfl
theorem sh_68 : shp[68]? = some (.inr (.inl (1, 6))) := rfl
theorem sh_69 : shp[69]? = some (.inr (.inl (1, 6))) := rfl
theorem sh_70 : shp[70]? = some (.inr (.inl (1, 36))) := rfl
theorem sh_71 : shp[71]? = some (.inr (.inl (1, 36))) := rfl
theorem sh_72 : shp[72]? = some (.inr (.inl (1, 36))) := rfl
theorem sh_73 : shp[73]? = some (.inl (8, [.inr 74, .inr 75, .inr 76, .inr 77, .inr 78, .inr 79, .inr 80, .inl 0])) := rfl
theorem sh_74 : shp[74]? = some (.inr (.inl (1, 6))) := rfl
theorem sh_75 : shp[75]? = some (.inr (.inl (1, 6))) := rfl
theorem sh_76 : shp[76]? = some (.inr (.inl (1, 6))) := rfl
theorem sh_77 : shp[77]? = some (.inr (.inl (1, 6))) := rfl
theorem sh_78 : shp[78]? = some (.inr (.inl (1, 36))) := rfl
theorem sh_79 : shp[79]? = some (.inr (.inl (1, 36))) := rfl
theorem sh_80 : shp[80]? = some (.inr (.inl (1, 36))) := rfl
theorem sh_81 : shp[81]? = some (.inl (8, [.inr 82, .inr 83, .inr 84, .inr 85, .inr 86, .inr 87, .inr 88, .inl 0])) := rfl
theorem sh_82 : shp[82]? = some (.inr (.inl (1, 6))) := rfl
theorem sh_83 : shp[83]? = some (.inr (.inl (1, 6))) := rfl
theorem sh_84 : shp[84]? = some (.inr (.inl (1, 6))) := rfl
theorem sh_85 : shp[85]? = some (.inr (.inl (1, 6))) := rfl
theorem sh_86 : shp[86]? = some (.inr (.inl (1, 36))) := rfl
theorem sh_87 : shp[87]? = some (.inr (.inl (1, 36))) := rfl
theorem sh_88 : shp[88]? = some (.inr (.inl (1, 36))) := rfl
theorem sh_89 : shp[89]? = some (.inl (8, [.inr 90, .inr 91, .inr 92, .inr 93, .inr 94, .inr 95, .inr 96, .inl 0])) := rfl
theorem sh_90 : shp[90]? = some (.inr (.inl (1, 6))) := rfl
theorem sh_91 : shp[91]? = some (.inr (.inl (1, 6))) := rfl
theorem sh_92 : shp[92]? = some (.inr (.inl (1, 6))) := rfl
theorem sh_93 : shp[93]? = some (.inr (.inl (1, 6))) := rfl
theorem sh_94 : shp[94]? = some (.inr (.inl (1, 36))) := rfl
theorem sh_95 : shp[95]? = some (.inr (.inl (1, 36))) := rfl
theorem sh_96 : shp[96]? = some (.inr (.inl (1, 36))) := rfl
theorem sh_97 : shp[97]? = some (.inl (8, [.inr 98, .inr 99, .inr 100, .inr 101, .inr 102, .inr 103, .inr 104, .inl 0])) := rfl
theorem sh_98 : shp[98]? = some (.inr (.inl (1, 6))) := rfl
theorem sh_99 : shp[99]? = some (.inr (.inl (1, 6))) := rfl
theorem sh_100 : shp[100]? = some (.inr (.inl (1, 6))) := rfl
theorem sh_101 : shp[101]? = some (.inr (.inl (1, 6))) := rfl
theorem sh_102 : shp[102]? = some (.inr (.inl (1, 36))) := rfl
theorem sh_103 : shp[103]? = some (.inr (.inl (1, 36))) := rfl
theorem sh_104 : shp[104]? = some (.inr (.inl (1, 36))) := rfl
theorem sh_105 : shp[105]? = some (.inl (8, [.inr 106, .inr 107, .inr 108, .inr 109, .inr 110, .inr 111, .inr 112, .inl 0])) := rfl
theorem sh_106 : shp[106]? = some (.inr (.inl (1, 6))) := rfl
theorem sh_107 : shp[107]? = some (.inr (.inl (1, 6))) := rfl
theorem sh_108 : shp[108]? = some (.inr (.inl (1, 6))) := rfl
theorem sh_109 : shp[109]? = some (.inr (.inl (1, 6))) := rfl
theorem sh_110 : shp[110]? = some (.inr (.inl (1, 36))) := rfl
theorem sh_111 : shp[111]? = some (.inr (.inl (1, 36))) := rfl
theorem sh_112 : shp[112]? = some (.inr (.inl (1, 36))) := rfl
theorem sh_113 : shp[113]? = some (.inl (8, [.inr 114, .inr 115, .inr 116, .inr 117, .inr 118, .inr 119, .inr 120, .inl 0])) := rfl
theorem sh_114 : shp[114]? = some (.inr (.inl (1, 6))) := rfl
theorem sh_115 : shp[115]? = some (.inr (.inl (1, 6))) := rfl
theorem sh_116 : shp[116]? = some (.inr (.inl (1, 6))) := rfl
theorem sh_117 : shp[117]? = some (.inr (.inl (1, 6))) := rfl
theorem sh_118 : shp[118]? = some (.inr (.inl (1, 36))) := rfl
theorem sh_119 : shp[119]? = some (.inr (.inl (1, 36))) := rfl
theorem sh_120 : shp[120]? = some (.inr (.inl (1, 36))) := rfl
theorem sh_121 : shp[121]? = some (.inl (6, [.inr 122, .inl 0])) := rfl
theorem sh_122 : shp[122]? = some (.inr (.inl (1, 6))) := rfl
theorem sh_123 : shp[123]? = some (.inl (5, [.inr 124, .inr 125, .inr 126, .inl 0])) := rfl
theorem sh_124 : shp[124]? = some (.inr (.inl (1, 700))) := rfl
theorem sh_125 : shp[125]? = some (.inr (.inl (1, 126))) := rfl
theorem sh_126 : shp[126]? = some (.inr (.inl (1, 6))) := rfl
theorem sh_127 : shp[127]? = some (.inl (9, [.inr 128, .inr 129, .inr 130, .inl 0])) := rfl
theorem sh_128 : shp[128]? = some (.inr (.inl (1, 36))) := rfl
theorem sh_129 : shp[129]? = some (.inr (.inl (3, 847))) := rfl
theorem sh_130 : shp[130]? = some (.inr (.inl (1, 6))) := rfl
theorem sh_131 : shp[131]? = some (.inl (3, [.inr 132, .inl 0])) := rfl
theorem sh_132 : shp[132]? = some (.inr (.inl (1, 6))) := rfl
theorem sh_133 : shp[133]? = some (.inl (1, [.inr 134, .inl 0, .inr 135, .inl 0])) := rfl
theorem sh_134 : shp[134]? = some (.inr (.inl (1, 160))) := rfl
theorem sh_135 : shp[135]? = some (.inr (.inl (1, 4))) := rfl
theorem sh_136 : shp[136]? = some (.inr (.inl (0, 40))) := rfl
theorem sh_137 : shp[137]? = some (.inl (2, [.inr 138, .inr 139, .inr 140, .inr 141, .inr 142, .inr 143, .inl 0, .inl 0, .inr 144, .inr 152])) := rfl
theorem sh_138 : shp[138]? = some (.inr (.inl (1, 3))) := rfl
theorem sh_139 : shp[139]? = some (.inr (.inl (2, 18))) := rfl
theorem sh_140 : shp[140]? = some (.inr (.inl (1, 6))) := rfl
theorem sh_141 : shp[141]? = some (.inr (.inl (1, 6))) := rfl
theorem sh_142 : shp[142]? = some (.inr (.inl (1, 36))) := rfl
theorem sh_143 : shp[143]? = some (.inr (.inl (1, 6))) := rfl
theorem sh_144 : shp[144]? = some (.inl (8, [.inr 145, .inr 146, .inr 147, .inr 148, .inr 149, .inr 150, .inr 151, .inl 0])) := rfl
theorem sh_145 : shp[145]? = some (.inr (.inl (1, 6))) := rfl
theorem sh_146 : shp[146]? = some (.inr (.inl (1, 6))) := rfl
theorem sh_147 : shp[147]? = some (.inr (.inl (1, 6))) := rfl
theorem sh_148 : shp[148]? = some (.inr (.inl (1, 6))) := rfl
theorem sh_149 : shp[149]? = some (.inr (.inl (1, 36))) := rfl
theorem sh_150 : shp[150]? = some (.inr (.inl (1, 36))) := rfl
theorem sh_151 : shp[151]? = some (.inr (.inl (1, 36))) := rfl
theorem sh_152 : shp[152]? = some (.inl (7, [.inr 153, .inr 154, .inl 0, .inl 0])) := rfl
theorem sh_153 : shp[153]? = some (.inr (.inl (1, 40))) := rfl
theorem sh_154 : shp[154]? = some (.inr (.inl (1, 20))) := rfl
theorem sh_155 : shp[155]? = some (.inl (2, [.inr 156, .inr 157, .inr 158, .inr 159, .inr 160, .inr 161, .inl 0, .inl 0, .inr 162, .inr 170])) := rfl
theorem sh_156 : shp[156]? = some (.inr (.inl (1, 3))) := rfl
theorem sh_157 : shp[157]? = some (.inr (.inl (2, 18))) := rfl
theorem sh_158 : shp[158]? = some (.inr (.inl (1, 6))) := rfl
theorem sh_159 : shp[159]? = some (.inr (.inl (1, 6))) := rfl
theorem sh_160 : shp[160]? = some (.inr (.inl (1, 36))) := rfl
theorem sh_161 : shp[161]? = some (.inr (.inl (1, 6))) := rfl
theorem sh_162 : shp[162]? = some (.inl (8, [.inr 163, .inr 164, .inr 165, .inr 166, .inr 167, .inr 168, .inr 169, .inl 0])) := rfl
theorem sh_163 : shp[163]? = some (.inr (.inl (1, 6))) := rfl
theorem sh_164 : shp[164]? = some (.inr (.inl (1, 6))) := rfl
theorem sh_165 : shp[165]? = some (.inr (.inl (1, 6))) := rfl
theorem sh_166 : shp[166]? = some (.inr (.inl (1, 6))) := rfl
theorem sh_167 : shp[167]? = some (.inr (.inl (1, 36))) := rfl
theorem sh_168 : shp[168]? = some (.inr (.inl (1, 36))) := rfl
theorem sh_169 : shp[169]? = some (.inr (.inl (1, 36))) := rfl
theorem sh_170 : shp[170]? = some (.inl (7, [.inr 171, .inr 172, .inl 0, .inl 0])) := rfl
theorem sh_171 : shp[171]? = some (.inr (.inl (1, 40))) := rfl
theorem sh_172 : shp[172]? = some (.inr (.inl (1, 20))) := rfl
theorem sh_173 : shp[173]? = some (.inl (12, [.inl 0, .inr 174, .inl 0, .inl 0, .inl 0, .inl 0, .inl 0, .inl 0, .inl 0, .inl 0, .inl 0, .inl 0, .inl 2, .inl 0, .inr 175, .inr 176, .inr 177, .inr 178, .inr 179, .inr 180, .inr 181, .inr 182, .inr 183, .inl 0, .inl 1, .inl 1, .inr 184, .inr 185, .inl 0, .inr 186, .inr 187, .inl 0, .inl 1, .inr 188, .inr 189, .inl 0, .inr 190, .inr 191, .inr 192, .inr 193, .inl 1, .inr 194, .inl 0, .inl 0, .inr 195, .inr 196, .inl 0, .inl 1, .inr 197, .inl 0, .inl 0, .inl 0, .inl 0])) := rfl
theorem sh_174 : shp[174]? = some (.inr (.inl (1, 940))) := rfl
theorem sh_175 : shp[175]? = some (.inr (.inl (1, 476))) := rfl
theorem sh_176 : shp[176]? = some (.inr (.inl (1, 101))) := rfl
theorem sh_177 : shp[177]? = some (.inr (.inl (1, 952))) := rfl
theorem sh_178 : shp[178]? = some (.inr (.inl (1, 1064))) := rfl
theorem sh_179 : shp[179]? = some (.inr (.inl (1, 133))) := rfl
theorem sh_180 : shp[180]? = some (.inr (.inl (2, 18))) := rfl
theorem sh_181 : shp[181]? = some (.inr (.inl (2, 18))) := rfl
theorem sh_182 : shp[182]? = some (.inr (.inl (2, 36))) := rfl
theorem sh_183 : shp[183]? = some (.inr (.inl (3, 2))) := rfl
theorem sh_184 : shp[184]? = some (.inr (.inl (1, 6))) := rfl
theorem sh_185 : shp[185]? = some (.inr (.inl (1, 6))) := rfl
theorem sh_186 : shp[186]? = some (.inr (.inl (1, 700))) := rfl
theorem sh_187 : shp[187]? = some (.inr (.inl (1, 6))) := rfl
theorem sh_188 : shp[188]? = some (.inr (.inl (1, 64))) := rfl
theorem sh_189 : shp[189]? = some (.inr (.inl (1, 6))) := rfl
theorem sh_190 : shp[190]? = some (.inr (.inl (1, 6))) := rfl
theorem sh_191 : shp[191]? = some (.inr (.inl (1, 36))) := rfl
theorem sh_192 : shp[192]? = some (.inr (.inl (3, 847))) := rfl
theorem sh_193 : shp[193]? = some (.inr (.inl (1, 6))) := rfl
theorem sh_194 : shp[194]? = some (.inr (.inl (1, 64))) := rfl
theorem sh_195 : shp[195]? = some (.inr (.inl (1, 160))) := rfl
theorem sh_196 : shp[196]? = some (.inr (.inl (1, 4))) := rfl
theorem sh_197 : shp[197]? = some (.inr (.inl (1, 240))) := rfl
theorem sh_198 : shp[198]? = some (.inr (.inl (2, 1))) := rfl
def btl : List Nat := [18, 19, 8, 0, 0, 20, 1, 0, 2, 3, 4, 2, 0, 0, 0, 0, 0, 0, 5, 0, 21, 0, 0, 22, 6, 0, 0, 23, 1, 0, 2, 3, 4, 2, 0, 0, 0, 0, 0, 0, 5, 0, 21, 0, 0, 0, 9, 0, 0, 0, 0, 0, 0, 5, 0, 24, 0, 0, 0, 0, 0, 0, 0, 5, 0, 0, 0, 0, 0, 0, 0, 5, 0, 0, 0, 0, 0, 0, 0, 5, 0, 0, 0, 0, 0, 0, 0, 5, 0, 0, 0, 0, 0, 0, 0, 5, 0, 0, 0, 0, 0, 0, 0, 5, 0, 0, 0, 0, 0, 0, 0, 5, 0, 0, 0, 0, 0, 0, 0, 5, 0, 22, 6, 25, 0, 7, 0, 26, 0, 9, 0, 0, 0, 27, 10, 0, 8, 20, 1, 0, 2, 3, 4, 2, 0, 0, 0, 0, 0, 0, 5, 0, 21, 0, 0, 20, 1, 0, 2, 3, 4, 2, 0, 0, 0, 0, 0, 0, 5, 0, 21, 0, 0, 28, 15, 11, 12, 13, 14, 14, 0, 0, 0, 9, 6, 6, 29, 0, 0, 0, 0, 0, 9, 0, 0, 17, 0, 0, 0]
def bT (X : Int) (t i : Nat) : Int × Int := match t with
  | 1 => (0, 6)
  | 2 => (0, 99)
  | 3 => (0, 20)
  | 4 => (-1, 20)
  | 5 => (0, 1 * X)
  | 6 => (0, 5)
  | 7 => (0, 420)
  | 8 => (-128, 127)
  | 9 => (0, 1)
  | 10 => if (i % 4) < 3 then (0, 5) else (0, 99)
  | 11 => if i < 3 then (0, 6) else if i < 5 then (0, 9) else if i < 11 then (0, 99) else if i < 17 then (0, 20) else if i < 53 then (-1, 20) else if i < 59 then (0, 99) else if i < 65 then (0, 20) else if i < 102 then (-2147483648, 2147483647) else if i < 108 then ((-20) * X, 99) else if i < 156 then (-2147483648, 2147483647) else if i < 192 then (0, 1 * X) else if i < 476 then (-2147483648, 2147483647) else (-2147483648, 2147483647)
  | 12 => if i < 3 then (0, 6) else if i < 5 then (0, 9) else if i < 11 then (0, 99) else if i < 17 then (0, 20) else if i < 53 then (-1, 20) else if i < 59 then (0, 99) else if i < 65 then (0, 20) else (-2147483648, 2147483647)
  | 13 => if (i % 476) < 3 then (0, 6) else if (i % 476) < 5 then (0, 9) else if (i % 476) < 11 then (0, 99) else if (i % 476) < 17 then (0, 20) else if (i % 476) < 53 then (-1, 20) else if (i % 476) < 59 then (0, 99) else if (i % 476) < 65 then (0, 20) else if (i % 476) < 102 then (-2147483648, 2147483647) else if (i % 476) < 108 then ((-20) * X, 99) else if (i % 476) < 156 then (-2147483648, 2147483647) else if (i % 476) < 192 then (0, 1 * X) else (-2147483648, 2147483647)
  | 14 => if (i % 133) < 1 then (-2147483648, 2147483647) else if (i % 133) < 7 then ((-20) * X, 99) else if (i % 133) < 55 then (-2147483648, 2147483647) else if (i % 133) < 91 then (0, 1 * X) else (-2147483648, 2147483647)
  | 15 => (0, 255)
  | 16 => (0, 5)
  | 17 => if (i % 4) < 1 then (0, 5) else if (i % 4) < 3 then (0, 5) else (0, 99)
  | 18 => if i < 2 then (-2147483648, 2147483647) else if i < 3 then (0, 940) else if i < 17 then (-2147483648, 2147483647) else if i < 18 then (0, 40) else (-2147483648, 2147483647)
  | 19 => if i < 2 then (-2147483648, 2147483647) else if i < 3 then (0, 940) else if i < 4 then (0, 900) else if i < 6 then (0, 940) else if i < 7 then (0, 4) else if i < 8 then (-1, 23) else if i < 11 then (-2147483648, 2147483647) else if i < 12 then (0, 999) else if i < 13 then (0, 4) else if i < 14 then (0, 940) else (-2147483648, 2147483647)
  | 20 => if i < 6 then (-2147483648, 2147483647) else if i < 8 then (0, 9) else (-2147483648, 2147483647)
  | 21 => if i < 2 then (-2147483648, 2147483647) else if i < 3 then (0, 40) else if i < 4 then (0, 20) else (-2147483648, 2147483647)
  | 22 => if i < 1 then (-2147483648, 2147483647) else if i < 2 then (0, 6) else (-2147483648, 2147483647)
  | 23 => if i < 6 then (-2147483648, 2147483647) else if i < 8 then (-1, 9) else (-2147483648, 2147483647)
  | 24 => if i < 1 then (-2147483648, 2147483647) else if i < 2 then (0, 7) else if i < 3 then (0, 8) else (-2147483648, 2147483647)
  | 25 => if i < 3 then (-2147483648, 2147483647) else if i < 4 then (0, 6) else (-2147483648, 2147483647)
  | 26 => if i < 3 then (-2147483648, 2147483647) else if i < 4 then (0, 6) else (-2147483648, 2147483647)
  | 27 => if i < 1 then (-2147483648, 2147483647) else if i < 2 then (0, 40) else if i < 3 then (-2147483648, 2147483647) else if i < 4 then (0, 4) else (-2147483648, 2147483647)
  | 28 => if i < 2 then (-2147483648, 2147483647) else if i < 4 then (0, 940) else if i < 5 then (0, 900) else if i < 7 then (0, 940) else if i < 8 then (0, 4) else if i < 11 then (-2147483648, 2147483647) else if i < 12 then (0, 940) else if i < 23 then (-2147483648, 2147483647) else if i < 24 then (0, 8) else if i < 26 then (0, 1) else if i < 28 then (-2147483648, 2147483647) else if i < 29 then (0, 6) else if i < 31 then (-2147483648, 2147483647) else if i < 32 then (0, 6) else if i < 33 then (0, 1) else if i < 40 then (-2147483648, 2147483647) else if i < 41 then (0, 1) else if i < 42 then (-2147483648, 2147483647) else if i < 43 then (0, 64) else if i < 46 then (-2147483648, 2147483647) else if i < 47 then (0, 40) else if i < 48 then (0, 1) else if i < 49 then (-2147483648, 2147483647) else if i < 50 then (0, 60) else if i < 51 then (0, 20) else if i < 52 then (0, 8) else (-2147483648, 2147483647)
  | 29 => (0, 100000)
  | _ => (-2147483648, 2147483647)
def bnd (X : Int) (c i : Nat) : Int × Int := bT X (btl.getD c 0) i
theorem bs_10_0 (X : Int) (i : Nat) (h1 : 0 ≤ i % 4) (h2 : i % 4 ≤ 2) : bT X 10 i = (0, 5) := by
  show (if (i % 4) < 3 then (0, 5) else (0, 99)) = _
  rw [if_pos (by omega : i % 4 < 3)]
theorem bs_10_1 (X : Int) (i : Nat) (h1 : 3 ≤ i % 4) (h2 : i % 4 ≤ 3) : bT X 10 i = (0, 99) := by
  show (if (i % 4) < 3 then (0, 5) else (0, 99)) = _
  rw [if_neg (by omega : ¬ i % 4 < 3)]
theorem bs_11_0 (X : Int) (i : Nat) (h1 : 0 ≤ i) (h2 : i ≤ 2) : bT X 11 i = (0, 6) := by
  show (if i < 3 then (0, 6) else if i < 5 then (0, 9) else if i < 11 then (0, 99) else if i < 17 then (0, 20) else if i < 53 then (-1, 20) else if i < 59 then (0, 99) else if i < 65 then (0, 20) else if i < 102 then (-2147483648, 2147483647) else if i < 108 then ((-20) * X, 99) else if i < 156 then (-2147483648, 2147483647) else if i < 192 then (0, 1 * X) else if i < 476 then (-2147483648, 2147483647) else (-2147483648, 2147483647)) = _
  rw [if_pos (by omega : i < 3)]
theorem bs_11_1 (X : Int) (i : Nat) (h1 : 3 ≤ i) (h2 : i ≤ 4) : bT X 11 i = (0, 9) := by
  show (if i < 3 then (0, 6) else if i < 5 then (0, 9) else if i < 11 then (0, 99) else if i < 17 then (0, 20) else if i < 53 then (-1, 20) else if i < 59 then (0, 99) else if i < 65 then (0, 20) else if i < 102 then (-2147483648, 2147483647) else if i < 108 then ((-20) * X, 99) else if i < 156 then (-2147483648, 2147483647) else if i < 192 then (0, 1 * X) else if i < 476 then (-2147483648, 2147483647) else (-2147483648, 2147483647)) = _
  rw [if_neg (by omega : ¬ i < 3), if_pos (by omega : i < 5)]
theorem bs_11_2 (X : Int) (i : Nat) (h1 : 5 ≤ i) (h2 : i ≤ 10) : bT X 11 i = (0, 99) := by
  show (if i < 3 then (0, 6) else if i < 5 then (0, 9) else if i < 11 then (0, 99) else if i < 17 then (0, 20) else if i < 53 then (-1, 20) else if i < 59 then (0, 99) else if i < 65 then (0, 20) else if i < 102 then (-2147483648, 2147483647) else if i < 108 then ((-20) * X, 99) else if i < 156 then (-2147483648, 2147483647) else if i < 192 then (0, 1 * X) else if i < 476 then (-2147483648, 2147483647) else (-2147483648, 2147483647)) = _
  rw [if_neg (by omega : ¬ i < 3), if_neg (by omega : ¬ i < 5), if_pos (by omega : i < 11)]
theorem bs_11_3 (X : Int) (i : Nat) (h1 : 11 ≤ i) (h2 : i ≤ 16) : bT X 11 i = (0, 20) := by
  show (if i < 3 then (0, 6) else if i < 5 then (0, 9) else if i < 11 then (0, 99) else if i < 17 then (0, 20) else if i < 53 then (-1, 20) else if i < 59 then (0, 99) else if i < 65 then (0, 20) else if i < 102 then (-2147483648, 2147483647) else if i < 108 then ((-20) * X, 99) else if i < 156 then (-2147483648, 2147483647) else if i < 192 then (0, 1 * X) else if i < 476 then (-2147483648, 2147483647) else (-2147483648, 2147483647)) = _
  rw [if_neg (by omega : ¬ i < 3), if_neg (by omega : ¬ i < 5), if_neg (by omega : ¬ i < 11), if_pos (by omega : i < 17)]
theorem bs_11_4 (X : Int) (i : Nat) (h1 : 17 ≤ i) (h2 : i ≤ 52) : bT X 11 i = (-1, 20) := by
  show (if i < 3 then (0, 6) else if i < 5 then (0, 9) else if i < 11 then (0, 99) else if i < 17 then (0, 20) else if i < 53 then (-1, 20) else if i < 59 then (0, 99) else if i < 65 then (0, 20) else if i < 102 then (-2147483648, 2147483647) else if i < 108 then ((-20) * X, 99) else if i < 156 then (-2147483648, 2147483647) else if i < 192 then (0, 1 * X) else if i < 476 then (-2147483648, 2147483647) else (-2147483648, 2147483647)) = _
  rw [if_neg (by omega : ¬ i < 3), if_neg (by omega : ¬ i < 5), if_neg (by omega : ¬ i < 11), if_neg (by omega : ¬ i < 17), if_pos (by omega : i < 53)]
theorem bs_11_5 (X : Int) (i : Nat) (h1 : 53 ≤ i) (h2 : i ≤ 58) : bT X 11 i = (0, 99) := by
  show (if i < 3 then (0, 6) else if i < 5 then (0, 9) else if i < 11 then (0, 99) else if i < 17 then (0, 20) else if i < 53 then (-1, 20) else if i < 59 then (0, 99) else if i < 65 then (0, 20) else if i < 102 then (-2147483648, 2147483647) else if i < 108 then ((-20) * X, 99) else if i < 156 then (-2147483648, 2147483647) else if i < 192 then (0, 1 * X) else if i < 476 then (-2147483648, 2147483647) else (-2147483648, 2147483647)) = _
  rw [if_neg (by omega : ¬ i < 3), if_neg (by omega : ¬ i < 5), if_neg (by omega : ¬ i < 11), if_neg (by omega : ¬ i < 17), if_neg (by omega : ¬ i < 53), if_pos (by omega : i < 59)]
theorem bs_11_6 (X : Int) (i : Nat) (h1 : 59 ≤ i) (h2 : i ≤ 64) : bT X 11 i = (0, 20) := by
  show (if i < 3 then (0, 6) else if i < 5 then (0, 9) else if i < 11 then (0, 99) else if i < 17 then (0, 20) else if i < 53 then (-1, 20) else if i < 59 then (0, 99) else if i < 65 then (0, 20) else if i < 102 then (-2147483648, 2147483647) else if i < 108 then ((-20) * X, 99) else if i < 156 then (-2147483648, 2147483647) else if i < 192 then (0, 1 * X) else if i < 476 then (-2147483648, 2147483647) else (-2147483648, 2147483647)) = _
  rw [if_neg (by omega : ¬ i < 3), if_neg (by omega : ¬ i < 5), if_neg (by omega : ¬ i < 11), if_neg (by omega : ¬ i < 17), if_neg (by omega : ¬ i < 53), if_neg (by omega : ¬ i < 59), if_pos (by omega : i < 65)]
theorem bs_11_7 (X : Int) (i : Nat) (h1 : 65 ≤ i) (h2 : i ≤ 101) : bT X 11 i = (-2147483648, 2147483647) := by
  show (if i < 3 then (0, 6) else if i < 5 then (0, 9) else if i < 11 then (0, 99) else if i < 17 then (0, 20) else if i < 53 then (-1, 20) else if i < 59 then (0, 99) else if i < 65 then (0, 20) else if i < 102 then (-2147483648, 2147483647) else if i < 108 then ((-20) * X, 99) else if i < 156 then (-2147483648, 2147483647) else if i < 192 then (0, 1 * X) else if i < 476 then (-2147483648, 2147483647) else (-2147483648, 2147483647)) = _
  rw [if_neg (by omega : ¬ i < 3), if_neg (by omega : ¬ i < 5), if_neg (by omega : ¬ i < 11), if_neg (by omega : ¬ i < 17), if_neg (by omega : ¬ i < 53), if_neg (by omega : ¬ i < 59), if_neg (by omega : ¬ i < 65), if_pos (by omega : i < 102)]
theorem bs_11_8 (X : Int) (i : Nat) (h1 : 102 ≤ i) (h2 : i ≤ 107) : bT X 11 i = ((-20) * X, 99) := by
  show (if i < 3 then (0, 6) else if i < 5 then (0, 9) else if i < 11 then (0, 99) else if i < 17 then (0, 20) else if i < 53 then (-1, 20) else if i < 59 then (0, 99) else if i < 65 then (0, 20) else if i < 102 then (-2147483648, 2147483647) else if i < 108 then ((-20) * X, 99) else if i < 156 then (-2147483648, 2147483647) else if i < 192 then (0, 1 * X) else if i < 476 then (-2147483648, 2147483647) else (-2147483648, 2147483647)) = _
  rw [if_neg (by omega : ¬ i < 3), if_neg (by omega : ¬ i < 5), if_neg (by omega : ¬ i < 11), if_neg (by omega : ¬ i < 17), if_neg (by omega : ¬ i < 53), if_neg (by omega : ¬ i < 59), if_neg (by omega : ¬ i < 65), if_neg (by omega : ¬ i < 102), if_pos (by omega : i < 108)]
theorem bs_11_9 (X : Int) (i : Nat) (h1 : 108 ≤ i) (h2 : i ≤ 155) : bT X 11 i = (-2147483648, 2147483647) := by
  show (if i < 3 then (0, 6) else if i < 5 then (0, 9) else if i < 11 then (0, 99) else if i < 17 then (0, 20) else if i < 53 then (-1, 20) else if i < 59 then (0, 99) else if i < 65 then (0, 20) else if i < 102 then (-2147483648, 2147483647) else if i < 108 then ((-20) * X, 99) else if i < 156 then (-2147483648, 2147483647) else if i < 192 then (0, 1 * X) else if i < 476 then (-2147483648, 2147483647) else (-2147483648, 2147483647)) = _
  rw [if_neg (by omega : ¬ i < 3), if_neg (by omega : ¬ i < 5), if_neg (by omega : ¬ i < 11), if_neg (by omega : ¬ i < 17), if_neg (by omega : ¬ i < 53), if_neg (by omega : ¬ i < 59), if_neg (by omega : ¬ i < 65), if_neg (by omega : ¬ i < 102), if_neg (by omega : ¬ i < 108), if_pos (by omega : i < 156)]
theorem bs_11_10 (X : Int) (i : Nat) (h1 : 156 ≤ i) (h2 : i ≤ 191) : bT X 11 i = (0, 1 * X) := by
  show (if i < 3 then (0, 6) else if i < 5 then (0, 9) else if i < 11 then (0, 99) else if i < 17 then (0, 20) else if i < 53 then (-1, 20) else if i < 59 then (0, 99) else if i < 65 then (0, 20) else if i < 102 then (-2147483648, 2147483647) else if i < 108 then ((-20) * X, 99) else if i < 156 then (-2147483648, 2147483647) else if i < 192 then (0, 1 * X) else if i < 476 then (-2147483648, 2147483647) else (-2147483648, 2147483647)) = _
  rw [if_neg (by omega : ¬ i < 3), if_neg (by omega : ¬ i < 5), if_neg (by omega : ¬ i < 11), if_neg (by omega : ¬ i < 17), if_neg (by omega : ¬ i < 53), if_neg (by omega : ¬ i < 59), if_neg (by omega : ¬ i < 65), if_neg (by omega : ¬ i < 102), if_neg (by omega : ¬ i < 108), if_neg (by omega : ¬ i < 156), if_pos (by omega : i < 192)]
theorem bs_11_11 (X : Int) (i : Nat) (h1 : 192 ≤ i) (h2 : i ≤ 475) : bT X 11 i = (-2147483648, 2147483647) := by
  show (if i < 3 then (0, 6) else if i < 5 then (0, 9) else if i < 11 then (0, 99) else if i < 17 then (0, 20) else if i < 53 then (-1, 20) else if i < 59 then (0, 99) else if i < 65 then (0, 20) else if i < 102 then (-2147483648, 2147483647) else if i < 108 then ((-20) * X, 99) else if i < 156 then (-2147483648, 2147483647) else if i < 192 then (0, 1 * X) else if i < 476 then (-2147483648, 2147483647) else (-2147483648, 2147483647)) = _
  rw [if_neg (by omega : ¬ i < 3), if_neg (by omega : ¬ i < 5), if_neg (by omega : ¬ i < 11), if_neg (by omega : ¬ i < 17), if_neg (by omega : ¬ i < 53), if_neg (by omega : ¬ i < 59), if_neg (by omega : ¬ i < 65), if_neg (by omega : ¬ i < 102), if_neg (by omega : ¬ i < 108), if_neg (by omega : ¬ i < 156), if_neg (by omega : ¬ i < 192), if_pos (by omega : i < 476)]
theorem bs_11_12 (X : Int) (i : Nat) (h1 : 476 ≤ i) : bT X 11 i = (-2147483648, 2147483647) := by
  show (if i < 3 then (0, 6) else if i < 5 then (0, 9) else if i < 11 then (0, 99) else if i < 17 then (0, 20) else if i < 53 then (-1, 20) else if i < 59 then (0, 99) else if i < 65 then (0, 20) else if i < 102 then (-2147483648, 2147483647) else if i < 108 then ((-20) * X, 99) else if i < 156 then (-2147483648, 2147483647) else if i < 192 then (0, 1 * X) else if i < 476 then (-2147483648, 2147483647) else (-2147483648, 2147483647)) = _
  rw [if_neg (by omega : ¬ i < 3), if_neg (by omega : ¬ i < 5), if_neg (by omega : ¬ i < 11), if_neg (by omega : ¬ i < 17), if_neg (by omega : ¬ i < 53), if_neg (by omega : ¬ i < 59), if_neg (by omega : ¬ i < 65), if_neg (by omega : ¬ i < 102), if_neg (by omega : ¬ i < 108), if_neg (by omega : ¬ i < 156), if_neg (by omega : ¬ i < 192), if_neg (by omega : ¬ i < 476)]
theorem bs_12_0 (X : Int) (i : Nat) (h1 : 0 ≤ i) (h2 : i ≤ 2) : bT X 12 i = (0, 6) := by
  show (if i < 3 then (0, 6) else if i < 5 then (0, 9) else if i < 11 then (0, 99) else if i < 17 then (0, 20) else if i < 53 then (-1, 20) else if i < 59 then (0, 99) else if i < 65 then (0, 20) else (-2147483648, 2147483647)) = _
  rw [if_pos (by omega : i < 3)]
theorem bs_12_1 (X : Int) (i : Nat) (h1 : 3 ≤ i) (h2 : i ≤ 4) : bT X 12 i = (0, 9) := by
  show (if i < 3 then (0, 6) else if i < 5 then (0, 9) else if i < 11 then (0, 99) else if i < 17 then (0, 20) else if i < 53 then (-1, 20) else if i < 59 then (0, 99) else if i < 65 then (0, 20) else (-2147483648, 2147483647)) = _
  rw [if_neg (by omega : ¬ i < 3), if_pos (by omega : i < 5)]
theorem bs_12_2 (X : Int) (i : Nat) (h1 : 5 ≤ i) (h2 : i ≤ 10) : bT X 12 i = (0, 99) := by
  show (if i < 3 then (0, 6) else if i < 5 then (0, 9) else if i < 11 then (0, 99) else if i < 17 then (0, 20) else if i < 53 then (-1, 20) else if i < 59 then (0, 99) else if i < 65 then (0, 20) else (-2147483648, 2147483647)) = _
  rw [if_neg (by omega : ¬ i < 3), if_neg (by omega : ¬ i < 5), if_pos (by omega : i < 11)]
theorem bs_12_3 (X : Int) (i : Nat) (h1 : 11 ≤ i) (h2 : i ≤ 16) : bT X 12 i = (0, 20) := by
  show (if i < 3 then (0, 6) else if i < 5 then (0, 9) else if i < 11 then (0, 99) else if i < 17 then (0, 20) else if i < 53 then (-1, 20) else if i < 59 then (0, 99) else if i < 65 then (0, 20) else (-2147483648, 2147483647)) = _
  rw [if_neg (by omega : ¬ i < 3), if_neg (by omega : ¬ i < 5), if_neg (by omega : ¬ i < 11), if_pos (by omega : i < 17)]
theorem bs_12_4 (X : Int) (i : Nat) (h1 : 17 ≤ i) (h2 : i ≤ 52) : bT X 12 i = (-1, 20) := by
  show (if i < 3 then (0, 6) else if i < 5 then (0, 9) else if i < 11 then (0, 99) else if i < 17 then (0, 20) else if i < 53 then (-1, 20) else if i < 59 then (0, 99) else if i < 65 then (0, 20) else (-2147483648, 2147483647)) = _
  rw [if_neg (by omega : ¬ i < 3), if_neg (by omega : ¬ i < 5), if_neg (by omega : ¬ i < 11), if_neg (by omega : ¬ i < 17), if_pos (by omega : i < 53)]
theorem bs_12_5 (X : Int) (i : Nat) (h1 : 53 ≤ i) (h2 : i ≤ 58) : bT X 12 i = (0, 99) := by
  show (if i < 3 then (0, 6) else if i < 5 then (0, 9) else if i < 11 then (0, 99) else if i < 17 then (0, 20) else if i < 53 then (-1, 20) else if i < 59 then (0, 99) else if i < 65 then (0, 20) else (-2147483648, 2147483647)) = _
  rw [if_neg (by omega : ¬ i < 3), if_neg (by omega : ¬ i < 5), if_neg (by omega : ¬ i < 11), if_neg (by omega : ¬ i < 17), if_neg (by omega : ¬ i < 53), if_pos (by omega : i < 59)]
theorem bs_12_6 (X : Int) (i : Nat) (h1 : 59 ≤ i) (h2 : i ≤ 64) : bT X 12 i = (0, 20) := by
  show (if i < 3 then (0, 6) else if i < 5 then (0, 9) else if i < 11 then (0, 99) else if i < 17 then (0, 20) else if i < 53 then (-1, 20) else if i < 59 then (0, 99) else if i < 65 then (0, 20) else (-2147483648, 2147483647)) = _
  rw [if_neg (by omega : ¬ i < 3), if_neg (by omega : ¬ i < 5), if_neg (by omega : ¬ i < 11), if_neg (by omega : ¬ i < 17), if_neg (by omega : ¬ i < 53), if_neg (by omega : ¬ i < 59), if_pos (by omega : i < 65)]
theorem bs_12_7 (X : Int) (i : Nat) (h1 : 65 ≤ i) : bT X 12 i = (-2147483648, 2147483647) := by
  show (if i < 3 then (0, 6) else if i < 5 then (0, 9) else if i < 11 then (0, 99) else if i < 17 then (0, 20) else if i < 53 then (-1, 20) else if i < 59 then (0, 99) else if i < 65 then (0, 20) else (-2147483648, 2147483647)) = _
  rw [if_neg (by omega : ¬ i < 3), if_neg (by omega : ¬ i < 5), if_neg (by omega : ¬ i < 11), if_neg (by omega : ¬ i < 17), if_neg (by omega : ¬ i < 53), if_neg (by omega : ¬ i < 59), if_neg (by omega : ¬ i < 65)]
theorem bs_13_0 (X : Int) (i : Nat) (h1 : 0 ≤ i % 476) (h2 : i % 476 ≤ 2) : bT X 13 i = (0, 6) := by
  show (if (i % 476) < 3 then (0, 6) else if (i % 476) < 5 then (0, 9) else if (i % 476) < 11 then (0, 99) else if (i % 476) < 17 then (0, 20) else if (i % 476) < 53 then (-1, 20) else if (i % 476) < 59 then (0, 99) else if (i % 476) < 65 then (0, 20) else if (i % 476) < 102 then (-2147483648, 2147483647) else if (i % 476) < 108 then ((-20) * X, 99) else if (i % 476) < 156 then (-2147483648, 2147483647) else if (i % 476) < 192 then (0, 1 * X) else (-2147483648, 2147483647)) = _
  rw [if_pos (by omega : i % 476 < 3)]
theorem bs_13_1 (X : Int) (i : Nat) (h1 : 3 ≤ i % 476) (h2 : i % 476 ≤ 4) : bT X 13 i = (0, 9) := by
  show (if (i % 476) < 3 then (0, 6) else if (i % 476) < 5 then (0, 9) else if (i % 476) < 11 then (0, 99) else if (i % 476) < 17 then (0, 20) else if (i % 476) < 53 then (-1, 20) else if (i % 476) < 59 then (0, 99) else if (i % 476) < 65 then (0, 20) else if (i % 476) < 102 then (-2147483648, 2147483647) else if (i % 476) < 108 then ((-20) * X, 99) else if (i % 476) < 156 then (-2147483648, 2147483647) else if (i % 476) < 192 then (0, 1 * X) else (-2147483648, 2147483647)) = _
  rw [if_neg (by omega : ¬ i % 476 < 3), if_pos (by omega : i % 476 < 5)]
theorem bs_13_2 (X : Int) (i : Nat) (h1 : 5 ≤ i % 476) (h2 : i % 476 ≤ 10) : bT X 13 i = (0, 99) := by
  show (if (i % 476) < 3 then (0, 6) else if (i % 476) < 5 then (0, 9) else if (i % 476) < 11 then (0, 99) else if (i % 476) < 17 then (0, 20) else if (i % 476) < 53 then (-1, 20) else if (i % 476) < 59 then (0, 99) else if (i % 476) < 65 then (0, 20) else if (i % 476) < 102 then (-2147483648, 2147483647) else if (i % 476) < 108 then ((-20) * X, 99) else if (i % 476) < 156 then (-2147483648, 2147483647) else if (i % 476) < 192 then (0, 1 * X) else (-2147483648, 2147483647)) = _
  rw [if_neg (by omega : ¬ i % 476 < 3), if_neg (by omega : ¬ i % 476 < 5), if_pos (by omega : i % 476 < 11)]
theorem bs_13_3 (X : Int) (i : Nat) (h1 : 11 ≤ i % 476) (h2 : i % 476 ≤ 16) : bT X 13 i = (0, 20) := by
  show (if (i % 476) < 3 then (0, 6) else if (i % 476) < 5 then (0, 9) else if (i % 476) < 11 then (0, 99) else if (i % 476) < 17 then (0, 20) else if (i % 476) < 53 then (-1, 20) else if (i % 476) < 59 then (0, 99) else if (i % 476) < 65 then (0, 20) else if (i % 476) < 102 then (-2147483648, 2147483647) else if (i % 476) < 108 then ((-20) * X, 99) else if (i % 476) < 156 then (-2147483648, 2147483647) else if (i % 476) < 192 then (0, 1 * X) else (-2147483648, 2147483647)) = _
  rw [if_neg (by omega : ¬ i % 476 < 3), if_neg (by omega : ¬ i % 476 < 5), if_neg (by omega : ¬ i % 476 < 11), if_pos (by omega : i % 476 < 17)]
theorem bs_13_4 (X : Int) (i : Nat) (h1 : 17 ≤ i % 476) (h2 : i % 476 ≤ 52) : bT X 13 i = (-1, 20) := by
  show (if (i % 476) < 3 then (0, 6) else if (i % 476) < 5 then (0, 9) else if (i % 476) < 11 then (0, 99) else if (i % 476) < 17 then (0, 20) else if (i % 476) < 53 then (-1, 20) else if (i % 476) < 59 then (0, 99) else if (i % 476) < 65 then (0, 20) else if (i % 476) < 102 then (-2147483648, 2147483647) else if (i % 476) < 108 then ((-20) * X, 99) else if (i % 476) < 156 then (-2147483648, 2147483647) else if (i % 476) < 192 then (0, 1 * X) else (-2147483648, 2147483647)) = _
  rw [if_neg (by omega : ¬ i % 476 < 3), if_neg (by omega : ¬ i % 476 < 5), if_neg (by omega : ¬ i % 476 < 11), if_neg (by omega : ¬ i % 476 < 17), if_pos (by omega : i % 476 < 53)]
theorem bs_13_5 (X : Int) (i : Nat) (h1 : 53 ≤ i % 476) (h2 : i % 476 ≤ 58) : bT X 13 i = (0, 99) := by
  show (if (i % 476) < 3 then (0, 6) else if (i % 476) < 5 then (0, 9) else if (i % 476) < 11 then (0, 99) else if (i % 476) < 17 then (0, 20) else if (i % 476) < 53 then (-1, 20) else if (i % 476) < 59 then (0, 99) else if (i % 476) < 65 then (0, 20) else if (i % 476) < 102 then (-2147483648, 2147483647) else if (i % 476) < 108 then ((-20) * X, 99) else if (i % 476) < 156 then (-2147483648, 2147483647) else if (i % 476) < 192 then (0, 1 * X) else (-2147483648, 2147483647)) = _
  rw [if_neg (by omega : ¬ i % 476 < 3), if_neg (by omega : ¬ i % 476 < 5), if_neg (by omega : ¬ i % 476 < 11), if_neg (by omega : ¬ i % 476 < 17), if_neg (by omega : ¬ i % 476 < 53), if_pos (by omega : i % 476 < 59)]
theorem bs_13_6 (X : Int) (i : Nat) (h1 : 59 ≤ i % 476) (h2 : i % 476 ≤ 64) : bT X 13 i = (0, 20) := by
  show (if (i % 476) < 3 then (0, 6) else if (i % 476) < 5 then (0, 9) else if (i % 476) < 11 then (0, 99) else if (i % 476) < 17 then (0, 20) else if (i % 476) < 53 then (-1, 20) else if (i % 476) < 59 then (0, 99) else if (i % 476) < 65 then (0, 20) else if (i % 476) < 102 then (-2147483648, 2147483647) else if (i % 476) < 108 then ((-20) * X, 99) else if (i % 476) < 156 then (-2147483648, 2147483647) else if (i % 476) < 192 then (0, 1 * X) else (-2147483648, 2147483647)) = _
  rw [if_neg (by omega : ¬ i % 476 < 3), if_neg (by omega : ¬ i % 476 < 5), if_neg (by omega : ¬ i % 476 < 11), if_neg (by omega : ¬ i % 476 < 17), if_neg (by omega : ¬ i % 476 < 53), if_neg (by omega : ¬ i % 476 < 59), if_pos (by omega : i % 476 < 65)]
theorem bs_13_7 (X : Int) (i : Nat) (h1 : 65 ≤ i % 476) (h2 : i % 476 ≤ 101) : bT X 13 i = (-2147483648, 2147483647) := by
  show (if (i % 476) < 3 then (0, 6) else if (i % 476) < 5 then (0, 9) else if (i % 476) < 11 then (0, 99) else if (i % 476) < 17 then (0, 20) else if (i % 476) < 53 then (-1, 20) else if (i % 476) < 59 then (0, 99) else if (i % 476) < 65 then (0, 20) else if (i % 476) < 102 then (-2147483648, 2147483647) else if (i % 476) < 108 then ((-20) * X, 99) else if (i % 476) < 156 then (-2147483648, 2147483647) else if (i % 476) < 192 then (0, 1 * X) else (-2147483648, 2147483647)) = _
  rw [if_neg (by omega : ¬ i % 476 < 3), if_neg (by omega : ¬ i % 476 < 5), if_neg (by omega : ¬ i % 476 < 11), if_neg (by omega : ¬ i % 476 < 17), if_neg (by omega : ¬ i % 476 < 53), if_neg (by omega : ¬ i % 476 < 59), if_neg (by omega : ¬ i % 476 < 65), if_pos (by omega : i % 476 < 102)]
theorem bs_13_8 (X : Int) (i : Nat) (h1 : 102 ≤ i % 476) (h2 : i % 476 ≤ 107) : bT X 13 i = ((-20) * X, 99) := by
  show (if (i % 476) < 3 then (0, 6) else if (i % 476) < 5 then (0, 9) else if (i % 476) < 11 then (0, 99) else if (i % 476) < 17 then (0, 20) else if (i % 476) < 53 then (-1, 20) else if (i % 476) < 59 then (0, 99) else if (i % 476) < 65 then (0, 20) else if (i % 476) < 102 then (-2147483648, 2147483647) else if (i % 476) < 108 then ((-20) * X, 99) else if (i % 476) < 156 then (-2147483648, 2147483647) else if (i % 476) < 192 then (0, 1 * X) else (-2147483648, 2147483647)) = _
  rw [if_neg (by omega : ¬ i % 476 < 3), if_neg (by omega : ¬ i % 476 < 5), if_neg (by omega : ¬ i % 476 < 11), if_neg (by omega : ¬ i % 476 < 17), if_neg (by omega : ¬ i % 476 < 53), if_neg (by omega : ¬ i % 476 < 59), if_neg (by omega : ¬ i % 476 < 65), if_neg (by omega : ¬ i % 476 < 102), if_pos (by omega : i % 476 < 108)]
theorem bs_13_9 (X : Int) (i : Nat) (h1 : 108 ≤ i % 476) (h2 : i % 476 ≤ 155) : bT X 13 i = (-2147483648, 2147483647) := by
  show (if (i % 476) < 3 then (0, 6) else if (i % 476) < 5 then (0, 9) else if (i % 476) < 11 then (0, 99) else if (i % 476) < 17 then (0, 20) else if (i % 476) < 53 then (-1, 20) else if (i % 476) < 59 then (0, 99) else if (i % 476) < 65 then (0, 20) else if (i % 476) < 102 then (-2147483648, 2147483647) else if (i % 476) < 108 then ((-20) * X, 99) else if (i % 476) < 156 then (-2147483648, 2147483647) else if (i % 476) < 192 then (0, 1 * X) else (-2147483648, 2147483647)) = _
  rw [if_neg (by omega : ¬ i % 476 < 3), if_neg (by omega : ¬ i % 476 < 5), if_neg (by omega : ¬ i % 476 < 11), if_neg (by omega : ¬ i % 476 < 17), if_neg (by omega : ¬ i % 476 < 53), if_neg (by omega : ¬ i % 476 < 59), if_neg (by omega : ¬ i % 476 < 65), if_neg (by omega : ¬ i % 476 < 102), if_neg (by omega : ¬ i % 476 < 108), if_pos (by omega : i % 476 < 156)]
theorem bs_13_10 (X : Int) (i : Nat) (h1 : 156 ≤ i % 476) (h2 : i % 476 ≤ 191) : bT X 13 i = (0, 1 * X) := by
  show (if (i % 476) < 3 then (0, 6) else if (i % 476) < 5 then (0, 9) else if (i % 476) < 11 then (0, 99) else if (i % 476) < 17 then (0, 20) else if (i % 476) < 53 then (-1, 20) else if (i % 476) < 59 then (0, 99) else if (i % 476) < 65 then (0, 20) else if (i % 476) < 102 then (-2147483648, 2147483647) else if (i % 476) < 108 then ((-20) * X, 99) else if (i % 476) < 156 then (-2147483648, 2147483647) else if (i % 476) < 192 then (0, 1 * X) else (-2147483648, 2147483647)) = _
  rw [if_neg (by omega : ¬ i % 476 < 3), if_neg (by omega : ¬ i % 476 < 5), if_neg (by omega : ¬ i % 476 < 11), if_neg (by omega : ¬ i % 476 < 17), if_neg (by omega : ¬ i % 476 < 53), if_neg (by omega : ¬ i % 476 < 59), if_neg (by omega : ¬ i % 476 < 65), if_neg (by omega : ¬ i % 476 < 102), if_neg (by omega : ¬ i % 476 < 108), if_neg (by omega : ¬ i % 476 < 156), if_pos (by omega : i % 476 < 192)]
theorem bs_13_11 (X : Int) (i : Nat) (h1 : 192 ≤ i % 476) (h2 : i % 476 ≤ 475) : bT X 13 i = (-2147483648, 2147483647) := by
  show (if (i % 476) < 3 then (0, 6) else if (i % 476) < 5 then (0, 9) else if (i % 476) < 11 then (0, 99) else if (i % 476) < 17 then (0, 20) else if (i % 476) < 53 then (-1, 20) else if (i % 476) < 59 then (0, 99) else if (i % 476) < 65 then (0, 20) else if (i % 476) < 102 then (-2147483648, 2147483647) else if (i % 476) < 108 then ((-20) * X, 99) else if (i % 476) < 156 then (-2147483648, 2147483647) else if (i % 476) < 192 then (0, 1 * X) else (-2147483648, 2147483647)) = _
  rw [if_neg (by omega : ¬ i % 476 < 3), if_neg (by omega : ¬ i % 476 < 5), if_neg (by omega : ¬ i % 476 < 11), if_neg (by omega : ¬ i % 476 < 17), if_neg (by omega : ¬ i % 476 < 53), if_neg (by omega : ¬ i % 476 < 59), if_neg (by omega : ¬ i % 476 < 65), if_neg (by omega : ¬ i % 476 < 102), if_neg (by omega : ¬ i % 476 < 108), if_neg (by omega : ¬ i % 476 < 156), if_neg (by omega : ¬ i % 476 < 192)]
theorem bs_14_0 (X : Int) (i : Nat) (h1 : 0 ≤ i % 133) (h2 : i % 133 ≤ 0) : bT X 14 i = (-2147483648, 2147483647) := by
  show (if (i % 133) < 1 then (-2147483648, 2147483647) else if (i % 133) < 7 then ((-20) * X, 99) else if (i % 133) < 55 then (-2147483648, 2147483647) else if (i % 133) < 91 then (0, 1 * X) else (-2147483648, 2147483647)) = _
  rw [if_pos (by omega : i % 133 < 1)]
theorem bs_14_1 (X : Int) (i : Nat) (h1 : 1 ≤ i % 133) (h2 : i % 133 ≤ 6) : bT X 14 i = ((-20) * X, 99) := by
  show (if (i % 133) < 1 then (-2147483648, 2147483647) else if (i % 133) < 7 then ((-20) * X, 99) else if (i % 133) < 55 then (-2147483648, 2147483647) else if (i % 133) < 91 then (0, 1 * X) else (-2147483648, 2147483647)) = _
  rw [if_neg (by omega : ¬ i % 133 < 1), if_pos (by omega : i % 133 < 7)]
theorem bs_14_2 (X : Int) (i : Nat) (h1 : 7 ≤ i % 133) (h2 : i % 133 ≤ 54) : bT X 14 i = (-2147483648, 2147483647) := by
  show (if (i % 133) < 1 then (-2147483648, 2147483647) else if (i % 133) < 7 then ((-20) * X, 99) else if (i % 133) < 55 then (-2147483648, 2147483647) else if (i % 133) < 91 then (0, 1 * X) else (-2147483648, 2147483647)) = _
  rw [if_neg (by omega : ¬ i % 133 < 1), if_neg (by omega : ¬ i % 133 < 7), if_pos (by omega : i % 133 < 55)]
theorem bs_14_3 (X : Int) (i : Nat) (h1 : 55 ≤ i % 133) (h2 : i % 133 ≤ 90) : bT X 14 i = (0, 1 * X) := by
  show (if (i % 133) < 1 then (-2147483648, 2147483647) else if (i % 133) < 7 then ((-20) * X, 99) else if (i % 133) < 55 then (-2147483648, 2147483647) else if (i % 133) < 91 then (0, 1 * X) else (-2147483648, 2147483647)) = _
  rw [if_neg (by omega : ¬ i % 133 < 1), if_neg (by omega : ¬ i % 133 < 7), if_neg (by omega : ¬ i % 133 < 55), if_pos (by omega : i % 133 < 91)]
theorem bs_14_4 (X : Int) (i : Nat) (h1 : 91 ≤ i % 133) (h2 : i % 133 ≤ 132) : bT X 14 i = (-2147483648, 2147483647) := by
  show (if (i % 133) < 1 then (-2147483648, 2147483647) else if (i % 133) < 7 then ((-20) * X, 99) else if (i % 133) < 55 then (-2147483648, 2147483647) else if (i % 133) < 91 then (0, 1 * X) else (-2147483648, 2147483647)) = _
  rw [if_neg (by omega : ¬ i % 133 < 1), if_neg (by omega : ¬ i % 133 < 7), if_neg (by omega : ¬ i % 133 < 55), if_neg (by omega : ¬ i % 133 < 91)]
theorem bs_17_0 (X : Int) (i : Nat) (h1 : 0 ≤ i % 4) (h2 : i % 4 ≤ 0) : bT X 17 i = (0, 5) := by
  show (if (i % 4) < 1 then (0, 5) else if (i % 4) < 3 then (0, 5) else (0, 99)) = _
  rw [if_pos (by omega : i % 4 < 1)]
theorem bs_17_1 (X : Int) (i : Nat) (h1 : 1 ≤ i % 4) (h2 : i % 4 ≤ 2) : bT X 17 i = (0, 5) := by
  show (if (i % 4) < 1 then (0, 5) else if (i % 4) < 3 then (0, 5) else (0, 99)) = _
  rw [if_neg (by omega : ¬ i % 4 < 1), if_pos (by omega : i % 4 < 3)]
theorem bs_17_2 (X : Int) (i : Nat) (h1 : 3 ≤ i % 4) (h2 : i % 4 ≤ 3) : bT X 17 i = (0, 99) := by
  show (if (i % 4) < 1 then (0, 5) else if (i % 4) < 3 then (0, 5) else (0, 99)) = _
  rw [if_neg (by omega : ¬ i % 4 < 1), if_neg (by omega : ¬ i % 4 < 3)]
theorem bs_18_0 (X : Int) (i : Nat) (h1 : 0 ≤ i) (h2 : i ≤ 1) : bT X 18 i = (-2147483648, 2147483647) := by
  show (if i < 2 then (-2147483648, 2147483647) else if i < 3 then (0, 940) else if i < 17 then (-2147483648, 2147483647) else if i < 18 then (0, 40) else (-2147483648, 2147483647)) = _
  rw [if_pos (by omega : i < 2)]
theorem bs_18_1 (X : Int) (i : Nat) (h1 : 2 ≤ i) (h2 : i ≤ 2) : bT X 18 i = (0, 940) := by
  show (if i < 2 then (-2147483648, 2147483647) else if i < 3 then (0, 940) else if i < 17 then (-2147483648, 2147483647) else if i < 18 then (0, 40) else (-2147483648, 2147483647)) = _
  rw [if_neg (by omega : ¬ i < 2), if_pos (by omega : i < 3)]
theorem bs_18_2 (X : Int) (i : Nat) (h1 : 3 ≤ i) (h2 : i ≤ 16) : bT X 18 i = (-2147483648, 2147483647) := by
  show (if i < 2 then (-2147483648, 2147483647) else if i < 3 then (0, 940) else if i < 17 then (-2147483648, 2147483647) else if i < 18 then (0, 40) else (-2147483648, 2147483647)) = _
  rw [if_neg (by omega : ¬ i < 2), if_neg (by omega : ¬ i < 3), if_pos (by omega : i < 17)]
theorem bs_18_3 (X : Int) (i : Nat) (h1 : 17 ≤ i) (h2 : i ≤ 17) : bT X 18 i = (0, 40) := by
  show (if i < 2 then (-2147483648, 2147483647) else if i < 3 then (0, 940) else if i < 17 then (-2147483648, 2147483647) else if i < 18 then (0, 40) else (-2147483648, 2147483647)) = _
  rw [if_neg (by omega : ¬ i < 2), if_neg (by omega : ¬ i < 3), if_neg (by omega : ¬ i < 17), if_pos (by omega : i < 18)]
theorem bs_18_4 (X : Int) (i : Nat) (h1 : 18 ≤ i) : bT X 18 i = (-2147483648, 2147483647) := by
  show (if i < 2 then (-2147483648, 2147483647) else if i < 3 then (0, 940) else if i < 17 then (-2147483648, 2147483647) else if i < 18 then (0, 40) else (-2147483648, 2147483647)) = _
  rw [if_neg (by omega : ¬ i < 2), if_neg (by omega : ¬ i < 3), if_neg (by omega : ¬ i < 17), if_neg (by omega : ¬ i < 18)]
theorem bs_19_0 (X : Int) (i : Nat) (h1 : 0 ≤ i) (h2 : i ≤ 1) : bT X 19 i = (-2147483648, 2147483647) := by
  show (if i < 2 then (-2147483648, 2147483647) else if i < 3 then (0, 940) else if i < 4 then (0, 900) else if i < 6 then (0, 940) else if i < 7 then (0, 4) else if i < 8 then (-1, 23) else if i < 11 then (-2147483648, 2147483647) else if i < 12 then (0, 999) else if i < 13 then (0, 4) else if i < 14 then (0, 940) else (-2147483648, 2147483647)) = _
  rw [if_pos (by omega : i < 2)]
theorem bs_19_1 (X : Int) (i : Nat) (h1 : 2 ≤ i) (h2 : i ≤ 2) : bT X 19 i = (0, 940) := by
  show (if i < 2 then (-2147483648, 2147483647) else if i < 3 then (0, 940) else if i < 4 then (0, 900) else if i < 6 then (0, 940) else if i < 7 then (0, 4) else if i < 8 then (-1, 23) else if i < 11 then (-2147483648, 2147483647) else if i < 12 then (0, 999) else if i < 13 then (0, 4) else if i < 14 then (0, 940) else (-2147483648, 2147483647)) = _
  rw [if_neg (by omega : ¬ i < 2), if_pos (by omega : i < 3)]
theorem bs_19_2 (X : Int) (i : Nat) (h1 : 3 ≤ i) (h2 : i ≤ 3) : bT X 19 i = (0, 900) := by
  show (if i < 2 then (-2147483648, 2147483647) else if i < 3 then (0, 940) else if i < 4 then (0, 900) else if i < 6 then (0, 940) else if i < 7 then (0, 4) else if i < 8 then (-1, 23) else if i < 11 then (-2147483648, 2147483647) else if i < 12 then (0, 999) else if i < 13 then (0, 4) else if i < 14 then (0, 940) else (-2147483648, 2147483647)) = _
  rw [if_neg (by omega : ¬ i < 2), if_neg (by omega : ¬ i < 3), if_pos (by omega : i < 4)]
theorem bs_19_3 (X : Int) (i : Nat) (h1 : 4 ≤ i) (h2 : i ≤ 5) : bT X 19 i = (0, 940) := by
  show (if i < 2 then (-2147483648, 2147483647) else if i < 3 then (0, 940) else if i < 4 then (0, 900) else if i < 6 then (0, 940) else if i < 7 then (0, 4) else if i < 8 then (-1, 23) else if i < 11 then (-2147483648, 2147483647) else if i < 12 then (0, 999) else if i < 13 then (0, 4) else if i < 14 then (0, 940) else (-2147483648, 2147483647)) = _
  rw [if_neg (by omega : ¬ i < 2), if_neg (by omega : ¬ i < 3), if_neg (by omega : ¬ i < 4), if_pos (by omega : i < 6)]
theorem bs_19_4 (X : Int) (i : Nat) (h1 : 6 ≤ i) (h2 : i ≤ 6) : bT X 19 i = (0, 4) := by
  show (if i < 2 then (-2147483648, 2147483647) else if i < 3 then (0, 940) else if i < 4 then (0, 900) else if i < 6 then (0, 940) else if i < 7 then (0, 4) else if i < 8 then (-1, 23) else if i < 11 then (-2147483648, 2147483647) else if i < 12 then (0, 999) else if i < 13 then (0, 4) else if i < 14 then (0, 940) else (-2147483648, 2147483647)) = _
  rw [if_neg (by omega : ¬ i < 2), if_neg (by omega : ¬ i < 3), if_neg (by omega : ¬ i < 4), if_neg (by omega : ¬ i < 6), if_pos (by omega : i < 7)]
theorem bs_19_5 (X : Int) (i : Nat) (h1 : 7 ≤ i) (h2 : i ≤ 7) : bT X 19 i = (-1, 23) := by
  show (if i < 2 then (-2147483648, 2147483647) else if i < 3 then (0, 940) else if i < 4 then (0, 900) else if i < 6 then (0, 940) else if i < 7 then (0, 4) else if i < 8 then (-1, 23) else if i < 11 then (-2147483648, 2147483647) else if i < 12 then (0, 999) else if i < 13 then (0, 4) else if i < 14 then (0, 940) else (-2147483648, 2147483647)) = _
  rw [if_neg (by omega : ¬ i < 2), if_neg (by omega : ¬ i < 3), if_neg (by omega : ¬ i < 4), if_neg (by omega : ¬ i < 6), if_neg (by omega : ¬ i < 7), if_pos (by omega : i < 8)]
theorem bs_19_6 (X : Int) (i : Nat) (h1 : 8 ≤ i) (h2 : i ≤ 10) : bT X 19 i = (-2147483648, 2147483647) := by
  show (if i < 2 then (-2147483648, 2147483647) else if i < 3 then (0, 940) else if i < 4 then (0, 900) else if i < 6 then (0, 940) else if i < 7 then (0, 4) else if i < 8 then (-1, 23) else if i < 11 then (-2147483648, 2147483647) else if i < 12 then (0, 999) else if i < 13 then (0, 4) else if i < 14 then (0, 940) else (-2147483648, 2147483647)) = _
  rw [if_neg (by omega : ¬ i < 2), if_neg (by omega : ¬ i < 3), if_neg (by omega : ¬ i < 4), if_neg (by omega : ¬ i < 6), if_neg (by omega : ¬ i < 7), if_neg (by omega : ¬ i < 8), if_pos (by omega : i < 11)]
theorem bs_19_7 (X : Int) (i : Nat) (h1 : 11 ≤ i) (h2 : i ≤ 11) : bT X 19 i = (0, 999) := by
  show (if i < 2 then (-2147483648, 2147483647) else if i < 3 then (0, 940) else if i < 4 then (0, 900) else if i < 6 then (0, 940) else if i < 7 then (0, 4) else if i < 8 then (-1, 23) else if i < 11 then (-2147483648, 2147483647) else if i < 12 then (0, 999) else if i < 13 then (0, 4) else if i < 14 then (0, 940) else (-2147483648, 2147483647)) = _
  rw [if_neg (by omega : ¬ i < 2), if_neg (by omega : ¬ i < 3), if_neg (by omega : ¬ i < 4), if_neg (by omega : ¬ i < 6), if_neg (by omega : ¬ i < 7), if_neg (by omega : ¬ i < 8), if_neg (by omega : ¬ i < 11), if_pos (by omega : i < 12)]
theorem bs_19_8 (X : Int) (i : Nat) (h1 : 12 ≤ i) (h2 : i ≤ 12) : bT X 19 i = (0, 4) := by
  show (if i < 2 then (-2147483648, 2147483647) else if i < 3 then (0, 940) else if i < 4 then (0, 900) else if i < 6 then (0, 940) else if i < 7 then (0, 4) else if i < 8 then (-1, 23) else if i < 11 then (-2147483648, 2147483647) else if i < 12 then (0, 999) else if i < 13 then (0, 4) else if i < 14 then (0, 940) else (-2147483648, 2147483647)) = _
  rw [if_neg (by omega : ¬ i < 2), if_neg (by omega : ¬ i < 3), if_neg (by omega : ¬ i < 4), if_neg (by omega : ¬ i < 6), if_neg (by omega : ¬ i < 7), if_neg (by omega : ¬ i < 8), if_neg (by omega : ¬ i < 11), if_neg (by omega : ¬ i < 12), if_pos (by omega : i < 13)]
theorem bs_19_9 (X : Int) (i : Nat) (h1 : 13 ≤ i) (h2 : i ≤ 13) : bT X 19 i = (0, 940) := by
  show (if i < 2 then (-2147483648, 2147483647) else if i < 3 then (0, 940) else if i < 4 then (0, 900) else if i < 6 then (0, 940) else if i < 7 then (0, 4) else if i < 8 then (-1, 23) else if i < 11 then (-2147483648, 2147483647) else if i < 12 then (0, 999) else if i < 13 then (0, 4) else if i < 14 then (0, 940) else (-2147483648, 2147483647)) = _
  rw [if_neg (by omega : ¬ i < 2), if_neg (by omega : ¬ i < 3), if_neg (by omega : ¬ i < 4), if_neg (by omega : ¬ i < 6), if_neg (by omega : ¬ i < 7), if_neg (by omega : ¬ i < 8), if_neg (by omega : ¬ i < 11), if_neg (by omega : ¬ i < 12), if_neg (by omega : ¬ i < 13), if_pos (by omega : i < 14)]
theorem bs_19_10 (X : Int) (i : Nat) (h1 : 14 ≤ i) : bT X 19 i = (-2147483648, 2147483647) := by
  show (if i < 2 then (-2147483648, 2147483647) else if i < 3 then (0, 940) else if i < 4 then (0, 900) else if i < 6 then (0, 940) else if i < 7 then (0, 4) else if i < 8 then (-1, 23) else if i < 11 then (-2147483648, 2147483647) else if i < 12 then (0, 999) else if i < 13 then (0, 4) else if i < 14 then (0, 940) else (-2147483648, 2147483647)) = _
  rw [if_neg (by omega : ¬ i < 2), if_neg (by omega : ¬ i < 3), if_neg (by omega : ¬ i < 4), if_neg (by omega : ¬ i < 6), if_neg (by omega : ¬ i < 7), if_neg (by omega : ¬ i < 8), if_neg (by omega : ¬ i < 11), if_neg (by omega : ¬ i < 12), if_neg (by omega : ¬ i < 13), if_neg (by omega : ¬ i < 14)]
theorem bs_20_0 (X : Int) (i : Nat) (h1 : 0 ≤ i) (h2 : i ≤ 5) : bT X 20 i = (-2147483648, 2147483647) := by
  show (if i < 6 then (-2147483648, 2147483647) else if i < 8 then (0, 9) else (-2147483648, 2147483647)) = _
  rw [if_pos (by omega : i < 6)]
theorem bs_20_1 (X : Int) (i : Nat) (h1 : 6 ≤ i) (h2 : i ≤ 7) : bT X 20 i = (0, 9) := by
  show (if i < 6 then (-2147483648, 2147483647) else if i < 8 then (0, 9) else (-2147483648, 2147483647)) = _
  rw [if_neg (by omega : ¬ i < 6), if_pos (by omega : i < 8)]
theorem bs_20_2 (X : Int) (i : Nat) (h1 : 8 ≤ i) : bT X 20 i = (-2147483648, 2147483647) := by
  show (if i < 6 then (-2147483648, 2147483647) else if i < 8 then (0, 9) else (-2147483648, 2147483647)) = _
  rw [if_neg (by omega : ¬ i < 6), if_neg (by omega : ¬ i < 8)]
theorem bs_21_0 (X : Int) (i : Nat) (h1 : 0 ≤ i) (h2 : i ≤ 1) : bT X 21 i = (-2147483648, 2147483647) := by
  show (if i < 2 then (-2147483648, 2147483647) else if i < 3 then (0, 40) else if i < 4 then (0, 20) else (-2147483648, 2147483647)) = _
  rw [if_pos (by omega : i < 2)]
theorem bs_21_1 (X : Int) (i : Nat) (h1 : 2 ≤ i) (h2 : i ≤ 2) : bT X 21 i = (0, 40) := by
  show (if i < 2 then (-2147483648, 2147483647) else if i < 3 then (0, 40) else if i < 4 then (0, 20) else (-2147483648, 2147483647)) = _
  rw [if_neg (by omega : ¬ i < 2), if_pos (by omega : i < 3)]
theorem bs_21_2 (X : Int) (i : Nat) (h1 : 3 ≤ i) (h2 : i ≤ 3) : bT X 21 i = (0, 20) := by
  show (if i < 2 then (-2147483648, 2147483647) else if i < 3 then (0, 40) else if i < 4 then (0, 20) else (-2147483648, 2147483647)) = _
  rw [if_neg (by omega : ¬ i < 2), if_neg (by omega : ¬ i < 3), if_pos (by omega : i < 4)]
theorem bs_21_3 (X : Int) (i : Nat) (h1 : 4 ≤ i) : bT X 21 i = (-2147483648, 2147483647) := by
  show (if i < 2 then (-2147483648, 2147483647) else if i < 3 then (0, 40) else if i < 4 then (0, 20) else (-2147483648, 2147483647)) = _
  rw [if_neg (by omega : ¬ i < 2), if_neg (by omega : ¬ i < 3), if_neg (by omega : ¬ i < 4)]
theorem bs_22_0 (X : Int) (i : Nat) (h1 : 0 ≤ i) (h2 : i ≤ 0) : bT X 22 i = (-2147483648, 2147483647) := by
  show (if i < 1 then (-2147483648, 2147483647) else if i < 2 then (0, 6) else (-2147483648, 2147483647)) = _
  rw [if_pos (by omega : i < 1)]
theorem bs_22_1 (X : Int) (i : Nat) (h1 : 1 ≤ i) (h2 : i ≤ 1) : bT X 22 i = (0, 6) := by
  show (if i < 1 then (-2147483648, 2147483647) else if i < 2 then (0, 6) else (-2147483648, 2147483647)) = _
  rw [if_neg (by omega : ¬ i < 1), if_pos (by omega : i < 2)]
theorem bs_22_2 (X : Int) (i : Nat) (h1 : 2 ≤ i) : bT X 22 i = (-2147483648, 2147483647) := by
  show (if i < 1 then (-2147483648, 2147483647) else if i < 2 then (0, 6) else (-2147483648, 2147483647)) = _
  rw [if_neg (by omega : ¬ i < 1), if_neg (by omega : ¬ i < 2)]
theorem bs_23_0 (X : Int) (i : Nat) (h1 : 0 ≤ i) (h2 : i ≤ 5) : bT X 23 i = (-2147483648, 2147483647) := by
  show (if i < 6 then (-2147483648, 2147483647) else if i < 8 then (-1, 9) else (-2147483648, 2147483647)) = _
  rw [if_pos (by omega : i < 6)]
theorem bs_23_1 (X : Int) (i : Nat) (h1 : 6 ≤ i) (h2 : i ≤ 7) : bT X 23 i = (-1, 9) := by
  show (if i < 6 then (-2147483648, 2147483647) else if i < 8 then (-1, 9) else (-2147483648, 2147483647)) = _
  rw [if_neg (by omega : ¬ i < 6), if_pos (by omega : i < 8)]
theorem bs_23_2 (X : Int) (i : Nat) (h1 : 8 ≤ i) : bT X 23 i = (-2147483648, 2147483647) := by
  show (if i < 6 then (-2147483648, 2147483647) else if i < 8 then (-1, 9) else (-2147483648, 2147483647)) = _
  rw [if_neg (by omega : ¬ i < 6), if_neg (by omega : ¬ i < 8)]
theorem bs_24_0 (X : Int) (i : Nat) (h1 : 0 ≤ i) (h2 : i ≤ 0) : bT X 24 i = (-2147483648, 2147483647) := by
  show (if i < 1 then (-2147483648, 2147483647) else if i < 2 then (0, 7) else if i < 3 then (0, 8) else (-2147483648, 2147483647)) = _
  rw [if_pos (by omega : i < 1)]
theorem bs_24_1 (X : Int) (i : Nat) (h1 : 1 ≤ i) (h2 : i ≤ 1) : bT X 24 i = (0, 7) := by
  show (if i < 1 then (-2147483648, 2147483647) else if i < 2 then (0, 7) else if i < 3 then (0, 8) else (-2147483648, 2147483647)) = _
  rw [if_neg (by omega : ¬ i < 1), if_pos (by omega : i < 2)]
theorem bs_24_2 (X : Int) (i : Nat) (h1 : 2 ≤ i) (h2 : i ≤ 2) : bT X 24 i = (0, 8) := by
  show (if i < 1 then (-2147483648, 2147483647) else if i < 2 then (0, 7) else if i < 3 then (0, 8) else (-2147483648, 2147483647)) = _
  rw [if_neg (by omega : ¬ i < 1), if_neg (by omega : ¬ i < 2), if_pos (by omega : i < 3)]
theorem bs_24_3 (X : Int) (i : Nat) (h1 : 3 ≤ i) : bT X 24 i = (-2147483648, 2147483647) := by
  show (if i < 1 then (-2147483648, 2147483647) else if i < 2 then (0, 7) else if i < 3 then (0, 8) else (-2147483648, 2147483647)) = _
  rw [if_neg (by omega : ¬ i < 1), if_neg (by omega : ¬ i < 2), if_neg (by omega : ¬ i < 3)]
theorem bs_25_0 (X : Int) (i : Nat) (h1 : 0 ≤ i) (h2 : i ≤ 2) : bT X 25 i = (-2147483648, 2147483647) := by
  show (if i < 3 then (-2147483648, 2147483647) else if i < 4 then (0, 6) else (-2147483648, 2147483647)) = _
  rw [if_pos (by omega : i < 3)]
theorem bs_25_1 (X : Int) (i : Nat) (h1 : 3 ≤ i) (h2 : i ≤ 3) : bT X 25 i = (0, 6) := by
  show (if i < 3 then (-2147483648, 2147483647) else if i < 4 then (0, 6) else (-2147483648, 2147483647)) = _
  rw [if_neg (by omega : ¬ i < 3), if_pos (by omega : i < 4)]
theorem bs_25_2 (X : Int) (i : Nat) (h1 : 4 ≤ i) : bT X 25 i = (-2147483648, 2147483647) := by
  show (if i < 3 then (-2147483648, 2147483647) else if i < 4 then (0, 6) else (-2147483648, 2147483647)) = _
  rw [if_neg (by omega : ¬ i < 3), if_neg (by omega : ¬ i < 4)]
theorem bs_26_0 (X : Int) (i : Nat) (h1 : 0 ≤ i) (h2 : i ≤ 2) : bT X 26 i = (-2147483648, 2147483647) := by
  show (if i < 3 then (-2147483648, 2147483647) else if i < 4 then (0, 6) else (-2147483648, 2147483647)) = _
  rw [if_pos (by omega : i < 3)]
theorem bs_26_1 (X : Int) (i : Nat) (h1 : 3 ≤ i) (h2 : i ≤ 3) : bT X 26 i = (0, 6) := by
  show (if i < 3 then (-2147483648, 2147483647) else if i < 4 then (0, 6) else (-2147483648, 2147483647)) = _
  rw [if_neg (by omega : ¬ i < 3), if_pos (by omega : i < 4)]
theorem bs_26_2 (X : Int) (i : Nat) (h1 : 4 ≤ i) : bT X 26 i = (-2147483648, 2147483647) := by
  show (if i < 3 then (-2147483648, 2147483647) else if i < 4 then (0, 6) else (-2147483648, 2147483647)) = _
  rw [if_neg (by omega : ¬ i < 3), if_neg (by omega : ¬ i < 4)]
theorem bs_27_0 (X : Int) (i : Nat) (h1 : 0 ≤ i) (h2 : i ≤ 0) : bT X 27 i = (-2147483648, 2147483647) := by
  show (if i < 1 then (-2147483648, 2147483647) else if i < 2 then (0, 40) else if i < 3 then (-2147483648, 2147483647) else if i < 4 then (0, 4) else (-2147483648, 2147483647)) = _
  rw [if_pos (by omega : i < 1)]
theorem bs_27_1 (X : Int) (i : Nat) (h1 : 1 ≤ i) (h2 : i ≤ 1) : bT X 27 i = (0, 40) := by
  show (if i < 1 then (-2147483648, 2147483647) else if i < 2 then (0, 40) else if i < 3 then (-2147483648, 2147483647) else if i < 4 then (0, 4) else (-2147483648, 2147483647)) = _
  rw [if_neg (by omega : ¬ i < 1), if_pos (by omega : i < 2)]
theorem bs_27_2 (X : Int) (i : Nat) (h1 : 2 ≤ i) (h2 : i ≤ 2) : bT X 27 i = (-2147483648, 2147483647) := by
  show (if i < 1 then (-2147483648, 2147483647) else if i < 2 then (0, 40) else if i < 3 then (-2147483648, 2147483647) else if i < 4 then (0, 4) else (-2147483648, 2147483647)) = _
  rw [if_neg (by omega : ¬ i < 1), if_neg (by omega : ¬ i < 2), if_pos (by omega : i < 3)]
theorem bs_27_3 (X : Int) (i : Nat) (h1 : 3 ≤ i) (h2 : i ≤ 3) : bT X 27 i = (0, 4) := by
  show (if i < 1 then (-2147483648, 2147483647) else if i < 2 then (0, 40) else if i < 3 then (-2147483648, 2147483647) else if i < 4 then (0, 4) else (-2147483648, 2147483647)) = _
  rw [if_neg (by omega : ¬ i < 1), if_neg (by omega : ¬ i < 2), if_neg (by omega : ¬ i < 3), if_pos (by omega : i < 4)]
theorem bs_27_4 (X : Int) (i : Nat) (h1 : 4 ≤ i) : bT X 27 i = (-2147483648, 2147483647) := by
  show (if i < 1 then (-2147483648, 2147483647) else if i < 2 then (0, 40) else if i < 3 then (-2147483648, 2147483647) else if i < 4 then (0, 4) else (-2147483648, 2147483647)) = _
  rw [if_neg (by omega : ¬ i < 1), if_neg (by omega : ¬ i < 2), if_neg (by omega : ¬ i < 3), if_neg (by omega : ¬ i < 4)]
theorem bs_28_0 (X : Int) (i : Nat) (h1 : 0 ≤ i) (h2 : i ≤ 1) : bT X 28 i = (-2147483648, 2147483647) := by
  show (if i < 2 then (-2147483648, 2147483647) else if i < 4 then (0, 940) else if i < 5 then (0, 900) else if i < 7 then (0, 940) else if i < 8 then (0, 4) else if i < 11 then (-2147483648, 2147483647) else if i < 12 then (0, 940) else if i < 23 then (-2147483648, 2147483647) else if i < 24 then (0, 8) else if i < 26 then (0, 1) else if i < 28 then (-2147483648, 2147483647) else if i < 29 then (0, 6) else if i < 31 then (-2147483648, 2147483647) else if i < 32 then (0, 6) else if i < 33 then (0, 1) else if i < 40 then (-2147483648, 2147483647) else if i < 41 then (0, 1) else if i < 42 then (-2147483648, 2147483647) else if i < 43 then (0, 64) else if i < 46 then (-2147483648, 2147483647) else if i < 47 then (0, 40) else if i < 48 then (0, 1) else if i < 49 then (-2147483648, 2147483647) else if i < 50 then (0, 60) else if i < 51 then (0, 20) else if i < 52 then (0, 8) else (-2147483648, 2147483647)) = _
  rw [if_pos (by omega : i < 2)]
theorem bs_28_1 (X : Int) (i : Nat) (h1 : 2 ≤ i) (h2 : i ≤ 3) : bT X 28 i = (0, 940) := by
  show (if i < 2 then (-2147483648, 2147483647) else if i < 4 then (0, 940) else if i < 5 then (0, 900) else if i < 7 then (0, 940) else if i < 8 then (0, 4) else if i < 11 then (-2147483648, 2147483647) else if i < 12 then (0, 940) else if i < 23 then (-2147483648, 2147483647) else if i < 24 then (0, 8) else if i < 26 then (0, 1) else if i < 28 then (-2147483648, 2147483647) else if i < 29 then (0, 6) else if i < 31 then (-2147483648, 2147483647) else if i < 32 then (0, 6) else if i < 33 then (0, 1) else if i < 40 then (-2147483648, 2147483647) else if i < 41 then (0, 1) else if i < 42 then (-2147483648, 2147483647) else if i < 43 then (0, 64) else if i < 46 then (-2147483648, 2147483647) else if i < 47 then (0, 40) else if i < 48 then (0, 1) else if i < 49 then (-2147483648, 2147483647) else if i < 50 then (0, 60) else if i < 51 then (0, 20) else if i < 52 then (0, 8) else (-2147483648, 2147483647)) = _
  rw [if_neg (by omega : ¬ i < 2), if_pos (by omega : i < 4)]
theorem bs_28_2 (X : Int) (i : Nat) (h1 : 4 ≤ i) (h2 : i ≤ 4) : bT X 28 i = (0, 900) := by
  show (if i < 2 then (-2147483648, 2147483647) else if i < 4 then (0, 940) else if i < 5 then (0, 900) else if i < 7 then (0, 940) else if i < 8 then (0, 4) else if i < 11 then (-2147483648, 2147483647) else if i < 12 then (0, 940) else if i < 23 then (-2147483648, 2147483647) else if i < 24 then (0, 8) else if i < 26 then (0, 1) else if i < 28 then (-2147483648, 2147483647) else if i < 29 then (0, 6) else if i < 31 then (-2147483648, 2147483647) else if i < 32 then (0, 6) else if i < 33 then (0, 1) else if i < 40 then (-2147483648, 2147483647) else if i < 41 then (0, 1) else if i < 42 then (-2147483648, 2147483647) else if i < 43 then (0, 64) else if i < 46 then (-2147483648, 2147483647) else if i < 47 then (0, 40) else if i < 48 then (0, 1) else if i < 49 then (-2147483648, 2147483647) else if i < 50 then (0, 60) else if i < 51 then (0, 20) else if i < 52 then (0, 8) else (-2147483648, 2147483647)) = _
  rw [if_neg (by omega : ¬ i < 2), if_neg (by omega : ¬ i < 4), if_pos (by omega : i < 5)]
theorem bs_28_3 (X : Int) (i : Nat) (h1 : 5 ≤ i) (h2 : i ≤ 6) : bT X 28 i = (0, 940) := by
  show (if i < 2 then (-2147483648, 2147483647) else if i < 4 then (0, 940) else if i < 5 then (0, 900) else if i < 7 then (0, 940) else if i < 8 then (0, 4) else if i < 11 then (-2147483648, 2147483647) else if i < 12 then (0, 940) else if i < 23 then (-2147483648, 2147483647) else if i < 24 then (0, 8) else if i < 26 then (0, 1) else if i < 28 then (-2147483648, 2147483647) else if i < 29 then (0, 6) else if i < 31 then (-2147483648, 2147483647) else if i < 32 then (0, 6) else if i < 33 then (0, 1) else if i < 40 then (-2147483648, 2147483647) else if i < 41 then (0, 1) else if i < 42 then (-2147483648, 2147483647) else if i < 43 then (0, 64) else if i < 46 then (-2147483648, 2147483647) else if i < 47 then (0, 40) else if i < 48 then (0, 1) else if i < 49 then (-2147483648, 2147483647) else if i < 50 then (0, 60) else if i < 51 then (0, 20) else if i < 52 then (0, 8) else (-2147483648, 2147483647)) = _
  rw [if_neg (by omega : ¬ i < 2), if_neg (by omega : ¬ i < 4), if_neg (by omega : ¬ i < 5), if_pos (by omega : i < 7)]
theorem bs_28_4 (X : Int) (i : Nat) (h1 : 7 ≤ i) (h2 : i ≤ 7) : bT X 28 i = (0, 4) := by
  show (if i < 2 then (-2147483648, 2147483647) else if i < 4 then (0, 940) else if i < 5 then (0, 900) else if i < 7 then (0, 940) else if i < 8 then (0, 4) else if i < 11 then (-2147483648, 2147483647) else if i < 12 then (0, 940) else if i < 23 then (-2147483648, 2147483647) else if i < 24 then (0, 8) else if i < 26 then (0, 1) else if i < 28 then (-2147483648, 2147483647) else if i < 29 then (0, 6) else if i < 31 then (-2147483648, 2147483647) else if i < 32 then (0, 6) else if i < 33 then (0, 1) else if i < 40 then (-2147483648, 2147483647) else if i < 41 then (0, 1) else if i < 42 then (-2147483648, 2147483647) else if i < 43 then (0, 64) else if i < 46 then (-2147483648, 2147483647) else if i < 47 then (0, 40) else if i < 48 then (0, 1) else if i < 49 then (-2147483648, 2147483647) else if i < 50 then (0, 60) else if i < 51 then (0, 20) else if i < 52 then (0, 8) else (-2147483648, 2147483647)) = _
  rw [if_neg (by omega : ¬ i < 2), if_neg (by omega : ¬ i < 4), if_neg (by omega : ¬ i < 5), if_neg (by omega : ¬ i < 7), if_pos (by omega : i < 8)]
theorem bs_28_5 (X : Int) (i : Nat) (h1 : 8 ≤ i) (h2 : i ≤ 10) : bT X 28 i = (-2147483648, 2147483647) := by
  show (if i < 2 then (-2147483648, 2147483647) else if i < 4 then (0, 940) else if i < 5 then (0, 900) else if i < 7 then (0, 940) else if i < 8 then (0, 4) else if i < 11 then (-2147483648, 2147483647) else if i < 12 then (0, 940) else if i < 23 then (-2147483648, 2147483647) else if i < 24 then (0, 8) else if i < 26 then (0, 1) else if i < 28 then (-2147483648, 2147483647) else if i < 29 then (0, 6) else if i < 31 then (-2147483648, 2147483647) else if i < 32 then (0, 6) else if i < 33 then (0, 1) else if i < 40 then (-2147483648, 2147483647) else if i < 41 then (0, 1) else if i < 42 then (-2147483648, 2147483647) else if i < 43 then (0, 64) else if i < 46 then (-2147483648, 2147483647) else if i < 47 then (0, 40) else if i < 48 then (0, 1) else if i < 49 then (-2147483648, 2147483647) else if i < 50 then (0, 60) else if i < 51 then (0, 20) else if i < 52 then (0, 8) else (-2147483648, 2147483647)) = _
  rw [if_neg (by omega : ¬ i < 2), if_neg (by omega : ¬ i < 4), if_neg (by omega : ¬ i < 5), if_neg (by omega : ¬ i < 7), if_neg (by omega : ¬ i < 8), if_pos (by omega : i < 11)]
theorem bs_28_6 (X : Int) (i : Nat) (h1 : 11 ≤ i) (h2 : i ≤ 11) : bT X 28 i = (0, 940) := by
  show (if i < 2 then (-2147483648, 2147483647) else if i < 4 then (0, 940) else if i < 5 then (0, 900) else if i < 7 then (0, 940) else if i < 8 then (0, 4) else if i < 11 then (-2147483648, 2147483647) else if i < 12 then (0, 940) else if i < 23 then (-2147483648, 2147483647) else if i < 24 then (0, 8) else if i < 26 then (0, 1) else if i < 28 then (-2147483648, 2147483647) else if i < 29 then (0, 6) else if i < 31 then (-2147483648, 2147483647) else if i < 32 then (0, 6) else if i < 33 then (0, 1) else if i < 40 then (-2147483648, 2147483647) else if i < 41 then (0, 1) else if i < 42 then (-2147483648, 2147483647) else if i < 43 then (0, 64) else if i < 46 then (-2147483648, 2147483647) else if i < 47 then (0, 40) else if i < 48 then (0, 1) else if i < 49 then (-2147483648, 2147483647) else if i < 50 then (0, 60) else if i < 51 then (0, 20) else if i < 52 then (0, 8) else (-2147483648, 2147483647)) = _
  rw [if_neg (by omega : ¬ i < 2), if_neg (by omega : ¬ i < 4), if_neg (by omega : ¬ i < 5), if_neg (by omega : ¬ i < 7), if_neg (by omega : ¬ i < 8), if_neg (by omega : ¬ i < 11), if_pos (by omega : i < 12)]
theorem bs_28_7 (X : Int) (i : Nat) (h1 : 12 ≤ i) (h2 : i ≤ 22) : bT X 28 i = (-2147483648, 2147483647) := by
  show (if i < 2 then (-2147483648, 2147483647) else if i < 4 then (0, 940) else if i < 5 then (0, 900) else if i < 7 then (0, 940) else if i < 8 then (0, 4) else if i < 11 then (-2147483648, 2147483647) else if i < 12 then (0, 940) else if i < 23 then (-2147483648, 2147483647) else if i < 24 then (0, 8) else if i < 26 then (0, 1) else if i < 28 then (-2147483648, 2147483647) else if i < 29 then (0, 6) else if i < 31 then (-2147483648, 2147483647) else if i < 32 then (0, 6) else if i < 33 then (0, 1) else if i < 40 then (-2147483648, 2147483647) else if i < 41 then (0, 1) else if i < 42 then (-2147483648, 2147483647) else if i < 43 then (0, 64) else if i < 46 then (-2147483648, 2147483647) else if i < 47 then (0, 40) else if i < 48 then (0, 1) else if i < 49 then (-2147483648, 2147483647) else if i < 50 then (0, 60) else if i < 51 then (0, 20) else if i < 52 then (0, 8) else (-2147483648, 2147483647)) = _
  rw [if_neg (by omega : ¬ i < 2), if_neg (by omega : ¬ i < 4), if_neg (by omega : ¬ i < 5), if_neg (by omega : ¬ i < 7), if_neg (by omega : ¬ i < 8), if_neg (by omega : ¬ i < 11), if_neg (by omega : ¬ i < 12), if_pos (by omega : i < 23)]
theorem bs_28_8 (X : Int) (i : Nat) (h1 : 23 ≤ i) (h2 : i ≤ 23) : bT X 28 i = (0, 8) := by
  show (if i < 2 then (-2147483648, 2147483647) else if i < 4 then (0, 940) else if i < 5 then (0, 900) else if i < 7 then (0, 940) else if i < 8 then (0, 4) else if i < 11 then (-2147483648, 2147483647) else if i < 12 then (0, 940) else if i < 23 then (-2147483648, 2147483647) else if i < 24 then (0, 8) else if i < 26 then (0, 1) else if i < 28 then (-2147483648, 2147483647) else if i < 29 then (0, 6) else if i < 31 then (-2147483648, 2147483647) else if i < 32 then (0, 6) else if i < 33 then (0, 1) else if i < 40 then (-2147483648, 2147483647) else if i < 41 then (0, 1) else if i < 42 then (-2147483648, 2147483647) else if i < 43 then (0, 64) else if i < 46 then (-2147483648, 2147483647) else if i < 47 then (0, 40) else if i < 48 then (0, 1) else if i < 49 then (-2147483648, 2147483647) else if i < 50 then (0, 60) else if i < 51 then (0, 20) else if i < 52 then (0, 8) else (-2147483648, 2147483647)) = _
  rw [if_neg (by omega : ¬ i < 2), if_neg (by omega : ¬ i < 4), if_neg (by omega : ¬ i < 5), if_neg (by omega : ¬ i < 7), if_neg (by omega : ¬ i < 8), if_neg (by omega : ¬ i < 11), if_neg (by omega : ¬ i < 12), if_neg (by omega : ¬ i < 23), if_pos (by omega : i < 24)]
theorem bs_28_9 (X : Int) (i : Nat) (h1 : 24 ≤ i) (h2 : i ≤ 25) : bT X 28 i = (0, 1) := by
  show (if i < 2 then (-2147483648, 2147483647) else if i < 4 then (0, 940) else if i < 5 then (0, 900) else if i < 7 then (0, 940) else if i < 8 then (0, 4) else if i < 11 then (-2147483648, 2147483647) else if i < 12 then (0, 940) else if i < 23 then (-2147483648, 2147483647) else if i < 24 then (0, 8) else if i < 26 then (0, 1) else if i < 28 then (-2147483648, 2147483647) else if i < 29 then (0, 6) else if i < 31 then (-2147483648, 2147483647) else if i < 32 then (0, 6) else if i < 33 then (0, 1) else if i < 40 then (-2147483648, 2147483647) else if i < 41 then (0, 1) else if i < 42 then (-2147483648, 2147483647) else if i < 43 then (0, 64) else if i < 46 then (-2147483648, 2147483647) else if i < 47 then (0, 40) else if i < 48 then (0, 1) else if i < 49 then (-2147483648, 2147483647) else if i < 50 then (0, 60) else if i < 51 then (0, 20) else if i < 52 then (0, 8) else (-2147483648, 2147483647)) = _
  rw [if_neg (by omega : ¬ i < 2), if_neg (by omega : ¬ i < 4), if_neg (by omega : ¬ i < 5), if_neg (by omega : ¬ i < 7), if_neg (by omega : ¬ i < 8), if_neg (by omega : ¬ i < 11), if_neg (by omega : ¬ i < 12), if_neg (by omega : ¬ i < 23), if_neg (by omega : ¬ i < 24), if_pos (by omega : i < 26)]
theorem bs_28_10 (X : Int) (i : Nat) (h1 : 26 ≤ i) (h2 : i ≤ 27) : bT X 28 i = (-2147483648, 2147483647) := by
  show (if i < 2 then (-2147483648, 2147483647) else if i < 4 then (0, 940) else if i < 5 then (0, 900) else if i < 7 then (0, 940) else if i < 8 then (0, 4) else if i < 11 then (-2147483648, 2147483647) else if i < 12 then (0, 940) else if i < 23 then (-2147483648, 2147483647) else if i < 24 then (0, 8) else if i < 26 then (0, 1) else if i < 28 then (-2147483648, 2147483647) else if i < 29 then (0, 6) else if i < 31 then (-2147483648, 2147483647) else if i < 32 then (0, 6) else if i < 33 then (0, 1) else if i < 40 then (-2147483648, 2147483647) else if i < 41 then (0, 1) else if i < 42 then (-2147483648, 2147483647) else if i < 43 then (0, 64) else if i < 46 then (-2147483648, 2147483647) else if i < 47 then (0, 40) else if i < 48 then (0, 1) else if i < 49 then (-2147483648, 2147483647) else if i < 50 then (0, 60) else if i < 51 then (0, 20) else if i < 52 then (0, 8) else (-2147483648, 2147483647)) = _
  rw [if_neg (by omega : ¬ i < 2), if_neg (by omega : ¬ i < 4), if_neg (by omega : ¬ i < 5), if_neg (by omega : ¬ i < 7), if_neg (by omega : ¬ i < 8), if_neg (by omega : ¬ i < 11), if_neg (by omega : ¬ i < 12), if_neg (by omega : ¬ i < 23), if_neg (by omega : ¬ i < 24), if_neg (by omega : ¬ i < 26), if_pos (by omega : i < 28)]
theorem bs_28_11 (X : Int) (i : Nat) (h1 : 28 ≤ i) (h2 : i ≤ 28) : bT X 28 i = (0, 6) := by
  show (if i < 2 then (-2147483648, 2147483647) else if i < 4 then (0, 940) else if i < 5 then (0, 900) else if i < 7 then (0, 940) else if i < 8 then (0, 4) else if i < 11 then (-2147483648, 2147483647) else if i < 12 then (0, 940) else if i < 23 then (-2147483648, 2147483647) else if i < 24 then (0, 8) else if i < 26 then (0, 1) else if i < 28 then (-2147483648, 2147483647) else if i < 29 then (0, 6) else if i < 31 then (-2147483648, 2147483647) else if i < 32 then (0, 6) else if i < 33 then (0, 1) else if i < 40 then (-2147483648, 2147483647) else if i < 41 then (0, 1) else if i < 42 then (-2147483648, 2147483647) else if i < 43 then (0, 64) else if i < 46 then (-2147483648, 2147483647) else if i < 47 then (0, 40) else if i < 48 then (0, 1) else if i < 49 then (-2147483648, 2147483647) else if i < 50 then (0, 60) else if i < 51 then (0, 20) else if i < 52 then (0, 8) else (-2147483648, 2147483647)) = _
  rw [if_neg (by omega : ¬ i < 2), if_neg (by omega : ¬ i < 4), if_neg (by omega : ¬ i < 5), if_neg (by omega : ¬ i < 7), if_neg (by omega : ¬ i < 8), if_neg (by omega : ¬ i < 11), if_neg (by omega : ¬ i < 12), if_neg (by omega : ¬ i < 23), if_neg (by omega : ¬ i < 24), if_neg (by omega : ¬ i < 26), if_neg (by omega : ¬ i < 28), if_pos (by omega : i < 29)]
theorem bs_28_12 (X : Int) (i : Nat) (h1 : 29 ≤ i) (h2 : i ≤ 30) : bT X 28 i = (-2147483648, 2147483647) := by
  show (if i < 2 then (-2147483648, 2147483647) else if i < 4 then (0, 940) else if i < 5 then (0, 900) else if i < 7 then (0, 940) else if i < 8 then (0, 4) else if i < 11 then (-2147483648, 2147483647) else if i < 12 then (0, 940) else if i < 23 then (-2147483648, 2147483647) else if i < 24 then (0, 8) else if i < 26 then (0, 1) else if i < 28 then (-2147483648, 2147483647) else if i < 29 then (0, 6) else if i < 31 then (-2147483648, 2147483647) else if i < 32 then (0, 6) else if i < 33 then (0, 1) else if i < 40 then (-2147483648, 2147483647) else if i < 41 then (0, 1) else if i < 42 then (-2147483648, 2147483647) else if i < 43 then (0, 64) else if i < 46 then (-2147483648, 2147483647) else if i < 47 then (0, 40) else if i < 48 then (0, 1) else if i < 49 then (-2147483648, 2147483647) else if i < 50 then (0, 60) else if i < 51 then (0, 20) else if i < 52 then (0, 8) else (-2147483648, 2147483647)) = _
  rw [if_neg (by omega : ¬ i < 2), if_neg (by omega : ¬ i < 4), if_neg (by omega : ¬ i < 5), if_neg (by omega : ¬ i < 7), if_neg (by omega : ¬ i < 8), if_neg (by omega : ¬ i < 11), if_neg (by omega : ¬ i < 12), if_neg (by omega : ¬ i < 23), if_neg (by omega : ¬ i < 24), if_neg (by omega : ¬ i < 26), if_neg (by omega : ¬ i < 28), if_neg (by omega : ¬ i < 29), if_pos (by omega : i < 31)]
theorem bs_28_13 (X : Int) (i : Nat) (h1 : 31 ≤ i) (h2 : i ≤ 31) : bT X 28 i = (0, 6) := by
  show (if i < 2 then (-2147483648, 2147483647) else if i < 4 then (0, 940) else if i < 5 then (0, 900) else if i < 7 then (0, 940) else if i < 8 then (0, 4) else if i < 11 then (-2147483648, 2147483647) else if i < 12 then (0, 940) else if i < 23 then (-2147483648, 2147483647) else if i < 24 then (0, 8) else if i < 26 then (0, 1) else if i < 28 then (-2147483648, 2147483647) else if i < 29 then (0, 6) else if i < 31 then (-2147483648, 2147483647) else if i < 32 then (0, 6) else if i < 33 then (0, 1) else if i < 40 then (-2147483648, 2147483647) else if i < 41 then (0, 1) else if i < 42 then (-2147483648, 2147483647) else if i < 43 then (0, 64) else if i < 46 then (-2147483648, 2147483647) else if i < 47 then (0, 40) else if i < 48 then (0, 1) else if i < 49 then (-2147483648, 2147483647) else if i < 50 then (0, 60) else if i < 51 then (0, 20) else if i < 52 then (0, 8) else (-2147483648, 2147483647)) = _
  rw [if_neg (by omega : ¬ i < 2), if_neg (by omega : ¬ i < 4), if_neg (by omega : ¬ i < 5), if_neg (by omega : ¬ i < 7), if_neg (by omega : ¬ i < 8), if_neg (by omega : ¬ i < 11), if_neg (by omega : ¬ i < 12), if_neg (by omega : ¬ i < 23), if_neg (by omega : ¬ i < 24), if_neg (by omega : ¬ i < 26), if_neg (by omega : ¬ i < 28), if_neg (by omega : ¬ i < 29), if_neg (by omega : ¬ i < 31), if_pos (by omega : i < 32)]
theorem bs_28_14 (X : Int) (i : Nat) (h1 : 32 ≤ i) (h2 : i ≤ 32) : bT X 28 i = (0, 1) := by
  show (if i < 2 then (-2147483648, 2147483647) else if i < 4 then (0, 940) else if i < 5 then (0, 900) else if i < 7 then (0, 940) else if i < 8 then (0, 4) else if i < 11 then (-2147483648, 2147483647) else if i < 12 then (0, 940) else if i < 23 then (-2147483648, 2147483647) else if i < 24 then (0, 8) else if i < 26 then (0, 1) else if i < 28 then (-2147483648, 2147483647) else if i < 29 then (0, 6) else if i < 31 then (-2147483648, 2147483647) else if i < 32 then (0, 6) else if i < 33 then (0, 1) else if i < 40 then (-2147483648, 2147483647) else if i < 41 then (0, 1) else if i < 42 then (-2147483648, 2147483647) else if i < 43 then (0, 64) else if i < 46 then (-2147483648, 2147483647) else if i < 47 then (0, 40) else if i < 48 then (0, 1) else if i < 49 then (-2147483648, 2147483647) else if i < 50 then (0, 60) else if i < 51 then (0, 20) else if i < 52 then (0, 8) else (-2147483648, 2147483647)) = _
  rw [if_neg (by omega : ¬ i < 2), if_neg (by omega : ¬ i < 4), if_neg (by omega : ¬ i < 5), if_neg (by omega : ¬ i < 7), if_neg (by omega : ¬ i < 8), if_neg (by omega : ¬ i < 11), if_neg (by omega : ¬ i < 12), if_neg (by omega : ¬ i < 23), if_neg (by omega : ¬ i < 24), if_neg (by omega : ¬ i < 26), if_neg (by omega : ¬ i < 28), if_neg (by omega : ¬ i < 29), if_neg (by omega : ¬ i < 31), if_neg (by omega : ¬ i < 32), if_pos (by omega : i < 33)]
theorem bs_28_15 (X : Int) (i : Nat) (h1 : 33 ≤ i) (h2 : i ≤ 39) : bT X 28 i = (-2147483648, 2147483647) := by
  show (if i < 2 then (-2147483648, 2147483647) else if i < 4 then (0, 940) else if i < 5 then (0, 900) else if i < 7 then (0, 940) else if i < 8 then (0, 4) else if i < 11 then (-2147483648, 2147483647) else if i < 12 then (0, 940) else if i < 23 then (-2147483648, 2147483647) else if i < 24 then (0, 8) else if i < 26 then (0, 1) else if i < 28 then (-2147483648, 2147483647) else if i < 29 then (0, 6) else if i < 31 then (-2147483648, 2147483647) else if i < 32 then (0, 6) else if i < 33 then (0, 1) else if i < 40 then (-2147483648, 2147483647) else if i < 41 then (0, 1) else if i < 42 then (-2147483648, 2147483647) else if i < 43 then (0, 64) else if i < 46 then (-2147483648, 2147483647) else if i < 47 then (0, 40) else if i < 48 then (0, 1) else if i < 49 then (-2147483648, 2147483647) else if i < 50 then (0, 60) else if i < 51 then (0, 20) else if i < 52 then (0, 8) else (-2147483648, 2147483647)) = _
  rw [if_neg (by omega : ¬ i < 2), if_neg (by omega : ¬ i < 4), if_neg (by omega : ¬ i < 5), if_neg (by omega : ¬ i < 7), if_neg (by omega : ¬ i < 8), if_neg (by omega : ¬ i < 11), if_neg (by omega : ¬ i < 12), if_neg (by omega : ¬ i < 23), if_neg (by omega : ¬ i < 24), if_neg (by omega : ¬ i < 26), if_neg (by omega : ¬ i < 28), if_neg (by omega : ¬ i < 29), if_neg (by omega : ¬ i < 31), if_neg (by omega : ¬ i < 32), if_neg (by omega : ¬ i < 33), if_pos (by omega : i < 40)]
theorem bs_28_16 (X : Int) (i : Nat) (h1 : 40 ≤ i) (h2 : i ≤ 40) : bT X 28 i = (0, 1) := by
  show (if i < 2 then (-2147483648, 2147483647) else if i < 4 then (0, 940) else if i < 5 then (0, 900) else if i < 7 then (0, 940) else if i < 8 then (0, 4) else if i < 11 then (-2147483648, 2147483647) else if i < 12 then (0, 940) else if i < 23 then (-2147483648, 2147483647) else if i < 24 then (0, 8) else if i < 26 then (0, 1) else if i < 28 then (-2147483648, 2147483647) else if i < 29 then (0, 6) else if i < 31 then (-2147483648, 2147483647) else if i < 32 then (0, 6) else if i < 33 then (0, 1) else if i < 40 then (-2147483648, 2147483647) else if i < 41 then (0, 1) else if i < 42 then (-2147483648, 2147483647) else if i < 43 then (0, 64) else if i < 46 then (-2147483648, 2147483647) else if i < 47 then (0, 40) else if i < 48 then (0, 1) else if i < 49 then (-2147483648, 2147483647) else if i < 50 then (0, 60) else if i < 51 then (0, 20) else if i < 52 then (0, 8) else (-2147483648, 2147483647)) = _
  rw [if_neg (by omega : ¬ i < 2), if_neg (by omega : ¬ i < 4), if_neg (by omega : ¬ i < 5), if_neg (by omega : ¬ i < 7), if_neg (by omega : ¬ i < 8), if_neg (by omega : ¬ i < 11), if_neg (by omega : ¬ i < 12), if_neg (by omega : ¬ i < 23), if_neg (by omega : ¬ i < 24), if_neg (by omega : ¬ i < 26), if_neg (by omega : ¬ i < 28), if_neg (by omega : ¬ i < 29), if_neg (by omega : ¬ i < 31), if_neg (by omega : ¬ i < 32), if_neg (by omega : ¬ i < 33), if_neg (by omega : ¬ i < 40), if_pos (by omega : i < 41)]
theorem bs_28_17 (X : Int) (i : Nat) (h1 : 41 ≤ i) (h2 : i ≤ 41) : bT X 28 i = (-2147483648, 2147483647) := by
  show (if i < 2 then (-2147483648, 2147483647) else if i < 4 then (0, 940) else if i < 5 then (0, 900) else if i < 7 then (0, 940) else if i < 8 then (0, 4) else if i < 11 then (-2147483648, 2147483647) else if i < 12 then (0, 940) else if i < 23 then (-2147483648, 2147483647) else if i < 24 then (0, 8) else if i < 26 then (0, 1) else if i < 28 then (-2147483648, 2147483647) else if i < 29 then (0, 6) else if i < 31 then (-2147483648, 2147483647) else if i < 32 then (0, 6) else if i < 33 then (0, 1) else if i < 40 then (-2147483648, 2147483647) else if i < 41 then (0, 1) else if i < 42 then (-2147483648, 2147483647) else if i < 43 then (0, 64) else if i < 46 then (-2147483648, 2147483647) else if i < 47 then (0, 40) else if i < 48 then (0, 1) else if i < 49 then (-2147483648, 2147483647) else if i < 50 then (0, 60) else if i < 51 then (0, 20) else if i < 52 then (0, 8) else (-2147483648, 2147483647)) = _
  rw [if_neg (by omega : ¬ i < 2), if_neg (by omega : ¬ i < 4), if_neg (by omega : ¬ i < 5), if_neg (by omega : ¬ i < 7), if_neg (by omega : ¬ i < 8), if_neg (by omega : ¬ i < 11), if_neg (by omega : ¬ i < 12), if_neg (by omega : ¬ i < 23), if_neg (by omega : ¬ i < 24), if_neg (by omega : ¬ i < 26), if_neg (by omega : ¬ i < 28), if_neg (by omega : ¬ i < 29), if_neg (by omega : ¬ i < 31), if_neg (by omega : ¬ i < 32), if_neg (by omega : ¬ i < 33), if_neg (by omega : ¬ i < 40), if_neg (by omega : ¬ i < 41), if_pos (by omega : i < 42)]
theorem bs_28_18 (X : Int) (i : Nat) (h1 : 42 ≤ i) (h2 : i ≤ 42) : bT X 28 i = (0, 64) := by
  show (if i < 2 then (-2147483648, 2147483647) else if i < 4 then (0, 940) else if i < 5 then (0, 900) else if i < 7 then (0, 940) else if i < 8 then (0, 4) else if i < 11 then (-2147483648, 2147483647) else if i < 12 then (0, 940) else if i < 23 then (-2147483648, 2147483647) else if i < 24 then (0, 8) else if i < 26 then (0, 1) else if i < 28 then (-2147483648, 2147483647) else if i < 29 then (0, 6) else if i < 31 then (-2147483648, 2147483647) else if i < 32 then (0, 6) else if i < 33 then (0, 1) else if i < 40 then (-2147483648, 2147483647) else if i < 41 then (0, 1) else if i < 42 then (-2147483648, 2147483647) else if i < 43 then (0, 64) else if i < 46 then (-2147483648, 2147483647) else if i < 47 then (0, 40) else if i < 48 then (0, 1) else if i < 49 then (-2147483648, 2147483647) else if i < 50 then (0, 60) else if i < 51 then (0, 20) else if i < 52 then (0, 8) else (-2147483648, 2147483647)) = _
  rw [if_neg (by omega : ¬ i < 2), if_neg (by omega : ¬ i < 4), if_neg (by omega : ¬ i < 5), if_neg (by omega : ¬ i < 7), if_neg (by omega : ¬ i < 8), if_neg (by omega : ¬ i < 11), if_neg (by omega : ¬ i < 12), if_neg (by omega : ¬ i < 23), if_neg (by omega : ¬ i < 24), if_neg (by omega : ¬ i < 26), if_neg (by omega : ¬ i < 28), if_neg (by omega : ¬ i < 29), if_neg (by omega : ¬ i < 31), if_neg (by omega : ¬ i < 32), if_neg (by omega : ¬ i < 33), if_neg (by omega : ¬ i < 40), if_neg (by omega : ¬ i < 41), if_neg (by omega : ¬ i < 42), if_pos (by omega : i < 43)]
theorem bs_28_19 (X : Int) (i : Nat) (h1 : 43 ≤ i) (h2 : i ≤ 45) : bT X 28 i = (-2147483648, 2147483647) := by
  show (if i < 2 then (-2147483648, 2147483647) else if i < 4 then (0, 940) else if i < 5 then (0, 900) else if i < 7 then (0, 940) else if i < 8 then (0, 4) else if i < 11 then (-2147483648, 2147483647) else if i < 12 then (0, 940) else if i < 23 then (-2147483648, 2147483647) else if i < 24 then (0, 8) else if i < 26 then (0, 1) else if i < 28 then (-2147483648, 2147483647) else if i < 29 then (0, 6) else if i < 31 then (-2147483648, 2147483647) else if i < 32 then (0, 6) else if i < 33 then (0, 1) else if i < 40 then (-2147483648, 2147483647) else if i < 41 then (0, 1) else if i < 42 then (-2147483648, 2147483647) else if i < 43 then (0, 64) else if i < 46 then (-2147483648, 2147483647) else if i < 47 then (0, 40) else if i < 48 then (0, 1) else if i < 49 then (-2147483648, 2147483647) else if i < 50 then (0, 60) else if i < 51 then (0, 20) else if i < 52 then (0, 8) else (-2147483648, 2147483647)) = _
  rw [if_neg (by omega : ¬ i < 2), if_neg (by omega : ¬ i < 4), if_neg (by omega : ¬ i < 5), if_neg (by omega : ¬ i < 7), if_neg (by omega : ¬ i < 8), if_neg (by omega : ¬ i < 11), if_neg (by omega : ¬ i < 12), if_neg (by omega : ¬ i < 23), if_neg (by omega : ¬ i < 24), if_neg (by omega : ¬ i < 26), if_neg (by omega : ¬ i < 28), if_neg (by omega : ¬ i < 29), if_neg (by omega : ¬ i < 31), if_neg (by omega : ¬ i < 32), if_neg (by omega : ¬ i < 33), if_neg (by omega : ¬ i < 40), if_neg (by omega : ¬ i < 41), if_neg (by omega : ¬ i < 42), if_neg (by omega : ¬ i < 43), if_pos (by omega : i < 46)]
theorem bs_28_20 (X : Int) (i : Nat) (h1 : 46 ≤ i) (h2 : i ≤ 46) : bT X 28 i = (0, 40) := by
  show (if i < 2 then (-2147483648, 2147483647) else if i < 4 then (0, 940) else if i < 5 then (0, 900) else if i < 7 then (0, 940) else if i < 8 then (0, 4) else if i < 11 then (-2147483648, 2147483647) else if i < 12 then (0, 940) else if i < 23 then (-2147483648, 2147483647) else if i < 24 then (0, 8) else if i < 26 then (0, 1) else if i < 28 then (-2147483648, 2147483647) else if i < 29 then (0, 6) else if i < 31 then (-2147483648, 2147483647) else if i < 32 then (0, 6) else if i < 33 then (0, 1) else if i < 40 then (-2147483648, 2147483647) else if i < 41 then (0, 1) else if i < 42 then (-2147483648, 2147483647) else if i < 43 then (0, 64) else if i < 46 then (-2147483648, 2147483647) else if i < 47 then (0, 40) else if i < 48 then (0, 1) else if i < 49 then (-2147483648, 2147483647) else if i < 50 then (0, 60) else if i < 51 then (0, 20) else if i < 52 then (0, 8) else (-2147483648, 2147483647)) = _
  rw [if_neg (by omega : ¬ i < 2), if_neg (by omega : ¬ i < 4), if_neg (by omega : ¬ i < 5), if_neg (by omega : ¬ i < 7), if_neg (by omega : ¬ i < 8), if_neg (by omega : ¬ i < 11), if_neg (by omega : ¬ i < 12), if_neg (by omega : ¬ i < 23), if_neg (by omega : ¬ i < 24), if_neg (by omega : ¬ i < 26), if_neg (by omega : ¬ i < 28), if_neg (by omega : ¬ i < 29), if_neg (by omega : ¬ i < 31), if_neg (by omega : ¬ i < 32), if_neg (by omega : ¬ i < 33), if_neg (by omega : ¬ i < 40), if_neg (by omega : ¬ i < 41), if_neg (by omega : ¬ i < 42), if_neg (by omega : ¬ i < 43), if_neg (by omega : ¬ i < 46), if_pos (by omega : i < 47)]
theorem bs_28_21 (X : Int) (i : Nat) (h1 : 47 ≤ i) (h2 : i ≤ 47) : bT X 28 i = (0, 1) := by
  show (if i < 2 then (-2147483648, 2147483647) else if i < 4 then (0, 940) else if i < 5 then (0, 900) else if i < 7 then (0, 940) else if i < 8 then (0, 4) else if i < 11 then (-2147483648, 2147483647) else if i < 12 then (0, 940) else if i < 23 then (-2147483648, 2147483647) else if i < 24 then (0, 8) else if i < 26 then (0, 1) else if i < 28 then (-2147483648, 2147483647) else if i < 29 then (0, 6) else if i < 31 then (-2147483648, 2147483647) else if i < 32 then (0, 6) else if i < 33 then (0, 1) else if i < 40 then (-2147483648, 2147483647) else if i < 41 then (0, 1) else if i < 42 then (-2147483648, 2147483647) else if i < 43 then (0, 64) else if i < 46 then (-2147483648, 2147483647) else if i < 47 then (0, 40) else if i < 48 then (0, 1) else if i < 49 then (-2147483648, 2147483647) else if i < 50 then (0, 60) else if i < 51 then (0, 20) else if i < 52 then (0, 8) else (-2147483648, 2147483647)) = _
  rw [if_neg (by omega : ¬ i < 2), if_neg (by omega : ¬ i < 4), if_neg (by omega : ¬ i < 5), if_neg (by omega : ¬ i < 7), if_neg (by omega : ¬ i < 8), if_neg (by omega : ¬ i < 11), if_neg (by omega : ¬ i < 12), if_neg (by omega : ¬ i < 23), if_neg (by omega : ¬ i < 24), if_neg (by omega : ¬ i < 26), if_neg (by omega : ¬ i < 28), if_neg (by omega : ¬ i < 29), if_neg (by omega : ¬ i < 31), if_neg (by omega : ¬ i < 32), if_neg (by omega : ¬ i < 33), if_neg (by omega : ¬ i < 40), if_neg (by omega : ¬ i < 41), if_neg (by omega : ¬ i < 42), if_neg (by omega : ¬ i < 43), if_neg (by omega : ¬ i < 46), if_neg (by omega : ¬ i < 47), if_pos (by omega : i < 48)]
theorem bs_28_22 (X : Int) (i : Nat) (h1 : 48 ≤ i) (h2 : i ≤ 48) : bT X 28 i = (-2147483648, 2147483647) := by
  show (if i < 2 then (-2147483648, 2147483647) else if i < 4 then (0, 940) else if i < 5 then (0, 900) else if i < 7 then (0, 940) else if i < 8 then (0, 4) else if i < 11 then (-2147483648, 2147483647) else if i < 12 then (0, 940) else if i < 23 then (-2147483648, 2147483647) else if i < 24 then (0, 8) else if i < 26 then (0, 1) else if i < 28 then (-2147483648, 2147483647) else if i < 29 then (0, 6) else if i < 31 then (-2147483648, 2147483647) else if i < 32 then (0, 6) else if i < 33 then (0, 1) else if i < 40 then (-2147483648, 2147483647) else if i < 41 then (0, 1) else if i < 42 then (-2147483648, 2147483647) else if i < 43 then (0, 64) else if i < 46 then (-2147483648, 2147483647) else if i < 47 then (0, 40) else if i < 48 then (0, 1) else if i < 49 then (-2147483648, 2147483647) else if i < 50 then (0, 60) else if i < 51 then (0, 20) else if i < 52 then (0, 8) else (-2147483648, 2147483647)) = _
  rw [if_neg (by omega : ¬ i < 2), if_neg (by omega : ¬ i < 4), if_neg (by omega : ¬ i < 5), if_neg (by omega : ¬ i < 7), if_neg (by omega : ¬ i < 8), if_neg (by omega : ¬ i < 11), if_neg (by omega : ¬ i < 12), if_neg (by omega : ¬ i < 23), if_neg (by omega : ¬ i < 24), if_neg (by omega : ¬ i < 26), if_neg (by omega : ¬ i < 28), if_neg (by omega : ¬ i < 29), if_neg (by omega : ¬ i < 31), if_neg (by omega : ¬ i < 32), if_neg (by omega : ¬ i < 33), if_neg (by omega : ¬ i < 40), if_neg (by omega : ¬ i < 41), if_neg (by omega : ¬ i < 42), if_neg (by omega : ¬ i < 43), if_neg (by omega : ¬ i < 46), if_neg (by omega : ¬ i < 47), if_neg (by omega : ¬ i < 48), if_pos (by omega : i < 49)]
theorem bs_28_23 (X : Int) (i : Nat) (h1 : 49 ≤ i) (h2 : i ≤ 49) : bT X 28 i = (0, 60) := by
  show (if i < 2 then (-2147483648, 2147483647) else if i < 4 then (0, 940) else if i < 5 then (0, 900) else if i < 7 then (0, 940) else if i < 8 then (0, 4) else if i < 11 then (-2147483648, 2147483647) else if i < 12 then (0, 940) else if i < 23 then (-2147483648, 2147483647) else if i < 24 then (0, 8) else if i < 26 then (0, 1) else if i < 28 then (-2147483648, 2147483647) else if i < 29 then (0, 6) else if i < 31 then (-2147483648, 2147483647) else if i < 32 then (0, 6) else if i < 33 then (0, 1) else if i < 40 then (-2147483648, 2147483647) else if i < 41 then (0, 1) else if i < 42 then (-2147483648, 2147483647) else if i < 43 then (0, 64) else if i < 46 then (-2147483648, 2147483647) else if i < 47 then (0, 40) else if i < 48 then (0, 1) else if i < 49 then (-2147483648, 2147483647) else if i < 50 then (0, 60) else if i < 51 then (0, 20) else if i < 52 then (0, 8) else (-2147483648, 2147483647)) = _
  rw [if_neg (by omega : ¬ i < 2), if_neg (by omega : ¬ i < 4), if_neg (by omega : ¬ i < 5), if_neg (by omega : ¬ i < 7), if_neg (by omega : ¬ i < 8), if_neg (by omega : ¬ i < 11), if_neg (by omega : ¬ i < 12), if_neg (by omega : ¬ i < 23), if_neg (by omega : ¬ i < 24), if_neg (by omega : ¬ i < 26), if_neg (by omega : ¬ i < 28), if_neg (by omega : ¬ i < 29), if_neg (by omega : ¬ i < 31), if_neg (by omega : ¬ i < 32), if_neg (by omega : ¬ i < 33), if_neg (by omega : ¬ i < 40), if_neg (by omega : ¬ i < 41), if_neg (by omega : ¬ i < 42), if_neg (by omega : ¬ i < 43), if_neg (by omega : ¬ i < 46), if_neg (by omega : ¬ i < 47), if_neg (by omega : ¬ i < 48), if_neg (by omega : ¬ i < 49), if_pos (by omega : i < 50)]
theorem bs_28_24 (X : Int) (i : Nat) (h1 : 50 ≤ i) (h2 : i ≤ 50) : bT X 28 i = (0, 20) := by
  show (if i < 2 then (-2147483648, 2147483647) else if i < 4 then (0, 940) else if i < 5 then (0, 900) else if i < 7 then (0, 940) else if i < 8 then (0, 4) else if i < 11 then (-2147483648, 2147483647) else if i < 12 then (0, 940) else if i < 23 then (-2147483648, 2147483647) else if i < 24 then (0, 8) else if i < 26 then (0, 1) else if i < 28 then (-2147483648, 2147483647) else if i < 29 then (0, 6) else if i < 31 then (-2147483648, 2147483647) else if i < 32 then (0, 6) else if i < 33 then (0, 1) else if i < 40 then (-2147483648, 2147483647) else if i < 41 then (0, 1) else if i < 42 then (-2147483648, 2147483647) else if i < 43 then (0, 64) else if i < 46 then (-2147483648, 2147483647) else if i < 47 then (0, 40) else if i < 48 then (0, 1) else if i < 49 then (-2147483648, 2147483647) else if i < 50 then (0, 60) else if i < 51 then (0, 20) else if i < 52 then (0, 8) else (-2147483648, 2147483647)) = _
  rw [if_neg (by omega : ¬ i < 2), if_neg (by omega : ¬ i < 4), if_neg (by omega : ¬ i < 5), if_neg (by omega : ¬ i < 7), if_neg (by omega : ¬ i < 8), if_neg (by omega : ¬ i < 11), if_neg (by omega : ¬ i < 12), if_neg (by omega : ¬ i < 23), if_neg (by omega : ¬ i < 24), if_neg (by omega : ¬ i < 26), if_neg (by omega : ¬ i < 28), if_neg (by omega : ¬ i < 29), if_neg (by omega : ¬ i < 31), if_neg (by omega : ¬ i < 32), if_neg (by omega : ¬ i < 33), if_neg (by omega : ¬ i < 40), if_neg (by omega : ¬ i < 41), if_neg (by omega : ¬ i < 42), if_neg (by omega : ¬ i < 43), if_neg (by omega : ¬ i < 46), if_neg (by omega : ¬ i < 47), if_neg (by omega : ¬ i < 48), if_neg (by omega : ¬ i < 49), if_neg (by omega : ¬ i < 50), if_pos (by omega : i < 51)]
theorem bs_28_25 (X : Int) (i : Nat) (h1 : 51 ≤ i) (h2 : i ≤ 51) : bT X 28 i = (0, 8) := by
  show (if i < 2 then (-2147483648, 2147483647) else if i < 4 then (0, 940) else if i < 5 then (0, 900) else if i < 7 then (0, 940) else if i < 8 then (0, 4) else if i < 11 then (-2147483648, 2147483647) else if i < 12 then (0, 940) else if i < 23 then (-2147483648, 2147483647) else if i < 24 then (0, 8) else if i < 26 then (0, 1) else if i < 28 then (-2147483648, 2147483647) else if i < 29 then (0, 6) else if i < 31 then (-2147483648, 2147483647) else if i < 32 then (0, 6) else if i < 33 then (0, 1) else if i < 40 then (-2147483648, 2147483647) else if i < 41 then (0, 1) else if i < 42 then (-2147483648, 2147483647) else if i < 43 then (0, 64) else if i < 46 then (-2147483648, 2147483647) else if i < 47 then (0, 40) else if i < 48 then (0, 1) else if i < 49 then (-2147483648, 2147483647) else if i < 50 then (0, 60) else if i < 51 then (0, 20) else if i < 52 then (0, 8) else (-2147483648, 2147483647)) = _
  rw [if_neg (by omega : ¬ i < 2), if_neg (by omega : ¬ i < 4), if_neg (by omega : ¬ i < 5), if_neg (by omega : ¬ i < 7), if_neg (by omega : ¬ i < 8), if_neg (by omega : ¬ i < 11), if_neg (by omega : ¬ i < 12), if_neg (by omega : ¬ i < 23), if_neg (by omega : ¬ i < 24), if_neg (by omega : ¬ i < 26), if_neg (by omega : ¬ i < 28), if_neg (by omega : ¬ i < 29), if_neg (by omega : ¬ i < 31), if_neg (by omega : ¬ i < 32), if_neg (by omega : ¬ i < 33), if_neg (by omega : ¬ i < 40), if_neg (by omega : ¬ i < 41), if_neg (by omega : ¬ i < 42), if_neg (by omega : ¬ i < 43), if_neg (by omega : ¬ i < 46), if_neg (by omega : ¬ i < 47), if_neg (by omega : ¬ i < 48), if_neg (by omega : ¬ i < 49), if_neg (by omega : ¬ i < 50), if_neg (by omega : ¬ i < 51), if_pos (by omega : i < 52)]
theorem bs_28_26 (X : Int) (i : Nat) (h1 : 52 ≤ i) : bT X 28 i = (-2147483648, 2147483647) := by
  show (if i < 2 then (-2147483648, 2147483647) else if i < 4 then (0, 940) else if i < 5 then (0, 900) else if i < 7 then (0, 940) else if i < 8 then (0, 4) else if i < 11 then (-2147483648, 2147483647) else if i < 12 then (0, 940) else if i < 23 then (-2147483648, 2147483647) else if i < 24 then (0, 8) else if i < 26 then (0, 1) else if i < 28 then (-2147483648, 2147483647) else if i < 29 then (0, 6) else if i < 31 then (-2147483648, 2147483647) else if i < 32 then (0, 6) else if i < 33 then (0, 1) else if i < 40 then (-2147483648, 2147483647) else if i < 41 then (0, 1) else if i < 42 then (-2147483648, 2147483647) else if i < 43 then (0, 64) else if i < 46 then (-2147483648, 2147483647) else if i < 47 then (0, 40) else if i < 48 then (0, 1) else if i < 49 then (-2147483648, 2147483647) else if i < 50 then (0, 60) else if i < 51 then (0, 20) else if i < 52 then (0, 8) else (-2147483648, 2147483647)) = _
  rw [if_neg (by omega : ¬ i < 2), if_neg (by omega : ¬ i < 4), if_neg (by omega : ¬ i < 5), if_neg (by omega : ¬ i < 7), if_neg (by omega : ¬ i < 8), if_neg (by omega : ¬ i < 11), if_neg (by omega : ¬ i < 12), if_neg (by omega : ¬ i < 23), if_neg (by omega : ¬ i < 24), if_neg (by omega : ¬ i < 26), if_neg (by omega : ¬ i < 28), if_neg (by omega : ¬ i < 29), if_neg (by omega : ¬ i < 31), if_neg (by omega : ¬ i < 32), if_neg (by omega : ¬ i < 33), if_neg (by omega : ¬ i < 40), if_neg (by omega : ¬ i < 41), if_neg (by omega : ¬ i < 42), if_neg (by omega : ¬ i < 43), if_neg (by omega : ¬ i < 46), if_neg (by omega : ¬ i < 47), if_neg (by omega : ¬ i < 48), if_neg (by omega : ¬ i < 49), if_neg (by omega : ¬ i < 50), if_neg (by omega : ¬ i < 51), if_neg (by omega : ¬ i < 52)]
