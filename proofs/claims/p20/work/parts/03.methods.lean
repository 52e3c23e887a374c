/-! methods: name, code, locals, what they give, static, places of their words (code; static or instanceMethod; selects; initialized) -/
abbrev xMT : Type := MethodName × Nat × Option FieldType × Bool × Nat × Nat × Nat × Nat
def xm0 : List xMT := [(⟨"OneHeadLaw", "law", "([I)Z"⟩, 4, (some .boolean), true, 0, 0, 0, 101),
  (⟨"OneHead", "<init>", "()V"⟩, 1, none, false, 128, 127, 0, 102),
  (⟨"OneHead$Tape", "<init>", "()V"⟩, 1, none, false, 136, 135, 0, 103),
  (⟨"OneHead$Village", "<init>", "()V"⟩, 1, none, false, 168, 167, 0, 104),
  (⟨"OneHead$Times", "<init>", "()V"⟩, 1, none, false, 174, 173, 0, 105),
  (⟨"OneHead$VillageReader", "<init>", "(LOneHead$Tape;LOneHead$Village;)V"⟩, 3, none, false, 324, 323, 0, 106),
  (⟨"OneHead$Tellings", "<init>", "()V"⟩, 1, none, false, 345, 344, 0, 107),
  (⟨"OneHead$Fighting", "<init>", "()V"⟩, 1, none, false, 377, 376, 0, 108),
  (⟨"OneHead$Chances", "<init>", "()V"⟩, 1, none, false, 398, 397, 0, 109),
  (⟨"OneHead$Product", "<init>", "()V"⟩, 1, none, false, 411, 410, 0, 110),
  (⟨"OneHead$Pieces", "<init>", "()V"⟩, 1, none, false, 427, 426, 0, 111),
  (⟨"OneHead$Runner", "<init>", "(LOneHead$Chances;)V"⟩, 2, none, false, 481, 480, 0, 112),
  (⟨"OneHead$Run", "<init>", "()V"⟩, 1, none, false, 487, 486, 0, 113),
  (⟨"java/util/Arrays", "fill", "([II)V"⟩, 4, none, true, 527, 526, 0, 114),
  (⟨"OneHead", "feed", "(IIIII)I"⟩, 6, (some .int), false, 587, 585, 586, 102),
  (⟨"OneHead$Tape", "addFour", "(I)V"⟩, 3, none, false, 591, 589, 590, 103)]
def xm1 : List xMT := [(⟨"OneHead", "end", "(I)I"⟩, 2, (some .int), false, 595, 593, 594, 102),
  (⟨"OneHead", "village", "()I"⟩, 3, (some .int), false, 599, 597, 598, 102),
  (⟨"OneHead$VillageReader", "read", "(LOneHead$Village;)I"⟩, 3, (some .int), false, 603, 601, 602, 106),
  (⟨"OneHead$Village", "clear", "()V"⟩, 1, none, false, 607, 605, 606, 104),
  (⟨"OneHead$Tape", "restart", "()V"⟩, 1, none, false, 611, 609, 610, 103),
  (⟨"OneHead$Tape", "advance", "()V"⟩, 1, none, false, 615, 613, 614, 103),
  (⟨"OneHead$Tape", "byteAt", "(I)I"⟩, 2, (some .int), false, 619, 617, 618, 103),
  (⟨"OneHead$Tape", "kindOf", "(I)I"⟩, 1, (some .int), true, 622, 621, 0, 103),
  (⟨"OneHead$Tape", "withSign", "(JI)J"⟩, 3, (some .long), true, 625, 624, 0, 103),
  (⟨"OneHead$Tape", "isWord", "(Ljava/lang/String;)Z"⟩, 5, (some .boolean), false, 634, 632, 633, 103),
  (⟨"OneHead$VillageReader", "readPerson", "()V"⟩, 5, none, false, 686, 685, 0, 106),
  (⟨"OneHead$VillageReader", "fail", "(I)V"⟩, 2, none, false, 690, 689, 1, 106),
  (⟨"OneHead$VillageReader", "readToken", "(I)J"⟩, 2, (some .long), false, 694, 693, 2, 106),
  (⟨"OneHead$Village", "personNamed", "(J)I"⟩, 4, (some .int), false, 700, 698, 699, 104),
  (⟨"OneHead$VillageReader", "readNumber", "(II)I"⟩, 5, (some .int), false, 704, 703, 3, 106),
  (⟨"OneHead$VillageReader", "readOption", "(Ljava/lang/String;III)I"⟩, 6, (some .int), false, 709, 708, 4, 106)]
def xm2 : List xMT := [(⟨"OneHead$Village", "addPerson", "(JII)V"⟩, 5, none, false, 713, 711, 712, 104),
  (⟨"OneHead", "put", "([III)V"⟩, 3, none, true, 716, 715, 0, 102),
  (⟨"OneHead$VillageReader", "readMeeting", "()V"⟩, 5, none, false, 721, 720, 5, 106),
  (⟨"OneHead$VillageReader", "readPersonBut", "(I)I"⟩, 3, (some .int), false, 725, 724, 6, 106),
  (⟨"OneHead$Village", "addMeeting", "(IIII)V"⟩, 5, none, false, 730, 728, 729, 104),
  (⟨"OneHead$VillageReader", "readNews", "()V"⟩, 5, none, false, 735, 734, 7, 106),
  (⟨"OneHead$Village", "newsFrom", "(I)I"⟩, 4, (some .int), false, 739, 737, 738, 104),
  (⟨"OneHead", "at", "([II)I"⟩, 2, (some .int), true, 742, 741, 0, 102),
  (⟨"OneHead$Village", "addNews", "(IIII)V"⟩, 5, none, false, 747, 745, 746, 104),
  (⟨"OneHead$VillageReader", "readBar", "()V"⟩, 3, none, false, 752, 751, 8, 106),
  (⟨"OneHead$VillageReader", "closeClause", "()V"⟩, 1, none, false, 757, 756, 9, 106),
  (⟨"OneHead$Village", "layTimes", "()V"⟩, 3, none, false, 761, 759, 760, 104),
  (⟨"OneHead$Times", "add", "(IIIII)V"⟩, 6, none, false, 765, 763, 764, 105),
  (⟨"OneHead$Times", "upTo", "(I)I"⟩, 4, (some .int), false, 770, 768, 769, 105),
  (⟨"OneHead$Runner", "forget", "()V"⟩, 1, none, false, 775, 773, 774, 112),
  (⟨"OneHead", "fault", "(I)I"⟩, 2, (some .int), false, 780, 778, 779, 102)]
def xm3 : List xMT := [(⟨"OneHead", "told", "(I)I"⟩, 3, (some .int), false, 784, 782, 783, 102),
  (⟨"OneHead", "sizeOf", "(I)I"⟩, 2, (some .int), false, 788, 787, 10, 102),
  (⟨"OneHead", "entry", "([III)I"⟩, 3, (some .int), true, 791, 790, 0, 102),
  (⟨"OneHead", "meeting", "(II)I"⟩, 3, (some .int), false, 796, 794, 795, 102),
  (⟨"OneHead", "time", "(II)I"⟩, 3, (some .int), false, 800, 798, 799, 102),
  (⟨"OneHead", "judge", "()I"⟩, 2, (some .int), false, 804, 802, 803, 102),
  (⟨"OneHead$Tellings", "read", "(LOneHead$Tape;)Z"⟩, 5, (some .boolean), false, 808, 806, 807, 107),
  (⟨"OneHead$Tellings", "readBelow", "(LOneHead$Tape;I)I"⟩, 3, (some .int), true, 812, 811, 0, 107),
  (⟨"OneHead$Tellings", "doAll", "(LOneHead$Village;)I"⟩, 3, (some .int), false, 818, 816, 817, 107),
  (⟨"OneHead$Tellings", "isTimely", "(ILOneHead$Village;)Z"⟩, 4, (some .boolean), false, 823, 821, 822, 107),
  (⟨"OneHead$Tellings", "tell", "(LOneHead$Village;II)Z"⟩, 8, (some .boolean), false, 827, 826, 11, 107),
  (⟨"OneHead$Village", "hasNews", "(I)Z"⟩, 2, (some .boolean), false, 831, 829, 830, 104),
  (⟨"OneHead$Tellings", "heldBy", "(LOneHead$Village;I)I"⟩, 5, (some .int), false, 835, 834, 12, 107),
  (⟨"OneHead", "rightOrFirstWrong", "(I)I"⟩, 2, (some .int), false, 839, 838, 13, 102),
  (⟨"OneHead", "judged", "(II)I"⟩, 3, (some .int), false, 843, 841, 842, 102),
  (⟨"OneHead", "soon", "(IIII)I"⟩, 5, (some .int), false, 848, 846, 847, 102)]
def xm4 : List xMT := [(⟨"OneHead$Village", "hasPerson", "(I)Z"⟩, 2, (some .boolean), false, 852, 850, 851, 104),
  (⟨"OneHead$Times", "hasMoment", "(I)Z"⟩, 2, (some .boolean), false, 856, 854, 855, 105),
  (⟨"OneHead$Times", "soonest", "(IIII)I"⟩, 8, (some .int), false, 860, 858, 859, 105),
  (⟨"OneHead$Times", "isSure", "(I)Z"⟩, 2, (some .boolean), false, 864, 862, 863, 105),
  (⟨"OneHead", "surest", "(IIIIII)I"⟩, 8, (some .int), false, 868, 866, 867, 102),
  (⟨"OneHead$Chances", "lookBack", "(LOneHead$Times;IIII)V"⟩, 10, none, false, 873, 871, 872, 109),
  (⟨"OneHead$Chances", "start", "(II)V"⟩, 3, none, false, 877, 876, 14, 109),
  (⟨"java/util/Arrays", "fill", "([JJ)V"⟩, 5, none, true, 880, 879, 0, 114),
  (⟨"OneHead$Chances", "compareRows", "(II)I"⟩, 5, (some .int), false, 891, 889, 890, 109),
  (⟨"java/lang/Long", "compare", "(JJ)I"⟩, 4, (some .int), true, 894, 893, 0, 121),
  (⟨"OneHead$Chances", "raise", "(III)V"⟩, 4, none, false, 898, 897, 15, 109),
  (⟨"OneHead$Chances", "copy", "(II)V"⟩, 3, none, false, 902, 901, 16, 109),
  (⟨"OneHead$Chances", "subtract", "(II)V"⟩, 8, none, false, 909, 908, 17, 109),
  (⟨"OneHead$Chances", "scale", "(III)V"⟩, 11, none, false, 914, 913, 18, 109),
  (⟨"OneHead$Chances", "add", "(II)V"⟩, 8, none, false, 918, 917, 19, 109),
  (⟨"OneHead$Chances", "millionths", "(I)I"⟩, 2, (some .int), false, 922, 920, 921, 109)]
def xm5 : List xMT := [(⟨"OneHead$Chances", "figures", "(I)I"⟩, 5, (some .int), false, 928, 926, 927, 109),
  (⟨"OneHead$Chances", "zerosAtEnd", "(J)I"⟩, 5, (some .int), true, 931, 930, 0, 109),
  (⟨"OneHead", "bars", "(IIII)I"⟩, 8, (some .int), false, 936, 934, 935, 102),
  (⟨"OneHead", "all", "(I)I"⟩, 2, (some .int), false, 940, 938, 939, 102),
  (⟨"OneHead$Pieces", "workOut", "(LOneHead$Village;)V"⟩, 5, none, false, 944, 942, 943, 111),
  (⟨"OneHead$Pieces", "start", "(LOneHead$Village;)V"⟩, 7, none, false, 948, 947, 20, 111),
  (⟨"OneHead$Pieces", "arrive", "(IIII)V"⟩, 8, none, false, 957, 956, 21, 111),
  (⟨"OneHead$Pieces", "setOf", "(II)I"⟩, 2, (some .int), true, 960, 959, 0, 111),
  (⟨"OneHead$Pieces", "passMeeting", "(LOneHead$Village;I)V"⟩, 5, none, false, 966, 965, 22, 111),
  (⟨"OneHead$Pieces", "tellFrom", "(III)V"⟩, 14, none, false, 970, 969, 23, 111),
  (⟨"java/lang/Integer", "bitCount", "(I)I"⟩, 1, (some .int), true, 973, 972, 0, 123),
  (⟨"OneHead$Pieces", "reward", "(LOneHead$Village;I)V"⟩, 6, none, false, 980, 979, 24, 111),
  (⟨"OneHead", "worthApart", "()I"⟩, 4, (some .int), false, 985, 984, 25, 102),
  (⟨"OneHead", "together", "(II)I"⟩, 4, (some .int), false, 989, 987, 988, 102),
  (⟨"OneHead$Pieces", "firstTogether", "(II)I"⟩, 5, (some .int), false, 993, 991, 992, 111),
  (⟨"OneHead", "reply", "(I)I"⟩, 3, (some .int), false, 997, 995, 996, 102)]
def xm6 : List xMT := [(⟨"OneHead", "isWay", "()Z"⟩, 3, (some .boolean), false, 1001, 1000, 26, 102),
  (⟨"OneHead", "personOnTape", "(I)I"⟩, 3, (some .int), false, 1005, 1004, 27, 102),
  (⟨"OneHead", "goneBack", "(I)I"⟩, 5, (some .int), false, 1010, 1009, 28, 102),
  (⟨"OneHead$Times", "nextSureMeeting", "(III)I"⟩, 6, (some .int), false, 1014, 1012, 1013, 105),
  (⟨"OneHead", "ring", "(I)I"⟩, 3, (some .int), false, 1018, 1016, 1017, 102),
  (⟨"OneHead", "isRing", "()Z"⟩, 4, (some .boolean), false, 1022, 1021, 29, 102),
  (⟨"OneHead", "chanceOfRing", "(I)I"⟩, 4, (some .int), false, 1026, 1025, 30, 102),
  (⟨"OneHead$Product", "startAtOne", "()V"⟩, 1, none, false, 1030, 1028, 1029, 110),
  (⟨"OneHead$Product", "timesThousandths", "(I)V"⟩, 7, none, false, 1035, 1033, 1034, 110),
  (⟨"OneHead$Product", "millionths", "()I"⟩, 4, (some .int), false, 1040, 1038, 1039, 110),
  (⟨"OneHead$Product", "limbAt", "(I)J"⟩, 2, (some .long), false, 1044, 1043, 31, 110),
  (⟨"OneHead$Product", "tenTo", "(I)J"⟩, 4, (some .long), true, 1047, 1046, 0, 110),
  (⟨"OneHead$Product", "withoutDigits", "(JI)J"⟩, 6, (some .long), true, 1051, 1050, 0, 110),
  (⟨"OneHead", "bestRing", "(I)I"⟩, 4, (some .int), false, 1055, 1053, 1054, 102),
  (⟨"OneHead", "safestOutside", "(I)I"⟩, 4, (some .int), false, 1059, 1058, 32, 102),
  (⟨"OneHead", "where", "(IIIIII)I"⟩, 7, (some .int), false, 1063, 1061, 1062, 102)]
def xm7 : List xMT := [(⟨"OneHead", "spread", "(IIIII)Z"⟩, 6, (some .boolean), false, 1067, 1066, 33, 102),
  (⟨"OneHead$Chances", "goForward", "(LOneHead$Times;IIIII)V"⟩, 11, none, false, 1071, 1069, 1070, 109),
  (⟨"OneHead", "ask", "(IIIII)I"⟩, 8, (some .int), false, 1075, 1073, 1074, 102),
  (⟨"OneHead", "fight", "(I)I"⟩, 3, (some .int), false, 1080, 1078, 1079, 102),
  (⟨"OneHead$Fighting", "doAll", "(LOneHead$Village;LOneHead$Tellings;I)I"⟩, 5, (some .int), false, 1084, 1082, 1083, 108),
  (⟨"OneHead$Fighting", "tell", "(LOneHead$Village;II)Z"⟩, 7, (some .boolean), false, 1090, 1089, 34, 108),
  (⟨"OneHead", "believe", "(I)I"⟩, 2, (some .int), false, 1094, 1092, 1093, 102),
  (⟨"OneHead", "rule", "(III)I"⟩, 5, (some .int), false, 1098, 1096, 1097, 102),
  (⟨"OneHead", "begin", "(I)I"⟩, 2, (some .int), false, 1103, 1101, 1102, 102),
  (⟨"OneHead$Run", "start", "(LOneHead$Village;I)V"⟩, 4, none, false, 1107, 1105, 1106, 113),
  (⟨"OneHead", "go", "(I)I"⟩, 3, (some .int), false, 1114, 1112, 1113, 102),
  (⟨"OneHead$Runner", "passTime", "(LOneHead$Village;)V"⟩, 7, none, false, 1118, 1116, 1117, 112),
  (⟨"OneHead$Run", "draw", "(I)I"⟩, 2, (some .int), false, 1122, 1120, 1121, 113),
  (⟨"OneHead$Run", "piecesOf", "(I)I"⟩, 4, (some .int), false, 1131, 1129, 1130, 113),
  (⟨"OneHead$Runner", "tellThose", "(LOneHead$Village;III)V"⟩, 6, none, false, 1135, 1134, 35, 112),
  (⟨"OneHead$Runner", "mayTell", "(LOneHead$Village;III)Z"⟩, 5, (some .boolean), false, 1139, 1138, 36, 112)]
def xm8 : List xMT := [(⟨"OneHead$Runner", "wantsToTell", "(LOneHead$Village;III)Z"⟩, 11, (some .boolean), false, 1144, 1143, 37, 112),
  (⟨"OneHead$Run", "move", "(III)V"⟩, 4, none, false, 1151, 1149, 1150, 113),
  (⟨"OneHead$Village", "isLastOfDay", "(I)Z"⟩, 2, (some .boolean), false, 1156, 1154, 1155, 104),
  (⟨"OneHead$Runner", "passNight", "(LOneHead$Village;)V"⟩, 3, none, false, 1160, 1159, 38, 112),
  (⟨"OneHead$Run", "bury", "(I)V"⟩, 3, none, false, 1164, 1162, 1163, 113),
  (⟨"OneHead", "now", "(II)I"⟩, 3, (some .int), false, 1168, 1166, 1167, 102),
  (⟨"OneHead", "head", "(II)I"⟩, 3, (some .int), false, 1172, 1170, 1171, 102),
  (⟨"OneHead", "keep", "(I)I"⟩, 3, (some .int), false, 1178, 1176, 1177, 102),
  (⟨"OneHead$Runner", "slotAt", "(I)LOneHead$Run;"⟩, 2, (some (.object "OneHead$Run")), false, 1182, 1180, 1181, 112),
  (⟨"OneHead$Run", "copyFrom", "(LOneHead$Run;)V"⟩, 2, none, false, 1186, 1184, 1185, 113),
  (⟨"OneHead", "take", "(I)I"⟩, 3, (some .int), false, 1191, 1189, 1190, 102),
  (⟨"OneHead", "count", "(I)I"⟩, 2, (some .int), false, 1195, 1193, 1194, 102),
  (⟨"OneHeadModel", "<init>", "()V"⟩, 1, none, false, 1200, 1199, 0, 115),
  (⟨"OneHeadModel", "begin", "()V"⟩, 2, none, false, 1205, 1204, 39, 115),
  (⟨"OneHeadModel", "settle", "()V"⟩, 3, none, false, 1209, 1208, 40, 115),
  (⟨"OneHeadModel", "comes", "([II)V"⟩, 3, none, true, 1212, 1211, 0, 115)]
def xm9 : List xMT := [(⟨"OneHeadModel", "timesUpTo", "(I)I"⟩, 3, (some .int), false, 1216, 1215, 41, 115),
  (⟨"OneHeadModel", "feed", "(IIIII)I"⟩, 9, (some .int), false, 1399, 1397, 1398, 115),
  (⟨"OneHeadModel", "end", "(I)I"⟩, 2, (some .int), false, 1403, 1401, 1402, 115),
  (⟨"OneHeadModel", "fault", "(I)I"⟩, 2, (some .int), false, 1407, 1405, 1406, 115),
  (⟨"OneHeadModel", "village", "()I"⟩, 2, (some .int), false, 1411, 1409, 1410, 115),
  (⟨"OneHeadModel", "takeTape", "()V"⟩, 1, none, false, 1415, 1414, 42, 115),
  (⟨"OneHeadModel", "scan", "()V"⟩, 4, none, false, 1419, 1418, 43, 115),
  (⟨"OneHeadModel", "byteAt", "(I)I"⟩, 2, (some .int), false, 1423, 1422, 44, 115),
  (⟨"OneHeadModel", "isSmall", "(I)Z"⟩, 1, (some .boolean), true, 1426, 1425, 0, 115),
  (⟨"OneHeadModel", "keyAt", "(II)I"⟩, 8, (some .int), false, 1432, 1431, 45, 115),
  (⟨"OneHeadModel", "isDigit", "(I)Z"⟩, 1, (some .boolean), true, 1438, 1437, 0, 115),
  (⟨"OneHeadModel", "readClause", "()Z"⟩, 2, (some .boolean), false, 1442, 1441, 46, 115),
  (⟨"OneHeadModel", "readPerson", "()Z"⟩, 2, (some .boolean), false, 1446, 1445, 47, 115),
  (⟨"OneHeadModel", "fails", "(I)Z"⟩, 2, (some .boolean), false, 1450, 1449, 48, 115),
  (⟨"OneHeadModel", "named", "()I"⟩, 2, (some .int), false, 1454, 1453, 49, 115),
  (⟨"OneHeadModel", "readNumber", "(II)Z"⟩, 3, (some .boolean), false, 1458, 1457, 50, 115)]
def xm10 : List xMT := [(⟨"OneHeadModel", "in", "(III)Z"⟩, 3, (some .boolean), true, 1461, 1460, 0, 115),
  (⟨"OneHeadModel", "isKey", "(I)Z"⟩, 2, (some .boolean), false, 1465, 1464, 51, 115),
  (⟨"OneHeadModel", "readMeet", "()Z"⟩, 4, (some .boolean), false, 1469, 1468, 52, 115),
  (⟨"OneHeadModel", "readNews", "()Z"⟩, 4, (some .boolean), false, 1473, 1472, 53, 115),
  (⟨"OneHeadModel", "newsOf", "(I)I"⟩, 4, (some .int), false, 1477, 1476, 54, 115),
  (⟨"OneHeadModel", "readBar", "()Z"⟩, 2, (some .boolean), false, 1481, 1480, 55, 115),
  (⟨"OneHeadModel", "told", "(I)I"⟩, 3, (some .int), false, 1485, 1483, 1484, 115),
  (⟨"OneHeadModel", "isPerson", "(I)Z"⟩, 2, (some .boolean), false, 1489, 1488, 56, 115),
  (⟨"OneHeadModel", "isNews", "(I)Z"⟩, 2, (some .boolean), false, 1493, 1492, 57, 115),
  (⟨"OneHeadModel", "meeting", "(II)I"⟩, 3, (some .int), false, 1497, 1495, 1496, 115),
  (⟨"OneHeadModel", "time", "(II)I"⟩, 3, (some .int), false, 1501, 1499, 1500, 115),
  (⟨"OneHeadModel", "isTime", "(I)Z"⟩, 2, (some .boolean), false, 1505, 1504, 58, 115),
  (⟨"OneHeadModel", "judge", "()I"⟩, 3, (some .int), false, 1509, 1507, 1508, 115),
  (⟨"OneHeadModel", "areRows", "(I)Z"⟩, 3, (some .boolean), false, 1513, 1512, 59, 115),
  (⟨"OneHeadModel", "readRows", "(I)Z"⟩, 2, (some .boolean), false, 1517, 1516, 60, 115),
  (⟨"OneHeadModel", "tellRow", "(II)Z"⟩, 6, (some .boolean), false, 1521, 1520, 61, 115)]
def xm11 : List xMT := [(⟨"OneHeadModel", "metBy", "(II)I"⟩, 3, (some .int), false, 1525, 1524, 62, 115),
  (⟨"OneHeadModel", "oneAt", "(I)I"⟩, 2, (some .int), false, 1529, 1528, 63, 115),
  (⟨"OneHeadModel", "twoAt", "(I)I"⟩, 2, (some .int), false, 1533, 1532, 64, 115),
  (⟨"OneHeadModel", "isBarred", "(II)Z"⟩, 3, (some .boolean), false, 1537, 1536, 65, 115),
  (⟨"OneHeadModel", "held", "(I)I"⟩, 4, (some .int), false, 1541, 1540, 66, 115),
  (⟨"OneHeadModel", "judged", "(II)I"⟩, 3, (some .int), false, 1545, 1543, 1544, 115),
  (⟨"OneHeadModel", "soon", "(IIII)I"⟩, 6, (some .int), false, 1549, 1547, 1548, 115),
  (⟨"OneHeadModel", "isWay", "(IIII)Z"⟩, 5, (some .boolean), false, 1553, 1552, 67, 115),
  (⟨"OneHeadModel", "isAhead", "(I)Z"⟩, 2, (some .boolean), false, 1557, 1556, 68, 115),
  (⟨"OneHeadModel", "soonest", "(IIII)I"⟩, 10, (some .int), false, 1561, 1560, 69, 115),
  (⟨"OneHeadModel", "isSurely", "(I)Z"⟩, 2, (some .boolean), false, 1565, 1564, 70, 115),
  (⟨"OneHeadModel", "bars", "(IIII)I"⟩, 7, (some .int), false, 1569, 1567, 1568, 115),
  (⟨"OneHeadModel", "surest", "(IIIIII)I"⟩, 7, (some .int), false, 1573, 1571, 1572, 115),
  (⟨"OneHeadModel", "findSurest", "(IIII)V"⟩, 12, none, false, 1577, 1576, 71, 115),
  (⟨"OneHeadModel", "clearChances", "()V"⟩, 2, none, false, 1581, 1580, 72, 115),
  (⟨"OneHeadModel", "compare", "(II)I"⟩, 8, (some .int), false, 1585, 1584, 73, 115)]
def xm12 : List xMT := [(⟨"OneHeadModel", "mix", "(IIIII)V"⟩, 11, none, false, 1589, 1588, 74, 115),
  (⟨"OneHeadModel", "comesNext", "()V"⟩, 2, none, false, 1594, 1593, 75, 115),
  (⟨"OneHeadModel", "millionths", "(I)I"⟩, 5, (some .int), false, 1598, 1597, 76, 115),
  (⟨"OneHeadModel", "put", "(I)V"⟩, 3, none, false, 1602, 1601, 77, 115),
  (⟨"OneHeadModel", "bringDown", "()V"⟩, 6, none, false, 1606, 1605, 78, 115),
  (⟨"OneHeadModel", "figures", "(I)I"⟩, 3, (some .int), false, 1611, 1610, 79, 115),
  (⟨"OneHeadModel", "all", "(I)I"⟩, 2, (some .int), false, 1615, 1613, 1614, 115),
  (⟨"OneHeadModel", "allWorth", "()I"⟩, 4, (some .int), false, 1619, 1618, 80, 115),
  (⟨"OneHeadModel", "states", "()I"⟩, 3, (some .int), false, 1623, 1622, 81, 115),
  (⟨"OneHeadModel", "placesOf", "(I)V"⟩, 4, none, false, 1627, 1626, 82, 115),
  (⟨"OneHeadModel", "tellAll", "(II)V"⟩, 7, none, false, 1631, 1630, 83, 115),
  (⟨"OneHeadModel", "stateOfPlaces", "()I"⟩, 3, (some .int), false, 1635, 1634, 84, 115),
  (⟨"OneHeadModel", "inTime", "(I)I"⟩, 4, (some .int), false, 1639, 1638, 85, 115),
  (⟨"OneHeadModel", "heldAt", "(I)I"⟩, 4, (some .int), false, 1643, 1642, 86, 115),
  (⟨"OneHeadModel", "firstState", "()I"⟩, 2, (some .int), false, 1647, 1646, 87, 115),
  (⟨"OneHeadModel", "apartWorth", "()I"⟩, 3, (some .int), false, 1651, 1650, 88, 115)]
def xm13 : List xMT := [(⟨"OneHeadModel", "together", "(II)I"⟩, 8, (some .int), false, 1655, 1653, 1654, 115),
  (⟨"OneHeadModel", "areWith", "(III)Z"⟩, 5, (some .boolean), false, 1659, 1658, 89, 115),
  (⟨"OneHeadModel", "reply", "(I)I"⟩, 5, (some .int), false, 1663, 1661, 1662, 115),
  (⟨"OneHeadModel", "readPeople", "(IZ)Z"⟩, 5, (some .boolean), false, 1667, 1666, 90, 115),
  (⟨"OneHeadModel", "ring", "(I)I"⟩, 4, (some .int), false, 1671, 1669, 1670, 115),
  (⟨"OneHeadModel", "timesBy", "(II)V"⟩, 6, none, false, 1675, 1674, 91, 115),
  (⟨"OneHeadModel", "bestRing", "(I)I"⟩, 6, (some .int), false, 1680, 1678, 1679, 115),
  (⟨"OneHeadModel", "where", "(IIIIII)I"⟩, 7, (some .int), false, 1684, 1682, 1683, 115),
  (⟨"OneHeadModel", "isSought", "(IIIII)Z"⟩, 6, (some .boolean), false, 1688, 1687, 92, 115),
  (⟨"OneHeadModel", "findWhere", "(IIIII)V"⟩, 13, none, false, 1692, 1691, 93, 115),
  (⟨"OneHeadModel", "ask", "(IIIII)I"⟩, 8, (some .int), false, 1696, 1694, 1695, 115),
  (⟨"OneHeadModel", "fight", "(I)I"⟩, 9, (some .int), false, 1700, 1698, 1699, 115),
  (⟨"OneHeadModel", "believe", "(I)I"⟩, 2, (some .int), false, 1704, 1702, 1703, 115),
  (⟨"OneHeadModel", "rule", "(III)I"⟩, 5, (some .int), false, 1708, 1706, 1707, 115),
  (⟨"OneHeadModel", "begin", "(I)I"⟩, 3, (some .int), false, 1712, 1710, 1711, 115),
  (⟨"OneHeadModel", "go", "(I)I"⟩, 3, (some .int), false, 1716, 1714, 1715, 115)]
def xm14 : List xMT := [(⟨"OneHeadModel", "goOnce", "()V"⟩, 7, none, false, 1720, 1719, 94, 115),
  (⟨"OneHeadModel", "draw", "(I)I"⟩, 2, (some .int), false, 1724, 1723, 95, 115),
  (⟨"OneHeadModel", "hadBy", "(I)I"⟩, 4, (some .int), false, 1732, 1731, 96, 115),
  (⟨"OneHeadModel", "tells", "(IIII)V"⟩, 7, none, false, 1736, 1735, 97, 115),
  (⟨"OneHeadModel", "hasNow", "(I)I"⟩, 4, (some .int), false, 1740, 1739, 98, 115),
  (⟨"OneHeadModel", "would", "(IIII)Z"⟩, 5, (some .boolean), false, 1744, 1743, 99, 115),
  (⟨"OneHeadModel", "night", "()V"⟩, 3, none, false, 1748, 1747, 100, 115),
  (⟨"OneHeadModel", "now", "(II)I"⟩, 3, (some .int), false, 1752, 1750, 1751, 115),
  (⟨"OneHeadModel", "head", "(II)I"⟩, 3, (some .int), false, 1756, 1754, 1755, 115),
  (⟨"OneHeadModel", "keep", "(I)I"⟩, 3, (some .int), false, 1760, 1758, 1759, 115),
  (⟨"OneHeadModel", "isSlot", "(I)Z"⟩, 1, (some .boolean), true, 1763, 1762, 0, 115),
  (⟨"OneHeadModel", "take", "(I)I"⟩, 3, (some .int), false, 1767, 1765, 1766, 115),
  (⟨"OneHeadModel", "count", "(I)I"⟩, 2, (some .int), false, 1771, 1769, 1770, 115)]
def xmr : List (List xMT) := [xm0, xm1, xm2, xm3, xm4, xm5, xm6, xm7, xm8, xm9, xm10, xm11, xm12, xm13, xm14]
def xm (j : Nat) : xMT := (xmr.getD (j / 16) []).getD (j % 16) (⟨"", "", ""⟩, 0, none, false, 0, 0, 0, 0)
def xMn : Nat := 237
def xmy (j : Nat) : MethodName := (xm j).1
/-- a method's code is what the tables' word has (the law's apart) -/
def xmc (j : Nat) : ByteArray := match lw_tbl[(xm j).2.2.2.2.1]? with
  | some (.code _ b _ _) => b
  | _ => code
def xml (j : Nat) : Nat := (xm j).2.1
def xmv (j : Nat) : Option FieldType := (xm j).2.2.1
def xms (j : Nat) : Bool := (xm j).2.2.2.1
/-- what the tables say of method j (the law, 0, apart) -/
def xmok (j : Nat) : Bool :=
  (match lw_tbl[(xm j).2.2.2.2.1]? with
    | some (.code y _ l r) => decide (y = xmy j) && decide (l = xml j) && decide (r = xmv j)
    | _ => false) &&
  decide (lw_tbl[(xm j).2.2.2.2.2.1]? = some (if xms j then .static (xmy j) else .instanceMethod (xmy j))) &&
  (xms j || decide ((xmy j).name = "<init>") || decide (lw_tbl[(xm j).2.2.2.2.2.2.1]? = some (.selects (xmy j).cls (xmy j) (xmy j)))) &&
  decide (lw_tbl[(xm j).2.2.2.2.2.2.2]? = some (.initialized (xmy j).cls)) &&
  decide ((xmy j).cls ≠ "java/lang/invoke/MethodHandle") && decide ((xmy j).cls ≠ "java/lang/invoke/VarHandle") && plainName (xmy j).cls && decide (xml j ≤ 40)
theorem xmok_1 : (List.range' 1 30).all xmok = true := by decide +kernel
theorem xmok_31 : (List.range' 31 30).all xmok = true := by decide +kernel
theorem xmok_61 : (List.range' 61 30).all xmok = true := by decide +kernel
theorem xmok_91 : (List.range' 91 30).all xmok = true := by decide +kernel
theorem xmok_121 : (List.range' 121 30).all xmok = true := by decide +kernel
theorem xmok_151 : (List.range' 151 30).all xmok = true := by decide +kernel
theorem xmok_181 : (List.range' 181 30).all xmok = true := by decide +kernel
theorem xmok_211 : (List.range' 211 26).all xmok = true := by decide +kernel
theorem xmok_all : ∀ j, 0 < j → j < xMn → xmok j = true := by
  intro j h0 h
  have h : j < 237 := h
  by_cases q1 : j < 31
  · exact List.all_eq_true.mp xmok_1 j (List.mem_range'_1.mpr ⟨by omega, by omega⟩)
  by_cases q31 : j < 61
  · exact List.all_eq_true.mp xmok_31 j (List.mem_range'_1.mpr ⟨by omega, by omega⟩)
  by_cases q61 : j < 91
  · exact List.all_eq_true.mp xmok_61 j (List.mem_range'_1.mpr ⟨by omega, by omega⟩)
  by_cases q91 : j < 121
  · exact List.all_eq_true.mp xmok_91 j (List.mem_range'_1.mpr ⟨by omega, by omega⟩)
  by_cases q121 : j < 151
  · exact List.all_eq_true.mp xmok_121 j (List.mem_range'_1.mpr ⟨by omega, by omega⟩)
  by_cases q151 : j < 181
  · exact List.all_eq_true.mp xmok_151 j (List.mem_range'_1.mpr ⟨by omega, by omega⟩)
  by_cases q181 : j < 211
  · exact List.all_eq_true.mp xmok_181 j (List.mem_range'_1.mpr ⟨by omega, by omega⟩)
  by_cases q211 : j < 237
  · exact List.all_eq_true.mp xmok_211 j (List.mem_range'_1.mpr ⟨by omega, by omega⟩)
  omega
