/-! printed by a program of mine (wip/whole/mk08.py): methods by their numbers, the pool's entries, by their places in the words of the tables; and that each row of the tables is the decoded instruction -/
def pm_owl : List String := ["CardWorkshop$Game", "CardWorkshop$Machine", "CardWorkshop$Reader", "CardWorkshop$Solver", "CardWorkshop$Table", "CardWorkshop", "CardWorkshopModel", "CardWorkshopLaw", "java/lang/String", "java/lang/StringLatin1", "java/util/Arrays", "java/lang/Math"]
def pm_onm (k : Nat) : String := pm_owl.getD k ""
def pm_bl : List ByteArray := [prog_1_method_1_code, prog_1_method_2_code, prog_1_method_3_code, prog_1_method_4_code, prog_1_method_5_code, prog_1_method_6_code, prog_1_method_7_code, prog_1_method_8_code, prog_1_method_9_code, prog_1_method_10_code, prog_1_method_11_code, prog_1_method_12_code, prog_1_method_13_code, prog_1_method_14_code, prog_1_method_15_code, prog_1_method_16_code, prog_1_method_17_code, prog_1_method_18_code, prog_1_method_19_code, prog_1_method_20_code, prog_1_method_21_code, prog_1_method_22_code, prog_8_method_1_code, prog_8_method_2_code, prog_8_method_3_code, prog_8_method_4_code, prog_8_method_5_code, prog_8_method_6_code, prog_8_method_7_code, prog_8_method_8_code, prog_8_method_9_code, prog_8_method_10_code, prog_8_method_11_code, prog_8_method_12_code, prog_8_method_13_code, prog_8_method_14_code, prog_8_method_15_code, prog_8_method_16_code, prog_8_method_17_code, prog_8_method_18_code, prog_8_method_19_code, prog_8_method_20_code, prog_8_method_21_code, prog_8_method_22_code, prog_8_method_23_code, prog_8_method_24_code, prog_8_method_25_code, prog_8_method_26_code, prog_8_method_27_code, prog_8_method_28_code, prog_8_method_29_code, prog_8_method_30_code, prog_8_method_31_code, prog_8_method_32_code, prog_8_method_33_code, prog_8_method_34_code, prog_8_method_35_code, prog_8_method_36_code, prog_8_method_37_code, prog_8_method_38_code, prog_8_method_39_code, prog_8_method_40_code, prog_8_method_41_code, prog_8_method_42_code, prog_8_method_43_code, prog_8_method_44_code, prog_8_method_45_code, prog_8_method_46_code, prog_8_method_47_code, prog_8_method_48_code, prog_8_method_49_code, prog_8_method_50_code, prog_8_method_51_code, prog_8_method_52_code, prog_8_method_53_code, prog_8_method_54_code, prog_8_method_55_code, prog_8_method_56_code, prog_8_method_57_code, prog_2_method_1_code, prog_2_method_2_code, prog_2_method_3_code, prog_3_method_1_code, prog_3_method_2_code, prog_3_method_3_code, prog_3_method_4_code, prog_3_method_5_code, prog_3_method_6_code, prog_3_method_7_code, prog_3_method_8_code, prog_3_method_9_code, prog_3_method_10_code, prog_4_method_1_code, prog_4_method_2_code, prog_4_method_3_code, prog_4_method_4_code, prog_4_method_5_code, prog_4_method_6_code, prog_4_method_7_code, prog_4_method_8_code, prog_4_method_9_code, prog_4_method_10_code, prog_4_method_11_code, prog_4_method_12_code, prog_4_method_13_code, prog_5_method_1_code, prog_5_method_2_code, prog_5_method_3_code, prog_6_method_1_code, prog_6_method_2_code, prog_6_method_3_code, prog_6_method_4_code, prog_6_method_5_code, prog_6_method_6_code, method_3_code, method_4_code, method_5_code, method_6_code, method_7_code, method_8_code, method_9_code, code, prog_16_method_79_code, prog_16_method_80_code, prog_16_method_154_code, prog_16_method_54_code, prog_16_method_152_code, prog_17_method_22_code, prog_17_method_4_code, prog_14_method_65_code, prog_14_method_69_code, prog_17_method_23_code, prog_22_method_103_code]
def pm_b (m : Nat) : ByteArray := pm_bl.getD m ⟨#[]⟩
def pm_yl : List (String × String) := [("<init>", "()V"), ("type", "(J)Z"), ("byteOf", "(JI)I"), ("wipe", "()V"), ("compile", "()I"), ("code", "(IZ)I"), ("deal", "(II)I"), ("shuffle", "(II)V"), ("put", "(II)Z"), ("moves", "()I"), ("move", "(IZ)I"), ("findMove", "(I)I"), ("ruleOf", "(I)I"), ("cardOf", "(I)I"), ("act", "(I)I"), ("undo", "()Z"), ("card", "(II)I"), ("seen", "(III)I"), ("counter", "(I)I"), ("look", "(I)I"), ("solve", "(I)I"), ("best", "()I"), ("<init>", "()V"), ("thrown", "()I"), ("type", "(J)Z"), ("wipe", "()V"), ("peek", "()I"), ("eat", "(I)Z"), ("need", "(I)V"), ("emit", "(II)V"), ("among", "(IIIIIII)I"), ("zone", "()I"), ("cardZone", "(Z)I"), ("counterOf", "(I)I"), ("isDigit", "(I)Z"), ("number", "()V"), ("plain", "(Z)Z"), ("operator", "(I)I"), ("strength", "(I)I"), ("top", "()I"), ("release", "(I)V"), ("operand", "(IZ)I"), ("expr", "(Z)V"), ("effect", "(Z)V"), ("rule", "()V"), ("compile", "()I"), ("take", "(II)I"), ("code", "(IZ)I"), ("placeOf", "(II)I"), ("spot", "(II)I"), ("topOf", "(I)I"), ("go", "(II)V"), ("cardAt", "(III)I"), ("truth", "(Z)I"), ("worked", "(III)I"), ("asked", "(IIII)I"), ("run", "(III)I"), ("behind", "(I)I"), ("note", "(III)V"), ("list", "(I)V"), ("lies", "(II)Z"), ("make", "(II)V"), ("deal", "(II)I"), ("put", "(II)Z"), ("listed", "()I"), ("moves", "()I"), ("move", "(IZ)I"), ("act", "(I)I"), ("undo", "()Z"), ("card", "(II)I"), ("seen", "(III)I"), ("counter", "(I)I"), ("look", "(I)I"), ("keep", "(I)V"), ("back", "(I)V"), ("give", "(II)V"), ("search", "(I)Z"), ("solve", "(I)I"), ("best", "()I"), ("<init>", "()V"), ("emit", "(II)V"), ("copyFrom", "(LCardWorkshop$Game;)V"), ("<init>", "()V"), ("listMoves", "(LCardWorkshop$Table;[I)I"), ("makeMove", "(LCardWorkshop$Table;I)V"), ("run", "(LCardWorkshop$Table;II)I"), ("push", "(I)V"), ("pop", "()I"), ("operand", "(IILCardWorkshop$Table;II)I"), ("combine", "(III)I"), ("doEffect", "(IILCardWorkshop$Table;II)V"), ("placeOf", "(II)I"), ("<init>", "()V"), ("append", "(C)V"), ("readGame", "()V"), ("readRule", "(I)V"), ("readEffect", "()V"), ("readExpr", "(II)V"), ("readUnit", "(I)V"), ("readNumber", "()I"), ("readZone", "(Z)I"), ("readDigit", "(I)I"), ("expect", "(C)V"), ("take", "(C)Z"), ("next", "()C"), ("<init>", "()V"), ("valueOf", "(LCardWorkshop$Machine;LCardWorkshop$Table;I)I"), ("valueAt", "(LCardWorkshop$Machine;I)I"), ("<init>", "()V"), ("clear", "()V"), ("copyFrom", "(LCardWorkshop$Table;)V"), ("lay", "(II)V"), ("raise", "(II)V"), ("cardAt", "(II)I"), ("compile", "(LCardWorkshop;[J)I"), ("code", "(LCardWorkshop;IZ[J)I"), ("deal", "(LCardWorkshop;II[J)I"), ("move", "(LCardWorkshop;IZ[J)I"), ("act", "(LCardWorkshop;I[J)I"), ("counter", "(LCardWorkshop;I[J)I"), ("solve", "(LCardWorkshop;I[J)I"), ("law", "([I)Z"), ("indexOf", "(I)I"), ("indexOf", "(II)I"), ("isLatin1", "()Z"), ("length", "()I"), ("coder", "()B"), ("indexOf", "([BIII)I"), ("canEncode", "(I)Z"), ("max", "(II)I"), ("min", "(II)I"), ("indexOfChar", "([BIII)I"), ("fill", "([II)V")]
def pm_y (m : Nat) : MethodName := ⟨pm_onm (pm_ow m), (pm_yl.getD m ("", "")).1, (pm_yl.getD m ("", "")).2⟩
def pm_rtl : List (Option FieldType) := [none, some .boolean, some .int, none, some .int, some .int, some .int, none, some .boolean, some .int, some .int, some .int, some .int, some .int, some .int, some .boolean, some .int, some .int, some .int, some .int, some .int, some .int, none, some .int, some .boolean, none, some .int, some .boolean, none, none, some .int, some .int, some .int, some .int, some .boolean, none, some .boolean, some .int, some .int, some .int, none, some .int, none, none, none, some .int, some .int, some .int, some .int, some .int, some .int, none, some .int, some .int, some .int, some .int, some .int, some .int, none, none, some .boolean, none, some .int, some .boolean, some .int, some .int, some .int, some .int, some .boolean, some .int, some .int, some .int, some .int, none, none, none, some .boolean, some .int, some .int, none, none, none, none, some .int, none, some .int, none, some .int, some .int, some .int, none, some .int, none, none, none, none, none, none, none, some .int, some .int, some .int, none, some .boolean, some .char, none, some .int, some .int, none, none, none, none, none, some .int, some .int, some .int, some .int, some .int, some .int, some .int, some .int, some .boolean, some .int, some .int, some .boolean, some .int, some .byte, some .int, some .boolean, some .int, some .int, some .int, none]
def pm_rt (m : Nat) : Option FieldType := pm_rtl.getD m none
/-- fields: (owner, entry), class, field, 1 by a nest mate, place of the word -/
def pm_fk : List ((Nat × Nat) × Nat × Nat × Nat × Nat) := [((0, 9), 0, 0, 0, 43), ((0, 15), 0, 1, 0, 46), ((0, 18), 0, 2, 0, 49), ((0, 22), 0, 3, 0, 53), ((0, 25), 0, 4, 0, 57), ((0, 28), 0, 5, 0, 60), ((0, 31), 0, 6, 0, 64), ((0, 34), 0, 7, 0, 67), ((0, 37), 0, 8, 0, 70), ((0, 40), 0, 9, 0, 73), ((1, 12), 1, 0, 0, 125), ((1, 18), 1, 1, 0, 127), ((1, 22), 1, 2, 0, 128), ((1, 26), 0, 9, 1, 74), ((1, 33), 0, 5, 1, 61), ((1, 36), 0, 6, 1, 65), ((1, 39), 0, 3, 1, 54), ((1, 42), 4, 0, 1, 152), ((1, 47), 4, 6, 1, 167), ((1, 50), 0, 7, 1, 68), ((1, 57), 0, 8, 1, 71), ((1, 63), 0, 2, 1, 51), ((1, 66), 0, 0, 1, 44), ((1, 69), 0, 1, 1, 47), ((1, 92), 4, 4, 1, 160), ((1, 95), 4, 3, 1, 157), ((1, 102), 4, 2, 1, 155), ((1, 105), 0, 4, 1, 59), ((1, 112), 4, 5, 1, 164), ((2, 9), 2, 0, 0, 99), ((2, 15), 2, 1, 0, 100), ((2, 22), 2, 2, 0, 102), ((2, 26), 2, 3, 0, 104), ((2, 29), 2, 4, 0, 105), ((2, 33), 0, 2, 1, 50), ((2, 34), 0, 5, 1, 62), ((2, 45), 0, 4, 1, 58), ((2, 48), 0, 3, 1, 55), ((2, 59), 0, 9, 1, 75), ((2, 76), 0, 6, 1, 66), ((2, 80), 0, 7, 1, 69), ((2, 83), 0, 8, 1, 72), ((3, 11), 3, 0, 0, 185), ((3, 19), 3, 1, 0, 186), ((3, 22), 3, 2, 0, 187), ((3, 26), 3, 3, 0, 188), ((3, 44), 4, 5, 1, 163), ((3, 59), 4, 6, 1, 168), ((4, 9), 4, 0, 0, 151), ((4, 15), 4, 1, 0, 153), ((4, 18), 4, 2, 0, 154), ((4, 21), 4, 3, 0, 156), ((4, 24), 4, 4, 0, 159), ((4, 27), 4, 5, 0, 162), ((4, 30), 4, 6, 0, 166), ((5, 12), 5, 0, 0, 201), ((5, 19), 5, 1, 0, 202), ((5, 26), 5, 2, 0, 203), ((5, 33), 5, 3, 0, 204), ((5, 37), 5, 4, 0, 205), ((5, 41), 5, 5, 0, 206), ((5, 45), 5, 6, 0, 207), ((5, 49), 5, 7, 0, 208), ((5, 53), 5, 8, 0, 209), ((5, 56), 5, 9, 0, 210), ((5, 63), 2, 1, 1, 101), ((5, 73), 2, 2, 1, 103), ((5, 77), 0, 2, 1, 52), ((5, 87), 1, 0, 1, 126), ((5, 99), 0, 1, 1, 48), ((5, 102), 0, 0, 1, 45), ((5, 115), 0, 3, 1, 56), ((5, 161), 4, 3, 1, 158), ((5, 173), 4, 4, 1, 161), ((5, 176), 4, 5, 1, 165), ((5, 179), 0, 5, 1, 63), ((5, 182), 4, 6, 1, 169), ((5, 193), 3, 3, 1, 189), ((6, 7), 6, 2, 0, 706), ((6, 13), 6, 6, 0, 710), ((6, 16), 6, 7, 0, 711), ((6, 19), 6, 9, 0, 713), ((6, 22), 6, 11, 0, 715), ((6, 26), 6, 12, 0, 716), ((6, 29), 6, 18, 0, 722), ((6, 32), 6, 19, 0, 723), ((6, 35), 6, 22, 0, 726), ((6, 38), 6, 23, 0, 727), ((6, 41), 6, 25, 0, 729), ((6, 44), 6, 27, 0, 731), ((6, 47), 6, 28, 0, 732), ((6, 50), 6, 30, 0, 734), ((6, 53), 6, 31, 0, 735), ((6, 56), 6, 32, 0, 736), ((6, 59), 6, 33, 0, 737), ((6, 62), 6, 34, 0, 738), ((6, 65), 6, 35, 0, 739), ((6, 68), 6, 36, 0, 740), ((6, 71), 6, 37, 0, 741), ((6, 75), 6, 0, 0, 704), ((6, 80), 6, 1, 0, 705), ((6, 83), 6, 3, 0, 707), ((6, 94), 6, 4, 0, 708), ((6, 98), 6, 5, 0, 709), ((6, 126), 6, 8, 0, 712), ((6, 157), 6, 10, 0, 714), ((6, 166), 6, 13, 0, 717), ((6, 173), 6, 14, 0, 718), ((6, 176), 6, 15, 0, 719), ((6, 179), 6, 16, 0, 720), ((6, 182), 6, 17, 0, 721), ((6, 185), 6, 20, 0, 724), ((6, 188), 6, 21, 0, 725), ((6, 191), 6, 24, 0, 728), ((6, 194), 6, 26, 0, 730), ((6, 223), 6, 29, 0, 733)]
/-- ints: (owner, entry), value, place -/
def pm_ck : List ((Nat × Nat) × Int32 × Nat) := [((5, 128), 22695477, 626), ((6, 240), 22695477, 920)]
/-- methods: (owner, entry), method, 1 by a nest mate, place -/
def pm_mk : List ((Nat × Nat) × Nat × Nat × Nat) := [((1, 11), 79, 1, 124), ((1, 29), 85, 0, 267), ((1, 53), 12, 1, 665), ((1, 60), 13, 1, 666), ((1, 72), 88, 0, 271), ((1, 76), 86, 0, 278), ((1, 80), 87, 0, 282), ((1, 84), 89, 0, 286), ((1, 88), 90, 0, 289), ((1, 98), 91, 0, 275), ((1, 108), 112, 1, 293), ((2, 21), 79, 1, 39), ((2, 37), 102, 0, 340), ((2, 41), 101, 0, 417), ((2, 51), 104, 0, 344), ((2, 55), 95, 0, 422), ((2, 62), 97, 0, 426), ((2, 66), 80, 1, 525), ((2, 86), 96, 0, 545), ((2, 89), 103, 0, 434), ((2, 95), 122, 0, 439), ((2, 100), 100, 0, 529), ((2, 104), 98, 0, 430), ((2, 115), 99, 0, 535), ((3, 29), 108, 1, 147), ((3, 30), 110, 1, 688), ((3, 34), 107, 0, 689), ((3, 38), 83, 1, 693), ((3, 55), 84, 1, 697), ((4, 34), 132, 0, 631), ((4, 46), 111, 0, 255), ((5, 11), 92, 1, 33), ((5, 18), 82, 1, 119), ((5, 25), 105, 1, 138), ((5, 32), 108, 1, 200), ((5, 59), 2, 0, 236), ((5, 66), 93, 1, 239), ((5, 70), 94, 1, 336), ((5, 90), 81, 1, 566), ((5, 118), 7, 0, 622), ((5, 122), 109, 1, 627), ((5, 125), 111, 1, 634), ((5, 129), 112, 1, 251), ((5, 132), 83, 1, 263), ((5, 136), 11, 0, 642), ((5, 140), 13, 0, 647), ((5, 143), 12, 0, 650), ((5, 146), 9, 0, 322), ((5, 154), 110, 1, 298), ((5, 157), 84, 1, 661), ((5, 164), 113, 1, 309), ((5, 168), 16, 0, 317), ((5, 189), 106, 1, 684), ((6, 86), 26, 0, 845), ((6, 90), 27, 0, 841), ((6, 101), 30, 0, 879), ((6, 105), 31, 0, 882), ((6, 108), 34, 0, 865), ((6, 111), 29, 0, 872), ((6, 115), 35, 0, 868), ((6, 118), 33, 0, 876), ((6, 122), 32, 0, 886), ((6, 129), 39, 0, 894), ((6, 132), 38, 0, 898), ((6, 135), 36, 0, 861), ((6, 139), 40, 0, 890), ((6, 143), 41, 0, 857), ((6, 147), 37, 0, 901), ((6, 150), 42, 0, 853), ((6, 154), 28, 0, 837), ((6, 160), 43, 0, 904), ((6, 163), 44, 0, 849), ((6, 169), 46, 0, 908), ((6, 197), 49, 0, 925), ((6, 200), 48, 0, 952), ((6, 203), 50, 0, 959), ((6, 206), 53, 0, 966), ((6, 209), 52, 0, 955), ((6, 213), 55, 0, 948), ((6, 217), 54, 0, 963), ((6, 220), 51, 0, 921), ((6, 226), 56, 0, 944), ((6, 229), 58, 0, 969), ((6, 233), 60, 0, 973), ((6, 237), 57, 0, 989), ((6, 241), 59, 0, 940), ((6, 244), 64, 0, 936), ((6, 247), 61, 0, 985), ((6, 250), 69, 0, 1005), ((6, 253), 73, 0, 1022), ((6, 256), 75, 0, 1026), ((6, 259), 74, 0, 1030), ((6, 262), 76, 0, 1018), ((7, 7), 4, 0, 332), ((7, 17), 5, 0, 575), ((7, 23), 6, 0, 599), ((7, 29), 10, 0, 638), ((7, 32), 14, 0, 656), ((7, 36), 18, 0, 670), ((7, 39), 20, 0, 678), ((7, 42), 0, 0, 25), ((7, 45), 22, 0, 700), ((7, 48), 1, 0, 232), ((7, 52), 24, 0, 824), ((7, 53), 3, 0, 243), ((7, 56), 25, 0, 829), ((7, 57), 114, 0, 327), ((7, 62), 45, 0, 833), ((7, 63), 23, 0, 820), ((7, 66), 115, 0, 571), ((7, 69), 47, 0, 912), ((7, 70), 116, 0, 595), ((7, 73), 62, 0, 916), ((7, 74), 8, 0, 247), ((7, 78), 63, 0, 928), ((7, 79), 9, 0, 259), ((7, 82), 65, 0, 932), ((7, 83), 117, 0, 635), ((7, 85), 66, 0, 977), ((7, 86), 118, 0, 653), ((7, 89), 67, 0, 981), ((7, 90), 15, 0, 294), ((7, 94), 68, 0, 993), ((7, 95), 16, 0, 305), ((7, 98), 69, 0, 997), ((7, 99), 17, 0, 313), ((7, 103), 70, 0, 1001), ((7, 104), 119, 0, 667), ((7, 106), 71, 0, 1006), ((7, 107), 19, 0, 318), ((7, 110), 72, 0, 1010), ((7, 111), 120, 0, 675), ((7, 113), 77, 0, 1014), ((7, 114), 21, 0, 323), ((7, 117), 78, 0, 1034), ((8, 335), 126, 0, 457), ((8, 492), 124, 0, 447), ((8, 505), 125, 0, 453), ((8, 633), 123, 0, 443), ((8, 637), 127, 0, 461), ((9, 38), 130, 0, 470), ((9, 88), 128, 0, 464), ((9, 92), 129, 0, 467), ((9, 95), 131, 0, 473)]
/-- constructors of exceptions: (owner, entry), which, place -/
def pm_ek : List ((Nat × Nat) × Nat × Nat) := [((2, 73), 0, 391), ((3, 52), 3, 696), ((5, 84), 3, 560), ((5, 98), 2, 589), ((5, 109), 1, 613), ((5, 114), 0, 621)]
/-- classes: (owner, entry), class, place -/
def pm_kk : List ((Nat × Nat) × Nat × Nat) := [((1, 9), 0, 123), ((2, 19), 0, 37), ((3, 9), 4, 142), ((5, 9), 2, 31), ((5, 16), 1, 117), ((5, 23), 3, 136), ((5, 30), 4, 199), ((7, 8), 5, 23), ((7, 43), 6, 698)]
/-- exception classes: (owner, entry), which, place -/
def pm_jk : List ((Nat × Nat) × Nat × Nat) := [((2, 69), 0, 348), ((3, 48), 3, 694), ((5, 80), 3, 550), ((5, 94), 2, 579), ((5, 105), 1, 603), ((5, 110), 0, 619), ((7, 13), 0, 330), ((7, 15), 3, 331), ((7, 21), 2, 574), ((7, 27), 1, 598)]
/-- Strings: (owner, entry), number, place -/
def pm_sk : List ((Nat × Nat) × Nat × Nat) := [((2, 93), 10000, 438), ((2, 107), 10020, 540), ((2, 121), 10010, 533)]
def pm_exl : List String := ["java/lang/IllegalArgumentException", "java/lang/IllegalStateException", "java/lang/IndexOutOfBoundsException", "java/lang/UnsupportedOperationException"]
def pm_ex (k : Nat) : String := pm_exl.getD k ""
theorem pm_fk_ok : ∀ q ∈ pm_fk, tables_1[q.2.2.2.2]? = some (if q.2.2.2.1 = 1 then .fieldLinkNest (pm_onm q.1.1) q.1.2 (pm_cnm q.2.1) (pm_T q.2.1 q.2.2.1).2.1 (pm_T q.2.1 q.2.2.1).2.2.1 "CardWorkshop" else .fieldLink (pm_onm q.1.1) q.1.2 (pm_cnm q.2.1) (pm_T q.2.1 q.2.2.1).2.1 (pm_T q.2.1 q.2.2.1).2.2.1) := by decide +kernel
theorem pm_ck_ok : ∀ q ∈ pm_ck, tables_1[q.2.2]? = some (.constant (pm_onm q.1.1) q.1.2 q.2.1) := by decide +kernel
theorem pm_mk_ok : ∀ q ∈ pm_mk, tables_1[q.2.2.2]? = some (if q.2.2.1 = 1 then .methodLinkNest (pm_onm q.1.1) q.1.2 (pm_y q.2.1) "CardWorkshop" else .methodLink (pm_onm q.1.1) q.1.2 (pm_y q.2.1)) := by decide +kernel
theorem pm_ek_ok : ∀ q ∈ pm_ek, tables_1[q.2.2]? = some (.methodLink (pm_onm q.1.1) q.1.2 ⟨pm_ex q.2.1, "<init>", "(Ljava/lang/String;)V"⟩) := by decide +kernel
theorem pm_kk_ok : ∀ q ∈ pm_kk, tables_1[q.2.2]? = some (.classLink (pm_onm q.1.1) q.1.2 (pm_cnm q.2.1)) := by decide +kernel
theorem pm_jk_ok : ∀ q ∈ pm_jk, tables_1[q.2.2]? = some (.classLink (pm_onm q.1.1) q.1.2 (pm_ex q.2.1)) := by decide +kernel
/-- a method's words, by their places in lw_tbl: its code, static or not, selects, its class initialised -/
def pm_mw : List (Nat × Nat × Nat × Nat) := [(88, 87, 0, 62), (296, 294, 295, 62), (299, 298, 0, 62), (307, 305, 306, 62), (396, 394, 395, 62), (639, 637, 638, 62), (663, 661, 662, 62), (686, 685, 25, 62), (311, 309, 310, 62), (323, 321, 322, 62), (702, 700, 701, 62), (706, 705, 27, 62), (713, 712, 0, 62), (710, 709, 0, 62), (720, 718, 719, 62), (358, 356, 357, 62), (369, 367, 368, 62), (377, 375, 376, 62), (734, 732, 733, 62), (382, 380, 381, 62), (742, 740, 741, 62), (387, 385, 386, 62), (763, 762, 0, 68), (884, 882, 883, 68), (888, 886, 887, 68), (893, 891, 892, 68), (909, 908, 33, 68), (905, 904, 32, 68), (901, 900, 31, 68), (936, 935, 39, 68), (942, 941, 0, 68), (946, 945, 40, 68), (950, 949, 41, 68), (939, 938, 0, 68), (928, 927, 0, 68), (932, 931, 38, 68), (925, 924, 37, 68), (964, 963, 0, 68), (961, 960, 0, 68), (958, 957, 43, 68), (954, 953, 42, 68), (921, 920, 36, 68), (917, 916, 35, 68), (968, 967, 44, 68), (913, 912, 34, 68), (897, 895, 896, 68), (972, 971, 45, 68), (976, 974, 975, 68), (1015, 1014, 0, 68), (988, 987, 0, 68), (1023, 1022, 52, 68), (985, 984, 46, 68), (1019, 1018, 51, 68), (1029, 1028, 0, 68), (1026, 1025, 0, 68), (1012, 1011, 50, 68), (1008, 1007, 49, 68), (1053, 1052, 56, 68), (1033, 1032, 53, 68), (1004, 1003, 48, 68), (1037, 1036, 54, 68), (1049, 1048, 55, 68), (980, 978, 979, 68), (992, 990, 991, 68), (1000, 999, 47, 68), (996, 994, 995, 68), (1041, 1039, 1040, 68), (1045, 1043, 1044, 68), (1057, 1055, 1056, 68), (1061, 1059, 1060, 68), (1065, 1063, 1064, 68), (1070, 1068, 1069, 68), (1074, 1072, 1073, 68), (1086, 1085, 58, 68), (1094, 1093, 60, 68), (1090, 1089, 59, 68), (1082, 1081, 57, 68), (1078, 1076, 1077, 68), (1098, 1096, 1097, 68), (102, 101, 0, 64), (589, 588, 20, 64), (630, 629, 24, 64), (182, 181, 0, 65), (327, 326, 3, 65), (725, 724, 28, 65), (331, 330, 4, 65), (342, 341, 6, 65), (346, 345, 7, 65), (335, 334, 5, 65), (349, 348, 0, 65), (353, 352, 8, 65), (338, 337, 0, 65), (96, 95, 0, 63), (303, 302, 0, 63), (400, 399, 11, 63), (486, 485, 16, 63), (609, 608, 23, 63), (490, 489, 17, 63), (494, 493, 18, 63), (599, 598, 22, 63), (593, 592, 21, 63), (481, 480, 15, 63), (404, 403, 12, 63), (498, 497, 19, 63), (408, 407, 13, 63), (201, 200, 0, 66), (748, 747, 29, 66), (753, 752, 30, 66), (210, 209, 0, 67), (691, 690, 26, 67), (362, 361, 9, 67), (319, 318, 2, 67), (315, 314, 1, 67), (373, 372, 10, 67), (390, 389, 0, 61), (634, 633, 0, 61), (658, 657, 0, 61), (698, 697, 0, 61), (716, 715, 0, 61), (730, 729, 0, 61), (738, 737, 0, 61), (0, 0, 0, 0), (503, 501, 502, 73), (507, 505, 506, 73), (511, 509, 510, 73), (517, 515, 516, 73), (521, 519, 520, 73), (524, 523, 0, 74), (527, 526, 0, 74), (530, 529, 0, 75), (533, 532, 0, 75), (536, 535, 0, 74), (694, 693, 0, 83)]
/-- methods that catch -/
def pm_hms : List Nat := [114, 115, 116, 117, 118, 119, 120]
def pm_hhl : List (List (Nat × Nat × Nat × Nat)) := [[], [], [], [], [], [], [], [], [], [], [], [], [], [], [], [], [], [], [], [], [], [], [], [], [], [], [], [], [], [], [], [], [], [], [], [], [], [], [], [], [], [], [], [], [], [], [], [], [], [], [], [], [], [], [], [], [], [], [], [], [], [], [], [], [], [], [], [], [], [], [], [], [], [], [], [], [], [], [], [], [], [], [], [], [], [], [], [], [], [], [], [], [], [], [], [], [], [], [], [], [], [], [], [], [], [], [], [], [], [], [], [], [], [], [(0, 8, 11, 13), (0, 8, 14, 15)], [(0, 10, 13, 21)], [(0, 10, 13, 27), (0, 10, 17, 13)], [(0, 10, 13, 21)], [(0, 9, 12, 21), (0, 9, 15, 27)], [(0, 9, 12, 21)], [(0, 9, 12, 27), (0, 9, 15, 13), (0, 9, 18, 15)], [], [], [], [], [], [], [], [], [], [], [], []]
def pm_hh (m : Nat) : List (Nat × Nat × Nat × Nat) := pm_hhl.getD m []
def pm_wcode (m : Nat) : Cond := if pm_hh m = [] then .code (pm_y m) (pm_b m) (pm_ml m) (pm_rt m) else .codeWith (pm_y m) (pm_b m) (pm_ml m) (pm_rt m) (pm_hh m)
def pm_wst (m : Nat) : Cond := if pm_stc m = true then .static (pm_y m) else .instanceMethod (pm_y m)
def pm_wat (m : Nat) : Nat × Nat × Nat × Nat := pm_mw.getD m (0, 0, 0, 0)
theorem pm_w_st : ∀ m, m < 133 → m ≠ 121 → lw_tbl[(pm_wat m).2.1]? = some (pm_wst m) := by decide +kernel
theorem pm_w_sel : ∀ m, m < 133 → m ≠ 121 → (pm_wat m).2.2.1 ≠ 0 ∨ m = 93 → lw_tbl[(pm_wat m).2.2.1]? = some (.selects (pm_y m).cls (pm_y m) (pm_y m)) := by decide +kernel
theorem pm_w_ini : ∀ m, m < 133 → m ≠ 121 → lw_tbl[(pm_wat m).2.2.2]? = some (.initialized (pm_y m).cls) := by decide +kernel
theorem pm_y_pl : ∀ m, m < 133 → m ≠ 129 → m ≠ 130 → plainFor (pm_y m) = true := by decide +kernel
theorem pm_y_mh : ∀ m, m < 133 → (pm_y m).cls ≠ "java/lang/invoke/MethodHandle" ∧ (pm_y m).cls ≠ "java/lang/invoke/VarHandle" := by decide +kernel
theorem pm_y_ds : ∀ m, m < 133 → (parseMethodDescriptor (pm_y m).desc).map (fun d => d.parameters.length + (if pm_stc m = true then 0 else 1)) = some (pm_cat m).length := by decide +kernel
set_option maxRecDepth 100000 in
theorem pm_wc0 : lw_tbl[88]? = some (pm_wcode 0) := by rfl
set_option maxRecDepth 100000 in
theorem pm_wc1 : lw_tbl[296]? = some (pm_wcode 1) := by rfl
set_option maxRecDepth 100000 in
theorem pm_wc2 : lw_tbl[299]? = some (pm_wcode 2) := by rfl
set_option maxRecDepth 100000 in
theorem pm_wc3 : lw_tbl[307]? = some (pm_wcode 3) := by rfl
set_option maxRecDepth 100000 in
theorem pm_wc4 : lw_tbl[396]? = some (pm_wcode 4) := by rfl
set_option maxRecDepth 100000 in
theorem pm_wc5 : lw_tbl[639]? = some (pm_wcode 5) := by rfl
set_option maxRecDepth 100000 in
theorem pm_wc6 : lw_tbl[663]? = some (pm_wcode 6) := by rfl
set_option maxRecDepth 100000 in
theorem pm_wc7 : lw_tbl[686]? = some (pm_wcode 7) := by rfl
set_option maxRecDepth 100000 in
theorem pm_wc8 : lw_tbl[311]? = some (pm_wcode 8) := by rfl
set_option maxRecDepth 100000 in
theorem pm_wc9 : lw_tbl[323]? = some (pm_wcode 9) := by rfl
set_option maxRecDepth 100000 in
theorem pm_wc10 : lw_tbl[702]? = some (pm_wcode 10) := by rfl
set_option maxRecDepth 100000 in
theorem pm_wc11 : lw_tbl[706]? = some (pm_wcode 11) := by rfl
set_option maxRecDepth 100000 in
theorem pm_wc12 : lw_tbl[713]? = some (pm_wcode 12) := by rfl
set_option maxRecDepth 100000 in
theorem pm_wc13 : lw_tbl[710]? = some (pm_wcode 13) := by rfl
set_option maxRecDepth 100000 in
theorem pm_wc14 : lw_tbl[720]? = some (pm_wcode 14) := by rfl
set_option maxRecDepth 100000 in
theorem pm_wc15 : lw_tbl[358]? = some (pm_wcode 15) := by rfl
set_option maxRecDepth 100000 in
theorem pm_wc16 : lw_tbl[369]? = some (pm_wcode 16) := by rfl
set_option maxRecDepth 100000 in
theorem pm_wc17 : lw_tbl[377]? = some (pm_wcode 17) := by rfl
set_option maxRecDepth 100000 in
theorem pm_wc18 : lw_tbl[734]? = some (pm_wcode 18) := by rfl
set_option maxRecDepth 100000 in
theorem pm_wc19 : lw_tbl[382]? = some (pm_wcode 19) := by rfl
set_option maxRecDepth 100000 in
theorem pm_wc20 : lw_tbl[742]? = some (pm_wcode 20) := by rfl
set_option maxRecDepth 100000 in
theorem pm_wc21 : lw_tbl[387]? = some (pm_wcode 21) := by rfl
set_option maxRecDepth 100000 in
theorem pm_wc22 : lw_tbl[763]? = some (pm_wcode 22) := by rfl
set_option maxRecDepth 100000 in
theorem pm_wc23 : lw_tbl[884]? = some (pm_wcode 23) := by rfl
set_option maxRecDepth 100000 in
theorem pm_wc24 : lw_tbl[888]? = some (pm_wcode 24) := by rfl
set_option maxRecDepth 100000 in
theorem pm_wc25 : lw_tbl[893]? = some (pm_wcode 25) := by rfl
set_option maxRecDepth 100000 in
theorem pm_wc26 : lw_tbl[909]? = some (pm_wcode 26) := by rfl
set_option maxRecDepth 100000 in
theorem pm_wc27 : lw_tbl[905]? = some (pm_wcode 27) := by rfl
set_option maxRecDepth 100000 in
theorem pm_wc28 : lw_tbl[901]? = some (pm_wcode 28) := by rfl
set_option maxRecDepth 100000 in
theorem pm_wc29 : lw_tbl[936]? = some (pm_wcode 29) := by rfl
set_option maxRecDepth 100000 in
theorem pm_wc30 : lw_tbl[942]? = some (pm_wcode 30) := by rfl
set_option maxRecDepth 100000 in
theorem pm_wc31 : lw_tbl[946]? = some (pm_wcode 31) := by rfl
set_option maxRecDepth 100000 in
theorem pm_wc32 : lw_tbl[950]? = some (pm_wcode 32) := by rfl
set_option maxRecDepth 100000 in
theorem pm_wc33 : lw_tbl[939]? = some (pm_wcode 33) := by rfl
set_option maxRecDepth 100000 in
theorem pm_wc34 : lw_tbl[928]? = some (pm_wcode 34) := by rfl
set_option maxRecDepth 100000 in
theorem pm_wc35 : lw_tbl[932]? = some (pm_wcode 35) := by rfl
set_option maxRecDepth 100000 in
theorem pm_wc36 : lw_tbl[925]? = some (pm_wcode 36) := by rfl
set_option maxRecDepth 100000 in
theorem pm_wc37 : lw_tbl[964]? = some (pm_wcode 37) := by rfl
set_option maxRecDepth 100000 in
theorem pm_wc38 : lw_tbl[961]? = some (pm_wcode 38) := by rfl
set_option maxRecDepth 100000 in
theorem pm_wc39 : lw_tbl[958]? = some (pm_wcode 39) := by rfl
set_option maxRecDepth 100000 in
theorem pm_wc40 : lw_tbl[954]? = some (pm_wcode 40) := by rfl
set_option maxRecDepth 100000 in
theorem pm_wc41 : lw_tbl[921]? = some (pm_wcode 41) := by rfl
set_option maxRecDepth 100000 in
theorem pm_wc42 : lw_tbl[917]? = some (pm_wcode 42) := by rfl
set_option maxRecDepth 100000 in
theorem pm_wc43 : lw_tbl[968]? = some (pm_wcode 43) := by rfl
set_option maxRecDepth 100000 in
theorem pm_wc44 : lw_tbl[913]? = some (pm_wcode 44) := by rfl
set_option maxRecDepth 100000 in
theorem pm_wc45 : lw_tbl[897]? = some (pm_wcode 45) := by rfl
set_option maxRecDepth 100000 in
theorem pm_wc46 : lw_tbl[972]? = some (pm_wcode 46) := by rfl
set_option maxRecDepth 100000 in
theorem pm_wc47 : lw_tbl[976]? = some (pm_wcode 47) := by rfl
set_option maxRecDepth 100000 in
theorem pm_wc48 : lw_tbl[1015]? = some (pm_wcode 48) := by rfl
set_option maxRecDepth 100000 in
theorem pm_wc49 : lw_tbl[988]? = some (pm_wcode 49) := by rfl
set_option maxRecDepth 100000 in
theorem pm_wc50 : lw_tbl[1023]? = some (pm_wcode 50) := by rfl
set_option maxRecDepth 100000 in
theorem pm_wc51 : lw_tbl[985]? = some (pm_wcode 51) := by rfl
set_option maxRecDepth 100000 in
theorem pm_wc52 : lw_tbl[1019]? = some (pm_wcode 52) := by rfl
set_option maxRecDepth 100000 in
theorem pm_wc53 : lw_tbl[1029]? = some (pm_wcode 53) := by rfl
set_option maxRecDepth 100000 in
theorem pm_wc54 : lw_tbl[1026]? = some (pm_wcode 54) := by rfl
set_option maxRecDepth 100000 in
theorem pm_wc55 : lw_tbl[1012]? = some (pm_wcode 55) := by rfl
set_option maxRecDepth 100000 in
theorem pm_wc56 : lw_tbl[1008]? = some (pm_wcode 56) := by rfl
set_option maxRecDepth 100000 in
theorem pm_wc57 : lw_tbl[1053]? = some (pm_wcode 57) := by rfl
set_option maxRecDepth 100000 in
theorem pm_wc58 : lw_tbl[1033]? = some (pm_wcode 58) := by rfl
set_option maxRecDepth 100000 in
theorem pm_wc59 : lw_tbl[1004]? = some (pm_wcode 59) := by rfl
set_option maxRecDepth 100000 in
theorem pm_wc60 : lw_tbl[1037]? = some (pm_wcode 60) := by rfl
set_option maxRecDepth 100000 in
theorem pm_wc61 : lw_tbl[1049]? = some (pm_wcode 61) := by rfl
set_option maxRecDepth 100000 in
theorem pm_wc62 : lw_tbl[980]? = some (pm_wcode 62) := by rfl
set_option maxRecDepth 100000 in
theorem pm_wc63 : lw_tbl[992]? = some (pm_wcode 63) := by rfl
set_option maxRecDepth 100000 in
theorem pm_wc64 : lw_tbl[1000]? = some (pm_wcode 64) := by rfl
set_option maxRecDepth 100000 in
theorem pm_wc65 : lw_tbl[996]? = some (pm_wcode 65) := by rfl
set_option maxRecDepth 100000 in
theorem pm_wc66 : lw_tbl[1041]? = some (pm_wcode 66) := by rfl
set_option maxRecDepth 100000 in
theorem pm_wc67 : lw_tbl[1045]? = some (pm_wcode 67) := by rfl
set_option maxRecDepth 100000 in
theorem pm_wc68 : lw_tbl[1057]? = some (pm_wcode 68) := by rfl
set_option maxRecDepth 100000 in
theorem pm_wc69 : lw_tbl[1061]? = some (pm_wcode 69) := by rfl
set_option maxRecDepth 100000 in
theorem pm_wc70 : lw_tbl[1065]? = some (pm_wcode 70) := by rfl
set_option maxRecDepth 100000 in
theorem pm_wc71 : lw_tbl[1070]? = some (pm_wcode 71) := by rfl
set_option maxRecDepth 100000 in
theorem pm_wc72 : lw_tbl[1074]? = some (pm_wcode 72) := by rfl
set_option maxRecDepth 100000 in
theorem pm_wc73 : lw_tbl[1086]? = some (pm_wcode 73) := by rfl
set_option maxRecDepth 100000 in
theorem pm_wc74 : lw_tbl[1094]? = some (pm_wcode 74) := by rfl
set_option maxRecDepth 100000 in
theorem pm_wc75 : lw_tbl[1090]? = some (pm_wcode 75) := by rfl
set_option maxRecDepth 100000 in
theorem pm_wc76 : lw_tbl[1082]? = some (pm_wcode 76) := by rfl
set_option maxRecDepth 100000 in
theorem pm_wc77 : lw_tbl[1078]? = some (pm_wcode 77) := by rfl
set_option maxRecDepth 100000 in
theorem pm_wc78 : lw_tbl[1098]? = some (pm_wcode 78) := by rfl
set_option maxRecDepth 100000 in
theorem pm_wc79 : lw_tbl[102]? = some (pm_wcode 79) := by rfl
set_option maxRecDepth 100000 in
theorem pm_wc80 : lw_tbl[589]? = some (pm_wcode 80) := by rfl
set_option maxRecDepth 100000 in
theorem pm_wc81 : lw_tbl[630]? = some (pm_wcode 81) := by rfl
set_option maxRecDepth 100000 in
theorem pm_wc82 : lw_tbl[182]? = some (pm_wcode 82) := by rfl
set_option maxRecDepth 100000 in
theorem pm_wc83 : lw_tbl[327]? = some (pm_wcode 83) := by rfl
set_option maxRecDepth 100000 in
theorem pm_wc84 : lw_tbl[725]? = some (pm_wcode 84) := by rfl
set_option maxRecDepth 100000 in
theorem pm_wc85 : lw_tbl[331]? = some (pm_wcode 85) := by rfl
set_option maxRecDepth 100000 in
theorem pm_wc86 : lw_tbl[342]? = some (pm_wcode 86) := by rfl
set_option maxRecDepth 100000 in
theorem pm_wc87 : lw_tbl[346]? = some (pm_wcode 87) := by rfl
set_option maxRecDepth 100000 in
theorem pm_wc88 : lw_tbl[335]? = some (pm_wcode 88) := by rfl
set_option maxRecDepth 100000 in
theorem pm_wc89 : lw_tbl[349]? = some (pm_wcode 89) := by rfl
set_option maxRecDepth 100000 in
theorem pm_wc90 : lw_tbl[353]? = some (pm_wcode 90) := by rfl
set_option maxRecDepth 100000 in
theorem pm_wc91 : lw_tbl[338]? = some (pm_wcode 91) := by rfl
set_option maxRecDepth 100000 in
theorem pm_wc92 : lw_tbl[96]? = some (pm_wcode 92) := by rfl
set_option maxRecDepth 100000 in
theorem pm_wc93 : lw_tbl[303]? = some (pm_wcode 93) := by rfl
set_option maxRecDepth 100000 in
theorem pm_wc94 : lw_tbl[400]? = some (pm_wcode 94) := by rfl
set_option maxRecDepth 100000 in
theorem pm_wc95 : lw_tbl[486]? = some (pm_wcode 95) := by rfl
set_option maxRecDepth 100000 in
theorem pm_wc96 : lw_tbl[609]? = some (pm_wcode 96) := by rfl
set_option maxRecDepth 100000 in
theorem pm_wc97 : lw_tbl[490]? = some (pm_wcode 97) := by rfl
set_option maxRecDepth 100000 in
theorem pm_wc98 : lw_tbl[494]? = some (pm_wcode 98) := by rfl
set_option maxRecDepth 100000 in
theorem pm_wc99 : lw_tbl[599]? = some (pm_wcode 99) := by rfl
set_option maxRecDepth 100000 in
theorem pm_wc100 : lw_tbl[593]? = some (pm_wcode 100) := by rfl
set_option maxRecDepth 100000 in
theorem pm_wc101 : lw_tbl[481]? = some (pm_wcode 101) := by rfl
set_option maxRecDepth 100000 in
theorem pm_wc102 : lw_tbl[404]? = some (pm_wcode 102) := by rfl
set_option maxRecDepth 100000 in
theorem pm_wc103 : lw_tbl[498]? = some (pm_wcode 103) := by rfl
set_option maxRecDepth 100000 in
theorem pm_wc104 : lw_tbl[408]? = some (pm_wcode 104) := by rfl
set_option maxRecDepth 100000 in
theorem pm_wc105 : lw_tbl[201]? = some (pm_wcode 105) := by rfl
set_option maxRecDepth 100000 in
theorem pm_wc106 : lw_tbl[748]? = some (pm_wcode 106) := by rfl
set_option maxRecDepth 100000 in
theorem pm_wc107 : lw_tbl[753]? = some (pm_wcode 107) := by rfl
set_option maxRecDepth 100000 in
theorem pm_wc108 : lw_tbl[210]? = some (pm_wcode 108) := by rfl
set_option maxRecDepth 100000 in
theorem pm_wc109 : lw_tbl[691]? = some (pm_wcode 109) := by rfl
set_option maxRecDepth 100000 in
theorem pm_wc110 : lw_tbl[362]? = some (pm_wcode 110) := by rfl
set_option maxRecDepth 100000 in
theorem pm_wc111 : lw_tbl[319]? = some (pm_wcode 111) := by rfl
set_option maxRecDepth 100000 in
theorem pm_wc112 : lw_tbl[315]? = some (pm_wcode 112) := by rfl
set_option maxRecDepth 100000 in
theorem pm_wc113 : lw_tbl[373]? = some (pm_wcode 113) := by rfl
set_option maxRecDepth 100000 in
theorem pm_wc114 : lw_tbl[390]? = some (pm_wcode 114) := by rfl
set_option maxRecDepth 100000 in
theorem pm_wc115 : lw_tbl[634]? = some (pm_wcode 115) := by rfl
set_option maxRecDepth 100000 in
theorem pm_wc116 : lw_tbl[658]? = some (pm_wcode 116) := by rfl
set_option maxRecDepth 100000 in
theorem pm_wc117 : lw_tbl[698]? = some (pm_wcode 117) := by rfl
set_option maxRecDepth 100000 in
theorem pm_wc118 : lw_tbl[716]? = some (pm_wcode 118) := by rfl
set_option maxRecDepth 100000 in
theorem pm_wc119 : lw_tbl[730]? = some (pm_wcode 119) := by rfl
set_option maxRecDepth 100000 in
theorem pm_wc120 : lw_tbl[738]? = some (pm_wcode 120) := by rfl
set_option maxRecDepth 100000 in
theorem pm_wc122 : lw_tbl[503]? = some (pm_wcode 122) := by rfl
set_option maxRecDepth 100000 in
theorem pm_wc123 : lw_tbl[507]? = some (pm_wcode 123) := by rfl
set_option maxRecDepth 100000 in
theorem pm_wc124 : lw_tbl[511]? = some (pm_wcode 124) := by rfl
set_option maxRecDepth 100000 in
theorem pm_wc125 : lw_tbl[517]? = some (pm_wcode 125) := by rfl
set_option maxRecDepth 100000 in
theorem pm_wc126 : lw_tbl[521]? = some (pm_wcode 126) := by rfl
set_option maxRecDepth 100000 in
theorem pm_wc127 : lw_tbl[524]? = some (pm_wcode 127) := by rfl
set_option maxRecDepth 100000 in
theorem pm_wc128 : lw_tbl[527]? = some (pm_wcode 128) := by rfl
set_option maxRecDepth 100000 in
theorem pm_wc129 : lw_tbl[530]? = some (pm_wcode 129) := by rfl
set_option maxRecDepth 100000 in
theorem pm_wc130 : lw_tbl[533]? = some (pm_wcode 130) := by rfl
set_option maxRecDepth 100000 in
theorem pm_wc131 : lw_tbl[536]? = some (pm_wcode 131) := by rfl
set_option maxRecDepth 100000 in
theorem pm_wc132 : lw_tbl[694]? = some (pm_wcode 132) := by rfl
