/-! printed by a program of mine (wip/whole/mk08.py): methods by their numbers, the pool's entries, by their places in the words of the tables; and that each row of the tables is the decoded instruction -/
def pm_owl : List String := ["CardWorkshop$Game", "CardWorkshop$Machine", "CardWorkshop$Reader", "CardWorkshop$Solver", "CardWorkshop$Table", "CardWorkshop", "CardWorkshopModel", "CardWorkshopLaw", "java/lang/String", "java/lang/StringLatin1", "java/util/Arrays", "java/lang/Math"]
def pm_onm (k : Nat) : String := pm_owl.getD k ""
def pm_bl : List ByteArray := [prog_1_method_1_code, prog_1_method_2_code, prog_1_method_3_code, prog_1_method_4_code, prog_1_method_5_code, prog_1_method_6_code, prog_1_method_7_code, prog_1_method_8_code, prog_1_method_9_code, prog_1_method_10_code, prog_1_method_11_code, prog_1_method_12_code, prog_1_method_13_code, prog_1_method_14_code, prog_1_method_15_code, prog_1_method_16_code, prog_1_method_17_code, prog_1_method_18_code, prog_1_method_19_code, prog_1_method_20_code, prog_1_method_21_code, prog_1_method_22_code, prog_8_method_1_code, prog_8_method_2_code, prog_8_method_3_code, prog_8_method_4_code, prog_8_method_5_code, prog_8_method_6_code, prog_8_method_7_code, prog_8_method_8_code, prog_8_method_9_code, prog_8_method_10_code, prog_8_method_11_code, prog_8_method_12_code, prog_8_method_13_code, prog_8_method_14_code, prog_8_method_15_code, prog_8_method_16_code, prog_8_method_17_code, prog_8_method_18_code, prog_8_method_19_code, prog_8_method_20_code, prog_8_method_21_code, prog_8_method_22_code, prog_8_method_23_code, prog_8_method_24_code, prog_8_method_25_code, prog_8_method_26_code, prog_8_method_27_code, prog_8_method_28_code, prog_8_method_29_code, prog_8_method_30_code, prog_8_method_31_code, prog_8_method_32_code, prog_8_method_33_code, prog_8_method_34_code, prog_8_method_35_code, prog_8_method_36_code, prog_8_method_37_code, prog_8_method_38_code, prog_8_method_39_code, prog_8_method_40_code, prog_8_method_41_code, prog_8_method_42_code, prog_8_method_43_code, prog_8_method_44_code, prog_8_method_45_code, prog_8_method_46_code, prog_8_method_47_code, prog_8_method_48_code, prog_8_method_49_code, prog_8_method_50_code, prog_8_method_51_code, prog_8_method_52_code, prog_8_method_53_code, prog_8_method_54_code, prog_8_method_55_code, prog_8_method_56_code, prog_8_method_57_code, prog_2_method_1_code, prog_2_method_2_code, prog_2_method_3_code, prog_3_method_1_code, prog_3_method_2_code, prog_3_method_3_code, prog_3_method_4_code, prog_3_method_5_code, prog_3_method_6_code, prog_3_method_7_code, prog_3_method_8_code, prog_3_method_9_code, prog_3_method_10_code, prog_4_method_1_code, prog_4_method_2_code, prog_4_method_3_code, prog_4_method_4_code, prog_4_method_5_code, prog_4_method_6_code, prog_4_method_7_code, prog_4_method_8_code, prog_4_method_9_code, prog_4_method_10_code, prog_4_method_11_code, prog_4_method_12_code, prog_4_method_13_code, prog_5_method_1_code, prog_5_method_2_code, prog_5_method_3_code, prog_6_method_1_code, prog_6_method_2_code, prog_6_method_3_code, prog_6_method_4_code, prog_6_method_5_code, prog_6_method_12_code, method_3_code, method_4_code, method_5_code, method_6_code, method_7_code, method_8_code, method_9_code, code, prog_16_method_79_code, prog_16_method_80_code, prog_16_method_154_code, prog_16_method_54_code, prog_16_method_152_code, prog_17_method_22_code, prog_17_method_4_code, prog_14_method_65_code, prog_14_method_69_code, prog_17_method_23_code, prog_22_method_103_code, prog_6_method_6_code, prog_6_method_7_code, prog_6_method_8_code, prog_6_method_9_code, prog_6_method_10_code, prog_6_method_11_code]
def pm_b (m : Nat) : ByteArray := pm_bl.getD m ⟨#[]⟩
def pm_yl : List (String × String) := [("<init>", "()V"), ("type", "(J)Z"), ("byteOf", "(JI)I"), ("wipe", "()V"), ("compile", "()I"), ("code", "(IZ)I"), ("deal", "(II)I"), ("shuffle", "(II)V"), ("put", "(II)Z"), ("moves", "()I"), ("move", "(IZ)I"), ("findMove", "(I)I"), ("ruleOf", "(I)I"), ("cardOf", "(I)I"), ("act", "(I)I"), ("undo", "()Z"), ("card", "(II)I"), ("seen", "(III)I"), ("counter", "(I)I"), ("look", "(I)I"), ("solve", "(I)I"), ("best", "()I"), ("<init>", "()V"), ("thrown", "()I"), ("type", "(J)Z"), ("wipe", "()V"), ("peek", "()I"), ("eat", "(I)Z"), ("need", "(I)V"), ("emit", "(II)V"), ("among", "(IIIIIII)I"), ("zone", "()I"), ("cardZone", "(Z)I"), ("counterOf", "(I)I"), ("isDigit", "(I)Z"), ("number", "()V"), ("plain", "(Z)Z"), ("operator", "(I)I"), ("strength", "(I)I"), ("top", "()I"), ("release", "(I)V"), ("operand", "(IZ)I"), ("expr", "(Z)V"), ("effect", "(Z)V"), ("rule", "()V"), ("compile", "()I"), ("take", "(II)I"), ("code", "(IZ)I"), ("placeOf", "(II)I"), ("spot", "(II)I"), ("topOf", "(I)I"), ("go", "(II)V"), ("cardAt", "(III)I"), ("truth", "(Z)I"), ("worked", "(III)I"), ("asked", "(IIII)I"), ("run", "(III)I"), ("behind", "(I)I"), ("note", "(III)V"), ("list", "(I)V"), ("lies", "(II)Z"), ("make", "(II)V"), ("deal", "(II)I"), ("put", "(II)Z"), ("listed", "()I"), ("moves", "()I"), ("move", "(IZ)I"), ("act", "(I)I"), ("undo", "()Z"), ("card", "(II)I"), ("seen", "(III)I"), ("counter", "(I)I"), ("look", "(I)I"), ("keep", "(I)V"), ("back", "(I)V"), ("give", "(II)V"), ("search", "(I)Z"), ("solve", "(I)I"), ("best", "()I"), ("<init>", "()V"), ("emit", "(II)V"), ("copyFrom", "(LCardWorkshop$Game;)V"), ("<init>", "()V"), ("listMoves", "(LCardWorkshop$Table;[I)I"), ("makeMove", "(LCardWorkshop$Table;I)V"), ("run", "(LCardWorkshop$Table;II)I"), ("push", "(I)V"), ("pop", "()I"), ("operand", "(IILCardWorkshop$Table;II)I"), ("combine", "(III)I"), ("doEffect", "(IILCardWorkshop$Table;II)V"), ("placeOf", "(II)I"), ("<init>", "()V"), ("append", "(C)V"), ("readGame", "()V"), ("readRule", "(I)V"), ("readEffect", "()V"), ("readExpr", "(II)V"), ("readUnit", "(I)V"), ("readNumber", "()I"), ("readZone", "(Z)I"), ("readDigit", "(I)I"), ("expect", "(C)V"), ("take", "(C)Z"), ("next", "()C"), ("<init>", "()V"), ("valueOf", "(LCardWorkshop$Machine;LCardWorkshop$Table;I)I"), ("valueAt", "(LCardWorkshop$Machine;I)I"), ("<init>", "()V"), ("clear", "()V"), ("copyFrom", "(LCardWorkshop$Table;)V"), ("lay", "(II)V"), ("raise", "(II)V"), ("cardAt", "(II)I"), ("compile", "(LCardWorkshop;[J)I"), ("code", "(LCardWorkshop;IZ[J)I"), ("deal", "(LCardWorkshop;II[J)I"), ("move", "(LCardWorkshop;IZ[J)I"), ("act", "(LCardWorkshop;I[J)I"), ("counter", "(LCardWorkshop;I[J)I"), ("solve", "(LCardWorkshop;I[J)I"), ("law", "([I)Z"), ("indexOf", "(I)I"), ("indexOf", "(II)I"), ("isLatin1", "()Z"), ("length", "()I"), ("coder", "()B"), ("indexOf", "([BIII)I"), ("canEncode", "(I)Z"), ("max", "(II)I"), ("min", "(II)I"), ("indexOfChar", "([BIII)I"), ("fill", "([II)V"), ("takeOut", "(I)V"), ("sizeOf", "(I)I"), ("topOf", "(I)I"), ("counterAt", "(I)I"), ("setCounter", "(II)V"), ("addScore", "(II)V")]
def pm_y (m : Nat) : MethodName := ⟨pm_onm (pm_ow m), (pm_yl.getD m ("", "")).1, (pm_yl.getD m ("", "")).2⟩
def pm_rtl : List (Option FieldType) := [none, some .boolean, some .int, none, some .int, some .int, some .int, none, some .boolean, some .int, some .int, some .int, some .int, some .int, some .int, some .boolean, some .int, some .int, some .int, some .int, some .int, some .int, none, some .int, some .boolean, none, some .int, some .boolean, none, none, some .int, some .int, some .int, some .int, some .boolean, none, some .boolean, some .int, some .int, some .int, none, some .int, none, none, none, some .int, some .int, some .int, some .int, some .int, some .int, none, some .int, some .int, some .int, some .int, some .int, some .int, none, none, some .boolean, none, some .int, some .boolean, some .int, some .int, some .int, some .int, some .boolean, some .int, some .int, some .int, some .int, none, none, none, some .boolean, some .int, some .int, none, none, none, none, some .int, none, some .int, none, some .int, some .int, some .int, none, some .int, none, none, none, none, none, none, none, some .int, some .int, some .int, none, some .boolean, some .char, none, some .int, some .int, none, none, none, none, none, some .int, some .int, some .int, some .int, some .int, some .int, some .int, some .int, some .boolean, some .int, some .int, some .boolean, some .int, some .byte, some .int, some .boolean, some .int, some .int, some .int, none, none, some .int, some .int, some .int, none, none]
def pm_rt (m : Nat) : Option FieldType := pm_rtl.getD m none
/-- fields: (owner, entry), class, field, 1 by a nest mate, place of the word -/
def pm_fk : List ((Nat × Nat) × Nat × Nat × Nat × Nat) := [((0, 9), 0, 0, 0, 43), ((0, 15), 0, 1, 0, 46), ((0, 18), 0, 2, 0, 49), ((0, 22), 0, 3, 0, 53), ((0, 25), 0, 4, 0, 57), ((0, 28), 0, 5, 0, 60), ((0, 31), 0, 6, 0, 64), ((0, 34), 0, 7, 0, 67), ((0, 37), 0, 8, 0, 70), ((0, 40), 0, 9, 0, 73), ((1, 12), 1, 0, 0, 125), ((1, 18), 1, 1, 0, 127), ((1, 22), 1, 2, 0, 128), ((1, 26), 0, 9, 1, 74), ((1, 33), 0, 5, 1, 61), ((1, 36), 0, 6, 1, 65), ((1, 39), 0, 3, 1, 54), ((1, 42), 4, 0, 1, 152), ((1, 47), 4, 6, 1, 162), ((1, 50), 0, 7, 1, 68), ((1, 57), 0, 8, 1, 71), ((1, 63), 0, 2, 1, 51), ((1, 66), 0, 0, 1, 44), ((1, 69), 0, 1, 1, 47), ((1, 105), 0, 4, 1, 59), ((2, 9), 2, 0, 0, 99), ((2, 15), 2, 1, 0, 100), ((2, 22), 2, 2, 0, 102), ((2, 26), 2, 3, 0, 104), ((2, 29), 2, 4, 0, 105), ((2, 33), 0, 2, 1, 50), ((2, 34), 0, 5, 1, 62), ((2, 45), 0, 4, 1, 58), ((2, 48), 0, 3, 1, 55), ((2, 59), 0, 9, 1, 75), ((2, 76), 0, 6, 1, 66), ((2, 80), 0, 7, 1, 69), ((2, 83), 0, 8, 1, 72), ((3, 11), 3, 0, 0, 180), ((3, 19), 3, 1, 0, 181), ((3, 22), 3, 2, 0, 182), ((3, 26), 3, 3, 0, 183), ((3, 44), 4, 5, 1, 159), ((3, 59), 4, 6, 1, 163), ((4, 9), 4, 0, 0, 151), ((4, 15), 4, 1, 0, 153), ((4, 18), 4, 2, 0, 154), ((4, 21), 4, 3, 0, 155), ((4, 24), 4, 4, 0, 156), ((4, 27), 4, 5, 0, 158), ((4, 30), 4, 6, 0, 161), ((5, 12), 5, 0, 0, 196), ((5, 19), 5, 1, 0, 197), ((5, 26), 5, 2, 0, 198), ((5, 33), 5, 3, 0, 199), ((5, 37), 5, 4, 0, 200), ((5, 41), 5, 5, 0, 201), ((5, 45), 5, 6, 0, 202), ((5, 49), 5, 7, 0, 203), ((5, 53), 5, 8, 0, 204), ((5, 56), 5, 9, 0, 205), ((5, 63), 2, 1, 1, 101), ((5, 73), 2, 2, 1, 103), ((5, 77), 0, 2, 1, 52), ((5, 87), 1, 0, 1, 126), ((5, 99), 0, 1, 1, 48), ((5, 102), 0, 0, 1, 45), ((5, 115), 0, 3, 1, 56), ((5, 173), 4, 4, 1, 157), ((5, 176), 4, 5, 1, 160), ((5, 179), 0, 5, 1, 63), ((5, 182), 4, 6, 1, 164), ((5, 193), 3, 3, 1, 184), ((6, 7), 6, 2, 0, 728), ((6, 13), 6, 6, 0, 732), ((6, 16), 6, 7, 0, 733), ((6, 19), 6, 9, 0, 735), ((6, 22), 6, 11, 0, 737), ((6, 26), 6, 12, 0, 738), ((6, 29), 6, 18, 0, 744), ((6, 32), 6, 19, 0, 745), ((6, 35), 6, 22, 0, 748), ((6, 38), 6, 23, 0, 749), ((6, 41), 6, 25, 0, 751), ((6, 44), 6, 27, 0, 753), ((6, 47), 6, 28, 0, 754), ((6, 50), 6, 30, 0, 756), ((6, 53), 6, 31, 0, 757), ((6, 56), 6, 32, 0, 758), ((6, 59), 6, 33, 0, 759), ((6, 62), 6, 34, 0, 760), ((6, 65), 6, 35, 0, 761), ((6, 68), 6, 36, 0, 762), ((6, 71), 6, 37, 0, 763), ((6, 75), 6, 0, 0, 726), ((6, 80), 6, 1, 0, 727), ((6, 83), 6, 3, 0, 729), ((6, 94), 6, 4, 0, 730), ((6, 98), 6, 5, 0, 731), ((6, 126), 6, 8, 0, 734), ((6, 157), 6, 10, 0, 736), ((6, 166), 6, 13, 0, 739), ((6, 173), 6, 14, 0, 740), ((6, 176), 6, 15, 0, 741), ((6, 179), 6, 16, 0, 742), ((6, 182), 6, 17, 0, 743), ((6, 185), 6, 20, 0, 746), ((6, 188), 6, 21, 0, 747), ((6, 191), 6, 24, 0, 750), ((6, 194), 6, 26, 0, 752), ((6, 223), 6, 29, 0, 755)]
/-- ints: (owner, entry), value, place -/
def pm_ck : List ((Nat × Nat) × Int32 × Nat) := [((5, 128), 22695477, 648), ((6, 240), 22695477, 942)]
/-- methods: (owner, entry), method, 1 by a nest mate, place -/
def pm_mk : List ((Nat × Nat) × Nat × Nat × Nat) := [((1, 11), 79, 1, 124), ((1, 29), 85, 0, 266), ((1, 53), 12, 1, 687), ((1, 60), 13, 1, 688), ((1, 72), 88, 0, 270), ((1, 76), 86, 0, 289), ((1, 80), 87, 0, 293), ((1, 84), 89, 0, 297), ((1, 88), 90, 0, 300), ((1, 92), 136, 1, 274), ((1, 95), 91, 0, 278), ((1, 99), 134, 1, 281), ((1, 102), 135, 1, 285), ((1, 108), 112, 1, 304), ((1, 112), 137, 1, 305), ((1, 115), 138, 1, 309), ((2, 21), 79, 1, 39), ((2, 37), 102, 0, 362), ((2, 41), 101, 0, 439), ((2, 51), 104, 0, 366), ((2, 55), 95, 0, 444), ((2, 62), 97, 0, 448), ((2, 66), 80, 1, 547), ((2, 86), 96, 0, 567), ((2, 89), 103, 0, 456), ((2, 95), 122, 0, 461), ((2, 100), 100, 0, 551), ((2, 104), 98, 0, 452), ((2, 115), 99, 0, 557), ((3, 29), 108, 1, 147), ((3, 30), 110, 1, 710), ((3, 34), 107, 0, 711), ((3, 38), 83, 1, 715), ((3, 55), 84, 1, 719), ((4, 34), 132, 0, 653), ((4, 46), 133, 0, 250), ((4, 50), 111, 0, 254), ((4, 54), 134, 0, 333), ((4, 58), 135, 0, 334), ((5, 11), 92, 1, 33), ((5, 18), 82, 1, 119), ((5, 25), 105, 1, 138), ((5, 32), 108, 1, 195), ((5, 59), 2, 0, 231), ((5, 66), 93, 1, 234), ((5, 70), 94, 1, 358), ((5, 90), 81, 1, 588), ((5, 118), 7, 0, 644), ((5, 122), 109, 1, 649), ((5, 125), 111, 1, 656), ((5, 129), 112, 1, 246), ((5, 132), 83, 1, 262), ((5, 136), 11, 0, 664), ((5, 140), 13, 0, 669), ((5, 143), 12, 0, 672), ((5, 146), 9, 0, 344), ((5, 154), 110, 1, 317), ((5, 157), 84, 1, 683), ((5, 161), 134, 1, 328), ((5, 164), 113, 1, 329), ((5, 168), 16, 0, 339), ((5, 189), 106, 1, 706), ((6, 86), 26, 0, 867), ((6, 90), 27, 0, 863), ((6, 101), 30, 0, 901), ((6, 105), 31, 0, 904), ((6, 108), 34, 0, 887), ((6, 111), 29, 0, 894), ((6, 115), 35, 0, 890), ((6, 118), 33, 0, 898), ((6, 122), 32, 0, 908), ((6, 129), 39, 0, 916), ((6, 132), 38, 0, 920), ((6, 135), 36, 0, 883), ((6, 139), 40, 0, 912), ((6, 143), 41, 0, 879), ((6, 147), 37, 0, 923), ((6, 150), 42, 0, 875), ((6, 154), 28, 0, 859), ((6, 160), 43, 0, 926), ((6, 163), 44, 0, 871), ((6, 169), 46, 0, 930), ((6, 197), 49, 0, 947), ((6, 200), 48, 0, 974), ((6, 203), 50, 0, 981), ((6, 206), 53, 0, 988), ((6, 209), 52, 0, 977), ((6, 213), 55, 0, 970), ((6, 217), 54, 0, 985), ((6, 220), 51, 0, 943), ((6, 226), 56, 0, 966), ((6, 229), 58, 0, 991), ((6, 233), 60, 0, 995), ((6, 237), 57, 0, 1011), ((6, 241), 59, 0, 962), ((6, 244), 64, 0, 958), ((6, 247), 61, 0, 1007), ((6, 250), 69, 0, 1027), ((6, 253), 73, 0, 1044), ((6, 256), 75, 0, 1048), ((6, 259), 74, 0, 1052), ((6, 262), 76, 0, 1040), ((7, 7), 4, 0, 354), ((7, 17), 5, 0, 597), ((7, 23), 6, 0, 621), ((7, 29), 10, 0, 660), ((7, 32), 14, 0, 678), ((7, 36), 18, 0, 692), ((7, 39), 20, 0, 700), ((7, 42), 0, 0, 25), ((7, 45), 22, 0, 722), ((7, 48), 1, 0, 227), ((7, 52), 24, 0, 846), ((7, 53), 3, 0, 238), ((7, 56), 25, 0, 851), ((7, 57), 114, 0, 349), ((7, 62), 45, 0, 855), ((7, 63), 23, 0, 842), ((7, 66), 115, 0, 593), ((7, 69), 47, 0, 934), ((7, 70), 116, 0, 617), ((7, 73), 62, 0, 938), ((7, 74), 8, 0, 242), ((7, 78), 63, 0, 950), ((7, 79), 9, 0, 258), ((7, 82), 65, 0, 954), ((7, 83), 117, 0, 657), ((7, 85), 66, 0, 999), ((7, 86), 118, 0, 675), ((7, 89), 67, 0, 1003), ((7, 90), 15, 0, 313), ((7, 94), 68, 0, 1015), ((7, 95), 16, 0, 324), ((7, 98), 69, 0, 1019), ((7, 99), 17, 0, 335), ((7, 103), 70, 0, 1023), ((7, 104), 119, 0, 689), ((7, 106), 71, 0, 1028), ((7, 107), 19, 0, 340), ((7, 110), 72, 0, 1032), ((7, 111), 120, 0, 697), ((7, 113), 77, 0, 1036), ((7, 114), 21, 0, 345), ((7, 117), 78, 0, 1056), ((8, 335), 126, 0, 479), ((8, 492), 124, 0, 469), ((8, 505), 125, 0, 475), ((8, 633), 123, 0, 465), ((8, 637), 127, 0, 483), ((9, 38), 130, 0, 492), ((9, 88), 128, 0, 486), ((9, 92), 129, 0, 489), ((9, 95), 131, 0, 495)]
/-- constructors of exceptions: (owner, entry), which, place -/
def pm_ek : List ((Nat × Nat) × Nat × Nat) := [((2, 73), 0, 413), ((3, 52), 3, 718), ((5, 84), 3, 582), ((5, 98), 2, 611), ((5, 109), 1, 635), ((5, 114), 0, 643)]
/-- classes: (owner, entry), class, place -/
def pm_kk : List ((Nat × Nat) × Nat × Nat) := [((1, 9), 0, 123), ((2, 19), 0, 37), ((3, 9), 4, 142), ((5, 9), 2, 31), ((5, 16), 1, 117), ((5, 23), 3, 136), ((5, 30), 4, 194), ((7, 8), 5, 23), ((7, 43), 6, 720)]
/-- exception classes: (owner, entry), which, place -/
def pm_jk : List ((Nat × Nat) × Nat × Nat) := [((2, 69), 0, 370), ((3, 48), 3, 716), ((5, 80), 3, 572), ((5, 94), 2, 601), ((5, 105), 1, 625), ((5, 110), 0, 641), ((7, 13), 0, 352), ((7, 15), 3, 353), ((7, 21), 2, 596), ((7, 27), 1, 620)]
/-- Strings: (owner, entry), number, place -/
def pm_sk : List ((Nat × Nat) × Nat × Nat) := [((2, 93), 10000, 460), ((2, 107), 10020, 562), ((2, 121), 10010, 555)]
def pm_exl : List String := ["java/lang/IllegalArgumentException", "java/lang/IllegalStateException", "java/lang/IndexOutOfBoundsException", "java/lang/UnsupportedOperationException"]
def pm_ex (k : Nat) : String := pm_exl.getD k ""
theorem pm_fk_ok : ∀ q ∈ pm_fk, tables_1[q.2.2.2.2]? = some (if q.2.2.2.1 = 1 then .fieldLinkNest (pm_onm q.1.1) q.1.2 (pm_cnm q.2.1) (pm_T q.2.1 q.2.2.1).2.1 (pm_T q.2.1 q.2.2.1).2.2.1 "CardWorkshop" else .fieldLink (pm_onm q.1.1) q.1.2 (pm_cnm q.2.1) (pm_T q.2.1 q.2.2.1).2.1 (pm_T q.2.1 q.2.2.1).2.2.1) := by decide +kernel
theorem pm_ck_ok : ∀ q ∈ pm_ck, tables_1[q.2.2]? = some (.constant (pm_onm q.1.1) q.1.2 q.2.1) := by decide +kernel
theorem pm_mk_ok : ∀ q ∈ pm_mk, tables_1[q.2.2.2]? = some (if q.2.2.1 = 1 then .methodLinkNest (pm_onm q.1.1) q.1.2 (pm_y q.2.1) "CardWorkshop" else .methodLink (pm_onm q.1.1) q.1.2 (pm_y q.2.1)) := by decide +kernel
theorem pm_ek_ok : ∀ q ∈ pm_ek, tables_1[q.2.2]? = some (.methodLink (pm_onm q.1.1) q.1.2 ⟨pm_ex q.2.1, "<init>", "(Ljava/lang/String;)V"⟩) := by decide +kernel
theorem pm_kk_ok : ∀ q ∈ pm_kk, tables_1[q.2.2]? = some (.classLink (pm_onm q.1.1) q.1.2 (pm_cnm q.2.1)) := by decide +kernel
theorem pm_jk_ok : ∀ q ∈ pm_jk, tables_1[q.2.2]? = some (.classLink (pm_onm q.1.1) q.1.2 (pm_ex q.2.1)) := by decide +kernel
/-- a method's words, by their places in lw_tbl: its code, static or not, selects, its class initialised -/
def pm_mw : List (Nat × Nat × Nat × Nat) := [(94, 93, 0, 68), (297, 295, 296, 68), (300, 299, 0, 68), (308, 306, 307, 68), (424, 422, 423, 68), (667, 665, 666, 68), (691, 689, 690, 68), (714, 713, 31, 68), (312, 310, 311, 68), (328, 326, 327, 68), (730, 728, 729, 68), (734, 733, 33, 68), (741, 740, 0, 68), (738, 737, 0, 68), (748, 746, 747, 68), (383, 381, 382, 68), (394, 392, 393, 68), (405, 403, 404, 68), (762, 760, 761, 68), (410, 408, 409, 68), (770, 768, 769, 68), (415, 413, 414, 68), (791, 790, 0, 74), (912, 910, 911, 74), (916, 914, 915, 74), (921, 919, 920, 74), (937, 936, 39, 74), (933, 932, 38, 74), (929, 928, 37, 74), (964, 963, 45, 74), (970, 969, 0, 74), (974, 973, 46, 74), (978, 977, 47, 74), (967, 966, 0, 74), (956, 955, 0, 74), (960, 959, 44, 74), (953, 952, 43, 74), (992, 991, 0, 74), (989, 988, 0, 74), (986, 985, 49, 74), (982, 981, 48, 74), (949, 948, 42, 74), (945, 944, 41, 74), (996, 995, 50, 74), (941, 940, 40, 74), (925, 923, 924, 74), (1000, 999, 51, 74), (1004, 1002, 1003, 74), (1043, 1042, 0, 74), (1016, 1015, 0, 74), (1051, 1050, 58, 74), (1013, 1012, 52, 74), (1047, 1046, 57, 74), (1057, 1056, 0, 74), (1054, 1053, 0, 74), (1040, 1039, 56, 74), (1036, 1035, 55, 74), (1081, 1080, 62, 74), (1061, 1060, 59, 74), (1032, 1031, 54, 74), (1065, 1064, 60, 74), (1077, 1076, 61, 74), (1008, 1006, 1007, 74), (1020, 1018, 1019, 74), (1028, 1027, 53, 74), (1024, 1022, 1023, 74), (1069, 1067, 1068, 74), (1073, 1071, 1072, 74), (1085, 1083, 1084, 74), (1089, 1087, 1088, 74), (1093, 1091, 1092, 74), (1098, 1096, 1097, 74), (1102, 1100, 1101, 74), (1114, 1113, 64, 74), (1122, 1121, 66, 74), (1118, 1117, 65, 74), (1110, 1109, 63, 74), (1106, 1104, 1105, 74), (1126, 1124, 1125, 74), (108, 107, 0, 70), (617, 616, 26, 70), (658, 657, 30, 70), (188, 187, 0, 71), (332, 331, 4, 71), (753, 752, 34, 71), (336, 335, 5, 71), (359, 358, 10, 71), (363, 362, 11, 71), (340, 339, 6, 71), (366, 365, 0, 71), (370, 369, 12, 71), (347, 346, 0, 71), (102, 101, 0, 69), (304, 303, 0, 69), (428, 427, 17, 69), (514, 513, 22, 69), (637, 636, 29, 69), (518, 517, 23, 69), (522, 521, 24, 69), (627, 626, 28, 69), (621, 620, 27, 69), (509, 508, 21, 69), (432, 431, 18, 69), (526, 525, 25, 69), (436, 435, 19, 69), (207, 206, 0, 72), (776, 775, 35, 72), (781, 780, 36, 72), (216, 215, 0, 73), (719, 718, 32, 73), (387, 386, 15, 73), (324, 323, 3, 73), (316, 315, 1, 73), (399, 398, 16, 73), (418, 417, 0, 67), (662, 661, 0, 67), (686, 685, 0, 67), (726, 725, 0, 67), (744, 743, 0, 67), (758, 757, 0, 67), (766, 765, 0, 67), (0, 0, 0, 0), (531, 529, 530, 79), (535, 533, 534, 79), (539, 537, 538, 79), (545, 543, 544, 79), (549, 547, 548, 79), (552, 551, 0, 80), (555, 554, 0, 80), (558, 557, 0, 81), (561, 560, 0, 81), (564, 563, 0, 80), (722, 721, 0, 89), (320, 319, 2, 73), (351, 350, 8, 73), (355, 354, 9, 73), (344, 343, 7, 73), (375, 374, 13, 73), (379, 378, 14, 73)]
/-- methods that catch -/
def pm_hms : List Nat := [114, 115, 116, 117, 118, 119, 120]
def pm_hhl : List (List (Nat × Nat × Nat × Nat)) := [[], [], [], [], [], [], [], [], [], [], [], [], [], [], [], [], [], [], [], [], [], [], [], [], [], [], [], [], [], [], [], [], [], [], [], [], [], [], [], [], [], [], [], [], [], [], [], [], [], [], [], [], [], [], [], [], [], [], [], [], [], [], [], [], [], [], [], [], [], [], [], [], [], [], [], [], [], [], [], [], [], [], [], [], [], [], [], [], [], [], [], [], [], [], [], [], [], [], [], [], [], [], [], [], [], [], [], [], [], [], [], [], [], [], [(0, 8, 11, 13), (0, 8, 14, 15)], [(0, 10, 13, 21)], [(0, 10, 13, 27), (0, 10, 17, 13)], [(0, 10, 13, 21)], [(0, 9, 12, 21), (0, 9, 15, 27)], [(0, 9, 12, 21)], [(0, 9, 12, 27), (0, 9, 15, 13), (0, 9, 18, 15)], [], [], [], [], [], [], [], [], [], [], [], [], [], [], [], [], [], []]
def pm_hh (m : Nat) : List (Nat × Nat × Nat × Nat) := pm_hhl.getD m []
def pm_wcode (m : Nat) : Cond := if pm_hh m = [] then .code (pm_y m) (pm_b m) (pm_ml m) (pm_rt m) else .codeWith (pm_y m) (pm_b m) (pm_ml m) (pm_rt m) (pm_hh m)
def pm_wst (m : Nat) : Cond := if pm_stc m = true then .static (pm_y m) else .instanceMethod (pm_y m)
def pm_wat (m : Nat) : Nat × Nat × Nat × Nat := pm_mw.getD m (0, 0, 0, 0)
theorem pm_w_st : ∀ m, m < 139 → m ≠ 121 → lw_tbl[(pm_wat m).2.1]? = some (pm_wst m) := by decide +kernel
theorem pm_w_sel : ∀ m, m < 139 → m ≠ 121 → (pm_wat m).2.2.1 ≠ 0 ∨ m = 93 → lw_tbl[(pm_wat m).2.2.1]? = some (.selects (pm_y m).cls (pm_y m) (pm_y m)) := by decide +kernel
theorem pm_w_ini : ∀ m, m < 139 → m ≠ 121 → lw_tbl[(pm_wat m).2.2.2]? = some (.initialized (pm_y m).cls) := by decide +kernel
theorem pm_y_pl : ∀ m, m < 139 → m ≠ 129 → m ≠ 130 → plainFor (pm_y m) = true := by decide +kernel
theorem pm_y_mh : ∀ m, m < 139 → (pm_y m).cls ≠ "java/lang/invoke/MethodHandle" ∧ (pm_y m).cls ≠ "java/lang/invoke/VarHandle" := by decide +kernel
theorem pm_y_ds : ∀ m, m < 139 → (parseMethodDescriptor (pm_y m).desc).map (fun d => d.parameters.length + (if pm_stc m = true then 0 else 1)) = some (pm_cat m).length := by decide +kernel
set_option maxRecDepth 100000 in
theorem pm_wc0 : lw_tbl[94]? = some (pm_wcode 0) := by rfl
set_option maxRecDepth 100000 in
theorem pm_wc1 : lw_tbl[297]? = some (pm_wcode 1) := by rfl
set_option maxRecDepth 100000 in
theorem pm_wc2 : lw_tbl[300]? = some (pm_wcode 2) := by rfl
set_option maxRecDepth 100000 in
theorem pm_wc3 : lw_tbl[308]? = some (pm_wcode 3) := by rfl
set_option maxRecDepth 100000 in
theorem pm_wc4 : lw_tbl[424]? = some (pm_wcode 4) := by rfl
set_option maxRecDepth 100000 in
theorem pm_wc5 : lw_tbl[667]? = some (pm_wcode 5) := by rfl
set_option maxRecDepth 100000 in
theorem pm_wc6 : lw_tbl[691]? = some (pm_wcode 6) := by rfl
set_option maxRecDepth 100000 in
theorem pm_wc7 : lw_tbl[714]? = some (pm_wcode 7) := by rfl
set_option maxRecDepth 100000 in
theorem pm_wc8 : lw_tbl[312]? = some (pm_wcode 8) := by rfl
set_option maxRecDepth 100000 in
theorem pm_wc9 : lw_tbl[328]? = some (pm_wcode 9) := by rfl
set_option maxRecDepth 100000 in
theorem pm_wc10 : lw_tbl[730]? = some (pm_wcode 10) := by rfl
set_option maxRecDepth 100000 in
theorem pm_wc11 : lw_tbl[734]? = some (pm_wcode 11) := by rfl
set_option maxRecDepth 100000 in
theorem pm_wc12 : lw_tbl[741]? = some (pm_wcode 12) := by rfl
set_option maxRecDepth 100000 in
theorem pm_wc13 : lw_tbl[738]? = some (pm_wcode 13) := by rfl
set_option maxRecDepth 100000 in
theorem pm_wc14 : lw_tbl[748]? = some (pm_wcode 14) := by rfl
set_option maxRecDepth 100000 in
theorem pm_wc15 : lw_tbl[383]? = some (pm_wcode 15) := by rfl
set_option maxRecDepth 100000 in
theorem pm_wc16 : lw_tbl[394]? = some (pm_wcode 16) := by rfl
set_option maxRecDepth 100000 in
theorem pm_wc17 : lw_tbl[405]? = some (pm_wcode 17) := by rfl
set_option maxRecDepth 100000 in
theorem pm_wc18 : lw_tbl[762]? = some (pm_wcode 18) := by rfl
set_option maxRecDepth 100000 in
theorem pm_wc19 : lw_tbl[410]? = some (pm_wcode 19) := by rfl
set_option maxRecDepth 100000 in
theorem pm_wc20 : lw_tbl[770]? = some (pm_wcode 20) := by rfl
set_option maxRecDepth 100000 in
theorem pm_wc21 : lw_tbl[415]? = some (pm_wcode 21) := by rfl
set_option maxRecDepth 100000 in
theorem pm_wc22 : lw_tbl[791]? = some (pm_wcode 22) := by rfl
set_option maxRecDepth 100000 in
theorem pm_wc23 : lw_tbl[912]? = some (pm_wcode 23) := by rfl
set_option maxRecDepth 100000 in
theorem pm_wc24 : lw_tbl[916]? = some (pm_wcode 24) := by rfl
set_option maxRecDepth 100000 in
theorem pm_wc25 : lw_tbl[921]? = some (pm_wcode 25) := by rfl
set_option maxRecDepth 100000 in
theorem pm_wc26 : lw_tbl[937]? = some (pm_wcode 26) := by rfl
set_option maxRecDepth 100000 in
theorem pm_wc27 : lw_tbl[933]? = some (pm_wcode 27) := by rfl
set_option maxRecDepth 100000 in
theorem pm_wc28 : lw_tbl[929]? = some (pm_wcode 28) := by rfl
set_option maxRecDepth 100000 in
theorem pm_wc29 : lw_tbl[964]? = some (pm_wcode 29) := by rfl
set_option maxRecDepth 100000 in
theorem pm_wc30 : lw_tbl[970]? = some (pm_wcode 30) := by rfl
set_option maxRecDepth 100000 in
theorem pm_wc31 : lw_tbl[974]? = some (pm_wcode 31) := by rfl
set_option maxRecDepth 100000 in
theorem pm_wc32 : lw_tbl[978]? = some (pm_wcode 32) := by rfl
set_option maxRecDepth 100000 in
theorem pm_wc33 : lw_tbl[967]? = some (pm_wcode 33) := by rfl
set_option maxRecDepth 100000 in
theorem pm_wc34 : lw_tbl[956]? = some (pm_wcode 34) := by rfl
set_option maxRecDepth 100000 in
theorem pm_wc35 : lw_tbl[960]? = some (pm_wcode 35) := by rfl
set_option maxRecDepth 100000 in
theorem pm_wc36 : lw_tbl[953]? = some (pm_wcode 36) := by rfl
set_option maxRecDepth 100000 in
theorem pm_wc37 : lw_tbl[992]? = some (pm_wcode 37) := by rfl
set_option maxRecDepth 100000 in
theorem pm_wc38 : lw_tbl[989]? = some (pm_wcode 38) := by rfl
set_option maxRecDepth 100000 in
theorem pm_wc39 : lw_tbl[986]? = some (pm_wcode 39) := by rfl
set_option maxRecDepth 100000 in
theorem pm_wc40 : lw_tbl[982]? = some (pm_wcode 40) := by rfl
set_option maxRecDepth 100000 in
theorem pm_wc41 : lw_tbl[949]? = some (pm_wcode 41) := by rfl
set_option maxRecDepth 100000 in
theorem pm_wc42 : lw_tbl[945]? = some (pm_wcode 42) := by rfl
set_option maxRecDepth 100000 in
theorem pm_wc43 : lw_tbl[996]? = some (pm_wcode 43) := by rfl
set_option maxRecDepth 100000 in
theorem pm_wc44 : lw_tbl[941]? = some (pm_wcode 44) := by rfl
set_option maxRecDepth 100000 in
theorem pm_wc45 : lw_tbl[925]? = some (pm_wcode 45) := by rfl
set_option maxRecDepth 100000 in
theorem pm_wc46 : lw_tbl[1000]? = some (pm_wcode 46) := by rfl
set_option maxRecDepth 100000 in
theorem pm_wc47 : lw_tbl[1004]? = some (pm_wcode 47) := by rfl
set_option maxRecDepth 100000 in
theorem pm_wc48 : lw_tbl[1043]? = some (pm_wcode 48) := by rfl
set_option maxRecDepth 100000 in
theorem pm_wc49 : lw_tbl[1016]? = some (pm_wcode 49) := by rfl
set_option maxRecDepth 100000 in
theorem pm_wc50 : lw_tbl[1051]? = some (pm_wcode 50) := by rfl
set_option maxRecDepth 100000 in
theorem pm_wc51 : lw_tbl[1013]? = some (pm_wcode 51) := by rfl
set_option maxRecDepth 100000 in
theorem pm_wc52 : lw_tbl[1047]? = some (pm_wcode 52) := by rfl
set_option maxRecDepth 100000 in
theorem pm_wc53 : lw_tbl[1057]? = some (pm_wcode 53) := by rfl
set_option maxRecDepth 100000 in
theorem pm_wc54 : lw_tbl[1054]? = some (pm_wcode 54) := by rfl
set_option maxRecDepth 100000 in
theorem pm_wc55 : lw_tbl[1040]? = some (pm_wcode 55) := by rfl
set_option maxRecDepth 100000 in
theorem pm_wc56 : lw_tbl[1036]? = some (pm_wcode 56) := by rfl
set_option maxRecDepth 100000 in
theorem pm_wc57 : lw_tbl[1081]? = some (pm_wcode 57) := by rfl
set_option maxRecDepth 100000 in
theorem pm_wc58 : lw_tbl[1061]? = some (pm_wcode 58) := by rfl
set_option maxRecDepth 100000 in
theorem pm_wc59 : lw_tbl[1032]? = some (pm_wcode 59) := by rfl
set_option maxRecDepth 100000 in
theorem pm_wc60 : lw_tbl[1065]? = some (pm_wcode 60) := by rfl
set_option maxRecDepth 100000 in
theorem pm_wc61 : lw_tbl[1077]? = some (pm_wcode 61) := by rfl
set_option maxRecDepth 100000 in
theorem pm_wc62 : lw_tbl[1008]? = some (pm_wcode 62) := by rfl
set_option maxRecDepth 100000 in
theorem pm_wc63 : lw_tbl[1020]? = some (pm_wcode 63) := by rfl
set_option maxRecDepth 100000 in
theorem pm_wc64 : lw_tbl[1028]? = some (pm_wcode 64) := by rfl
set_option maxRecDepth 100000 in
theorem pm_wc65 : lw_tbl[1024]? = some (pm_wcode 65) := by rfl
set_option maxRecDepth 100000 in
theorem pm_wc66 : lw_tbl[1069]? = some (pm_wcode 66) := by rfl
set_option maxRecDepth 100000 in
theorem pm_wc67 : lw_tbl[1073]? = some (pm_wcode 67) := by rfl
set_option maxRecDepth 100000 in
theorem pm_wc68 : lw_tbl[1085]? = some (pm_wcode 68) := by rfl
set_option maxRecDepth 100000 in
theorem pm_wc69 : lw_tbl[1089]? = some (pm_wcode 69) := by rfl
set_option maxRecDepth 100000 in
theorem pm_wc70 : lw_tbl[1093]? = some (pm_wcode 70) := by rfl
set_option maxRecDepth 100000 in
theorem pm_wc71 : lw_tbl[1098]? = some (pm_wcode 71) := by rfl
set_option maxRecDepth 100000 in
theorem pm_wc72 : lw_tbl[1102]? = some (pm_wcode 72) := by rfl
set_option maxRecDepth 100000 in
theorem pm_wc73 : lw_tbl[1114]? = some (pm_wcode 73) := by rfl
set_option maxRecDepth 100000 in
theorem pm_wc74 : lw_tbl[1122]? = some (pm_wcode 74) := by rfl
set_option maxRecDepth 100000 in
theorem pm_wc75 : lw_tbl[1118]? = some (pm_wcode 75) := by rfl
set_option maxRecDepth 100000 in
theorem pm_wc76 : lw_tbl[1110]? = some (pm_wcode 76) := by rfl
set_option maxRecDepth 100000 in
theorem pm_wc77 : lw_tbl[1106]? = some (pm_wcode 77) := by rfl
set_option maxRecDepth 100000 in
theorem pm_wc78 : lw_tbl[1126]? = some (pm_wcode 78) := by rfl
set_option maxRecDepth 100000 in
theorem pm_wc79 : lw_tbl[108]? = some (pm_wcode 79) := by rfl
set_option maxRecDepth 100000 in
theorem pm_wc80 : lw_tbl[617]? = some (pm_wcode 80) := by rfl
set_option maxRecDepth 100000 in
theorem pm_wc81 : lw_tbl[658]? = some (pm_wcode 81) := by rfl
set_option maxRecDepth 100000 in
theorem pm_wc82 : lw_tbl[188]? = some (pm_wcode 82) := by rfl
set_option maxRecDepth 100000 in
theorem pm_wc83 : lw_tbl[332]? = some (pm_wcode 83) := by rfl
set_option maxRecDepth 100000 in
theorem pm_wc84 : lw_tbl[753]? = some (pm_wcode 84) := by rfl
set_option maxRecDepth 100000 in
theorem pm_wc85 : lw_tbl[336]? = some (pm_wcode 85) := by rfl
set_option maxRecDepth 100000 in
theorem pm_wc86 : lw_tbl[359]? = some (pm_wcode 86) := by rfl
set_option maxRecDepth 100000 in
theorem pm_wc87 : lw_tbl[363]? = some (pm_wcode 87) := by rfl
set_option maxRecDepth 100000 in
theorem pm_wc88 : lw_tbl[340]? = some (pm_wcode 88) := by rfl
set_option maxRecDepth 100000 in
theorem pm_wc89 : lw_tbl[366]? = some (pm_wcode 89) := by rfl
set_option maxRecDepth 100000 in
theorem pm_wc90 : lw_tbl[370]? = some (pm_wcode 90) := by rfl
set_option maxRecDepth 100000 in
theorem pm_wc91 : lw_tbl[347]? = some (pm_wcode 91) := by rfl
set_option maxRecDepth 100000 in
theorem pm_wc92 : lw_tbl[102]? = some (pm_wcode 92) := by rfl
set_option maxRecDepth 100000 in
theorem pm_wc93 : lw_tbl[304]? = some (pm_wcode 93) := by rfl
set_option maxRecDepth 100000 in
theorem pm_wc94 : lw_tbl[428]? = some (pm_wcode 94) := by rfl
set_option maxRecDepth 100000 in
theorem pm_wc95 : lw_tbl[514]? = some (pm_wcode 95) := by rfl
set_option maxRecDepth 100000 in
theorem pm_wc96 : lw_tbl[637]? = some (pm_wcode 96) := by rfl
set_option maxRecDepth 100000 in
theorem pm_wc97 : lw_tbl[518]? = some (pm_wcode 97) := by rfl
set_option maxRecDepth 100000 in
theorem pm_wc98 : lw_tbl[522]? = some (pm_wcode 98) := by rfl
set_option maxRecDepth 100000 in
theorem pm_wc99 : lw_tbl[627]? = some (pm_wcode 99) := by rfl
set_option maxRecDepth 100000 in
theorem pm_wc100 : lw_tbl[621]? = some (pm_wcode 100) := by rfl
set_option maxRecDepth 100000 in
theorem pm_wc101 : lw_tbl[509]? = some (pm_wcode 101) := by rfl
set_option maxRecDepth 100000 in
theorem pm_wc102 : lw_tbl[432]? = some (pm_wcode 102) := by rfl
set_option maxRecDepth 100000 in
theorem pm_wc103 : lw_tbl[526]? = some (pm_wcode 103) := by rfl
set_option maxRecDepth 100000 in
theorem pm_wc104 : lw_tbl[436]? = some (pm_wcode 104) := by rfl
set_option maxRecDepth 100000 in
theorem pm_wc105 : lw_tbl[207]? = some (pm_wcode 105) := by rfl
set_option maxRecDepth 100000 in
theorem pm_wc106 : lw_tbl[776]? = some (pm_wcode 106) := by rfl
set_option maxRecDepth 100000 in
theorem pm_wc107 : lw_tbl[781]? = some (pm_wcode 107) := by rfl
set_option maxRecDepth 100000 in
theorem pm_wc108 : lw_tbl[216]? = some (pm_wcode 108) := by rfl
set_option maxRecDepth 100000 in
theorem pm_wc109 : lw_tbl[719]? = some (pm_wcode 109) := by rfl
set_option maxRecDepth 100000 in
theorem pm_wc110 : lw_tbl[387]? = some (pm_wcode 110) := by rfl
set_option maxRecDepth 100000 in
theorem pm_wc111 : lw_tbl[324]? = some (pm_wcode 111) := by rfl
set_option maxRecDepth 100000 in
theorem pm_wc112 : lw_tbl[316]? = some (pm_wcode 112) := by rfl
set_option maxRecDepth 100000 in
theorem pm_wc113 : lw_tbl[399]? = some (pm_wcode 113) := by rfl
set_option maxRecDepth 100000 in
theorem pm_wc114 : lw_tbl[418]? = some (pm_wcode 114) := by rfl
set_option maxRecDepth 100000 in
theorem pm_wc115 : lw_tbl[662]? = some (pm_wcode 115) := by rfl
set_option maxRecDepth 100000 in
theorem pm_wc116 : lw_tbl[686]? = some (pm_wcode 116) := by rfl
set_option maxRecDepth 100000 in
theorem pm_wc117 : lw_tbl[726]? = some (pm_wcode 117) := by rfl
set_option maxRecDepth 100000 in
theorem pm_wc118 : lw_tbl[744]? = some (pm_wcode 118) := by rfl
set_option maxRecDepth 100000 in
theorem pm_wc119 : lw_tbl[758]? = some (pm_wcode 119) := by rfl
set_option maxRecDepth 100000 in
theorem pm_wc120 : lw_tbl[766]? = some (pm_wcode 120) := by rfl
set_option maxRecDepth 100000 in
theorem pm_wc122 : lw_tbl[531]? = some (pm_wcode 122) := by rfl
set_option maxRecDepth 100000 in
theorem pm_wc123 : lw_tbl[535]? = some (pm_wcode 123) := by rfl
set_option maxRecDepth 100000 in
theorem pm_wc124 : lw_tbl[539]? = some (pm_wcode 124) := by rfl
set_option maxRecDepth 100000 in
theorem pm_wc125 : lw_tbl[545]? = some (pm_wcode 125) := by rfl
set_option maxRecDepth 100000 in
theorem pm_wc126 : lw_tbl[549]? = some (pm_wcode 126) := by rfl
set_option maxRecDepth 100000 in
theorem pm_wc127 : lw_tbl[552]? = some (pm_wcode 127) := by rfl
set_option maxRecDepth 100000 in
theorem pm_wc128 : lw_tbl[555]? = some (pm_wcode 128) := by rfl
set_option maxRecDepth 100000 in
theorem pm_wc129 : lw_tbl[558]? = some (pm_wcode 129) := by rfl
set_option maxRecDepth 100000 in
theorem pm_wc130 : lw_tbl[561]? = some (pm_wcode 130) := by rfl
set_option maxRecDepth 100000 in
theorem pm_wc131 : lw_tbl[564]? = some (pm_wcode 131) := by rfl
set_option maxRecDepth 100000 in
theorem pm_wc132 : lw_tbl[722]? = some (pm_wcode 132) := by rfl
set_option maxRecDepth 100000 in
theorem pm_wc133 : lw_tbl[320]? = some (pm_wcode 133) := by rfl
set_option maxRecDepth 100000 in
theorem pm_wc134 : lw_tbl[351]? = some (pm_wcode 134) := by rfl
set_option maxRecDepth 100000 in
theorem pm_wc135 : lw_tbl[355]? = some (pm_wcode 135) := by rfl
set_option maxRecDepth 100000 in
theorem pm_wc136 : lw_tbl[344]? = some (pm_wcode 136) := by rfl
set_option maxRecDepth 100000 in
theorem pm_wc137 : lw_tbl[375]? = some (pm_wcode 137) := by rfl
set_option maxRecDepth 100000 in
theorem pm_wc138 : lw_tbl[379]? = some (pm_wcode 138) := by rfl
