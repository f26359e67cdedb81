/-- links of System.arraycopy, of Object.<init>: owner, entry; the places of their words -/
def pm_acl : List (Nat × Nat) := [(0, 43), (4, 40)]
def pm_obl : List (Nat × Nat) := [(0, 3), (1, 3), (2, 3), (3, 3), (4, 3), (5, 3), (6, 1)]
def pm_acj : List Nat := [570, 302]
def pm_obj2 : List Nat := [42, 122, 36, 141, 150, 28, 703]
theorem pm_acl_ok : ∀ k, k < 2 → tables_1[pm_acj.getD k 0]? = some (.methodLink (pm_onm (pm_acl.getD k (0, 0)).1) (pm_acl.getD k (0, 0)).2 arraycopyName) := by decide +kernel
theorem pm_obl_ok : ∀ k, k < 7 → tables_1[pm_obj2.getD k 0]? = some (.methodLink (pm_onm (pm_obl.getD k (0, 0)).1) (pm_obl.getD k (0, 0)).2 objectInit) := by decide +kernel
/-- messages of exceptions: owner, entry -/
def pm_msg : List (Nat × Nat) := [(2, 71), (2, 119), (2, 123), (2, 125), (2, 127), (3, 50), (5, 82), (5, 96), (5, 107), (5, 112), (5, 150), (5, 152), (5, 171), (5, 185), (5, 187)]
/-! EACH ROW OF THE TABLES IS THE DECODED INSTRUCTION -/
theorem pm_y_pl2 : plainFor (pm_y 129) = true ∧ plainFor (pm_y 130) = true := by decide +kernel
def pm_cdi (k : Nat) : Jvm.ClassFile.Cond := match k with
  | 0 => .eq
  | 1 => .ne
  | 2 => .lt
  | 3 => .ge
  | 4 => .gt
  | _ => .le
def pm_at1 (k : Nat) : ArrayType := match k with
  | 0 => .int
  | 1 => .char
  | 2 => .boolean
  | _ => .long
/-- is it the instruction that the row says? -/
def pm_dk (own op len a b : Nat) (n : Int32) (pc : Nat) (i : Instr) : Bool := match op with
  | 1 => match i with
    | .iconst k => decide (Int32.ofInt k = n) && len == 1
    | .bipush k => decide ((Int8.ofInt k).toInt32 = n) && len == 2
    | .sipush k => decide ((Int16.ofInt k).toInt32 = n) && len == 3
    | .ldc j => decide ((pm_ck.lookup (own, j)).map (fun q => q.1) = some n) && len == 2
    | _ => false
  | 2 => match i with
    | .iload_n k => k.val == a && len == 1
    | .iload k => k == a && len == 2
    | _ => false
  | 3 => match i with
    | .aload_n k => k.val == a && len == 1
    | .aload k => k == a && len == 2
    | _ => false
  | 4 => match i with
    | .lload_n k => k.val == a && len == 1
    | .lload k => k == a && len == 2
    | _ => false
  | 5 => match i with
    | .istore_n k => k.val == a && len == 1
    | .istore k => k == a && len == 2
    | _ => false
  | 6 => match i with
    | .astore_n k => k.val == a && len == 1
    | .astore k => k == a && len == 2
    | _ => false
  | 8 => match i with
    | .iinc k c => k == a && decide (Int32.ofInt c = n) && len == 3
    | _ => false
  | 9 => decide (i = .iadd) && len == 1
  | 10 => decide (i = .isub) && len == 1
  | 11 => decide (i = .imul) && len == 1
  | 12 => decide (i = .idiv) && len == 1
  | 13 => decide (i = .irem) && len == 1
  | 14 => decide (i = .iand) && len == 1
  | 15 => match i with
    | .ldc2_w j => own == 7 && j == 46 && len == 3
    | _ => false
  | 17 => decide (i = .ishr) && len == 1
  | 18 => decide (i = .iushr) && len == 1
  | 19 => decide (i = .i2b) && len == 1
  | 20 => decide (i = .i2l) && len == 1
  | 21 => decide (i = .l2i) && len == 1
  | 22 => decide (i = .i2c) && len == 1
  | 23 => decide (i = .lshl) && len == 1
  | 24 => decide (i = .lushr) && len == 1
  | 25 => decide (i = .land) && len == 1
  | 26 => decide (i = .lor) && len == 1
  | 27 => decide (i = .lcmp) && len == 1
  | 28 => decide (i = .lshr) && len == 1
  | 29 => match i with
    | .ldc2_w j => own == 6 && j == 78 && len == 3 && decide (n = 255)
    | _ => false
  | 30 => decide (i = .dup) && len == 1
  | 31 => decide (i = .pop) && len == 1
  | 32 => decide (i = .dup) && len == 1
  | 34 => decide (i = .dup2) && len == 1
  | 40 => match i with
    | .ifCond c off => decide (c = pm_cdi b) && decide ((pc : Int) + off = (a : Int)) && len == 3 && decide (b < 6)
    | _ => false
  | 41 => match i with
    | .if_icmp c off => decide (c = pm_cdi b) && decide ((pc : Int) + off = (a : Int)) && len == 3 && decide (b < 6)
    | _ => false
  | 42 => match i with
    | .goto off => decide ((pc : Int) + off = (a : Int))
    | _ => false
  | 43 => match i with
    | .tableswitch d lo hi offs => decide ((pc : Int) + d = (b : Int)) && decide (Int32.ofInt lo = n) && decide ((pm_sw a).length = offs.size) && decide (hi = lo + offs.size - 1) && decide (0 ≤ lo) && decide (hi < 100) && (List.range offs.size).all (fun k => decide ((pc : Int) + offs[k]! = ((pm_sw a).getD k 0 : Int)))
    | _ => false
  | 50 => match i with
    | .getfield j => decide ((pm_fk.lookup (own, j)).map (fun q => (q.1, q.2.1)) = some (a, b)) && !pm_isr a b && len == 3
    | _ => false
  | 51 => match i with
    | .getfield j => decide ((pm_fk.lookup (own, j)).map (fun q => (q.1, q.2.1)) = some (a, b)) && pm_isr a b && len == 3
    | _ => false
  | 52 => match i with
    | .putfield j => decide ((pm_fk.lookup (own, j)).map (fun q => (q.1, q.2.1)) = some (a, b)) && decide (pm_ft a b = pm_ty n.toNatClampNeg) && !(pm_T a b).2.2.2 && len == 3
    | _ => false
  | 53 => match i with
    | .putfield j => decide ((pm_fk.lookup (own, j)).map (fun q => (q.1, q.2.1)) = some (a, b)) && pm_isr a b && (pm_T a b).2.2.2 && own == a && decide ((pm_fk.lookup (own, j)).map (fun q => q.2.2.1) = some 0) && len == 3
    | _ => false
  | 54 => decide (i = (if a = 0 then .iaload else if a = 1 then .caload else .baload)) && len == 1 && decide (a < 3)
  | 55 => decide (i = (if a = 0 then .iastore else if a = 1 then .castore else .bastore)) && len == 1 && decide (a < 3)
  | 56 => decide (i = .arraylength) && len == 1
  | 57 => decide (i = .laload) && len == 1
  | 58 => decide (i = .lastore) && len == 1
  | 59 => decide (i = .aaload) && len == 1 && (a == 4 || a == 5)
  | 60 => match i with
    | .invokevirtual j => decide ((pm_mk.lookup (own, j)).map (fun q => q.1) = some a) && !pm_stc a && b == (pm_cat a).length && decide ((pm_y a).name ≠ "<init>") && len == 3 && decide (a < 133) && decide (a ≠ 121)
    | .invokestatic j => decide ((pm_mk.lookup (own, j)).map (fun q => q.1) = some a) && pm_stc a && b == (pm_cat a).length && len == 3 && decide (a < 133) && decide (a ≠ 121)
    | .invokespecial j => decide ((pm_mk.lookup (own, j)).map (fun q => q.1) = some a) && !pm_stc a && b == (pm_cat a).length && decide ((pm_y a).name = "<init>") && len == 3 && decide (a < 133) && decide (a ≠ 121)
    | _ => false
  | 61 => match i with
    | .invokestatic j => len == 3 && pm_acl.contains (own, j)
    | _ => false
  | 63 => decide (i = .return_) && len == 1
  | 64 => decide (i = .ireturn) && len == 1
  | 70 => decide (i = .aastore) && len == 1
  | 71 => match i with
    | .new j => decide ((pm_kk.lookup (own, j)).map (fun q => q.1) = some a) && len == 3 && decide (a < 7)
    | _ => false
  | 72 => match i with
    | .newarray t => decide (a < 4) && decide (t = pm_at1 a) && len == 2
    | .anewarray j => decide (a = 4) && decide ((pm_kk.lookup (own, j)).map (fun q => q.1) = some 4) && len == 3
    | _ => false
  | 73 => match i with
    | .multianewarray j d => own == 3 && j == 17 && d == 2 && len == 4
    | _ => false
  | 74 => match i with
    | .invokespecial j => len == 3 && pm_obl.contains (own, j)
    | _ => false
  | 80 => match i with
    | .ldc j => decide ((pm_sk.lookup (own, j)).map (fun q => q.1) = some a) && len == 2 && decide (a < 10030)
    | .getstatic j => len == 3 && ((own == 2 && j == 109 && a == 10030) || (own == 2 && j == 112 && a == 10040))
    | _ => false
  | 81 => decide (i = (if a = 0 then .iaload else .baload)) && len == 1
  | 82 => decide (i = .arraylength) && len == 1
  | 83 => decide (i = .iaload) && len == 1
  | 84 => decide (i = .arraylength) && len == 1
  | 85 => match i with
    | .getfield j => own == 8 && j == 9 && len == 3
    | _ => false
  | 86 => match i with
    | .getfield j => own == 8 && j == 15 && len == 3
    | _ => false
  | 87 => match i with
    | .getstatic j => own == 8 && j == 38 && len == 3 && decide (n = 1)
    | _ => false
  | _ => false
/-- the throws: new, dup, ldc, invokespecial, athrow -/
def pm_dth (own len a pc : Nat) (c : ByteArray) : Bool := match decode c pc, decode c (pc + 3), decode c (pc + 4), decode c (pc + 6), decode c (pc + 9) with
  | .ok (.new j, 3), .ok (.dup, 1), .ok (.ldc s, 2), .ok (.invokespecial k, 3), .ok (.athrow, 1) => decide ((pm_jk.lookup (own, j)).map (fun q => q.1) = some a) && decide ((pm_ek.lookup (own, k)).map (fun q => q.1) = some a) && pm_msg.contains (own, s) && len == 10
  | _, _, _, _, _ => false
def pm_ok1 (m : Nat) (e : Nat × pm_I) : Bool := match e with
  | (pc, op, len, a, b, n) => if op = 67 then pm_dth (pm_ow m) len a pc (pm_b m) else match decode (pm_b m) pc with
    | .ok (i, l) => l == len && pm_dk (pm_ow m) op len a b n pc i && (!(op == 5 || op == 6 || op == 8) || a == 0 || !(pm_lgs 0 (pm_cat m)).contains (a - 1)) && (!(op == 5 || op == 6 || op == 8) || decide (a < pm_ml m))
    | _ => false
theorem pm_ok_0 : cd0.all (pm_ok1 0) = true := by decide +kernel
theorem pm_ok_1 : cd1.all (pm_ok1 1) = true := by decide +kernel
theorem pm_ok_2 : cd2.all (pm_ok1 2) = true := by decide +kernel
theorem pm_ok_3 : cd3.all (pm_ok1 3) = true := by decide +kernel
theorem pm_ok_4 : cd4.all (pm_ok1 4) = true := by decide +kernel
theorem pm_ok_5 : cd5.all (pm_ok1 5) = true := by decide +kernel
theorem pm_ok_6 : cd6.all (pm_ok1 6) = true := by decide +kernel
theorem pm_ok_7 : cd7.all (pm_ok1 7) = true := by decide +kernel
theorem pm_ok_8 : cd8.all (pm_ok1 8) = true := by decide +kernel
theorem pm_ok_9 : cd9.all (pm_ok1 9) = true := by decide +kernel
theorem pm_ok_10 : cd10.all (pm_ok1 10) = true := by decide +kernel
theorem pm_ok_11 : cd11.all (pm_ok1 11) = true := by decide +kernel
theorem pm_ok_12 : cd12.all (pm_ok1 12) = true := by decide +kernel
theorem pm_ok_13 : cd13.all (pm_ok1 13) = true := by decide +kernel
theorem pm_ok_14 : cd14.all (pm_ok1 14) = true := by decide +kernel
theorem pm_ok_15 : cd15.all (pm_ok1 15) = true := by decide +kernel
theorem pm_ok_16 : cd16.all (pm_ok1 16) = true := by decide +kernel
theorem pm_ok_17 : cd17.all (pm_ok1 17) = true := by decide +kernel
theorem pm_ok_18 : cd18.all (pm_ok1 18) = true := by decide +kernel
theorem pm_ok_19 : cd19.all (pm_ok1 19) = true := by decide +kernel
theorem pm_ok_20 : cd20.all (pm_ok1 20) = true := by decide +kernel
theorem pm_ok_21 : cd21.all (pm_ok1 21) = true := by decide +kernel
theorem pm_ok_22 : cd22.all (pm_ok1 22) = true := by decide +kernel
theorem pm_ok_23 : cd23.all (pm_ok1 23) = true := by decide +kernel
theorem pm_ok_24 : cd24.all (pm_ok1 24) = true := by decide +kernel
theorem pm_ok_25 : cd25.all (pm_ok1 25) = true := by decide +kernel
theorem pm_ok_26 : cd26.all (pm_ok1 26) = true := by decide +kernel
theorem pm_ok_27 : cd27.all (pm_ok1 27) = true := by decide +kernel
theorem pm_ok_28 : cd28.all (pm_ok1 28) = true := by decide +kernel
theorem pm_ok_29 : cd29.all (pm_ok1 29) = true := by decide +kernel
theorem pm_ok_30 : cd30.all (pm_ok1 30) = true := by decide +kernel
theorem pm_ok_31 : cd31.all (pm_ok1 31) = true := by decide +kernel
theorem pm_ok_32 : cd32.all (pm_ok1 32) = true := by decide +kernel
theorem pm_ok_33 : cd33.all (pm_ok1 33) = true := by decide +kernel
theorem pm_ok_34 : cd34.all (pm_ok1 34) = true := by decide +kernel
theorem pm_ok_35 : cd35.all (pm_ok1 35) = true := by decide +kernel
theorem pm_ok_36 : cd36.all (pm_ok1 36) = true := by decide +kernel
theorem pm_ok_37 : cd37.all (pm_ok1 37) = true := by decide +kernel
theorem pm_ok_38 : cd38.all (pm_ok1 38) = true := by decide +kernel
theorem pm_ok_39 : cd39.all (pm_ok1 39) = true := by decide +kernel
theorem pm_ok_40 : cd40.all (pm_ok1 40) = true := by decide +kernel
theorem pm_ok_41 : cd41.all (pm_ok1 41) = true := by decide +kernel
theorem pm_ok_42 : cd42.all (pm_ok1 42) = true := by decide +kernel
theorem pm_ok_43 : cd43.all (pm_ok1 43) = true := by decide +kernel
theorem pm_ok_44 : cd44.all (pm_ok1 44) = true := by decide +kernel
theorem pm_ok_45 : cd45.all (pm_ok1 45) = true := by decide +kernel
theorem pm_ok_46 : cd46.all (pm_ok1 46) = true := by decide +kernel
theorem pm_ok_47 : cd47.all (pm_ok1 47) = true := by decide +kernel
theorem pm_ok_48 : cd48.all (pm_ok1 48) = true := by decide +kernel
theorem pm_ok_49 : cd49.all (pm_ok1 49) = true := by decide +kernel
theorem pm_ok_50 : cd50.all (pm_ok1 50) = true := by decide +kernel
theorem pm_ok_51 : cd51.all (pm_ok1 51) = true := by decide +kernel
theorem pm_ok_52 : cd52.all (pm_ok1 52) = true := by decide +kernel
theorem pm_ok_53 : cd53.all (pm_ok1 53) = true := by decide +kernel
theorem pm_ok_54 : cd54.all (pm_ok1 54) = true := by decide +kernel
theorem pm_ok_55 : cd55.all (pm_ok1 55) = true := by decide +kernel
theorem pm_ok_56 : cd56.all (pm_ok1 56) = true := by decide +kernel
theorem pm_ok_57 : cd57.all (pm_ok1 57) = true := by decide +kernel
theorem pm_ok_58 : cd58.all (pm_ok1 58) = true := by decide +kernel
theorem pm_ok_59 : cd59.all (pm_ok1 59) = true := by decide +kernel
theorem pm_ok_60 : cd60.all (pm_ok1 60) = true := by decide +kernel
theorem pm_ok_61 : cd61.all (pm_ok1 61) = true := by decide +kernel
theorem pm_ok_62 : cd62.all (pm_ok1 62) = true := by decide +kernel
theorem pm_ok_63 : cd63.all (pm_ok1 63) = true := by decide +kernel
theorem pm_ok_64 : cd64.all (pm_ok1 64) = true := by decide +kernel
theorem pm_ok_65 : cd65.all (pm_ok1 65) = true := by decide +kernel
theorem pm_ok_66 : cd66.all (pm_ok1 66) = true := by decide +kernel
theorem pm_ok_67 : cd67.all (pm_ok1 67) = true := by decide +kernel
theorem pm_ok_68 : cd68.all (pm_ok1 68) = true := by decide +kernel
theorem pm_ok_69 : cd69.all (pm_ok1 69) = true := by decide +kernel
theorem pm_ok_70 : cd70.all (pm_ok1 70) = true := by decide +kernel
theorem pm_ok_71 : cd71.all (pm_ok1 71) = true := by decide +kernel
theorem pm_ok_72 : cd72.all (pm_ok1 72) = true := by decide +kernel
theorem pm_ok_73 : cd73.all (pm_ok1 73) = true := by decide +kernel
theorem pm_ok_74 : cd74.all (pm_ok1 74) = true := by decide +kernel
theorem pm_ok_75 : cd75.all (pm_ok1 75) = true := by decide +kernel
theorem pm_ok_76 : cd76.all (pm_ok1 76) = true := by decide +kernel
theorem pm_ok_77 : cd77.all (pm_ok1 77) = true := by decide +kernel
theorem pm_ok_78 : cd78.all (pm_ok1 78) = true := by decide +kernel
theorem pm_ok_79 : cd79.all (pm_ok1 79) = true := by decide +kernel
theorem pm_ok_80 : cd80.all (pm_ok1 80) = true := by decide +kernel
theorem pm_ok_81 : cd81.all (pm_ok1 81) = true := by decide +kernel
theorem pm_ok_82 : cd82.all (pm_ok1 82) = true := by decide +kernel
theorem pm_ok_83 : cd83.all (pm_ok1 83) = true := by decide +kernel
theorem pm_ok_84 : cd84.all (pm_ok1 84) = true := by decide +kernel
theorem pm_ok_85 : cd85.all (pm_ok1 85) = true := by decide +kernel
theorem pm_ok_86 : cd86.all (pm_ok1 86) = true := by decide +kernel
theorem pm_ok_87 : cd87.all (pm_ok1 87) = true := by decide +kernel
theorem pm_ok_88 : cd88.all (pm_ok1 88) = true := by decide +kernel
theorem pm_ok_89 : cd89.all (pm_ok1 89) = true := by decide +kernel
theorem pm_ok_90 : cd90.all (pm_ok1 90) = true := by decide +kernel
theorem pm_ok_91 : cd91.all (pm_ok1 91) = true := by decide +kernel
theorem pm_ok_92 : cd92.all (pm_ok1 92) = true := by decide +kernel
theorem pm_ok_93 : cd93.all (pm_ok1 93) = true := by decide +kernel
theorem pm_ok_94 : cd94.all (pm_ok1 94) = true := by decide +kernel
theorem pm_ok_95 : cd95.all (pm_ok1 95) = true := by decide +kernel
theorem pm_ok_96 : cd96.all (pm_ok1 96) = true := by decide +kernel
theorem pm_ok_97 : cd97.all (pm_ok1 97) = true := by decide +kernel
theorem pm_ok_98 : cd98.all (pm_ok1 98) = true := by decide +kernel
theorem pm_ok_99 : cd99.all (pm_ok1 99) = true := by decide +kernel
theorem pm_ok_100 : cd100.all (pm_ok1 100) = true := by decide +kernel
theorem pm_ok_101 : cd101.all (pm_ok1 101) = true := by decide +kernel
theorem pm_ok_102 : cd102.all (pm_ok1 102) = true := by decide +kernel
theorem pm_ok_103 : cd103.all (pm_ok1 103) = true := by decide +kernel
theorem pm_ok_104 : cd104.all (pm_ok1 104) = true := by decide +kernel
theorem pm_ok_105 : cd105.all (pm_ok1 105) = true := by decide +kernel
theorem pm_ok_106 : cd106.all (pm_ok1 106) = true := by decide +kernel
theorem pm_ok_107 : cd107.all (pm_ok1 107) = true := by decide +kernel
theorem pm_ok_108 : cd108.all (pm_ok1 108) = true := by decide +kernel
theorem pm_ok_109 : cd109.all (pm_ok1 109) = true := by decide +kernel
theorem pm_ok_110 : cd110.all (pm_ok1 110) = true := by decide +kernel
theorem pm_ok_111 : cd111.all (pm_ok1 111) = true := by decide +kernel
theorem pm_ok_112 : cd112.all (pm_ok1 112) = true := by decide +kernel
theorem pm_ok_113 : cd113.all (pm_ok1 113) = true := by decide +kernel
theorem pm_ok_114 : cd114.all (pm_ok1 114) = true := by decide +kernel
theorem pm_ok_115 : cd115.all (pm_ok1 115) = true := by decide +kernel
theorem pm_ok_116 : cd116.all (pm_ok1 116) = true := by decide +kernel
theorem pm_ok_117 : cd117.all (pm_ok1 117) = true := by decide +kernel
theorem pm_ok_118 : cd118.all (pm_ok1 118) = true := by decide +kernel
theorem pm_ok_119 : cd119.all (pm_ok1 119) = true := by decide +kernel
theorem pm_ok_120 : cd120.all (pm_ok1 120) = true := by decide +kernel
theorem pm_ok_122 : cd122.all (pm_ok1 122) = true := by decide +kernel
theorem pm_ok_123 : cd123.all (pm_ok1 123) = true := by decide +kernel
theorem pm_ok_124 : cd124.all (pm_ok1 124) = true := by decide +kernel
theorem pm_ok_125 : cd125.all (pm_ok1 125) = true := by decide +kernel
theorem pm_ok_126 : cd126.all (pm_ok1 126) = true := by decide +kernel
theorem pm_ok_127 : cd127.all (pm_ok1 127) = true := by decide +kernel
theorem pm_ok_128 : cd128.all (pm_ok1 128) = true := by decide +kernel
theorem pm_ok_129 : cd129.all (pm_ok1 129) = true := by decide +kernel
theorem pm_ok_130 : cd130.all (pm_ok1 130) = true := by decide +kernel
theorem pm_ok_131 : cd131.all (pm_ok1 131) = true := by decide +kernel
theorem pm_ok_132 : cd132.all (pm_ok1 132) = true := by decide +kernel
