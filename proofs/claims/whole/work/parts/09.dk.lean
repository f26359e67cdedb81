/-- links of System.arraycopy, of Object.<init>: owner, entry; the places of their words -/
def pm_acl : List (Nat × Nat) := [(0, 43), (4, 40)]
def pm_obl : List (Nat × Nat) := [(0, 3), (1, 3), (2, 3), (3, 3), (4, 3), (5, 3), (6, 1)]
def pm_acj : List Nat := [592, 321]
def pm_obj2 : List Nat := [42, 122, 36, 141, 150, 28, 725]
theorem pm_acl_ok : ∀ k, k < 2 → tables_1[pm_acj.getD k 0]? = some (.methodLink (pm_onm (pm_acl.getD k (0, 0)).1) (pm_acl.getD k (0, 0)).2 arraycopyName) := by decide +kernel
theorem pm_obl_ok : ∀ k, k < 7 → tables_1[pm_obj2.getD k 0]? = some (.methodLink (pm_onm (pm_obl.getD k (0, 0)).1) (pm_obl.getD k (0, 0)).2 objectInit) := by decide +kernel
/-- messages of exceptions: owner, entry -/
def pm_msg : List (Nat × Nat) := [(2, 71), (2, 119), (2, 123), (2, 125), (2, 127), (3, 50), (5, 82), (5, 96), (5, 107), (5, 112), (5, 150), (5, 152), (5, 171), (5, 185), (5, 187)]
/-! EACH ROW OF THE TABLES IS THE DECODED INSTRUCTION -/
theorem pm_y_pl2 : plainFor (pm_y 129) = true ∧ plainFor (pm_y 130) = true := by decide +kernel
def pm_cdi (k : Nat) : Jvm.ClassFile.Cond := match k with
  | 0 => .eq
  | 1 => .ne
  | 2 => .lt
  | 3 => .ge
  | 4 => .gt
  | _ => .le
def pm_at1 (k : Nat) : ArrayType := match k with
  | 0 => .int
  | 1 => .char
  | 2 => .boolean
  | _ => .long
/-- is it the instruction that the row says? -/
def pm_dk (own op len a b : Nat) (n : Int32) (pc : Nat) (i : Instr) : Bool := match op with
  | 1 => match i with
    | .iconst k => decide (Int32.ofInt k = n) && len == 1
    | .bipush k => decide ((Int8.ofInt k).toInt32 = n) && len == 2
    | .sipush k => decide ((Int16.ofInt k).toInt32 = n) && len == 3
    | .ldc j => decide ((pm_ck.lookup (own, j)).map (fun q => q.1) = some n) && len == 2
    | _ => false
  | 2 => match i with
    | .iload_n k => k.val == a && len == 1
    | .iload k => k == a && len == 2
    | _ => false
  | 3 => match i with
    | .aload_n k => k.val == a && len == 1
    | .aload k => k == a && len == 2
    | _ => false
  | 4 => match i with
    | .lload_n k => k.val == a && len == 1
    | .lload k => k == a && len == 2
    | _ => false
  | 5 => match i with
    | .istore_n k => k.val == a && len == 1
    | .istore k => k == a && len == 2
    | _ => false
  | 6 => match i with
    | .astore_n k => k.val == a && len == 1
    | .astore k => k == a && len == 2
    | _ => false
  | 8 => match i with
    | .iinc k c => k == a && decide (Int32.ofInt c = n) && len == 3
    | _ => false
  | 9 => decide (i = .iadd) && len == 1
  | 10 => decide (i = .isub) && len == 1
  | 11 => decide (i = .imul) && len == 1
  | 12 => decide (i = .idiv) && len == 1
  | 13 => decide (i = .irem) && len == 1
  | 14 => decide (i = .iand) && len == 1
  | 15 => match i with
    | .ldc2_w j => own == 7 && j == 46 && len == 3
    | _ => false
  | 17 => decide (i = .ishr) && len == 1
  | 18 => decide (i = .iushr) && len == 1
  | 19 => decide (i = .i2b) && len == 1
  | 20 => decide (i = .i2l) && len == 1
  | 21 => decide (i = .l2i) && len == 1
  | 22 => decide (i = .i2c) && len == 1
  | 23 => decide (i = .lshl) && len == 1
  | 24 => decide (i = .lushr) && len == 1
  | 25 => decide (i = .land) && len == 1
  | 26 => decide (i = .lor) && len == 1
  | 27 => decide (i = .lcmp) && len == 1
  | 28 => decide (i = .lshr) && len == 1
  | 29 => match i with
    | .ldc2_w j => own == 6 && j == 78 && len == 3 && decide (n = 255)
    | _ => false
  | 30 => decide (i = .dup) && len == 1
  | 31 => decide (i = .pop) && len == 1
  | 32 => decide (i = .dup) && len == 1
  | 34 => decide (i = .dup2) && len == 1
  | 40 => match i with
    | .ifCond c off => decide (c = pm_cdi b) && decide ((pc : Int) + off = (a : Int)) && len == 3 && decide (b < 6)
    | _ => false
  | 41 => match i with
    | .if_icmp c off => decide (c = pm_cdi b) && decide ((pc : Int) + off = (a : Int)) && len == 3 && decide (b < 6)
    | _ => false
  | 42 => match i with
    | .goto off => decide ((pc : Int) + off = (a : Int)) && len == 3
    | _ => false
  | 43 => match i with
    | .tableswitch d lo hi offs => decide ((pc : Int) + d = (b : Int)) && decide (Int32.ofInt lo = n) && decide ((pm_sw a).length = offs.size) && decide (hi = lo + offs.size - 1) && decide (0 ≤ lo) && decide (hi < 100) && (List.range offs.size).all (fun k => decide ((pc : Int) + offs[k]! = ((pm_sw a).getD k 0 : Int)))
    | _ => false
  | 50 => match i with
    | .getfield j => decide ((pm_fk.lookup (own, j)).map (fun q => (q.1, q.2.1)) = some (a, b)) && !pm_isr a b && len == 3
    | _ => false
  | 51 => match i with
    | .getfield j => decide ((pm_fk.lookup (own, j)).map (fun q => (q.1, q.2.1)) = some (a, b)) && pm_isr a b && len == 3
    | _ => false
  | 52 => match i with
    | .putfield j => decide ((pm_fk.lookup (own, j)).map (fun q => (q.1, q.2.1)) = some (a, b)) && decide (pm_ft a b = pm_ty n.toNatClampNeg) && !(pm_T a b).2.2.2 && len == 3
    | _ => false
  | 53 => match i with
    | .putfield j => decide ((pm_fk.lookup (own, j)).map (fun q => (q.1, q.2.1)) = some (a, b)) && pm_isr a b && (pm_T a b).2.2.2 && own == a && decide ((pm_fk.lookup (own, j)).map (fun q => q.2.2.1) = some 0) && len == 3
    | _ => false
  | 54 => decide (i = (if a = 0 then .iaload else if a = 1 then .caload else .baload)) && len == 1 && decide (a < 3)
  | 55 => decide (i = (if a = 0 then .iastore else if a = 1 then .castore else .bastore)) && len == 1 && decide (a < 3)
  | 56 => decide (i = .arraylength) && len == 1
  | 57 => decide (i = .laload) && len == 1
  | 58 => decide (i = .lastore) && len == 1
  | 59 => decide (i = .aaload) && len == 1 && (a == 4 || a == 5)
  | 60 => match i with
    | .invokevirtual j => decide ((pm_mk.lookup (own, j)).map (fun q => q.1) = some a) && !pm_stc a && b == (pm_cat a).length && decide ((pm_y a).name ≠ "<init>") && len == 3 && decide (a < 139) && decide (a ≠ 121)
    | .invokestatic j => decide ((pm_mk.lookup (own, j)).map (fun q => q.1) = some a) && pm_stc a && b == (pm_cat a).length && len == 3 && decide (a < 139) && decide (a ≠ 121)
    | .invokespecial j => decide ((pm_mk.lookup (own, j)).map (fun q => q.1) = some a) && !pm_stc a && b == (pm_cat a).length && decide ((pm_y a).name = "<init>") && len == 3 && decide (a < 139) && decide (a ≠ 121)
    | _ => false
  | 61 => match i with
    | .invokestatic j => len == 3 && pm_acl.contains (own, j)
    | _ => false
  | 63 => decide (i = .return_) && len == 1
  | 64 => decide (i = .ireturn) && len == 1
  | 70 => decide (i = .aastore) && len == 1
  | 71 => match i with
    | .new j => decide ((pm_kk.lookup (own, j)).map (fun q => q.1) = some a) && len == 3 && decide (a < 7)
    | _ => false
  | 72 => match i with
    | .newarray t => decide (a < 4) && decide (t = pm_at1 a) && len == 2
    | .anewarray j => decide (a = 4) && decide ((pm_kk.lookup (own, j)).map (fun q => q.1) = some 4) && len == 3
    | _ => false
  | 73 => match i with
    | .multianewarray j d => own == 3 && j == 17 && d == 2 && len == 4
    | _ => false
  | 74 => match i with
    | .invokespecial j => len == 3 && pm_obl.contains (own, j)
    | _ => false
  | 80 => match i with
    | .ldc j => decide ((pm_sk.lookup (own, j)).map (fun q => q.1) = some a) && len == 2 && decide (a < 10030)
    | .getstatic j => len == 3 && ((own == 2 && j == 109 && a == 10030) || (own == 2 && j == 112 && a == 10040))
    | _ => false
  | 81 => decide (i = (if a = 0 then .iaload else .baload)) && len == 1
  | 82 => decide (i = .arraylength) && len == 1
  | 83 => decide (i = .iaload) && len == 1
  | 84 => decide (i = .arraylength) && len == 1
  | 85 => match i with
    | .getfield j => own == 8 && j == 9 && len == 3
    | _ => false
  | 86 => match i with
    | .getfield j => own == 8 && j == 15 && len == 3
    | _ => false
  | 87 => match i with
    | .getstatic j => own == 8 && j == 38 && len == 3 && decide (n = 1)
    | _ => false
  | _ => false
/-- the throws: new, dup, ldc, invokespecial, athrow -/
def pm_dth (own len a pc : Nat) (c : ByteArray) : Bool := match decode c pc, decode c (pc + 3), decode c (pc + 4), decode c (pc + 6), decode c (pc + 9) with
  | .ok (.new j, 3), .ok (.dup, 1), .ok (.ldc s, 2), .ok (.invokespecial k, 3), .ok (.athrow, 1) => decide ((pm_jk.lookup (own, j)).map (fun q => q.1) = some a) && decide ((pm_ek.lookup (own, k)).map (fun q => q.1) = some a) && pm_msg.contains (own, s) && len == 10
  | _, _, _, _, _ => false
def pm_ok1 (m : Nat) (e : Nat × pm_I) : Bool := match e with
  | (pc, op, len, a, b, n) => if op = 67 then pm_dth (pm_ow m) len a pc (pm_b m) else match decode (pm_b m) pc with
    | .ok (i, l) => l == len && pm_dk (pm_ow m) op len a b n pc i && (!(op == 5 || op == 6 || op == 8) || a == 0 || !(pm_lgs 0 (pm_cat m)).contains (a - 1)) && (!(op == 5 || op == 6 || op == 8) || decide (a < pm_ml m)) && (!(op == 53) || decide ((pm_y m).name = "<init>"))
    | _ => false
