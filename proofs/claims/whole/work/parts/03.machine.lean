/-! THE PURE MACHINE: cells by number; ints in a function, references in another, longs in a third; calls by depth; a thrown exception is a result -/
abbrev pm_Mem : Type := Nat × (Nat → Nat → Int32) × (Nat → Nat → Option Nat) × (Nat → Nat → Int64)
abbrev pm_Loc : Type := List (Option Value)
abbrev pm_Res : Type := (Option Value ⊕ Nat) × pm_Mem
abbrev pm_St : Type := Nat × pm_Loc × List Value × pm_Mem
def pm_up (f : Nat → Nat → Int32) (a i : Nat) (x : Int32) : Nat → Nat → Int32 := fun b j => if b = a ∧ j = i then x else f b j
def pm_upR (f : Nat → Nat → Option Nat) (a i : Nat) (x : Option Nat) : Nat → Nat → Option Nat := fun b j => if b = a ∧ j = i then x else f b j
def pm_upL (f : Nat → Nat → Int64) (a i : Nat) (x : Int64) : Nat → Nat → Int64 := fun b j => if b = a ∧ j = i then x else f b j
def pm_cpy (f : Nat → Nat → Int32) (a sp b dp n : Nat) : Nat → Nat → Int32 := fun c j => if c = b ∧ dp ≤ j ∧ j < dp + n then f a (sp + (j - dp)) else f c j
def pm_rv (r : Option Nat) : Value := match r with
  | some a => .ref a
  | none => .null
def pm_get (ls : pm_Loc) (i : Nat) : Option Value := match ls[i]? with
  | some (some v) => some v
  | _ => none
/-- a switch's target -/
def pm_swt : List Nat → Int32 → Nat → Int32 → Nat
  | [], _, d, _ => d
  | t :: ts, k, d, x => if x = k then t else pm_swt ts (k + 1) d x
/-- a comparison by its number: 0 eq, 1 ne, 2 lt, 3 ge, 4 gt, 5 le -/
def pm_cmp (k : Nat) (x y : Int32) : Bool := match k with
  | 0 => decide (x = y)
  | 1 => decide (¬ x = y)
  | 2 => decide (x < y)
  | 3 => decide (y ≤ x)
  | 4 => decide (y < x)
  | _ => decide (x ≤ y)
/-- what a field, an array or an answer of a small type keeps: 0 int, 1 char, 2 boolean, 3 byte -/
def pm_ty (k : Nat) : FieldType := match k with
  | 0 => .int
  | 1 => .char
  | 2 => .boolean
  | _ => .byte
def pm_arr (M : pm_Mem) (a k : Nat) (i : Int32) : Prop := a < M.1 ∧ (pm_sh a).1 = 1 + k ∧ vp_in i (pm_sh a).2
def pm_obj (M : pm_Mem) (a c : Nat) : Prop := a < M.1 ∧ pm_sh a = (0, c)
/-- how many exceptions were thrown so far: each is one cell more -/
def pm_ct (M : pm_Mem) : Nat := (M.2.2.1 30000 0).getD 0
def pm_tk (M : pm_Mem) : pm_Mem := (M.1, M.2.1, pm_upR M.2.2.1 30000 0 (some (pm_ct M + 1)), M.2.2.2)
/-- the shapes of an operand stack -/
def pm_k1 (st : List Value) (k : Int32 → List Value → Option (Prop × pm_St)) : Option (Prop × pm_St) := match st with
  | .int x :: t => k x t
  | _ => none
def pm_k2 (st : List Value) (k : Int32 → Int32 → List Value → Option (Prop × pm_St)) : Option (Prop × pm_St) := match st with
  | .int y :: .int x :: t => k x y t
  | _ => none
def pm_kl (st : List Value) (k : Int64 → List Value → Option (Prop × pm_St)) : Option (Prop × pm_St) := match st with
  | .long x :: t => k x t
  | _ => none
def pm_kll (st : List Value) (k : Int64 → Int64 → List Value → Option (Prop × pm_St)) : Option (Prop × pm_St) := match st with
  | .long y :: .long x :: t => k x y t
  | _ => none
def pm_kli (st : List Value) (k : Int64 → Int32 → List Value → Option (Prop × pm_St)) : Option (Prop × pm_St) := match st with
  | .int y :: .long x :: t => k x y t
  | _ => none
def pm_kr (st : List Value) (k : Nat → List Value → Option (Prop × pm_St)) : Option (Prop × pm_St) := match st with
  | .ref x :: t => k x t
  | _ => none
def pm_kri (st : List Value) (k : Nat → Int32 → List Value → Option (Prop × pm_St)) : Option (Prop × pm_St) := match st with
  | .int j :: .ref x :: t => k x j t
  | _ => none
def pm_krr (st : List Value) (k : Nat → Nat → List Value → Option (Prop × pm_St)) : Option (Prop × pm_St) := match st with
  | .ref v :: .ref x :: t => k x v t
  | _ => none
def pm_krii (st : List Value) (k : Nat → Int32 → Int32 → List Value → Option (Prop × pm_St)) : Option (Prop × pm_St) := match st with
  | .int v :: .int j :: .ref x :: t => k x j v t
  | _ => none
def pm_kril (st : List Value) (k : Nat → Int32 → Int64 → List Value → Option (Prop × pm_St)) : Option (Prop × pm_St) := match st with
  | .long v :: .int j :: .ref x :: t => k x j v t
  | _ => none
def pm_krir (st : List Value) (k : Nat → Int32 → Nat → List Value → Option (Prop × pm_St)) : Option (Prop × pm_St) := match st with
  | .ref v :: .int j :: .ref x :: t => k x j v t
  | _ => none
def pm_kcp (st : List Value) (k : Nat → Int32 → Nat → Int32 → Int32 → List Value → Option (Prop × pm_St)) : Option (Prop × pm_St) := match st with
  | .int n :: .int dp :: .ref y :: .int sp :: .ref x :: t => k x sp y dp n t
  | _ => none
def pm_li (ls : pm_Loc) (a : Nat) (k : Int32 → Option (Prop × pm_St)) : Option (Prop × pm_St) := match pm_get ls a with
  | some (.int v) => k v
  | _ => none
def pm_lr (ls : pm_Loc) (a : Nat) (k : Nat → Option (Prop × pm_St)) : Option (Prop × pm_St) := match pm_get ls a with
  | some (.ref v) => k v
  | _ => none
def pm_ll (ls : pm_Loc) (a : Nat) (k : Int64 → Option (Prop × pm_St)) : Option (Prop × pm_St) := match pm_get ls a with
  | some (.long v) => k v
  | _ => none
/-- a call's arguments are as the method's descriptor has them: longs where it has longs -/
def pm_sg (m : Nat) (as : List Value) : Bool := as.map (fun v => v.category) == pm_cat m
/-- a call's receiver is an object of the method's class -/
def pm_rc (m : Nat) (as : List Value) (M : pm_Mem) : Prop := if pm_stc m = true then True else match as with
  | .ref x :: _ => if pm_ow m = 8 then pm_str x else pm_obj M x (pm_ow m)
  | _ => False
/-- one instruction that isn't a call, an end or a throw: what it asks, and what comes of it -/
def pm_next (op len a b : Nat) (n : Int32) (pc : Nat) (ls : pm_Loc) (st : List Value) (M : pm_Mem) : Option (Prop × pm_St) := match op with
  | 1 => some (True, pc + len, ls, .int n :: st, M)
  | 2 => pm_li ls a fun v => some (True, pc + len, ls, .int v :: st, M)
  | 3 => pm_lr ls a fun v => some (True, pc + len, ls, .ref v :: st, M)
  | 4 => pm_ll ls a fun v => some (True, pc + len, ls, .long v :: st, M)
  | 5 => pm_k1 st fun v t => some (a < ls.length, pc + len, ls.set a (some (.int v)), t, M)
  | 6 => pm_kr st fun v t => some (a < ls.length, pc + len, ls.set a (some (.ref v)), t, M)
  | 8 => pm_li ls a fun v => some (True, pc + len, ls.set a (some (.int (v + n))), st, M)
  | 9 => pm_k2 st fun x y t => some (True, pc + len, ls, .int (x + y) :: t, M)
  | 10 => pm_k2 st fun x y t => some (True, pc + len, ls, .int (x - y) :: t, M)
  | 11 => pm_k2 st fun x y t => some (True, pc + len, ls, .int (x * y) :: t, M)
  | 12 => pm_k2 st fun x y t => some (¬ y = 0, pc + len, ls, .int (x / y) :: t, M)
  | 13 => pm_k2 st fun x y t => some (¬ y = 0, pc + len, ls, .int (x - x / y * y) :: t, M)
  | 14 => pm_k2 st fun x y t => some (True, pc + len, ls, .int (x &&& y) :: t, M)
  | 15 => some (True, pc + len, ls, .long 4294967295 :: st, M)
  | 17 => pm_k2 st fun x y t => some (True, pc + len, ls, .int (x >>> (y &&& 31)) :: t, M)
  | 18 => pm_k2 st fun x y t => some (True, pc + len, ls, .int (x.toUInt32 >>> (y.toUInt32 &&& Int32.toUInt32 31)).toInt32 :: t, M)
  | 19 => pm_k1 st fun x t => some (True, pc + len, ls, .int x.toInt8.toInt32 :: t, M)
  | 20 => pm_k1 st fun x t => some (True, pc + len, ls, .long x.toInt64 :: t, M)
  | 21 => pm_kl st fun x t => some (True, pc + len, ls, .int x.toInt32 :: t, M)
  | 22 => pm_k1 st fun x t => some (True, pc + len, ls, .int (x.toUInt32 % 65536).toInt32 :: t, M)
  | 23 => pm_kli st fun x y t => some (True, pc + len, ls, .long (x <<< (y.toInt64 &&& 63)) :: t, M)
  | 24 => pm_kli st fun x y t => some (True, pc + len, ls, .long (x.toUInt64 >>> (y.toInt64.toUInt64 &&& Int64.toUInt64 63)).toInt64 :: t, M)
  | 25 => pm_kll st fun x y t => some (True, pc + len, ls, .long (x &&& y) :: t, M)
  | 26 => pm_kll st fun x y t => some (True, pc + len, ls, .long (x ||| y) :: t, M)
  | 27 => pm_kll st fun x y t => some (True, pc + len, ls, .int (lg_cmp x y) :: t, M)
  | 28 => pm_kli st fun x y t => some (True, pc + len, ls, .long (x >>> (y.toInt64 &&& 63)) :: t, M)
  | 29 => some (True, pc + len, ls, .long n.toInt64 :: st, M)
  | 30 => pm_k1 st fun x t => some (True, pc + len, ls, .int x :: .int x :: t, M)
  | 31 => pm_k1 st fun x t => some (True, pc + len, ls, t, M)
  | 32 => pm_kr st fun x t => some (True, pc + len, ls, .ref x :: .ref x :: t, M)
  | 34 => pm_kri st fun x j t => some (True, pc + len, ls, .int j :: .ref x :: .int j :: .ref x :: t, M)
  | 40 => pm_k1 st fun x t => some (True, if pm_cmp b x 0 = true then a else pc + len, ls, t, M)
  | 41 => pm_k2 st fun x y t => some (True, if pm_cmp b x y = true then a else pc + len, ls, t, M)
  | 42 => some (True, a, ls, st, M)
  | 43 => pm_k1 st fun x t => some (True, pm_swt (pm_sw a) n b x, ls, t, M)
  | 50 => pm_kr st fun x t => some (pm_obj M x a, pc + len, ls, .int (M.2.1 x b) :: t, M)
  | 51 => pm_kr st fun x t => some (pm_obj M x a, pc + len, ls, pm_rv (M.2.2.1 x b) :: t, M)
  | 52 => pm_kri st fun x v t => some (pm_obj M x a ∧ fits (pm_ty n.toNatClampNeg) (.int v) = true, pc + len, ls, t, (M.1, pm_up M.2.1 x b v, M.2.2))
  | 53 => pm_krr st fun x v t => some (pm_obj M x a ∧ v < M.1, pc + len, ls, t, (M.1, M.2.1, pm_upR M.2.2.1 x b (some v), M.2.2.2))
  | 54 => pm_kri st fun x j t => some (pm_arr M x a j, pc + len, ls, .int (M.2.1 x j.toNatClampNeg) :: t, M)
  | 55 => pm_krii st fun x j v t => some (pm_arr M x a j, pc + len, ls, t, (M.1, pm_up M.2.1 x j.toNatClampNeg (vp_nar (pm_ty a) v), M.2.2))
  | 56 => pm_kr st fun x t => some (x < M.1 ∧ ¬ (pm_sh x).1 = 0, pc + len, ls, .int (nI (pm_sh x).2) :: t, M)
  | 57 => pm_kri st fun x j t => some (pm_arr M x 3 j, pc + len, ls, .long (M.2.2.2 x j.toNatClampNeg) :: t, M)
  | 58 => pm_kril st fun x j v t => some (pm_arr M x 3 j, pc + len, ls, t, (M.1, M.2.1, M.2.2.1, pm_upL M.2.2.2 x j.toNatClampNeg v))
  | 59 => pm_kri st fun x j t => some (pm_arr M x a j, pc + len, ls, pm_rv (M.2.2.1 x j.toNatClampNeg) :: t, M)
  | 61 => pm_kcp st fun x sp y dp k t => some (x < M.1 ∧ y < M.1 ∧ (pm_sh x).1 = 1 ∧ (pm_sh y).1 = 1 ∧ ¬ sp < 0 ∧ ¬ dp < 0 ∧ ¬ k < 0 ∧ sp.toNatClampNeg + k.toNatClampNeg ≤ (pm_sh x).2 ∧ dp.toNatClampNeg + k.toNatClampNeg ≤ (pm_sh y).2 ∧ t.length ≤ 4, pc + len, ls, t, (M.1, pm_cpy M.2.1 x sp.toNatClampNeg y dp.toNatClampNeg k.toNatClampNeg, M.2.2))
  | 70 => pm_krir st fun x j v t => some (pm_arr M x 4 j ∧ pm_obj M v 4, pc + len, ls, t, (M.1, M.2.1, pm_upR M.2.2.1 x j.toNatClampNeg (some v), M.2.2.2))
  | 71 => some ((pm_sh M.1 = (0, a) ∧ M.1 < pm_n) ∧ pm_ct M = 0, pc + len, ls, .ref M.1 :: st, (M.1 + 1, (fun x j => if x = M.1 then 0 else M.2.1 x j), (fun x j => if x = M.1 then none else M.2.2.1 x j), M.2.2.2))
  | 72 => pm_k1 st fun k t => some ((pm_sh M.1 = (1 + a, k.toNatClampNeg) ∧ ¬ k < 0 ∧ M.1 < pm_n) ∧ pm_ct M = 0, pc + len, ls, .ref M.1 :: t, (M.1 + 1, (fun x j => if x = M.1 then 0 else M.2.1 x j), (fun x j => if x = M.1 then none else M.2.2.1 x j), (fun x j => if x = M.1 then 0 else M.2.2.2 x j)))
  | 73 => pm_k2 st fun h k t => some ((pm_sh M.1 = (6, h.toNatClampNeg) ∧ ¬ k < 0 ∧ ¬ h < 0 ∧ (∀ j, j < h.toNatClampNeg → pm_sh (M.1 + 1 + j) = (1, k.toNatClampNeg)) ∧ M.1 + h.toNatClampNeg < pm_n) ∧ pm_ct M = 0, pc + len, ls, .ref M.1 :: t, (M.1 + 1 + h.toNatClampNeg, (fun x j => if M.1 ≤ x ∧ x < M.1 + 1 + h.toNatClampNeg then 0 else M.2.1 x j), (fun x j => if x = M.1 then (if j < h.toNatClampNeg then some (M.1 + 1 + j) else none) else if M.1 ≤ x ∧ x < M.1 + 1 + h.toNatClampNeg then none else M.2.2.1 x j), M.2.2.2))
  | 74 => pm_kr st fun x t => some (t.length ≤ 4, pc + len, ls, t, M)
  | 80 => some (True, pc + len, ls, .ref a :: st, M)
  | 81 => pm_kri st fun x j t => some (pm_sta x a j, pc + len, ls, .int (pm_tab x j.toNatClampNeg) :: t, M)
  | 82 => pm_kr st fun x t => some (pm_stl x, pc + len, ls, .int (nI (pm_tabn x)) :: t, M)
  | 83 => pm_kri st fun x j t => some (x = 20000 ∧ vp_in j (M.2.1 20001 0).toNatClampNeg, pc + len, ls, .int (M.2.1 20000 j.toNatClampNeg) :: t, M)
  | 84 => pm_kr st fun x t => some (x = 20000, pc + len, ls, .int (M.2.1 20001 0) :: t, M)
  | 85 => pm_kr st fun x t => some (pm_str x, pc + len, ls, .ref (x + 1) :: t, M)
  | 86 => pm_kr st fun x t => some (pm_str x, pc + len, ls, .int 0 :: t, M)
  | 87 => some (True, pc + len, ls, .int n :: st, M)
  | _ => none
/-- behind a call -/
def pm_aft (K : Nat → pm_Loc → List Value → pm_Mem → pm_Res → Prop) (m pc : Nat) (ls : pm_Loc) (rest : List Value) (q r : pm_Res) : Prop := match q with
  | (.inl v, M) => K (pc + 3) ls (v.toList ++ rest) M r
  | (.inr k, M) => match pm_hd m pc k with
    | none => r = (.inr k, M)
    | some h => K h.1 (ls.set h.2 none) [] M r
def pm_stp (C : Nat → List Value → pm_Mem → pm_Res → Prop) (K : Nat → pm_Loc → List Value → pm_Mem → pm_Res → Prop) (m pc : Nat) (ls : pm_Loc) (st : List Value) (M : pm_Mem) (r : pm_Res) : Prop := match pm_cd m pc with
  | none => False
  | some (op, len, a, b, n) =>
    if op = 60 then pm_rc a (st.take b).reverse M ∧ ∃ q, C a (st.take b).reverse M q ∧ (b ≤ st.length ∧ st.length ≤ b + 4 ∧ pm_sg a (st.take b).reverse = true) ∧ pm_aft K m pc ls (st.drop b) q r
    else if op = 63 then st = [] ∧ r = (.inl none, M)
    else if op = 64 then ∃ v, st = [.int v] ∧ fits (pm_ty a) (.int v) = true ∧ r = (.inl (some (.int v)), M)
    else if op = 67 then st = [] ∧ r = (.inr a, pm_tk M)
    else match pm_next op len a b n pc ls st M with
      | none => False
      | some (g, s) => g ∧ K s.1 s.2.1 s.2.2.1 s.2.2.2 r
def pm_N (C : Nat → List Value → pm_Mem → pm_Res → Prop) (m : Nat) : Nat → Nat → pm_Loc → List Value → pm_Mem → pm_Res → Prop
  | 0 => fun _ _ _ _ _ => False
  | k + 1 => fun pc ls st M r => pm_stp C (pm_N C m k) m pc ls st M r
/-- the locals at a method's entry -/
def pm_lay : List Value → pm_Loc
  | [] => []
  | v :: t => if v.category = 2 then some v :: none :: pm_lay t else some v :: pm_lay t
def pm_ini (k : Nat) (args : List Value) : pm_Loc := pm_lay args ++ List.replicate (k - (pm_lay args).length) none
/-- method m, with these arguments and this memory, comes to r, with at most d calls open at once -/
def pm_C : Nat → Nat → List Value → pm_Mem → pm_Res → Prop
  | 0 => fun _ _ _ _ => False
  | d + 1 => fun m args M r => ∃ k, pm_N (pm_C d) m k 0 (pm_ini (pm_ml m) args) [] M r
def pm_R (d m pc : Nat) (ls : pm_Loc) (st : List Value) (M : pm_Mem) (r : pm_Res) : Prop := ∃ k, pm_N (pm_C d) m k pc ls st M r
theorem pm_C_iff {d m : Nat} {args : List Value} {M : pm_Mem} {r : pm_Res} : pm_C (d + 1) m args M r ↔ pm_R d m 0 (pm_ini (pm_ml m) args) [] M r := Iff.rfl
theorem pm_R_iff {d m pc : Nat} {ls : pm_Loc} {st : List Value} {M : pm_Mem} {r : pm_Res} : pm_R d m pc ls st M r ↔ pm_stp (pm_C d) (pm_R d m) m pc ls st M r := by
  unfold pm_R pm_stp
  constructor
  · rintro ⟨k, h⟩
    cases k with
    | zero => exact h.elim
    | succ k =>
      simp only [pm_N, pm_stp] at h
      split at h
      · exact h.elim
      · split at h
        · rename_i h1
          rw [if_pos h1]
          obtain ⟨h6, q, h2, h3, h5⟩ := h
          refine ⟨h6, q, h2, h3, ?_⟩
          unfold pm_aft at h5 ⊢
          split at h5
          · exact ⟨k, h5⟩
          · split at h5
            · exact h5
            · exact ⟨k, h5⟩
        · rename_i h1
          rw [if_neg h1]
          split at h
          · rename_i h2; rw [if_pos h2]; exact h
          · rename_i h2
            rw [if_neg h2]
            split at h
            · rename_i h3; rw [if_pos h3]; exact h
            · rename_i h3
              rw [if_neg h3]
              split at h
              · rename_i h4; rw [if_pos h4]; exact h
              · rename_i h4
                rw [if_neg h4]
                split at h
                · exact h.elim
                · exact ⟨h.1, k, h.2⟩
  · intro h
    split at h
    · exact h.elim
    · rename_i hcd
      split at h
      · rename_i h1
        obtain ⟨h6, q, h2, h3, h5⟩ := h
        unfold pm_aft at h5
        split at h5
        · obtain ⟨k, h5⟩ := h5
          refine ⟨k + 1, ?_⟩
          simp only [pm_N, pm_stp, hcd, if_pos h1]
          exact ⟨h6, _, h2, h3, h5⟩
        · split at h5
          · rename_i hh
            refine ⟨1, ?_⟩
            simp only [pm_N, pm_stp, hcd, if_pos h1]
            refine ⟨h6, _, h2, h3, ?_⟩
            unfold pm_aft
            simp only [hh]
            exact h5
          · rename_i hh
            obtain ⟨k, h5⟩ := h5
            refine ⟨k + 1, ?_⟩
            simp only [pm_N, pm_stp, hcd, if_pos h1]
            refine ⟨h6, _, h2, h3, ?_⟩
            unfold pm_aft
            simp only [hh]
            exact h5
      · rename_i h1
        split at h
        · rename_i h2
          exact ⟨1, by simp only [pm_N, pm_stp, hcd, if_neg h1, if_pos h2]; exact h⟩
        · rename_i h2
          split at h
          · rename_i h3
            exact ⟨1, by simp only [pm_N, pm_stp, hcd, if_neg h1, if_neg h2, if_pos h3]; exact h⟩
          · rename_i h3
            split at h
            · rename_i h4
              exact ⟨1, by simp only [pm_N, pm_stp, hcd, if_neg h1, if_neg h2, if_neg h3, if_pos h4]; exact h⟩
            · rename_i h4
              split at h
              · exact h.elim
              · rename_i hn
                obtain ⟨hg, k, h⟩ := h
                exact ⟨k + 1, by simp only [pm_N, pm_stp, hcd, if_neg h1, if_neg h2, if_neg h3, if_neg h4, hn]; exact ⟨hg, h⟩⟩
