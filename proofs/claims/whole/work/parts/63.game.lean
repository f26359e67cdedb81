/-! THE CLASS: readEffect, readRule, readGame -/
def e_eff (T : List Nat) (ch : Bool) (p : Nat) : Option (Nat × List (Nat × Nat)) :=
  if nx T p = 110 then some (p + 1, [(16, 0)])
  else if nx T p = 43 then (e_E T ch (p + 1)).map (fun x => (x.1, x.2 ++ [(15, 0)]))
  else match e_ix e_W (nx T p) with
    | some i => if nx T (p + 1) = 61 then (e_E T ch (p + 2)).map (fun x => (x.1, x.2 ++ [(14, i)])) else none
    | none => match e_zone ch (nx T p) with
      | none => none
      | some z => if nx T (p + 1) = 62 then (e_zone false (nx T (p + 2))).map (fun y => (p + 3, [(13, 8 * z + y)])) else none
def e_effs (T : List Nat) (ch : Bool) : Nat → Nat → List (Nat × Nat) → Option (Nat × List (Nat × Nat))
  | 0, p, C => some (p, C)
  | n + 1, p, C => if nx T p = 44 then (match e_eff T ch (p + 1) with
      | none => none
      | some (p', C') => e_effs T ch n p' (C ++ C'))
    else some (p, C)
/-- all effects of a rule -/
def e_all (T : List Nat) (ch : Bool) (p : Nat) : Option (Nat × List (Nat × Nat)) :=
  if nx T p = 59 then some (p, []) else match e_eff T ch p with
    | none => none
    | some (p', C) => e_effs T ch 240 p' C
def e_isM (T : List Nat) (p : Nat) : Bool := decide (nx T p = 77)
def e_rule (T : List Nat) (p : Nat) : Option (Nat × List (Nat × Nat) × List (Nat × Nat)) :=
  match e_E T (e_isM T p) (p + 1) with
  | none => none
  | some (p1, C1) => if nx T p1 = 58 then (match e_all T (e_isM T p) (p1 + 1) with
      | none => none
      | some (p2, C2) => if nx T p2 = 59 then some (p2 + 1, C1, C2) else none)
    else none
def e_rules (T : List Nat) : Nat → Nat → List (Nat × Nat) → List (Bool × Nat × Nat) → Option (Nat × List (Nat × Nat) × List (Bool × Nat × Nat))
  | 0, p, K, R => some (p, K, R)
  | n + 1, p, K, R => if nx T p = 77 ∨ nx T p = 80 then (match e_rule T p with
      | none => none
      | some (p', C1, C2) => e_rules T n p' (K ++ C1 ++ [(17, 0)] ++ C2 ++ [(17, 0)]) (R ++ [(e_isM T p, K.length, K.length + C1.length + 1)]))
    else some (p, K, R)
def e_tail (T : List Nat) (x : Nat × List (Nat × Nat) × List (Bool × Nat × Nat)) : Option Gm :=
  if nx T x.1 = 69 then (match e_E T false (x.1 + 1) with
    | none => none
    | some (p', C) => if nx T p' = 59 ∧ T.length ≤ p' + 1 then some (x.2.1 ++ C ++ [(17, 0)], nx T 1 - 48, nx T 2 - 48, x.2.2, x.2.1.length) else none)
  else none
def e_game (T : List Nat) : Option Gm :=
  if nx T 0 = 68 ∧ (49 ≤ nx T 1 ∧ nx T 1 ≤ 52) ∧ (49 ≤ nx T 2 ∧ nx T 2 ≤ 54) ∧ nx T 3 = 59 then (match e_rules T 8 4 [] [] with
    | none => none
    | some x => e_tail T x)
  else none
def e_goodE (T : List Nat) (p : Nat) (x : Nat × List (Nat × Nat)) : Prop := p < x.1 ∧ x.1 ≤ T.length ∧ x.2.length + p ≤ x.1 ∧ (∀ h, a_ty x.2 h = some h)
theorem e_eff_ok {T : List Nat} {ch : Bool} {p : Nat} {x : Nat × List (Nat × Nat)} (h : e_eff T ch p = some x) : e_goodE T p x := by
  have hE : ∀ (p1 z a : Nat), (z = 14 ∨ z = 15) → a_arg z a = true → p < p1 → (e_E T ch p1).map (fun x => (x.1, x.2 ++ [(z, a)])) = some x → e_goodE T p x := by
    intro p1 z a hz ha hp h
    cases e : e_E T ch p1 with
    | none => rw [e] at h; cases h
    | some y =>
      rw [e] at h
      injection h with h
      subst h
      have hg := e_expr_ok _ _ _ _ _ e
      refine ⟨by have := hg.1; show p < y.1; omega, hg.2.1, by have := hg.2.2.1; simp; omega, fun h => ?_⟩
      show a_ty (y.2 ++ [(z, a)]) h = some h
      rw [a_ty_app, hg.2.2.2.2.1]
      show (if a_arg z a = true then (if z ≤ 4 then _ else if z ≤ 11 then _ else if z = 12 then _ else if z = 13 then _ else if z = 14 ∨ z = 15 then (if 1 ≤ h + 1 then a_ty [] (h + 1 - 1) else none) else _) else none) = some h
      rw [if_pos ha, if_neg (by omega), if_neg (by omega), if_neg (by omega), if_neg (by omega), if_pos hz, if_pos (by omega)]
      rfl
  unfold e_eff at h
  split at h
  · rename_i e
    injection h with h
    subst h
    have := nx_lt (T := T) (p := p) (by omega)
    exact ⟨by simp, by simp; omega, by simp; omega, fun h => rfl⟩
  · split at h
    · rename_i e
      exact hE (p + 1) 15 0 (Or.inr rfl) rfl (by omega) h
    · split at h
      · rename_i i e
        split at h
        · have hi : i < 4 := (e_ix_lt e).1
          exact hE (p + 2) 14 i (Or.inl rfl) (by simpa [a_arg] using hi) (by omega) h
        · cases h
      · split at h
        · cases h
        · rename_i z ez
          split at h
          · cases ey : e_zone false (nx T (p + 2)) with
            | none => rw [ey] at h; cases h
            | some y =>
              rw [ey] at h
              injection h with h
              subst h
              have hz := e_zone_lt ez
              have hy := e_zone_lt ey
              have hy6 := hy.2.1 rfl
              have := nx_lt hy.2.2
              refine ⟨by simp, by simp; omega, by simp; omega, fun h => ?_⟩
              have ha : a_arg 13 (8 * z + y) = true := by
                unfold a_arg
                rw [if_neg (by omega), if_neg (by omega), if_neg (by omega), if_neg (by omega), if_pos rfl]
                exact decide_eq_true ⟨by omega, by omega⟩
              show (if a_arg 13 (8 * z + y) = true then (if 13 ≤ 4 then _ else if 13 ≤ 11 then _ else if 13 = 12 then _ else if 13 = 13 then a_ty [] h else _) else none) = some h
              rw [if_pos ha, if_neg (by omega), if_neg (by omega), if_neg (by omega), if_pos rfl]
              rfl
          · cases h
theorem e_effs_ok {T : List Nat} {ch : Bool} {p0 : Nat} : ∀ n p C x, e_goodE T p0 (p, C) → e_effs T ch n p C = some x → e_goodE T p0 x := by
  intro n
  induction n with
  | zero =>
    intro p C x hC h
    injection h with h
    subst h
    exact hC
  | succ n ih =>
    intro p C x hC h
    unfold e_effs at h
    split at h
    · split at h
      · cases h
      · rename_i p' C' e
        have h1 := e_eff_ok e
        have hC4 : ∀ h, a_ty C h = some h := hC.2.2.2
        have h11 : p + 1 < p' := h1.1
        have h13 : C'.length + (p + 1) ≤ p' := h1.2.2.1
        have hC1 : p0 < p := hC.1
        have hC3 : C.length + p0 ≤ p := hC.2.2.1
        have hg : e_goodE T p0 (p', C ++ C') := by
          refine ⟨by show p0 < p'; omega, h1.2.1, by show (C ++ C').length + p0 ≤ p'; rw [List.length_append]; omega, fun h => ?_⟩
          show a_ty (C ++ C') h = _
          rw [a_ty_app, hC4]
          exact h1.2.2.2 h
        exact ih _ _ _ hg h
    · injection h with h
      subst h
      exact hC
theorem e_all_ok {T : List Nat} {ch : Bool} {p : Nat} {x : Nat × List (Nat × Nat)} (hp : p ≤ T.length) (h : e_all T ch p = some x) : p ≤ x.1 ∧ x.1 ≤ T.length ∧ x.2.length + p ≤ x.1 ∧ (∀ h, a_ty x.2 h = some h) := by
  unfold e_all at h
  split at h
  · injection h with h
    subst h
    exact ⟨Nat.le_refl _, hp, by simp, fun h => rfl⟩
  · split at h
    · cases h
    · rename_i p' C e
      have h1 := e_effs_ok 240 _ _ _ (e_eff_ok e) h
      exact ⟨by have := h1.1; omega, h1.2⟩
theorem e_rule_ok {T : List Nat} {p : Nat} {x : Nat × List (Nat × Nat) × List (Nat × Nat)} (h : e_rule T p = some x) : p < x.1 ∧ x.1 ≤ T.length ∧ x.2.1.length + x.2.2.length + 2 + p ≤ x.1 ∧ (∀ h, a_ty x.2.1 h = some (h + 1)) ∧ (∀ q ∈ x.2.1, q.1 ≤ 12) ∧ (∀ h, a_ty x.2.2 h = some h) := by
  unfold e_rule at h
  split at h
  · cases h
  · rename_i p1 C1 e1
    have g1 := e_expr_ok _ _ _ _ _ e1
    split at h
    · split at h
      · cases h
      · rename_i e58 p2 C2 e2
        have l58 := nx_lt (T := T) (p := p1) (by omega)
        have g2 := e_all_ok (by omega) e2
        split at h
        · rename_i e59
          injection h with h
          subst h
          have := nx_lt (T := T) (p := p2) (by omega)
          have a1 : C1.length + (p + 1) ≤ p1 := g1.2.2.1
          have a2 : C2.length + (p1 + 1) ≤ p2 := g2.2.2.1
          exact ⟨by simp; omega, by simp; omega, by simp; omega, g1.2.2.2.2.1, g1.2.2.2.2.2, g2.2.2.2⟩
        · cases h
    · cases h
def FU (I J : Nat → Nat → Int32) : Prop := ∀ x j, ¬ (x = 1 ∧ (j = 3 ∨ j = 4)) → ¬ (x = 3 ∧ (j = 2 ∨ j = 5)) → ¬ (4 ≤ x ∧ x ≤ 8) → J x j = I x j
theorem FU.refl {I : Nat → Nat → Int32} : FU I I := fun _ _ _ _ _ => rfl
theorem FU.trans {I J K : Nat → Nat → Int32} (h1 : FU I J) (h2 : FU J K) : FU I K := fun x j a b c => (h2 x j a b c).trans (h1 x j a b c)
theorem FD.fu {I J : Nat → Nat → Int32} (h : FD I J) : FU I J := fun x j a b c => h x j (by omega) (by omega) (by omega) (by omega)
def RR (R : List (Bool × Nat × Nat)) (I : Nat → Nat → Int32) : Prop := I 3 5 = nI R.length ∧ ∀ r, r < R.length → I 6 r = (if (R.getD r (false, 0, 0)).1 = true then 77 else 80) ∧ I 7 r = nI (R.getD r (false, 0, 0)).2.1 ∧ I 8 r = nI (R.getD r (false, 0, 0)).2.2
theorem RR.fd {R : List (Bool × Nat × Nat)} {I J : Nat → Nat → Int32} (h : RR R I) (hf : FD I J) : RR R J := ⟨by rw [hf _ _ (by omega) (by omega) (by omega) (by omega)]; exact h.1, fun r hr => by rw [hf _ _ (by omega) (by omega) (by omega) (by omega), hf _ _ (by omega) (by omega) (by omega) (by omega), hf _ _ (by omega) (by omega) (by omega) (by omega)]; exact h.2 r hr⟩
section RGM
variable {d k : Nat} {o : Int64}
theorem c96 {T : List Nat} (hT : TX T) {ch : Bool} : EX k o T ch (fun M q => pm_C (d + 66) 96 [.ref 1] M q) (e_eff T ch) := by
  intro p K I h hK hp
  have h240 := hT.1
  have h126 := nx_126 hT p
  have hopen : ∀ q, (pm_C (d + 66) 96 [.ref 1] (Wm I k o) q ↔ pm_R (d + 65) 96 10 [some (.ref 1), some (.int (ixI (e_ix e_W (nx T p)))), none] [] (Wm I k o) q) := by
    intro q
    rw [n96]
    simp (decide := true) only [q96_0, q96_2, q96_3, q96_6, q96_9, W_1, W_I, W_mk, W_tk, pm_rv, rf_0_0, rf_0_1, rf_0_2, rf_0_3, rf_0_4, rf_0_7, rf_0_8, rf_1_0, rf_1_2, rf_3_0, rf_3_1, rf_3_6, rf_3_7, rf_3_8, rf_9_0, rf_9_1, rf_10_0, rf_10_1, rf_10_6, rf_10_7, rf_10_8, rf_17_0, rf_17_1, rf_538_2, rf_538_6, rf_538_7, rf_538_9, rf_538_11, rf_538_12, rf_538_18, rf_538_19, rf_538_22, rf_538_23, rf_538_25, rf_538_27, rf_538_28, rf_538_30, rf_538_31, rf_538_32, rf_538_33, rf_538_34, rf_538_35, rf_538_36, ob_0, ob_1, ob_3, ob_9, ob_10, ob_17, ob_538, ar_2, ar_4, ar_5, ar_6, ar_7, ar_8, ar_11, ar_12, ar_13, ar_14, ar_15, ar_16, ar_116, ar_117, ar_539, ar_540, ar_541, ar_542, ar_543, ar_544, ar_545, ar_546, ar_547, ar_548, ar_549, ar_550, ar_551, ar_552, ar_553, ar_554, ar_555, ar_556, ar_557, ar_558, ex_eq, ex_ite, pm_bk_r, pm_bk_t, ol_nil, ol_one, true_and, and_true, false_and, and_false, reduceIte, Nat.reduceEqDiff, up_at, Nat.add_left_cancel_iff, c104 (d := d + 64) hT h.1 h.2.1 (show p < 100000 by omega), c122W (d := d + 61) (show nx T p < 128 by omega), pm_str, true_or, or_true]
  have hA : RD T (p + 1) K ch (adv I (p + 1)) := h.ad
  have q103 : ∀ c, c < 100000 → ∀ q, (pm_C (d + 65) 103 [.ref 1, .int (nI c)] (Wm I k o) q ↔ if nx T p = c then q = (.inl (some (.int 1)), Wm (adv I (p + 1)) k o) else q = (.inl (some (.int 0)), Wm I k o)) := fun c hc q => c103 (d := d + 63) hT h.1 h.2.1 (by omega) hc
  have q110 := q103 110 (by omega)
  have q43 := q103 43 (by omega)
  have h80 : ∀ {I : Nat → Nat → Int32} {p' : Nat} {K : List (Nat × Nat)} (_ : RD T p' K ch I) (_ : K.length < 100000) (z a : Nat) (q : pm_Res), (pm_C (d + 64 + 1) 80 [.ref 3, .int (nI z), .int (nI a)] (Wm I k o) q ↔ q = (.inl none, Wm (emI K (z, a) I) k o)) := fun h hl z a q => c80 h.2.2.1 hl
  show (∀ x, e_eff T ch p = some x → _) ∧ (e_eff T ch p = none → _)
  unfold e_eff
  by_cases n110 : nx T p = 110
  · rw [if_pos n110]
    refine ⟨fun x hx => ?_, fun hx => (by cases hx)⟩
    injection hx with hx
    subst hx
    refine ⟨_, hA.em (x := (16, 0)), FD.adv.trans FD.em, fun q => ?_⟩
    have h80' : ∀ q, (pm_C (d + 64 + 1) 80 [.ref 3, .int 16, .int 0] (Wm (adv I (p + 1)) k o) q ↔ q = (.inl none, Wm (emI K (16, 0) (adv I (p + 1))) k o)) := h80 hA (by omega) 16 0
    show pm_C (d + 66) 96 _ _ q ↔ _
    rw [hopen]
    simp (decide := true) only [q96_10, q96_11, q96_13, q96_16, q96_19, q96_20, q96_23, q96_25, q96_26, q96_29, q96_133, W_1, W_I, W_mk, W_tk, pm_rv, rf_0_0, rf_0_1, rf_0_2, rf_0_3, rf_0_4, rf_0_7, rf_0_8, rf_1_0, rf_1_2, rf_3_0, rf_3_1, rf_3_6, rf_3_7, rf_3_8, rf_9_0, rf_9_1, rf_10_0, rf_10_1, rf_10_6, rf_10_7, rf_10_8, rf_17_0, rf_17_1, rf_538_2, rf_538_6, rf_538_7, rf_538_9, rf_538_11, rf_538_12, rf_538_18, rf_538_19, rf_538_22, rf_538_23, rf_538_25, rf_538_27, rf_538_28, rf_538_30, rf_538_31, rf_538_32, rf_538_33, rf_538_34, rf_538_35, rf_538_36, ob_0, ob_1, ob_3, ob_9, ob_10, ob_17, ob_538, ar_2, ar_4, ar_5, ar_6, ar_7, ar_8, ar_11, ar_12, ar_13, ar_14, ar_15, ar_16, ar_116, ar_117, ar_539, ar_540, ar_541, ar_542, ar_543, ar_544, ar_545, ar_546, ar_547, ar_548, ar_549, ar_550, ar_551, ar_552, ar_553, ar_554, ar_555, ar_556, ar_557, ar_558, ex_eq, ex_ite, pm_bk_r, pm_bk_t, ol_nil, ol_one, true_and, and_true, false_and, and_false, reduceIte, Nat.reduceEqDiff, up_at, Nat.add_left_cancel_iff, show (110 : Int32) = nI 110 from rfl, q110, n110, h80']
  · rw [if_neg n110]
    by_cases n43 : nx T p = 43
    · rw [if_pos n43]
      have hlt := nx_lt (T := T) (p := p) (by omega)
      have hX := c97E (d := d) (k := k) (o := o) hT (ch := ch) (p + 1) K _ hA (by omega) (by omega)
      have hopen2 : ∀ q, (pm_C (d + 66) 96 [.ref 1] (Wm I k o) q ↔ ∃ r, pm_C (d + 65) 97 [.ref 1, .int 0, .int 0] (Wm (adv I (p + 1)) k o) r ∧ pm_bk (fun v M' => pm_R (d + 65) 96 47 [some (.ref 1), some (.int (ixI (e_ix e_W (nx T p)))), none] (v.toList ++ []) M' q) (fun k M' => q = (.inr k, M')) r) := by
        intro q
        rw [hopen]
        simp (decide := true) only [q96_10, q96_11, q96_13, q96_16, q96_32, q96_33, q96_35, q96_38, q96_41, q96_42, q96_43, q96_44, W_1, W_I, W_mk, W_tk, pm_rv, rf_0_0, rf_0_1, rf_0_2, rf_0_3, rf_0_4, rf_0_7, rf_0_8, rf_1_0, rf_1_2, rf_3_0, rf_3_1, rf_3_6, rf_3_7, rf_3_8, rf_9_0, rf_9_1, rf_10_0, rf_10_1, rf_10_6, rf_10_7, rf_10_8, rf_17_0, rf_17_1, rf_538_2, rf_538_6, rf_538_7, rf_538_9, rf_538_11, rf_538_12, rf_538_18, rf_538_19, rf_538_22, rf_538_23, rf_538_25, rf_538_27, rf_538_28, rf_538_30, rf_538_31, rf_538_32, rf_538_33, rf_538_34, rf_538_35, rf_538_36, ob_0, ob_1, ob_3, ob_9, ob_10, ob_17, ob_538, ar_2, ar_4, ar_5, ar_6, ar_7, ar_8, ar_11, ar_12, ar_13, ar_14, ar_15, ar_16, ar_116, ar_117, ar_539, ar_540, ar_541, ar_542, ar_543, ar_544, ar_545, ar_546, ar_547, ar_548, ar_549, ar_550, ar_551, ar_552, ar_553, ar_554, ar_555, ar_556, ar_557, ar_558, ex_eq, ex_ite, pm_bk_r, pm_bk_t, ol_nil, ol_one, true_and, and_true, false_and, and_false, reduceIte, Nat.reduceEqDiff, up_at, Nat.add_left_cancel_iff, show (110 : Int32) = nI 110 from rfl, q110, n110, show (43 : Int32) = nI 43 from rfl, q43, n43]
      cases er : e_E T ch (p + 1) with
      | none =>
        refine ⟨fun x hx => (by cases hx), fun _ => ?_⟩
        obtain ⟨J, g1, g2⟩ := hX.2 er
        refine ⟨J, FD.adv.trans g1, fun q => ?_⟩
        show pm_C (d + 66) 96 _ _ q ↔ _
        rw [hopen2]
        simp only [g2, ex_eq, ex_ite, pm_bk_r, pm_bk_t, ol_nil, ol_one, true_and, and_true, false_and, and_false, reduceIte, Nat.reduceEqDiff, up_at, Nat.add_left_cancel_iff]
      | some y =>
        refine ⟨fun x hx => ?_, fun hx => (by cases hx)⟩
        injection hx with hx
        subst hx
        obtain ⟨J, g1, g2, g3⟩ := hX.1 y er
        have hg := e_expr_ok _ _ _ _ _ er
        have hl : (K ++ y.2).length < 100000 := by have := hg.2.2.1; have := hg.2.1; rw [List.length_append]; omega
        refine ⟨_, by rw [← List.append_assoc]; exact g1.em (x := (15, 0)), (FD.adv.trans g2).trans FD.em, fun q => ?_⟩
        have h80' : ∀ q, (pm_C (d + 64 + 1) 80 [.ref 3, .int 15, .int 0] (Wm J k o) q ↔ q = (.inl none, Wm (emI (K ++ y.2) (15, 0) J) k o)) := h80 g1 hl 15 0
        show pm_C (d + 66) 96 _ _ q ↔ _
        rw [hopen2]
        simp only [g3, ex_eq, ex_ite, pm_bk_r, pm_bk_t, ol_nil, ol_one, true_and, and_true, false_and, and_false, reduceIte, Nat.reduceEqDiff, up_at, Nat.add_left_cancel_iff, q96_47, q96_48, q96_51, q96_53, q96_54, q96_57, q96_133, W_1, W_I, W_mk, W_tk, pm_rv, rf_0_0, rf_0_1, rf_0_2, rf_0_3, rf_0_4, rf_0_7, rf_0_8, rf_1_0, rf_1_2, rf_3_0, rf_3_1, rf_3_6, rf_3_7, rf_3_8, rf_9_0, rf_9_1, rf_10_0, rf_10_1, rf_10_6, rf_10_7, rf_10_8, rf_17_0, rf_17_1, rf_538_2, rf_538_6, rf_538_7, rf_538_9, rf_538_11, rf_538_12, rf_538_18, rf_538_19, rf_538_22, rf_538_23, rf_538_25, rf_538_27, rf_538_28, rf_538_30, rf_538_31, rf_538_32, rf_538_33, rf_538_34, rf_538_35, rf_538_36, ob_0, ob_1, ob_3, ob_9, ob_10, ob_17, ob_538, ar_2, ar_4, ar_5, ar_6, ar_7, ar_8, ar_11, ar_12, ar_13, ar_14, ar_15, ar_16, ar_116, ar_117, ar_539, ar_540, ar_541, ar_542, ar_543, ar_544, ar_545, ar_546, ar_547, ar_548, ar_549, ar_550, ar_551, ar_552, ar_553, ar_554, ar_555, ar_556, ar_557, ar_558, h80']
    · rw [if_neg n43]
      have hopen3 : ∀ q, (pm_C (d + 66) 96 [.ref 1] (Wm I k o) q ↔ pm_R (d + 65) 96 60 [some (.ref 1), some (.int (ixI (e_ix e_W (nx T p)))), none] [] (Wm I k o) q) := by
        intro q
        rw [hopen]
        simp (decide := true) only [q96_10, q96_11, q96_13, q96_16, q96_32, q96_33, q96_35, q96_38, W_1, W_I, W_mk, W_tk, pm_rv, rf_0_0, rf_0_1, rf_0_2, rf_0_3, rf_0_4, rf_0_7, rf_0_8, rf_1_0, rf_1_2, rf_3_0, rf_3_1, rf_3_6, rf_3_7, rf_3_8, rf_9_0, rf_9_1, rf_10_0, rf_10_1, rf_10_6, rf_10_7, rf_10_8, rf_17_0, rf_17_1, rf_538_2, rf_538_6, rf_538_7, rf_538_9, rf_538_11, rf_538_12, rf_538_18, rf_538_19, rf_538_22, rf_538_23, rf_538_25, rf_538_27, rf_538_28, rf_538_30, rf_538_31, rf_538_32, rf_538_33, rf_538_34, rf_538_35, rf_538_36, ob_0, ob_1, ob_3, ob_9, ob_10, ob_17, ob_538, ar_2, ar_4, ar_5, ar_6, ar_7, ar_8, ar_11, ar_12, ar_13, ar_14, ar_15, ar_16, ar_116, ar_117, ar_539, ar_540, ar_541, ar_542, ar_543, ar_544, ar_545, ar_546, ar_547, ar_548, ar_549, ar_550, ar_551, ar_552, ar_553, ar_554, ar_555, ar_556, ar_557, ar_558, ex_eq, ex_ite, pm_bk_r, pm_bk_t, ol_nil, ol_one, true_and, and_true, false_and, and_false, reduceIte, Nat.reduceEqDiff, up_at, Nat.add_left_cancel_iff, show (110 : Int32) = nI 110 from rfl, q110, n110, show (43 : Int32) = nI 43 from rfl, q43, n43]
      have q102 : ∀ c, c < 100000 → ∀ q, (pm_C (d + 65) 102 [.ref 1, .int (nI c)] (Wm (adv I (p + 1)) k o) q ↔ if nx T (p + 1) = c then q = (.inl none, Wm (adv I (p + 2)) k o) else q = (.inr 0, Wm (adv I (p + 1)) (k + 1) o)) := fun c hc q => by
        have := c102 (d := d + 63) (k := k) (o := o) (q := q) (c := c) hT hA.1 hA.2.1 (show p + 1 < 100000 by omega) hc
        rw [adv_adv] at this
        exact this
      have hA2 : RD T (p + 2) K ch (adv I (p + 2)) := h.ad
      cases ew : e_ix e_W (nx T p) with
      | some i =>
        have hi4 : i < 4 := (e_ix_lt ew).1
        have q61 := q102 61 (by omega)
        have hadv : pm_up I 1 3 (nI (p + 1)) = adv I (p + 1) := rfl
        simp only []
        by_cases n61 : nx T (p + 1) = 61
        · rw [if_pos n61]
          have hlt := nx_lt (T := T) (p := p + 1) (by omega)
          have hX := c97E (d := d) (k := k) (o := o) hT (ch := ch) (p + 2) K _ hA2 (by omega) (by omega)
          have hopen4 : ∀ q, (pm_C (d + 66) 96 [.ref 1] (Wm I k o) q ↔ ∃ r, pm_C (d + 65) 97 [.ref 1, .int 0, .int 0] (Wm (adv I (p + 2)) k o) r ∧ pm_bk (fun v M' => pm_R (d + 65) 96 86 [some (.ref 1), some (.int (nI i)), none] (v.toList ++ []) M' q) (fun k M' => q = (.inr k, M')) r) := by
            intro q
            rw [hopen3, ew]
            simp (decide := true) only [q96_60, q96_61, q96_64, q96_65, q96_66, q96_69, q96_70, q96_71, q96_74, q96_75, q96_77, q96_80, q96_81, q96_82, q96_83, W_1, W_I, W_mk, W_tk, pm_rv, rf_0_0, rf_0_1, rf_0_2, rf_0_3, rf_0_4, rf_0_7, rf_0_8, rf_1_0, rf_1_2, rf_3_0, rf_3_1, rf_3_6, rf_3_7, rf_3_8, rf_9_0, rf_9_1, rf_10_0, rf_10_1, rf_10_6, rf_10_7, rf_10_8, rf_17_0, rf_17_1, rf_538_2, rf_538_6, rf_538_7, rf_538_9, rf_538_11, rf_538_12, rf_538_18, rf_538_19, rf_538_22, rf_538_23, rf_538_25, rf_538_27, rf_538_28, rf_538_30, rf_538_31, rf_538_32, rf_538_33, rf_538_34, rf_538_35, rf_538_36, ob_0, ob_1, ob_3, ob_9, ob_10, ob_17, ob_538, ar_2, ar_4, ar_5, ar_6, ar_7, ar_8, ar_11, ar_12, ar_13, ar_14, ar_15, ar_16, ar_116, ar_117, ar_539, ar_540, ar_541, ar_542, ar_543, ar_544, ar_545, ar_546, ar_547, ar_548, ar_549, ar_550, ar_551, ar_552, ar_553, ar_554, ar_555, ar_556, ar_557, ar_558, ex_eq, ex_ite, pm_bk_r, pm_bk_t, ol_nil, ol_one, true_and, and_true, false_and, and_false, reduceIte, Nat.reduceEqDiff, up_at, Nat.add_left_cancel_iff, ixI, show (nI i < 0) ↔ False from iff_false_intro (sm_neg (by omega)), h.2.1, sm_s, hadv, show (61 : Int32) = nI 61 from rfl, q61, n61]
          cases er : e_E T ch (p + 2) with
          | none =>
            refine ⟨fun x hx => (by cases hx), fun _ => ?_⟩
            obtain ⟨J, g1, g2⟩ := hX.2 er
            refine ⟨J, FD.adv.trans g1, fun q => ?_⟩
            show pm_C (d + 66) 96 _ _ q ↔ _
            rw [hopen4]
            simp only [g2, ex_eq, ex_ite, pm_bk_r, pm_bk_t, ol_nil, ol_one, true_and, and_true, false_and, and_false, reduceIte, Nat.reduceEqDiff, up_at, Nat.add_left_cancel_iff]
          | some y =>
            refine ⟨fun x hx => ?_, fun hx => (by cases hx)⟩
            injection hx with hx
            subst hx
            obtain ⟨J, g1, g2, g3⟩ := hX.1 y er
            have hg := e_expr_ok _ _ _ _ _ er
            have hl : (K ++ y.2).length < 100000 := by have := hg.2.2.1; have := hg.2.1; rw [List.length_append]; omega
            refine ⟨_, by rw [← List.append_assoc]; exact g1.em (x := (14, i)), (FD.adv.trans g2).trans FD.em, fun q => ?_⟩
            have h80' := h80 g1 hl 14 i
            show pm_C (d + 66) 96 _ _ q ↔ _
            rw [hopen4]
            simp only [g3, ex_eq, ex_ite, pm_bk_r, pm_bk_t, ol_nil, ol_one, true_and, and_true, false_and, and_false, reduceIte, Nat.reduceEqDiff, up_at, Nat.add_left_cancel_iff, q96_86, q96_87, q96_90, q96_92, q96_93, q96_96, q96_133, W_1, W_I, W_mk, W_tk, pm_rv, rf_0_0, rf_0_1, rf_0_2, rf_0_3, rf_0_4, rf_0_7, rf_0_8, rf_1_0, rf_1_2, rf_3_0, rf_3_1, rf_3_6, rf_3_7, rf_3_8, rf_9_0, rf_9_1, rf_10_0, rf_10_1, rf_10_6, rf_10_7, rf_10_8, rf_17_0, rf_17_1, rf_538_2, rf_538_6, rf_538_7, rf_538_9, rf_538_11, rf_538_12, rf_538_18, rf_538_19, rf_538_22, rf_538_23, rf_538_25, rf_538_27, rf_538_28, rf_538_30, rf_538_31, rf_538_32, rf_538_33, rf_538_34, rf_538_35, rf_538_36, ob_0, ob_1, ob_3, ob_9, ob_10, ob_17, ob_538, ar_2, ar_4, ar_5, ar_6, ar_7, ar_8, ar_11, ar_12, ar_13, ar_14, ar_15, ar_16, ar_116, ar_117, ar_539, ar_540, ar_541, ar_542, ar_543, ar_544, ar_545, ar_546, ar_547, ar_548, ar_549, ar_550, ar_551, ar_552, ar_553, ar_554, ar_555, ar_556, ar_557, ar_558, show (14 : Int32) = nI 14 from rfl, h80']
        · rw [if_neg n61]
          refine ⟨fun x hx => (by cases hx), fun _ => ⟨adv I (p + 1), FD.adv, fun q => ?_⟩⟩
          show pm_C (d + 66) 96 _ _ q ↔ _
          rw [hopen3, ew]
          simp (decide := true) only [q96_60, q96_61, q96_64, q96_65, q96_66, q96_69, q96_70, q96_71, q96_74, q96_75, q96_77, W_1, W_I, W_mk, W_tk, pm_rv, rf_0_0, rf_0_1, rf_0_2, rf_0_3, rf_0_4, rf_0_7, rf_0_8, rf_1_0, rf_1_2, rf_3_0, rf_3_1, rf_3_6, rf_3_7, rf_3_8, rf_9_0, rf_9_1, rf_10_0, rf_10_1, rf_10_6, rf_10_7, rf_10_8, rf_17_0, rf_17_1, rf_538_2, rf_538_6, rf_538_7, rf_538_9, rf_538_11, rf_538_12, rf_538_18, rf_538_19, rf_538_22, rf_538_23, rf_538_25, rf_538_27, rf_538_28, rf_538_30, rf_538_31, rf_538_32, rf_538_33, rf_538_34, rf_538_35, rf_538_36, ob_0, ob_1, ob_3, ob_9, ob_10, ob_17, ob_538, ar_2, ar_4, ar_5, ar_6, ar_7, ar_8, ar_11, ar_12, ar_13, ar_14, ar_15, ar_16, ar_116, ar_117, ar_539, ar_540, ar_541, ar_542, ar_543, ar_544, ar_545, ar_546, ar_547, ar_548, ar_549, ar_550, ar_551, ar_552, ar_553, ar_554, ar_555, ar_556, ar_557, ar_558, ex_eq, ex_ite, pm_bk_r, pm_bk_t, ol_nil, ol_one, true_and, and_true, false_and, and_false, reduceIte, Nat.reduceEqDiff, up_at, Nat.add_left_cancel_iff, ixI, show (nI i < 0) ↔ False from iff_false_intro (sm_neg (by omega)), h.2.1, sm_s, hadv, show (61 : Int32) = nI 61 from rfl, q61, n61]
      | none =>
        simp only []
        have hopen5 : ∀ q, (pm_C (d + 66) 96 [.ref 1] (Wm I k o) q ↔ pm_R (d + 65) 96 99 [some (.ref 1), some (.int (-1)), none] [] (Wm I k o) q) := by
          intro q
          rw [hopen3, ew]
          simp (decide := true) only [q96_60, q96_61, W_1, W_I, W_mk, W_tk, pm_rv, rf_0_0, rf_0_1, rf_0_2, rf_0_3, rf_0_4, rf_0_7, rf_0_8, rf_1_0, rf_1_2, rf_3_0, rf_3_1, rf_3_6, rf_3_7, rf_3_8, rf_9_0, rf_9_1, rf_10_0, rf_10_1, rf_10_6, rf_10_7, rf_10_8, rf_17_0, rf_17_1, rf_538_2, rf_538_6, rf_538_7, rf_538_9, rf_538_11, rf_538_12, rf_538_18, rf_538_19, rf_538_22, rf_538_23, rf_538_25, rf_538_27, rf_538_28, rf_538_30, rf_538_31, rf_538_32, rf_538_33, rf_538_34, rf_538_35, rf_538_36, ob_0, ob_1, ob_3, ob_9, ob_10, ob_17, ob_538, ar_2, ar_4, ar_5, ar_6, ar_7, ar_8, ar_11, ar_12, ar_13, ar_14, ar_15, ar_16, ar_116, ar_117, ar_539, ar_540, ar_541, ar_542, ar_543, ar_544, ar_545, ar_546, ar_547, ar_548, ar_549, ar_550, ar_551, ar_552, ar_553, ar_554, ar_555, ar_556, ar_557, ar_558, ex_eq, ex_ite, pm_bk_r, pm_bk_t, ol_nil, ol_one, true_and, and_true, false_and, and_false, reduceIte, Nat.reduceEqDiff, up_at, Nat.add_left_cancel_iff, ixI]
        have hz1 := fun q => c100 (d := d + 60) (k := k) (o := o) (q := q) hT h.1 h.2.1 (show p < 100000 by omega) (b := ch)
        cases ez : e_zone ch (nx T p) with
        | none =>
          refine ⟨fun x hx => (by cases hx), fun _ => ⟨I, FD.refl, fun q => ?_⟩⟩
          have hz1' := fun q => (hz1 q).2 ez
          show pm_C (d + 66) 96 _ _ q ↔ _
          rw [hopen5]
          simp (decide := true) only [q96_99, q96_100, q96_101, q96_104, q96_107, W_1, W_I, W_mk, W_tk, pm_rv, rf_0_0, rf_0_1, rf_0_2, rf_0_3, rf_0_4, rf_0_7, rf_0_8, rf_1_0, rf_1_2, rf_3_0, rf_3_1, rf_3_6, rf_3_7, rf_3_8, rf_9_0, rf_9_1, rf_10_0, rf_10_1, rf_10_6, rf_10_7, rf_10_8, rf_17_0, rf_17_1, rf_538_2, rf_538_6, rf_538_7, rf_538_9, rf_538_11, rf_538_12, rf_538_18, rf_538_19, rf_538_22, rf_538_23, rf_538_25, rf_538_27, rf_538_28, rf_538_30, rf_538_31, rf_538_32, rf_538_33, rf_538_34, rf_538_35, rf_538_36, ob_0, ob_1, ob_3, ob_9, ob_10, ob_17, ob_538, ar_2, ar_4, ar_5, ar_6, ar_7, ar_8, ar_11, ar_12, ar_13, ar_14, ar_15, ar_16, ar_116, ar_117, ar_539, ar_540, ar_541, ar_542, ar_543, ar_544, ar_545, ar_546, ar_547, ar_548, ar_549, ar_550, ar_551, ar_552, ar_553, ar_554, ar_555, ar_556, ar_557, ar_558, ex_eq, ex_ite, pm_bk_r, pm_bk_t, ol_nil, ol_one, true_and, and_true, false_and, and_false, reduceIte, Nat.reduceEqDiff, up_at, Nat.add_left_cancel_iff, h.2.2.2, hz1']
        | some z =>
          simp only []
          have hz7 := (e_zone_lt ez).1
          have hz1' := fun q => (hz1 q).1 z ez
          have q62 := q102 62 (by omega)
          by_cases n62 : nx T (p + 1) = 62
          · rw [if_pos n62]
            have hlt := nx_lt (T := T) (p := p + 1) (by omega)
            have hz2 : ∀ q, (∀ y, e_zone false (nx T (p + 2)) = some y → (pm_C (d + 65) 100 [.ref 1, .int 0] (Wm (adv I (p + 2)) k o) q ↔ q = (.inl (some (.int (nI y))), Wm (adv I (p + 3)) k o))) ∧ (e_zone false (nx T (p + 2)) = none → (pm_C (d + 65) 100 [.ref 1, .int 0] (Wm (adv I (p + 2)) k o) q ↔ q = (.inr 0, Wm (adv I (p + 2)) (k + 1) o))) := by
              intro q
              have := c100 (d := d + 60) (k := k) (o := o) (q := q) hT hA2.1 hA2.2.1 (show p + 2 < 100000 by omega) (b := false)
              rw [adv_adv] at this
              exact this
            cases ey : e_zone false (nx T (p + 2)) with
            | none =>
              refine ⟨fun x hx => (by cases hx), fun _ => ⟨adv I (p + 2), FD.adv, fun q => ?_⟩⟩
              have hz2' := fun q => (hz2 q).2 ey
              show pm_C (d + 66) 96 _ _ q ↔ _
              rw [hopen5]
              simp (decide := true) only [q96_99, q96_100, q96_101, q96_104, q96_107, q96_108, q96_109, q96_111, q96_114, q96_115, q96_118, q96_120, q96_122, q96_123, q96_124, q96_125, q96_126, q96_129, q96_130, W_1, W_I, W_mk, W_tk, pm_rv, rf_0_0, rf_0_1, rf_0_2, rf_0_3, rf_0_4, rf_0_7, rf_0_8, rf_1_0, rf_1_2, rf_3_0, rf_3_1, rf_3_6, rf_3_7, rf_3_8, rf_9_0, rf_9_1, rf_10_0, rf_10_1, rf_10_6, rf_10_7, rf_10_8, rf_17_0, rf_17_1, rf_538_2, rf_538_6, rf_538_7, rf_538_9, rf_538_11, rf_538_12, rf_538_18, rf_538_19, rf_538_22, rf_538_23, rf_538_25, rf_538_27, rf_538_28, rf_538_30, rf_538_31, rf_538_32, rf_538_33, rf_538_34, rf_538_35, rf_538_36, ob_0, ob_1, ob_3, ob_9, ob_10, ob_17, ob_538, ar_2, ar_4, ar_5, ar_6, ar_7, ar_8, ar_11, ar_12, ar_13, ar_14, ar_15, ar_16, ar_116, ar_117, ar_539, ar_540, ar_541, ar_542, ar_543, ar_544, ar_545, ar_546, ar_547, ar_548, ar_549, ar_550, ar_551, ar_552, ar_553, ar_554, ar_555, ar_556, ar_557, ar_558, ex_eq, ex_ite, pm_bk_r, pm_bk_t, ol_nil, ol_one, true_and, and_true, false_and, and_false, reduceIte, Nat.reduceEqDiff, up_at, Nat.add_left_cancel_iff, h.2.2.2, hz1', show (62 : Int32) = nI 62 from rfl, q62, n62, hz2']
            | some y =>
              refine ⟨fun x hx => ?_, fun hx => (by cases hx)⟩
              injection hx with hx
              subst hx
              have hz2' := fun q => (hz2 q).1 y ey
              have hA3 : RD T (p + 3) K ch (adv I (p + 3)) := h.ad
              have e8 : (8 : Int32) * nI z + nI y = nI (8 * z + y) := by rw [show (8 : Int32) = nI 8 from rfl, sm_mul, sm_add]
              refine ⟨_, hA3.em (x := (13, 8 * z + y)), FD.adv.trans FD.em, fun q => ?_⟩
              have h80' := h80 hA3 (by omega) 13 (8 * z + y)
              show pm_C (d + 66) 96 _ _ q ↔ _
              rw [hopen5]
              simp (decide := true) only [q96_99, q96_100, q96_101, q96_104, q96_107, q96_108, q96_109, q96_111, q96_114, q96_115, q96_118, q96_120, q96_122, q96_123, q96_124, q96_125, q96_126, q96_129, q96_130, q96_133, W_1, W_I, W_mk, W_tk, pm_rv, rf_0_0, rf_0_1, rf_0_2, rf_0_3, rf_0_4, rf_0_7, rf_0_8, rf_1_0, rf_1_2, rf_3_0, rf_3_1, rf_3_6, rf_3_7, rf_3_8, rf_9_0, rf_9_1, rf_10_0, rf_10_1, rf_10_6, rf_10_7, rf_10_8, rf_17_0, rf_17_1, rf_538_2, rf_538_6, rf_538_7, rf_538_9, rf_538_11, rf_538_12, rf_538_18, rf_538_19, rf_538_22, rf_538_23, rf_538_25, rf_538_27, rf_538_28, rf_538_30, rf_538_31, rf_538_32, rf_538_33, rf_538_34, rf_538_35, rf_538_36, ob_0, ob_1, ob_3, ob_9, ob_10, ob_17, ob_538, ar_2, ar_4, ar_5, ar_6, ar_7, ar_8, ar_11, ar_12, ar_13, ar_14, ar_15, ar_16, ar_116, ar_117, ar_539, ar_540, ar_541, ar_542, ar_543, ar_544, ar_545, ar_546, ar_547, ar_548, ar_549, ar_550, ar_551, ar_552, ar_553, ar_554, ar_555, ar_556, ar_557, ar_558, ex_eq, ex_ite, pm_bk_r, pm_bk_t, ol_nil, ol_one, true_and, and_true, false_and, and_false, reduceIte, Nat.reduceEqDiff, up_at, Nat.add_left_cancel_iff, h.2.2.2, hz1', show (62 : Int32) = nI 62 from rfl, q62, n62, hz2', e8, show (13 : Int32) = nI 13 from rfl, h80']
          · rw [if_neg n62]
            refine ⟨fun x hx => (by cases hx), fun _ => ⟨adv I (p + 1), FD.adv, fun q => ?_⟩⟩
            show pm_C (d + 66) 96 _ _ q ↔ _
            rw [hopen5]
            simp (decide := true) only [q96_99, q96_100, q96_101, q96_104, q96_107, q96_108, q96_109, q96_111, W_1, W_I, W_mk, W_tk, pm_rv, rf_0_0, rf_0_1, rf_0_2, rf_0_3, rf_0_4, rf_0_7, rf_0_8, rf_1_0, rf_1_2, rf_3_0, rf_3_1, rf_3_6, rf_3_7, rf_3_8, rf_9_0, rf_9_1, rf_10_0, rf_10_1, rf_10_6, rf_10_7, rf_10_8, rf_17_0, rf_17_1, rf_538_2, rf_538_6, rf_538_7, rf_538_9, rf_538_11, rf_538_12, rf_538_18, rf_538_19, rf_538_22, rf_538_23, rf_538_25, rf_538_27, rf_538_28, rf_538_30, rf_538_31, rf_538_32, rf_538_33, rf_538_34, rf_538_35, rf_538_36, ob_0, ob_1, ob_3, ob_9, ob_10, ob_17, ob_538, ar_2, ar_4, ar_5, ar_6, ar_7, ar_8, ar_11, ar_12, ar_13, ar_14, ar_15, ar_16, ar_116, ar_117, ar_539, ar_540, ar_541, ar_542, ar_543, ar_544, ar_545, ar_546, ar_547, ar_548, ar_549, ar_550, ar_551, ar_552, ar_553, ar_554, ar_555, ar_556, ar_557, ar_558, ex_eq, ex_ite, pm_bk_r, pm_bk_t, ol_nil, ol_one, true_and, and_true, false_and, and_false, reduceIte, Nat.reduceEqDiff, up_at, Nat.add_left_cancel_iff, h.2.2.2, hz1', show (62 : Int32) = nI 62 from rfl, q62, n62]
end RGM
