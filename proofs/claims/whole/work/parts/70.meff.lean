/-! THE REFERENCE: effect -/
section MEF
variable {d k : Nat} {o : Int64} {T : List Nat}
/-- where it is wrong already, an expression is passed over -/
theorem c42x {ch : Bool} {p : Nat} {K : List (Int32 × Int32)} {W : List Nat} {I : Nat → Nat → Int32} (h : MT T p true K W I) (hK : K.length < 400) : ∃ J, MT T p true K [] J ∧ FN I J ∧ ∀ q, (pm_C (d + 6) 42 [.ref 538, .int (bI ch)] (Wm I k o) q ↔ q = (.inl none, Wm J k o)) := by
  have hz := h.zero
  have h4 : uN I 0 538 4 = 1 := hz.2.2.1
  have hw := hz.w (b := true)
  obtain ⟨J1, a1, a2, a3⟩ := c40 (d := d + 2) (k := k) (o := o) (l := 6) (by omega) (by omega) [] K _ hw (by simp; omega) (by simp)
  have a1 : MT T p true (K ++ []) [] J1 := a1
  rw [List.append_nil] at a1
  have a3' : ∀ q, (pm_C (d + 4) 40 [.ref 538, .int 6] (Wm (pm_up (uN I 0) 538 4 1) k o) q ↔ q = (.inl none, Wm J1 k o)) := a3
  have h4' : J1 538 4 = 1 := a1.2.2.1
  have hw2 := a1.w (b := true)
  obtain ⟨J2, b1, b2, b3⟩ := c40 (d := d + 3) (k := k) (o := o) (l := 1) (by omega) (by omega) [] K _ hw2 (by simp; omega) (by simp)
  have b1 : MT T p true (K ++ []) [] J2 := b1
  rw [List.append_nil] at b1
  have b3' : ∀ q, (pm_C (d + 5) 40 [.ref 538, .int 1] (Wm (pm_up J1 538 4 1) k o) q ↔ q = (.inl none, Wm J2 k o)) := b3
  have h41 : ∀ q, (pm_C (d + 5) 41 [.ref 538, .int 0, .int (bI ch)] (Wm (uN I 0) k o) q ↔ q = (.inl (some (.int 0)), Wm J1 k o)) := by
    intro q
    rw [n41]
    simp only [q41_0, q41_1, q41_2, q41_3]
    rw [q41_5]
    simp (decide := true) only [q41_6, q41_9, q41_138, q41_139, q41_142, q41_145, q41_146, q41_147, q41_150, q41_153, q41_154, q41_157, q41_158, q41_160, q41_161, q41_162, q41_165, q41_168, q41_170, q41_173, q41_174, q41_177, q41_178, q41_181, q41_182, q41_184, W_1, W_I, W_mk, W_tk, pm_rv, rf_0_0, rf_0_1, rf_0_2, rf_0_3, rf_0_4, rf_0_7, rf_0_8, rf_1_0, rf_1_2, rf_3_0, rf_3_1, rf_3_6, rf_3_7, rf_3_8, rf_9_0, rf_9_1, rf_10_0, rf_10_1, rf_10_6, rf_10_7, rf_10_8, rf_17_0, rf_17_1, rf_538_2, rf_538_6, rf_538_7, rf_538_9, rf_538_11, rf_538_12, rf_538_18, rf_538_19, rf_538_22, rf_538_23, rf_538_25, rf_538_27, rf_538_28, rf_538_30, rf_538_31, rf_538_32, rf_538_33, rf_538_34, rf_538_35, rf_538_36, ob_0, ob_1, ob_3, ob_9, ob_10, ob_17, ob_538, ar_2, ar_4, ar_5, ar_6, ar_7, ar_8, ar_11, ar_12, ar_13, ar_14, ar_15, ar_16, ar_116, ar_117, ar_539, ar_540, ar_541, ar_542, ar_543, ar_544, ar_545, ar_546, ar_547, ar_548, ar_549, ar_550, ar_551, ar_552, ar_553, ar_554, ar_555, ar_556, ar_557, ar_558, ex_eq, ex_ite, pm_bk_r, pm_bk_t, ol_nil, ol_one, true_and, and_true, false_and, and_false, reduceIte, Nat.reduceEqDiff, up_at, Nat.add_left_cancel_iff, h4, a3']
    rw [q41_187]
    simp (decide := true) only [q41_188, q41_191, q41_244, q41_245, W_1, W_I, W_mk, W_tk, pm_rv, rf_0_0, rf_0_1, rf_0_2, rf_0_3, rf_0_4, rf_0_7, rf_0_8, rf_1_0, rf_1_2, rf_3_0, rf_3_1, rf_3_6, rf_3_7, rf_3_8, rf_9_0, rf_9_1, rf_10_0, rf_10_1, rf_10_6, rf_10_7, rf_10_8, rf_17_0, rf_17_1, rf_538_2, rf_538_6, rf_538_7, rf_538_9, rf_538_11, rf_538_12, rf_538_18, rf_538_19, rf_538_22, rf_538_23, rf_538_25, rf_538_27, rf_538_28, rf_538_30, rf_538_31, rf_538_32, rf_538_33, rf_538_34, rf_538_35, rf_538_36, ob_0, ob_1, ob_3, ob_9, ob_10, ob_17, ob_538, ar_2, ar_4, ar_5, ar_6, ar_7, ar_8, ar_11, ar_12, ar_13, ar_14, ar_15, ar_16, ar_116, ar_117, ar_539, ar_540, ar_541, ar_542, ar_543, ar_544, ar_545, ar_546, ar_547, ar_548, ar_549, ar_550, ar_551, ar_552, ar_553, ar_554, ar_555, ar_556, ar_557, ar_558, ex_eq, ex_ite, pm_bk_r, pm_bk_t, ol_nil, ol_one, true_and, and_true, false_and, and_false, reduceIte, Nat.reduceEqDiff, up_at, Nat.add_left_cancel_iff, h4']
  refine ⟨J2, b1, (((fNn.trans fW).trans a2).trans fW).trans b2, fun q => ?_⟩
  have hun : pm_up I 538 8 0 = uN I 0 := rfl
  rw [n42]
  simp (decide := true) only [q42_0, q42_1, q42_2, q42_5, q42_6, q42_7, q42_8, q42_11, W_1, W_I, W_mk, W_tk, pm_rv, rf_0_0, rf_0_1, rf_0_2, rf_0_3, rf_0_4, rf_0_7, rf_0_8, rf_1_0, rf_1_2, rf_3_0, rf_3_1, rf_3_6, rf_3_7, rf_3_8, rf_9_0, rf_9_1, rf_10_0, rf_10_1, rf_10_6, rf_10_7, rf_10_8, rf_17_0, rf_17_1, rf_538_2, rf_538_6, rf_538_7, rf_538_9, rf_538_11, rf_538_12, rf_538_18, rf_538_19, rf_538_22, rf_538_23, rf_538_25, rf_538_27, rf_538_28, rf_538_30, rf_538_31, rf_538_32, rf_538_33, rf_538_34, rf_538_35, rf_538_36, ob_0, ob_1, ob_3, ob_9, ob_10, ob_17, ob_538, ar_2, ar_4, ar_5, ar_6, ar_7, ar_8, ar_11, ar_12, ar_13, ar_14, ar_15, ar_16, ar_116, ar_117, ar_539, ar_540, ar_541, ar_542, ar_543, ar_544, ar_545, ar_546, ar_547, ar_548, ar_549, ar_550, ar_551, ar_552, ar_553, ar_554, ar_555, ar_556, ar_557, ar_558, ex_eq, ex_ite, pm_bk_r, pm_bk_t, ol_nil, ol_one, true_and, and_true, false_and, and_false, reduceIte, Nat.reduceEqDiff, up_at, Nat.add_left_cancel_iff, hun, h41]
  rw [q42_12]
  simp (decide := true) only [q42_13, q42_16, q42_141, q42_142, q42_143, q42_146, q42_149, q42_150, q42_153, q42_154, q42_157, q42_158, q42_161, q42_162, q42_163, q42_166, W_1, W_I, W_mk, W_tk, pm_rv, rf_0_0, rf_0_1, rf_0_2, rf_0_3, rf_0_4, rf_0_7, rf_0_8, rf_1_0, rf_1_2, rf_3_0, rf_3_1, rf_3_6, rf_3_7, rf_3_8, rf_9_0, rf_9_1, rf_10_0, rf_10_1, rf_10_6, rf_10_7, rf_10_8, rf_17_0, rf_17_1, rf_538_2, rf_538_6, rf_538_7, rf_538_9, rf_538_11, rf_538_12, rf_538_18, rf_538_19, rf_538_22, rf_538_23, rf_538_25, rf_538_27, rf_538_28, rf_538_30, rf_538_31, rf_538_32, rf_538_33, rf_538_34, rf_538_35, rf_538_36, ob_0, ob_1, ob_3, ob_9, ob_10, ob_17, ob_538, ar_2, ar_4, ar_5, ar_6, ar_7, ar_8, ar_11, ar_12, ar_13, ar_14, ar_15, ar_16, ar_116, ar_117, ar_539, ar_540, ar_541, ar_542, ar_543, ar_544, ar_545, ar_546, ar_547, ar_548, ar_549, ar_550, ar_551, ar_552, ar_553, ar_554, ar_555, ar_556, ar_557, ar_558, ex_eq, ex_ite, pm_bk_r, pm_bk_t, ol_nil, ol_one, true_and, and_true, false_and, and_false, reduceIte, Nat.reduceEqDiff, up_at, Nat.add_left_cancel_iff, h4', b3']
/-- the text was found wrong -/
def m_bad (T : List Nat) (c : Nat) (J : Nat → Nat → Int32) : Prop := ∃ p K W, MT T p true K W J ∧ p ≤ T.length + 3 ∧ K.length ≤ p + c
/-- what a reading method of the reference does -/
def EM (k : Nat) (o : Int64) (T : List Nat) (c : Nat) (call : pm_Mem → pm_Res → Prop) (rec : Nat → Option (Nat × List (Nat × Nat))) : Prop := ∀ p K W I, MT T p false (cK K) W I → p ≤ T.length → K.length ≤ p →
  (rec p = none → ∃ J, m_bad T c J ∧ FN I J ∧ ∀ q, (call (Wm I k o) q ↔ q = (.inl none, Wm J k o))) ∧
  (∀ x, rec p = some x → (∃ J W', MT T x.1 false (cK (K ++ x.2)) W' J ∧ FN I J ∧ ∀ q, (call (Wm I k o) q ↔ q = (.inl none, Wm J k o))) ∨ (m_stk 0 (nx T x.1) ∧ ∃ J, m_bad T c J ∧ FN I J ∧ ∀ q, (call (Wm I k o) q ↔ q = (.inl none, Wm J k o))))
theorem c42E (hT : TX T) {ch : Bool} : EM k o T 0 (fun M q => pm_C (d + 6) 42 [.ref 538, .int (bI ch)] M q) (e_E T ch) := by
  intro p K W I h hp hl
  have hc := c42 (d := d) (k := k) (o := o) (ch := ch) hT h hp hl
  have he := m_expr_eq hT.1 (ch := ch) p K
  have hbad : m_expr T ch p K = none → ∃ J, m_bad T 0 J ∧ FN I J ∧ ∀ q, (pm_C (d + 6) 42 [.ref 538, .int (bI ch)] (Wm I k o) q ↔ q = (.inl none, Wm J k o)) := by
    intro hn
    obtain ⟨J, p', K', W', g1, g2, g3, g4, g5⟩ := hc.2 hn
    exact ⟨J, ⟨p', K', W', g1, by omega, by omega⟩, g4, g5⟩
  refine ⟨fun hn => hbad (he.1 hn), fun x hx => ?_⟩
  rcases he.2 x hx with h1 | ⟨h1, h2⟩
  · obtain ⟨J, g1, g2, g3, g4, g5⟩ := hc.1 _ h1
    exact Or.inl ⟨J, [], g1, g4, g5⟩
  · exact Or.inr ⟨h1, hbad h2⟩
theorem m_bad.e {c : Nat} {J : Nat → Nat → Int32} (h : m_bad T c J) (hT : T.length ≤ 240) (hc : c < 100) {x y : Int32} : ∃ J', m_bad T (c + 1) J' ∧ FN J J' ∧ ∀ q, (pm_C (d + 1) 29 [.ref 538, .int x, .int y] (Wm J k o) q ↔ q = (.inl none, Wm J' k o)) := by
  obtain ⟨p, K, W, h1, h2, h3⟩ := h
  exact ⟨_, ⟨p, _, W, h1.e (x := x) (y := y), h2, by rw [List.length_append]; show K.length + 1 ≤ _; omega⟩, fE, fun q => c29 h1 (by omega)⟩
theorem m_bad.need {c : Nat} {J : Nat → Nat → Int32} (hT : TX T) (h : m_bad T c J) {x : Nat} (hx0 : 0 < x) (hx : x < 100000) : ∃ J', m_bad T c J' ∧ FN J J' ∧ ∀ q, (pm_C (d + 3) 28 [.ref 538, .int (nI x)] (Wm J k o) q ↔ q = (.inl none, Wm J' k o)) := by
  obtain ⟨p, K, W, h1, h2, h3⟩ := h
  have h240 := hT.1
  obtain ⟨J', g1, g2, g3⟩ := c28 (d := d) (k := k) (o := o) (c := x) hT h1 (by omega) hx
  refine ⟨J', ⟨_, K, W, g1, ?_, ?_⟩, g2, g3⟩
  · split
    · have := nx_lt (T := T) (p := p) (by omega)
      omega
    · exact h2
  · split <;> omega
theorem stk_ne {c : Nat} (h : m_stk 0 c) : c ≠ 58 ∧ c ≠ 59 ∧ c ≠ 44 ∧ c ≠ 0 := by
  rcases h with h | ⟨_, h⟩
  · have := of_decide_eq_true h
    omega
  · omega
theorem c43 (hT : TX T) {ch : Bool} : EM k o T 1 (fun M q => pm_C (d + 7) 43 [.ref 538, .int (bI ch)] M q) (e_eff T ch) := by
  intro p K W I h hp hl
  have h240 := hT.1
  have h126 := nx_126 hT p
  have a26 : ∀ q, (pm_C (d + 6) 26 [.ref 538] (Wm I k o) q ↔ q = (.inl (some (.int (nI (nx T p)))), Wm I k o)) := fun q => c26 (d := d + 5) hT h.1 h.2.1 (by omega)
  have a33 : ∀ {M : pm_Mem} (q : pm_Res), (pm_C (d + 6) 33 [.int (nI (nx T p))] M q ↔ q = (.inl (some (.int (ixI (e_ix e_W (nx T p))))), M)) := fun q => c33 (d := d + 4) (by omega)
  have e110 : (nI (nx T p) = 110) ↔ nx T p = 110 := sm_inj (b := 110) (by omega) (by omega)
  have e43 : (nI (nx T p) = 43) ↔ nx T p = 43 := sm_inj (b := 43) (by omega) (by omega)
  have hA : MT T (p + 1) false (cK K) W (uA I (p + 1)) := h.a
  have hadv : pm_up I 538 3 (nI (p + 1)) = uA I (p + 1) := rfl
  have hcKx : ∀ (L : List (Nat × Nat)) (x y : Nat), cK L ++ [(nI x, nI y)] = cK (L ++ [(x, y)]) := fun L x y => by rw [cK_app]; rfl
  show (e_eff T ch p = none → _) ∧ (∀ x, e_eff T ch p = some x → _)
  unfold e_eff
  by_cases n110 : nx T p = 110
  · rw [if_pos n110]
    refine ⟨fun hx => (by cases hx), fun x hx => Or.inl ?_⟩
    injection hx with hx
    subst hx
    have hE := hA.e (x := nI 16) (y := nI 0)
    rw [hcKx, cK_len] at hE
    have h29 : ∀ q, (pm_C (d + 6) 29 [.ref 538, .int 16, .int 0] (Wm (uA I (p + 1)) k o) q ↔ q = (.inl none, Wm (uE (uA I (p + 1)) K.length (nI 16) (nI 0)) k o)) := fun q => by
      have := c29 (d := d + 5) (k := k) (o := o) (q := q) (x := nI 16) (y := nI 0) hA (by rw [cK_len]; omega)
      rw [cK_len] at this
      exact this
    refine ⟨_, W, hE, fA.trans fE, fun q => ?_⟩
    show pm_C (d + 7) 43 _ _ q ↔ _
    rw [n43]
    simp (decide := true) only [q43_0, q43_1, q43_4, q43_5, q43_6, q43_8, q43_11, q43_12, q43_13, q43_16, q43_17, q43_18, q43_21, q43_22, q43_24, q43_25, q43_28, q43_130, W_1, W_I, W_mk, W_tk, pm_rv, rf_0_0, rf_0_1, rf_0_2, rf_0_3, rf_0_4, rf_0_7, rf_0_8, rf_1_0, rf_1_2, rf_3_0, rf_3_1, rf_3_6, rf_3_7, rf_3_8, rf_9_0, rf_9_1, rf_10_0, rf_10_1, rf_10_6, rf_10_7, rf_10_8, rf_17_0, rf_17_1, rf_538_2, rf_538_6, rf_538_7, rf_538_9, rf_538_11, rf_538_12, rf_538_18, rf_538_19, rf_538_22, rf_538_23, rf_538_25, rf_538_27, rf_538_28, rf_538_30, rf_538_31, rf_538_32, rf_538_33, rf_538_34, rf_538_35, rf_538_36, ob_0, ob_1, ob_3, ob_9, ob_10, ob_17, ob_538, ar_2, ar_4, ar_5, ar_6, ar_7, ar_8, ar_11, ar_12, ar_13, ar_14, ar_15, ar_16, ar_116, ar_117, ar_539, ar_540, ar_541, ar_542, ar_543, ar_544, ar_545, ar_546, ar_547, ar_548, ar_549, ar_550, ar_551, ar_552, ar_553, ar_554, ar_555, ar_556, ar_557, ar_558, ex_eq, ex_ite, pm_bk_r, pm_bk_t, ol_nil, ol_one, true_and, and_true, false_and, and_false, reduceIte, Nat.reduceEqDiff, up_at, Nat.add_left_cancel_iff, a26, e110, n110, h.2.1, sm_s, hadv, h29]
  · rw [if_neg n110]
    by_cases n43' : nx T p = 43
    · rw [if_pos n43']
      have hlt := nx_lt (T := T) (p := p) (by omega)
      have hX := c42E (d := d) (k := k) (o := o) hT (ch := ch) (p + 1) K W _ hA (by omega) (by omega)
      have hbad : ∀ J, m_bad T 0 J → FN (uA I (p + 1)) J → (∀ q, (pm_C (d + 6) 42 [.ref 538, .int (bI ch)] (Wm (uA I (p + 1)) k o) q ↔ q = (.inl none, Wm J k o))) → ∃ J, m_bad T 1 J ∧ FN I J ∧ ∀ q, (pm_C (d + 7) 43 [.ref 538, .int (bI ch)] (Wm I k o) q ↔ q = (.inl none, Wm J k o)) := by
        intro J b1 b2 b3
        obtain ⟨J', f1, f2, f3⟩ := b1.e (d := d + 5) (k := k) (o := o) h240 (by omega) (x := 15) (y := 0)
        refine ⟨J', f1, (fA.trans b2).trans f2, fun q => ?_⟩
        rw [n43]
        simp (decide := true) only [q43_0, q43_1, q43_4, q43_5, q43_6, q43_8, q43_31, q43_32, q43_34, q43_37, q43_38, q43_39, q43_42, q43_43, q43_44, q43_47, q43_48, q43_49, q43_52, q43_53, q43_55, q43_56, q43_59, q43_130, W_1, W_I, W_mk, W_tk, pm_rv, rf_0_0, rf_0_1, rf_0_2, rf_0_3, rf_0_4, rf_0_7, rf_0_8, rf_1_0, rf_1_2, rf_3_0, rf_3_1, rf_3_6, rf_3_7, rf_3_8, rf_9_0, rf_9_1, rf_10_0, rf_10_1, rf_10_6, rf_10_7, rf_10_8, rf_17_0, rf_17_1, rf_538_2, rf_538_6, rf_538_7, rf_538_9, rf_538_11, rf_538_12, rf_538_18, rf_538_19, rf_538_22, rf_538_23, rf_538_25, rf_538_27, rf_538_28, rf_538_30, rf_538_31, rf_538_32, rf_538_33, rf_538_34, rf_538_35, rf_538_36, ob_0, ob_1, ob_3, ob_9, ob_10, ob_17, ob_538, ar_2, ar_4, ar_5, ar_6, ar_7, ar_8, ar_11, ar_12, ar_13, ar_14, ar_15, ar_16, ar_116, ar_117, ar_539, ar_540, ar_541, ar_542, ar_543, ar_544, ar_545, ar_546, ar_547, ar_548, ar_549, ar_550, ar_551, ar_552, ar_553, ar_554, ar_555, ar_556, ar_557, ar_558, ex_eq, ex_ite, pm_bk_r, pm_bk_t, ol_nil, ol_one, true_and, and_true, false_and, and_false, reduceIte, Nat.reduceEqDiff, up_at, Nat.add_left_cancel_iff, a26, e110, n110, e43, n43', h.2.1, sm_s, hadv, b3, f3]
      cases er : e_E T ch (p + 1) with
      | none =>
        refine ⟨fun _ => ?_, fun x hx => (by cases hx)⟩
        obtain ⟨J, b1, b2, b3⟩ := hX.1 er
        exact hbad J b1 b2 b3
      | some y =>
        refine ⟨fun hx => (by cases hx), fun x hx => ?_⟩
        injection hx with hx
        subst hx
        rcases hX.2 y er with ⟨J, W', g1, g2, g3⟩ | ⟨g1, J, b1, b2, b3⟩
        · left
          have hg := e_expr_ok _ _ _ _ _ er
          have hlen : (K ++ y.2).length < 400 := by have := hg.2.2.1; have := hg.2.1; rw [List.length_append]; omega
          have hE := g1.e (x := nI 15) (y := nI 0)
          rw [hcKx, cK_len] at hE
          have h29 : ∀ q, (pm_C (d + 6) 29 [.ref 538, .int 15, .int 0] (Wm J k o) q ↔ q = (.inl none, Wm (uE J (K ++ y.2).length (nI 15) (nI 0)) k o)) := fun q => by
            have := c29 (d := d + 5) (k := k) (o := o) (q := q) (x := nI 15) (y := nI 0) g1 (by rw [cK_len]; omega)
            rw [cK_len] at this
            exact this
          refine ⟨_, W', by rw [← List.append_assoc]; exact hE, (fA.trans g2).trans fE, fun q => ?_⟩
          show pm_C (d + 7) 43 _ _ q ↔ _
          rw [n43]
          simp (decide := true) only [q43_0, q43_1, q43_4, q43_5, q43_6, q43_8, q43_31, q43_32, q43_34, q43_37, q43_38, q43_39, q43_42, q43_43, q43_44, q43_47, q43_48, q43_49, q43_52, q43_53, q43_55, q43_56, q43_59, q43_130, W_1, W_I, W_mk, W_tk, pm_rv, rf_0_0, rf_0_1, rf_0_2, rf_0_3, rf_0_4, rf_0_7, rf_0_8, rf_1_0, rf_1_2, rf_3_0, rf_3_1, rf_3_6, rf_3_7, rf_3_8, rf_9_0, rf_9_1, rf_10_0, rf_10_1, rf_10_6, rf_10_7, rf_10_8, rf_17_0, rf_17_1, rf_538_2, rf_538_6, rf_538_7, rf_538_9, rf_538_11, rf_538_12, rf_538_18, rf_538_19, rf_538_22, rf_538_23, rf_538_25, rf_538_27, rf_538_28, rf_538_30, rf_538_31, rf_538_32, rf_538_33, rf_538_34, rf_538_35, rf_538_36, ob_0, ob_1, ob_3, ob_9, ob_10, ob_17, ob_538, ar_2, ar_4, ar_5, ar_6, ar_7, ar_8, ar_11, ar_12, ar_13, ar_14, ar_15, ar_16, ar_116, ar_117, ar_539, ar_540, ar_541, ar_542, ar_543, ar_544, ar_545, ar_546, ar_547, ar_548, ar_549, ar_550, ar_551, ar_552, ar_553, ar_554, ar_555, ar_556, ar_557, ar_558, ex_eq, ex_ite, pm_bk_r, pm_bk_t, ol_nil, ol_one, true_and, and_true, false_and, and_false, reduceIte, Nat.reduceEqDiff, up_at, Nat.add_left_cancel_iff, a26, e110, n110, e43, n43', h.2.1, sm_s, hadv, g3, h29]
        · exact Or.inr ⟨g1, hbad J b1 b2 b3⟩
    · rw [if_neg n43']
      have hopen : ∀ q, (pm_C (d + 7) 43 [.ref 538, .int (bI ch)] (Wm I k o) q ↔ pm_R (d + 6) 43 66 [some (.ref 538), some (.int (bI ch)), some (.int (nI (nx T p))), none] [.int (ixI (e_ix e_W (nx T p)))] (Wm I k o) q) := by
        intro q
        rw [n43]
        simp (decide := true) only [q43_0, q43_1, q43_4, q43_5, q43_6, q43_8, q43_31, q43_32, q43_34, q43_62, q43_63, W_1, W_I, W_mk, W_tk, pm_rv, rf_0_0, rf_0_1, rf_0_2, rf_0_3, rf_0_4, rf_0_7, rf_0_8, rf_1_0, rf_1_2, rf_3_0, rf_3_1, rf_3_6, rf_3_7, rf_3_8, rf_9_0, rf_9_1, rf_10_0, rf_10_1, rf_10_6, rf_10_7, rf_10_8, rf_17_0, rf_17_1, rf_538_2, rf_538_6, rf_538_7, rf_538_9, rf_538_11, rf_538_12, rf_538_18, rf_538_19, rf_538_22, rf_538_23, rf_538_25, rf_538_27, rf_538_28, rf_538_30, rf_538_31, rf_538_32, rf_538_33, rf_538_34, rf_538_35, rf_538_36, ob_0, ob_1, ob_3, ob_9, ob_10, ob_17, ob_538, ar_2, ar_4, ar_5, ar_6, ar_7, ar_8, ar_11, ar_12, ar_13, ar_14, ar_15, ar_16, ar_116, ar_117, ar_539, ar_540, ar_541, ar_542, ar_543, ar_544, ar_545, ar_546, ar_547, ar_548, ar_549, ar_550, ar_551, ar_552, ar_553, ar_554, ar_555, ar_556, ar_557, ar_558, ex_eq, ex_ite, pm_bk_r, pm_bk_t, ol_nil, ol_one, true_and, and_true, false_and, and_false, reduceIte, Nat.reduceEqDiff, up_at, Nat.add_left_cancel_iff, a26, e110, n110, e43, n43', a33]
      cases ew : e_ix e_W (nx T p) with
      | some i =>
        have hi : i < 4 := (e_ix_lt ew).1
        have e0 : (nI i < 0) ↔ False := iff_false_intro (sm_neg (by omega))
        rw [ew] at a33
        have hlt := nx_lt (T := T) (p := p) (fun e => by rw [e] at ew; cases ew)
        obtain ⟨J1, c1, c2, c3⟩ := c28 (d := d + 3) (k := k) (o := o) (c := 61) hT hA (by omega) (by omega)
        have c3' : ∀ q, (pm_C (d + 6) 28 [.ref 538, .int 61] (Wm (uA I (p + 1)) k o) q ↔ q = (.inl none, Wm J1 k o)) := c3
        have hbad : ∀ J, m_bad T 0 J → FN J1 J → (∀ q, (pm_C (d + 6) 42 [.ref 538, .int (bI ch)] (Wm J1 k o) q ↔ q = (.inl none, Wm J k o))) → ∃ J, m_bad T 1 J ∧ FN I J ∧ ∀ q, (pm_C (d + 7) 43 [.ref 538, .int (bI ch)] (Wm I k o) q ↔ q = (.inl none, Wm J k o)) := by
          intro J b1 b2 b3
          obtain ⟨J', f1, f2, f3⟩ := b1.e (d := d + 5) (k := k) (o := o) h240 (by omega) (x := 14) (y := nI i)
          refine ⟨J', f1, ((fA.trans c2).trans b2).trans f2, fun q => ?_⟩
          rw [hopen, ew]
          simp (decide := true) only [q43_66, q43_69, q43_70, q43_71, q43_74, q43_75, q43_76, q43_79, q43_80, q43_82, q43_85, q43_86, q43_87, q43_90, q43_91, q43_93, q43_94, q43_97, q43_100, q43_130, W_1, W_I, W_mk, W_tk, pm_rv, rf_0_0, rf_0_1, rf_0_2, rf_0_3, rf_0_4, rf_0_7, rf_0_8, rf_1_0, rf_1_2, rf_3_0, rf_3_1, rf_3_6, rf_3_7, rf_3_8, rf_9_0, rf_9_1, rf_10_0, rf_10_1, rf_10_6, rf_10_7, rf_10_8, rf_17_0, rf_17_1, rf_538_2, rf_538_6, rf_538_7, rf_538_9, rf_538_11, rf_538_12, rf_538_18, rf_538_19, rf_538_22, rf_538_23, rf_538_25, rf_538_27, rf_538_28, rf_538_30, rf_538_31, rf_538_32, rf_538_33, rf_538_34, rf_538_35, rf_538_36, ob_0, ob_1, ob_3, ob_9, ob_10, ob_17, ob_538, ar_2, ar_4, ar_5, ar_6, ar_7, ar_8, ar_11, ar_12, ar_13, ar_14, ar_15, ar_16, ar_116, ar_117, ar_539, ar_540, ar_541, ar_542, ar_543, ar_544, ar_545, ar_546, ar_547, ar_548, ar_549, ar_550, ar_551, ar_552, ar_553, ar_554, ar_555, ar_556, ar_557, ar_558, ex_eq, ex_ite, pm_bk_r, pm_bk_t, ol_nil, ol_one, true_and, and_true, false_and, and_false, reduceIte, Nat.reduceEqDiff, up_at, Nat.add_left_cancel_iff, ixI, e0, h.2.1, sm_s, hadv, c3', b3, a33, f3]
        simp only []
        by_cases n61 : nx T (p + 1) = 61
        · rw [if_pos n61]
          have hlt2 := nx_lt (T := T) (p := p + 1) (by omega)
          rw [if_pos n61, show (false || !decide (nx T (p + 1) = 61)) = false by simp [n61]] at c1
          have hX := c42E (d := d) (k := k) (o := o) hT (ch := ch) (p + 2) K W J1 c1 (by omega) (by omega)
          cases er : e_E T ch (p + 2) with
          | none =>
            refine ⟨fun _ => ?_, fun x hx => (by cases hx)⟩
            obtain ⟨J, b1, b2, b3⟩ := hX.1 er
            exact hbad J b1 b2 b3
          | some y =>
            refine ⟨fun hx => (by cases hx), fun x hx => ?_⟩
            injection hx with hx
            subst hx
            rcases hX.2 y er with ⟨J, W', g1, g2, g3⟩ | ⟨g1, J, b1, b2, b3⟩
            · left
              have hg := e_expr_ok _ _ _ _ _ er
              have hlen : (K ++ y.2).length < 400 := by have := hg.2.2.1; have := hg.2.1; rw [List.length_append]; omega
              have hE := g1.e (x := nI 14) (y := nI i)
              rw [hcKx, cK_len] at hE
              have h29 : ∀ q, (pm_C (d + 6) 29 [.ref 538, .int 14, .int (nI i)] (Wm J k o) q ↔ q = (.inl none, Wm (uE J (K ++ y.2).length (nI 14) (nI i)) k o)) := fun q => by
                have := c29 (d := d + 5) (k := k) (o := o) (q := q) (x := nI 14) (y := nI i) g1 (by rw [cK_len]; omega)
                rw [cK_len] at this
                exact this
              refine ⟨_, W', by rw [← List.append_assoc]; exact hE, ((fA.trans c2).trans g2).trans fE, fun q => ?_⟩
              show pm_C (d + 7) 43 _ _ q ↔ _
              have g3' : ∀ q, (pm_C (d + 6) 42 [.ref 538, .int (bI ch)] (Wm J1 k o) q ↔ q = (.inl none, Wm J k o)) := g3
              rw [hopen, ew]
              simp (decide := true) only [q43_66, q43_69, q43_70, q43_71, q43_74, q43_75, q43_76, q43_79, q43_80, q43_82, q43_85, q43_86, q43_87, q43_90, q43_91, q43_93, q43_94, q43_97, q43_100, q43_130, W_1, W_I, W_mk, W_tk, pm_rv, rf_0_0, rf_0_1, rf_0_2, rf_0_3, rf_0_4, rf_0_7, rf_0_8, rf_1_0, rf_1_2, rf_3_0, rf_3_1, rf_3_6, rf_3_7, rf_3_8, rf_9_0, rf_9_1, rf_10_0, rf_10_1, rf_10_6, rf_10_7, rf_10_8, rf_17_0, rf_17_1, rf_538_2, rf_538_6, rf_538_7, rf_538_9, rf_538_11, rf_538_12, rf_538_18, rf_538_19, rf_538_22, rf_538_23, rf_538_25, rf_538_27, rf_538_28, rf_538_30, rf_538_31, rf_538_32, rf_538_33, rf_538_34, rf_538_35, rf_538_36, ob_0, ob_1, ob_3, ob_9, ob_10, ob_17, ob_538, ar_2, ar_4, ar_5, ar_6, ar_7, ar_8, ar_11, ar_12, ar_13, ar_14, ar_15, ar_16, ar_116, ar_117, ar_539, ar_540, ar_541, ar_542, ar_543, ar_544, ar_545, ar_546, ar_547, ar_548, ar_549, ar_550, ar_551, ar_552, ar_553, ar_554, ar_555, ar_556, ar_557, ar_558, ex_eq, ex_ite, pm_bk_r, pm_bk_t, ol_nil, ol_one, true_and, and_true, false_and, and_false, reduceIte, Nat.reduceEqDiff, up_at, Nat.add_left_cancel_iff, ixI, e0, h.2.1, sm_s, hadv, c3', g3', a33, h29]
            · exact Or.inr ⟨g1, hbad J b1 b2 b3⟩
        · rw [if_neg n61]
          refine ⟨fun _ => ?_, fun x hx => (by cases hx)⟩
          rw [if_neg n61, show (false || !decide (nx T (p + 1) = 61)) = true by simp [n61]] at c1
          obtain ⟨J, g1, g2, g3⟩ := c42x (d := d) (k := k) (o := o) (ch := ch) c1 (by rw [cK_len]; omega)
          exact hbad J ⟨p + 1, _, _, g1, by omega, by rw [cK_len]; omega⟩ g2 g3
      | none =>
        simp only []
        have hopen5 : ∀ q, (pm_C (d + 7) 43 [.ref 538, .int (bI ch)] (Wm I k o) q ↔ pm_R (d + 6) 43 103 [some (.ref 538), some (.int (bI ch)), some (.int (nI (nx T p))), none] [] (Wm I k o) q) := by
          intro q
          rw [hopen, ew]
          simp (decide := true) only [q43_66, ex_eq, ex_ite, pm_bk_r, pm_bk_t, ol_nil, ol_one, true_and, and_true, false_and, and_false, reduceIte, Nat.reduceEqDiff, up_at, Nat.add_left_cancel_iff, ixI]
        obtain ⟨J1, v, c1, c2, c3, c4⟩ := c32 (d := d + 3) (k := k) (o := o) hT h (by omega) (ch := ch)
        obtain ⟨P1, hP1⟩ : ∃ P1, P1 = (if e_zone true (nx T p) = none then p else p + 1) := ⟨_, rfl⟩
        rw [← hP1] at c1
        have hP1b : P1 ≤ T.length ∧ p ≤ P1 := by
          rw [hP1]
          split
          · omega
          · rename_i e
            cases e2 : e_zone true (nx T p) with
            | none => exact absurd e2 e
            | some y => have := nx_lt (e_zone_lt e2).2.2; omega
        obtain ⟨J2, f1, f2, f3⟩ := c28 (d := d + 3) (k := k) (o := o) (c := 62) hT c1 (by omega) (by omega)
        have f3' : ∀ q, (pm_C (d + 6) 28 [.ref 538, .int 62] (Wm J1 k o) q ↔ q = (.inl none, Wm J2 k o)) := f3
        obtain ⟨P2, hP2⟩ : ∃ P2, P2 = (if nx T P1 = 62 then P1 + 1 else P1) := ⟨_, rfl⟩
        rw [← hP2] at f1
        have hP2b : P2 ≤ T.length ∧ P1 ≤ P2 := by
          rw [hP2]
          split
          · have := nx_lt (T := T) (p := P1) (by omega)
            omega
          · omega
        obtain ⟨J3, g1, g2, g3⟩ := c31 (d := d + 4) (k := k) (o := o) hT f1 (by omega)
        obtain ⟨P3, hP3⟩ : ∃ P3, P3 = (if e_ix e_Z (nx T P2) = none then P2 else P2 + 1) := ⟨_, rfl⟩
        rw [← hP3] at g1
        have hP3b : P3 ≤ T.length ∧ P2 ≤ P3 := by
          rw [hP3]
          split
          · omega
          · rename_i e
            have := nx_lt (T := T) (p := P2) (fun e0 => e (by rw [e0]; rfl))
            omega
        obtain ⟨V, hV⟩ : ∃ V, V = 8 * v + ixI (e_ix e_Z (nx T P2)) := ⟨_, rfl⟩
        have hE := g1.e (x := 13) (y := V)
        have h29 : ∀ q, (pm_C (d + 6) 29 [.ref 538, .int 13, .int V] (Wm J3 k o) q ↔ q = (.inl none, Wm (uE J3 K.length 13 V) k o)) := fun q => by
          have := c29 (d := d + 5) (k := k) (o := o) (q := q) (x := 13) (y := V) g1 (by rw [cK_len]; omega)
          rw [cK_len] at this
          exact this
        have hgo : ∀ q, (pm_C (d + 7) 43 [.ref 538, .int (bI ch)] (Wm I k o) q ↔ q = (.inl none, Wm (uE J3 K.length 13 V) k o)) := by
          intro q
          rw [hopen5]
          simp (decide := true) only [q43_103, q43_104, q43_105, q43_108, q43_109, q43_110, q43_112, q43_115, q43_116, q43_118, q43_120, q43_121, q43_122, q43_123, q43_126, q43_127, q43_130, W_1, W_I, W_mk, W_tk, pm_rv, rf_0_0, rf_0_1, rf_0_2, rf_0_3, rf_0_4, rf_0_7, rf_0_8, rf_1_0, rf_1_2, rf_3_0, rf_3_1, rf_3_6, rf_3_7, rf_3_8, rf_9_0, rf_9_1, rf_10_0, rf_10_1, rf_10_6, rf_10_7, rf_10_8, rf_17_0, rf_17_1, rf_538_2, rf_538_6, rf_538_7, rf_538_9, rf_538_11, rf_538_12, rf_538_18, rf_538_19, rf_538_22, rf_538_23, rf_538_25, rf_538_27, rf_538_28, rf_538_30, rf_538_31, rf_538_32, rf_538_33, rf_538_34, rf_538_35, rf_538_36, ob_0, ob_1, ob_3, ob_9, ob_10, ob_17, ob_538, ar_2, ar_4, ar_5, ar_6, ar_7, ar_8, ar_11, ar_12, ar_13, ar_14, ar_15, ar_16, ar_116, ar_117, ar_539, ar_540, ar_541, ar_542, ar_543, ar_544, ar_545, ar_546, ar_547, ar_548, ar_549, ar_550, ar_551, ar_552, ar_553, ar_554, ar_555, ar_556, ar_557, ar_558, ex_eq, ex_ite, pm_bk_r, pm_bk_t, ol_nil, ol_one, true_and, and_true, false_and, and_false, reduceIte, Nat.reduceEqDiff, up_at, Nat.add_left_cancel_iff, c4, f3', g3, hV.symm, h29]
        rw [cK_len] at hE
        have FF : FN I (uE J3 K.length 13 V) := ((c2.trans f2).trans g2).trans fE
        have hbad : (false || (e_zone ch (nx T p)).isNone || !decide (nx T P1 = 62) || (e_ix e_Z (nx T P2)).isNone) = true → ∃ J, m_bad T 1 J ∧ FN I J ∧ ∀ q, (pm_C (d + 7) 43 [.ref 538, .int (bI ch)] (Wm I k o) q ↔ q = (.inl none, Wm J k o)) := by
          intro hw
          rw [hw] at hE
          exact ⟨_, ⟨P3, _, W, hE, by omega, by rw [List.length_append, cK_len]; show K.length + 1 ≤ _; omega⟩, FF, hgo⟩
        cases ez : e_zone ch (nx T p) with
        | none =>
          refine ⟨fun _ => hbad (by rw [ez]; simp), fun x hx => (by cases hx)⟩
        | some z =>
          simp only []
          have ez1 : ¬ e_zone true (nx T p) = none := by
            intro e
            unfold e_zone at e ez
            split at e
            · cases e
            · rename_i q
              rw [if_neg (fun q2 => q ⟨rfl, q2.2⟩), e] at ez
              cases ez
          rw [if_neg ez1] at hP1
          subst hP1
          have hv := c3 z ez
          subst hv
          by_cases n62 : nx T (p + 1) = 62
          · rw [if_pos n62]
            rw [if_pos n62] at hP2
            subst hP2
            have ezf : e_zone false (nx T (p + 2)) = e_ix e_Z (nx T (p + 2)) := if_neg (fun q => absurd q.1 (by decide))
            rw [ezf]
            cases ey : e_ix e_Z (nx T (p + 2)) with
            | none =>
              refine ⟨fun _ => hbad (by rw [show p + 1 + 1 = p + 2 from rfl, ey]; simp), fun x hx => (by cases hx)⟩
            | some y =>
              refine ⟨fun hx => (by cases hx), fun x hx => Or.inl ?_⟩
              injection hx with hx
              subst hx
              rw [show p + 1 + 1 = p + 2 from rfl, ey] at hP3 hV
              rw [if_neg (by simp)] at hP3
              subst hP3
              have eV : V = nI (8 * z + y) := by
                rw [hV]
                show 8 * nI z + nI y = _
                rw [show (8 : Int32) = nI 8 from rfl, sm_mul, sm_add]
              have hw : (false || (e_zone ch (nx T p)).isNone || !decide (nx T (p + 1) = 62) || (e_ix e_Z (nx T (p + 1 + 1))).isNone) = false := by
                rw [show p + 1 + 1 = p + 2 from rfl, ey, ez]
                simp [n62]
              rw [hw, eV, show (13 : Int32) = nI 13 from rfl, hcKx] at hE
              rw [eV] at hgo FF
              exact ⟨_, W, hE, FF, hgo⟩
          · rw [if_neg n62]
            refine ⟨fun _ => hbad (by simp [n62]), fun x hx => (by cases hx)⟩
end MEF
