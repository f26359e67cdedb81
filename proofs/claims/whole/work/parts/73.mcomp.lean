/-! THE REFERENCE: compile -/
section MCN
variable {d k : Nat} {o : Int64} {T : List Nat}
/-- the answer to a wrong text -/
def m_fail (t : Int32) (I : Nat → Nat → Int32) (J : Nat → Nat → Int32) : Prop := J 538 0 = t ∧ (∃ W, WM W J) ∧ FZ I J
theorem FZ.trans {I J K : Nat → Nat → Int32} (h1 : FZ I J) (h2 : FZ J K) : FZ I K := fun x j a b => (h2 x j a b).trans (h1 x j a b)
theorem m_fail.tr {t : Int32} {I J K : Nat → Nat → Int32} (h : m_fail t J K) (hf : FZ I J) : m_fail t I K := ⟨h.1, h.2.1, hf.trans h.2.2⟩
theorem c45_d (hT : TX T) {c : Nat} (hc : c < 50) {I : Nat → Nat → Int32} (h : m_bad T c I) {y1 y2 : Option Value} : ∃ J, m_fail 1 I J ∧ ∀ q, (pm_R (d + 8) 45 163 [some (.ref 538), y1, y2] [] (Wm I k o) q ↔ q = (.inl (some (.int 0)), Wm J k o)) := by
  have h240 := hT.1
  obtain ⟨J3, c1, c2, c3⟩ := h.e (d := d + 7) (k := k) (o := o) h240 (by omega) (x := 17) (y := 0)
  obtain ⟨J4, e1, e2, e3⟩ := c1.need (d := d + 5) (k := k) (o := o) hT (x := 59) (by omega) (by omega)
  have e3' : ∀ q, (pm_C (d + 8) 28 [.ref 538, .int 59] (Wm J3 k o) q ↔ q = (.inl none, Wm J4 k o)) := e3
  obtain ⟨p, K, W, h1, -⟩ := e1
  have h44 : J4 538 4 = 1 := h1.2.2.1
  refine ⟨pm_up J4 538 0 1, ⟨up_eq, ⟨W, h1.2.2.2.2.cg (up_ne (by omega)) (up_row (by omega))⟩, ?_⟩, fun q => ?_⟩
  · intro x j hx hy
    rw [up_ne (by omega), e2 _ _ (by omega) (by omega) (by omega) (by omega), c2 _ _ (by omega) (by omega) (by omega) (by omega)]
  · simp (decide := true) only [q45_163, q45_164, q45_166, q45_167, q45_170, q45_171, q45_173, q45_176, q45_177, q45_178, q45_181, q45_184, q45_185, q45_188, q45_189, q45_192, q45_195, q45_196, q45_199, q45_200, q45_203, q45_206, q45_209, q45_210, q45_213, q45_214, q45_217, q45_218, q45_221, q45_224, q45_225, q45_234, W_1, W_I, W_mk, W_tk, pm_rv, rf_0_0, rf_0_1, rf_0_2, rf_0_3, rf_0_4, rf_0_7, rf_0_8, rf_1_0, rf_1_2, rf_3_0, rf_3_1, rf_3_6, rf_3_7, rf_3_8, rf_9_0, rf_9_1, rf_10_0, rf_10_1, rf_10_6, rf_10_7, rf_10_8, rf_17_0, rf_17_1, rf_538_2, rf_538_6, rf_538_7, rf_538_9, rf_538_11, rf_538_12, rf_538_18, rf_538_19, rf_538_22, rf_538_23, rf_538_25, rf_538_27, rf_538_28, rf_538_30, rf_538_31, rf_538_32, rf_538_33, rf_538_34, rf_538_35, rf_538_36, ob_0, ob_1, ob_3, ob_9, ob_10, ob_17, ob_538, ar_2, ar_4, ar_5, ar_6, ar_7, ar_8, ar_11, ar_12, ar_13, ar_14, ar_15, ar_16, ar_116, ar_117, ar_539, ar_540, ar_541, ar_542, ar_543, ar_544, ar_545, ar_546, ar_547, ar_548, ar_549, ar_550, ar_551, ar_552, ar_553, ar_554, ar_555, ar_556, ar_557, ar_558, ex_eq, ex_ite, pm_bk_r, pm_bk_t, ol_nil, ol_one, true_and, and_true, false_and, and_false, reduceIte, Nat.reduceEqDiff, up_at, Nat.add_left_cancel_iff, c3, e3', h44]
theorem up13 {p : Nat} {wr : Bool} {K : List (Int32 × Int32)} {W : List Nat} {I : Nat → Nat → Int32} (h1 : MT T p wr K W I) (v : Int32) : MT T p wr K W (pm_up I 538 13 v) := by
  refine ⟨⟨?_, fun i hi => ?_⟩, ?_, ?_, h1.2.2.2.1.cg ?_ ?_ ?_, h1.2.2.2.2.cg ?_ ?_⟩
  · rw [up_ne (by omega)]; exact h1.1.1
  · rw [up_ne (by omega)]; exact h1.1.2 i hi
  · rw [up_ne (by omega)]; exact h1.2.1
  · rw [up_ne (by omega)]; exact h1.2.2.1
  · rw [up_ne (by omega)]
  · rw [up_row (by omega)]
  · rw [up_row (by omega)]
  · rw [up_ne (by omega)]
  · rw [up_row (by omega)]
theorem c45_c (hT : TX T) {c : Nat} (hc : c < 50) {I : Nat → Nat → Int32} (h : m_bad T c I) {y1 y2 : Option Value} : ∃ J, m_fail 1 I J ∧ ∀ q, (pm_R (d + 8) 45 143 [some (.ref 538), y1, y2] [] (Wm I k o) q ↔ q = (.inl (some (.int 0)), Wm J k o)) := by
  obtain ⟨p, K, W, h1, h2, h3⟩ := h
  have hu := up13 h1 (I 538 5)
  obtain ⟨J, a1, a2⟩ := c45_d (d := d) (k := k) (o := o) (y1 := y1) (y2 := y2) hT hc ⟨p, K, W, hu, h2, h3⟩
  have h4 : I 538 4 = 1 := h1.2.2.1
  refine ⟨J, a1.tr (fun x j hx hy => up_ne (by omega)), fun q => ?_⟩
  simp (decide := true) only [q45_143, q45_144, q45_145, q45_148, q45_151, q45_152, q45_155, W_1, W_I, W_mk, W_tk, pm_rv, rf_0_0, rf_0_1, rf_0_2, rf_0_3, rf_0_4, rf_0_7, rf_0_8, rf_1_0, rf_1_2, rf_3_0, rf_3_1, rf_3_6, rf_3_7, rf_3_8, rf_9_0, rf_9_1, rf_10_0, rf_10_1, rf_10_6, rf_10_7, rf_10_8, rf_17_0, rf_17_1, rf_538_2, rf_538_6, rf_538_7, rf_538_9, rf_538_11, rf_538_12, rf_538_18, rf_538_19, rf_538_22, rf_538_23, rf_538_25, rf_538_27, rf_538_28, rf_538_30, rf_538_31, rf_538_32, rf_538_33, rf_538_34, rf_538_35, rf_538_36, ob_0, ob_1, ob_3, ob_9, ob_10, ob_17, ob_538, ar_2, ar_4, ar_5, ar_6, ar_7, ar_8, ar_11, ar_12, ar_13, ar_14, ar_15, ar_16, ar_116, ar_117, ar_539, ar_540, ar_541, ar_542, ar_543, ar_544, ar_545, ar_546, ar_547, ar_548, ar_549, ar_550, ar_551, ar_552, ar_553, ar_554, ar_555, ar_556, ar_557, ar_558, ex_eq, ex_ite, pm_bk_r, pm_bk_t, ol_nil, ol_one, true_and, and_true, false_and, and_false, reduceIte, Nat.reduceEqDiff, up_at, Nat.add_left_cancel_iff, h4, a2]
theorem c45_e (hT : TX T) {c : Nat} (hc : c < 50) {I : Nat → Nat → Int32} (h : m_bad T c I) {y1 y2 : Option Value} : ∃ J, m_fail 1 I J ∧ ∀ q, (pm_R (d + 8) 45 137 [some (.ref 538), y1, y2] [] (Wm I k o) q ↔ q = (.inl (some (.int 0)), Wm J k o)) := by
  obtain ⟨J1, a1, a2, a3⟩ := h.need (d := d + 5) (k := k) (o := o) hT (x := 69) (by omega) (by omega)
  have a3' : ∀ q, (pm_C (d + 8) 28 [.ref 538, .int 69] (Wm I k o) q ↔ q = (.inl none, Wm J1 k o)) := a3
  obtain ⟨J, b1, b2⟩ := c45_c (d := d) (k := k) (o := o) (y1 := y1) (y2 := y2) hT hc a1
  refine ⟨J, b1.tr a2.fo.fz, fun q => ?_⟩
  simp (decide := true) only [q45_137, q45_138, q45_140, W_1, W_I, W_mk, W_tk, pm_rv, rf_0_0, rf_0_1, rf_0_2, rf_0_3, rf_0_4, rf_0_7, rf_0_8, rf_1_0, rf_1_2, rf_3_0, rf_3_1, rf_3_6, rf_3_7, rf_3_8, rf_9_0, rf_9_1, rf_10_0, rf_10_1, rf_10_6, rf_10_7, rf_10_8, rf_17_0, rf_17_1, rf_538_2, rf_538_6, rf_538_7, rf_538_9, rf_538_11, rf_538_12, rf_538_18, rf_538_19, rf_538_22, rf_538_23, rf_538_25, rf_538_27, rf_538_28, rf_538_30, rf_538_31, rf_538_32, rf_538_33, rf_538_34, rf_538_35, rf_538_36, ob_0, ob_1, ob_3, ob_9, ob_10, ob_17, ob_538, ar_2, ar_4, ar_5, ar_6, ar_7, ar_8, ar_11, ar_12, ar_13, ar_14, ar_15, ar_16, ar_116, ar_117, ar_539, ar_540, ar_541, ar_542, ar_543, ar_544, ar_545, ar_546, ar_547, ar_548, ar_549, ar_550, ar_551, ar_552, ar_553, ar_554, ar_555, ar_556, ar_557, ar_558, ex_eq, ex_ite, pm_bk_r, pm_bk_t, ol_nil, ol_one, true_and, and_true, false_and, and_false, reduceIte, Nat.reduceEqDiff, up_at, Nat.add_left_cancel_iff, a3', b2]
/-- a game taken -/
def m_done (G : Gm) (I J : Nat → Nat → Int32) : Prop := GM G J ∧ (J 538 0 = 0 ∧ J 538 1 = 0 ∧ J 538 14 = 1 ∧ J 538 24 = 0 ∧ J 538 26 = 0 ∧ J 538 37 = -1) ∧ (∃ W, WM W J) ∧ FY I J
theorem m_done.tr {G : Gm} {I J K : Nat → Nat → Int32} (h : m_done G J K) (hf : FZ I J) : m_done G I K := ⟨h.1, h.2.1, h.2.2.1, fun x j a b => (h.2.2.2 x j a b).trans (hf x j (by omega) (by omega))⟩
/-- what compile comes to -/
def m_comp (r : Option Gm) (I : Nat → Nat → Int32) (call : pm_Res → Prop) (k : Nat) (o : Int64) : Prop :=
  (r = none → ∃ J, m_fail 1 I J ∧ ∀ q, (call q ↔ q = (.inl (some (.int 0)), Wm J k o))) ∧
  (∀ G, r = some G → (160 < G.1.length → ∃ J, m_fail 2 I J ∧ ∀ q, (call q ↔ q = (.inl (some (.int 0)), Wm J k o))) ∧ (G.1.length ≤ 160 → ∃ J, m_done G I J ∧ ∀ q, (call q ↔ q = (.inl (some (.int (nI G.1.length))), Wm J k o))))
theorem m_comp.of {r : Option Gm} {I J : Nat → Nat → Int32} {c1 c2 : pm_Res → Prop} (h : m_comp r J c2 k o) (hf : FZ I J) (hq : ∀ q, c1 q ↔ c2 q) : m_comp r I c1 k o := by
  refine ⟨fun hr => ?_, fun G hG => ⟨fun hl => ?_, fun hl => ?_⟩⟩
  · obtain ⟨K, a1, a2⟩ := h.1 hr
    exact ⟨K, a1.tr hf, fun q => (hq q).trans (a2 q)⟩
  · obtain ⟨K, a1, a2⟩ := (h.2 G hG).1 hl
    exact ⟨K, a1.tr hf, fun q => (hq q).trans (a2 q)⟩
  · obtain ⟨K, a1, a2⟩ := (h.2 G hG).2 hl
    exact ⟨K, a1.tr hf, fun q => (hq q).trans (a2 q)⟩
theorem m_comp.no {I J : Nat → Nat → Int32} {c1 : pm_Res → Prop} (h : m_fail 1 I J) (hq : ∀ q, (c1 q ↔ q = (.inl (some (.int 0)), Wm J k o))) : m_comp none I c1 k o := ⟨fun _ => ⟨J, h, hq⟩, fun G hG => by cases hG⟩
theorem c45_t (hT : TX T) {x : Nat × List (Nat × Nat) × List (Bool × Nat × Nat)} {W : List Nat} {I : Nat → Nat → Int32} (h : MT T x.1 false (cK x.2.1) W I) (hR : RN x.2.2 I) (h8 : x.2.2.length ≤ 8) (hl : x.2.1.length ≤ x.1) (hp : x.1 ≤ T.length) :
    m_comp (e_tail T x) I (fun q => pm_R (d + 8) 45 137 [some (.ref 538), some (.int (nI (nx T 1 - 48))), some (.int (nI (nx T 2 - 48)))] [] (Wm I k o) q) k o := by
  obtain ⟨p, K, R⟩ := x
  have h240 := hT.1
  have h : MT T p false (cK K) W I := h
  have hR : RN R I := hR
  have h8 : R.length ≤ 8 := h8
  have hl : K.length ≤ p := hl
  have hp : p ≤ T.length := hp
  have hcKx : ∀ (L : List (Nat × Nat)) (x y : Nat), cK L ++ [(nI x, nI y)] = cK (L ++ [(x, y)]) := fun L x y => by rw [cK_app]; rfl
  obtain ⟨J1, a1, a2, a3⟩ := c28 (d := d + 5) (k := k) (o := o) (c := 69) hT h (by omega) (by omega)
  have a3' : ∀ q, (pm_C (d + 8) 28 [.ref 538, .int 69] (Wm I k o) q ↔ q = (.inl none, Wm J1 k o)) := a3
  have hopen : ∀ q, (pm_R (d + 8) 45 137 [some (.ref 538), some (.int (nI (nx T 1 - 48))), some (.int (nI (nx T 2 - 48)))] [] (Wm I k o) q ↔ pm_R (d + 8) 45 143 [some (.ref 538), some (.int (nI (nx T 1 - 48))), some (.int (nI (nx T 2 - 48)))] [] (Wm J1 k o) q) := by
    intro q
    simp (decide := true) only [q45_137, q45_138, q45_140, W_1, W_I, W_mk, W_tk, pm_rv, rf_0_0, rf_0_1, rf_0_2, rf_0_3, rf_0_4, rf_0_7, rf_0_8, rf_1_0, rf_1_2, rf_3_0, rf_3_1, rf_3_6, rf_3_7, rf_3_8, rf_9_0, rf_9_1, rf_10_0, rf_10_1, rf_10_6, rf_10_7, rf_10_8, rf_17_0, rf_17_1, rf_538_2, rf_538_6, rf_538_7, rf_538_9, rf_538_11, rf_538_12, rf_538_18, rf_538_19, rf_538_22, rf_538_23, rf_538_25, rf_538_27, rf_538_28, rf_538_30, rf_538_31, rf_538_32, rf_538_33, rf_538_34, rf_538_35, rf_538_36, ob_0, ob_1, ob_3, ob_9, ob_10, ob_17, ob_538, ar_2, ar_4, ar_5, ar_6, ar_7, ar_8, ar_11, ar_12, ar_13, ar_14, ar_15, ar_16, ar_116, ar_117, ar_539, ar_540, ar_541, ar_542, ar_543, ar_544, ar_545, ar_546, ar_547, ar_548, ar_549, ar_550, ar_551, ar_552, ar_553, ar_554, ar_555, ar_556, ar_557, ar_558, ex_eq, ex_ite, pm_bk_r, pm_bk_t, ol_nil, ol_one, true_and, and_true, false_and, and_false, reduceIte, Nat.reduceEqDiff, up_at, Nat.add_left_cancel_iff, a3']
  unfold e_tail
  simp only []
  by_cases n69 : nx T p = 69
  · rw [if_pos n69]
    rw [if_pos n69, show (false || !decide (nx T p = 69)) = false by simp [n69]] at a1
    have hlt := nx_lt (T := T) (p := p) (by omega)
    obtain ⟨J2, hJ2⟩ : ∃ J2, J2 = pm_up J1 538 13 (nI K.length) := ⟨_, rfl⟩
    have A2 : MT T (p + 1) false (cK K) W J2 := by rw [hJ2]; exact up13 a1 _
    have F2 : FZ I J2 := a2.fo.fz.trans (fun x j hx hy => by rw [hJ2, up_ne (by omega)])
    have R2 : RN R J2 := by
      have := hR.fn a2
      rw [hJ2]
      exact ⟨by rw [up_ne (by omega)]; exact this.1, fun r hr => by rw [up_ne (by omega), up_ne (by omega)]; exact this.2 r hr⟩
    have h13 : J2 538 13 = nI K.length := by rw [hJ2, up_eq]
    have hX := c42E (d := d + 2) (k := k) (o := o) hT (ch := false) (p + 1) K W J2 A2 (by omega) (by omega)
    have hopen2 : ∀ q, (pm_R (d + 8) 45 137 [some (.ref 538), some (.int (nI (nx T 1 - 48))), some (.int (nI (nx T 2 - 48)))] [] (Wm I k o) q ↔ ∃ r, pm_C (d + 8) 42 [.ref 538, .int 0] (Wm J2 k o) r ∧ pm_bk (fun v M' => pm_R (d + 8) 45 163 [some (.ref 538), some (.int (nI (nx T 1 - 48))), some (.int (nI (nx T 2 - 48)))] (v.toList ++ []) M' q) (fun k M' => q = (.inr k, M')) r) := by
      intro q
      have h4 : J1 538 4 = 0 := a1.2.2.1
      have h5 : J1 538 5 = nI K.length := by rw [a1.2.2.2.1.1, cK_len]
      rw [hopen, hJ2]
      simp (decide := true) only [q45_143, q45_144, q45_145, q45_148, q45_151, q45_152, q45_155, q45_158, q45_159, q45_160, W_1, W_I, W_mk, W_tk, pm_rv, rf_0_0, rf_0_1, rf_0_2, rf_0_3, rf_0_4, rf_0_7, rf_0_8, rf_1_0, rf_1_2, rf_3_0, rf_3_1, rf_3_6, rf_3_7, rf_3_8, rf_9_0, rf_9_1, rf_10_0, rf_10_1, rf_10_6, rf_10_7, rf_10_8, rf_17_0, rf_17_1, rf_538_2, rf_538_6, rf_538_7, rf_538_9, rf_538_11, rf_538_12, rf_538_18, rf_538_19, rf_538_22, rf_538_23, rf_538_25, rf_538_27, rf_538_28, rf_538_30, rf_538_31, rf_538_32, rf_538_33, rf_538_34, rf_538_35, rf_538_36, ob_0, ob_1, ob_3, ob_9, ob_10, ob_17, ob_538, ar_2, ar_4, ar_5, ar_6, ar_7, ar_8, ar_11, ar_12, ar_13, ar_14, ar_15, ar_16, ar_116, ar_117, ar_539, ar_540, ar_541, ar_542, ar_543, ar_544, ar_545, ar_546, ar_547, ar_548, ar_549, ar_550, ar_551, ar_552, ar_553, ar_554, ar_555, ar_556, ar_557, ar_558, ex_eq, ex_ite, pm_bk_r, pm_bk_t, ol_nil, ol_one, true_and, and_true, false_and, and_false, reduceIte, Nat.reduceEqDiff, up_at, Nat.add_left_cancel_iff, h4, h5]
    have hbad : ∀ J, m_bad T 0 J → FN J2 J → (∀ q, (pm_C (d + 8) 42 [.ref 538, .int 0] (Wm J2 k o) q ↔ q = (.inl none, Wm J k o))) → m_comp none I (fun q => pm_R (d + 8) 45 137 [some (.ref 538), some (.int (nI (nx T 1 - 48))), some (.int (nI (nx T 2 - 48)))] [] (Wm I k o) q) k o := by
      intro J b1 b2 b3
      obtain ⟨J5, f1, f2⟩ := c45_d (d := d) (k := k) (o := o) (y1 := some (.int (nI (nx T 1 - 48)))) (y2 := some (.int (nI (nx T 2 - 48)))) hT (by omega) b1
      refine m_comp.no (f1.tr (F2.trans b2.fo.fz)) (fun q => ?_)
      show pm_R (d + 8) 45 137 _ _ _ q ↔ _
      rw [hopen2]
      simp only [b3, ex_eq, ex_ite, pm_bk_r, pm_bk_t, ol_nil, ol_one, true_and, and_true, false_and, and_false, reduceIte, Nat.reduceEqDiff, up_at, Nat.add_left_cancel_iff, f2]
    cases er : e_E T false (p + 1) with
    | none =>
      obtain ⟨J, b1, b2, b3⟩ := hX.1 er
      exact hbad J b1 b2 b3
    | some y =>
      obtain ⟨p', C⟩ := y
      have hg := e_expr_ok _ _ _ _ _ er
      have hg2 : p' ≤ T.length := hg.2.1
      have hg3 : C.length + (p + 1) ≤ p' := hg.2.2.1
      simp only []
      rcases hX.2 _ er with ⟨J, W', g1, g2, g3⟩ | ⟨g0, J, b1, b2, b3⟩
      · have g1 : MT T p' false (cK (K ++ C)) W' J := g1
        have g3' : ∀ q, (pm_C (d + 8) 42 [.ref 538, .int 0] (Wm J2 k o) q ↔ q = (.inl none, Wm J k o)) := g3
        have hlen : (K ++ C).length = K.length + C.length := List.length_append
        have hE := g1.e (x := nI 17) (y := nI 0)
        rw [hcKx, cK_len] at hE
        have h29 : ∀ q, (pm_C (d + 8) 29 [.ref 538, .int 17, .int 0] (Wm J k o) q ↔ q = (.inl none, Wm (uE J (K ++ C).length (nI 17) (nI 0)) k o)) := fun q => by
          have := c29 (d := d + 7) (k := k) (o := o) (q := q) (x := nI 17) (y := nI 0) g1 (by rw [cK_len]; omega)
          rw [cK_len] at this
          exact this
        obtain ⟨J3, e1, e2, e3⟩ := c28 (d := d + 5) (k := k) (o := o) (c := 59) hT hE (by omega) (by omega)
        have e3' : ∀ q, (pm_C (d + 8) 28 [.ref 538, .int 59] (Wm (uE J (K ++ C).length (nI 17) (nI 0)) k o) q ↔ q = (.inl none, Wm J3 k o)) := e3
        have F3 : FN J2 J3 := (g2.trans fE).trans e2
        have hopen3 : ∀ q, (pm_R (d + 8) 45 137 [some (.ref 538), some (.int (nI (nx T 1 - 48))), some (.int (nI (nx T 2 - 48)))] [] (Wm I k o) q ↔ pm_R (d + 8) 45 176 [some (.ref 538), some (.int (nI (nx T 1 - 48))), some (.int (nI (nx T 2 - 48)))] [] (Wm J3 k o) q) := by
          intro q
          rw [hopen2]
          simp (decide := true) only [g3', ex_eq, ex_ite, pm_bk_r, pm_bk_t, ol_nil, ol_one, true_and, and_true, false_and, and_false, reduceIte, Nat.reduceEqDiff, up_at, Nat.add_left_cancel_iff, q45_163, q45_164, q45_166, q45_167, q45_170, q45_171, q45_173, W_1, W_I, W_mk, W_tk, pm_rv, rf_0_0, rf_0_1, rf_0_2, rf_0_3, rf_0_4, rf_0_7, rf_0_8, rf_1_0, rf_1_2, rf_3_0, rf_3_1, rf_3_6, rf_3_7, rf_3_8, rf_9_0, rf_9_1, rf_10_0, rf_10_1, rf_10_6, rf_10_7, rf_10_8, rf_17_0, rf_17_1, rf_538_2, rf_538_6, rf_538_7, rf_538_9, rf_538_11, rf_538_12, rf_538_18, rf_538_19, rf_538_22, rf_538_23, rf_538_25, rf_538_27, rf_538_28, rf_538_30, rf_538_31, rf_538_32, rf_538_33, rf_538_34, rf_538_35, rf_538_36, ob_0, ob_1, ob_3, ob_9, ob_10, ob_17, ob_538, ar_2, ar_4, ar_5, ar_6, ar_7, ar_8, ar_11, ar_12, ar_13, ar_14, ar_15, ar_16, ar_116, ar_117, ar_539, ar_540, ar_541, ar_542, ar_543, ar_544, ar_545, ar_546, ar_547, ar_548, ar_549, ar_550, ar_551, ar_552, ar_553, ar_554, ar_555, ar_556, ar_557, ar_558, h29, e3']
        have hfin : ∀ (t : Int32) (J4 : Nat → Nat → Int32), J4 = pm_up J3 538 0 t → m_fail t I J4 := by
          intro t J4 hJ4
          rw [hJ4]
          exact ⟨up_eq, ⟨W', e1.2.2.2.2.cg (up_ne (by omega)) (up_row (by omega))⟩, (F2.trans F3.fo.fz).trans (fun x j hx hy => up_ne (by omega))⟩
        by_cases n59 : nx T p' = 59
        · have hlt2 := nx_lt (T := T) (p := p') (by omega)
          rw [if_pos n59, show (false || !decide (nx T p' = 59)) = false by simp [n59]] at e1
          have h4 : J3 538 4 = 0 := e1.2.2.1
          have h3 : J3 538 3 = nI (p' + 1) := e1.2.1
          have h1 : J3 538 1 = nI T.length := e1.1.1
          have h5 : J3 538 5 = nI (K ++ C ++ [(17, 0)]).length := by rw [e1.2.2.2.1.1, cK_len]
          have hlen2 : (K ++ C ++ [(17, 0)]).length = K.length + C.length + 1 := by simp; omega
          have elt : (nI (p' + 1) < nI T.length) ↔ p' + 1 < T.length := sm_lt (by omega) (by omega)
          have e160 : (160 < nI (K ++ C ++ [(17, 0)]).length) ↔ 160 < (K ++ C ++ [(17, 0)]).length := sm_lt (a := 160) (by omega) (by omega)
          by_cases hend : T.length ≤ p' + 1
          · rw [if_pos ⟨n59, hend⟩]
            refine ⟨fun hx => (by cases hx), fun G hG => ?_⟩
            injection hG with hG
            subst hG
            refine ⟨fun hbig => ?_, fun hsmall => ?_⟩
            · have hbig : 160 < (K ++ C ++ [(17, 0)]).length := hbig
              refine ⟨_, hfin 2 _ rfl, fun q => ?_⟩
              show pm_R (d + 8) 45 137 _ _ _ q ↔ _
              rw [hopen3]
              simp (decide := true) only [q45_176, q45_177, q45_178, q45_181, q45_184, q45_185, q45_188, q45_189, q45_192, q45_195, q45_196, q45_199, q45_200, q45_203, q45_206, q45_209, q45_210, q45_213, q45_214, q45_217, q45_218, q45_221, q45_224, q45_225, q45_234, W_1, W_I, W_mk, W_tk, pm_rv, rf_0_0, rf_0_1, rf_0_2, rf_0_3, rf_0_4, rf_0_7, rf_0_8, rf_1_0, rf_1_2, rf_3_0, rf_3_1, rf_3_6, rf_3_7, rf_3_8, rf_9_0, rf_9_1, rf_10_0, rf_10_1, rf_10_6, rf_10_7, rf_10_8, rf_17_0, rf_17_1, rf_538_2, rf_538_6, rf_538_7, rf_538_9, rf_538_11, rf_538_12, rf_538_18, rf_538_19, rf_538_22, rf_538_23, rf_538_25, rf_538_27, rf_538_28, rf_538_30, rf_538_31, rf_538_32, rf_538_33, rf_538_34, rf_538_35, rf_538_36, ob_0, ob_1, ob_3, ob_9, ob_10, ob_17, ob_538, ar_2, ar_4, ar_5, ar_6, ar_7, ar_8, ar_11, ar_12, ar_13, ar_14, ar_15, ar_16, ar_116, ar_117, ar_539, ar_540, ar_541, ar_542, ar_543, ar_544, ar_545, ar_546, ar_547, ar_548, ar_549, ar_550, ar_551, ar_552, ar_553, ar_554, ar_555, ar_556, ar_557, ar_558, ex_eq, ex_ite, pm_bk_r, pm_bk_t, ol_nil, ol_one, true_and, and_true, false_and, and_false, reduceIte, Nat.reduceEqDiff, up_at, Nat.add_left_cancel_iff, h4, h3, h1, elt, show (p' + 1 < T.length) ↔ False from iff_false_intro (by omega), h5, e160, hbig]
            · have hsmall : (K ++ C ++ [(17, 0)]).length ≤ 160 := hsmall
              have hK0 := e1.2.2.2.1.cg (J := pm_up J3 538 0 0) (up_ne (by omega)) (up_row (by omega)) (up_row (by omega))
              have R3 := R2.fn F3
              have hR0 : RN R (pm_up J3 538 0 0) := ⟨by rw [up_ne (by omega)]; exact R3.1, fun r hr => by rw [up_ne (by omega), up_ne (by omega)]; exact R3.2 r hr⟩
              obtain ⟨J5, l1, l2, l3, l4, l5, l6⟩ := c46 (d := d + 7) (k := k) (o := o) (G := (K ++ C ++ [(17, 0)], nx T 1 - 48, nx T 2 - 48, R, K.length)) (I := pm_up J3 538 0 0) hsmall h8 hK0 hR0 (by rw [up_ne (by omega), F3 _ _ (by omega) (by omega) (by omega) (by omega)]; exact h13)
              refine ⟨J5, ⟨l1, ⟨by rw [l2.1, up_eq], l2.2⟩, ⟨W', e1.2.2.2.2.cg (by rw [l3]; exact up_ne (by omega)) (by rw [l5]; exact up_row (by omega))⟩, ?_⟩, fun q => ?_⟩
              · intro x j hx hy
                rw [l4 x j hx hy, up_ne (by omega), F3 _ _ (by omega) (by omega) (by omega) (by omega), F2 _ _ (by omega) (by omega)]
              · have l6' : ∀ q, (pm_C (d + 8) 46 [.ref 538, .int (nI (nx T 1 - 48)), .int (nI (nx T 2 - 48))] (Wm (pm_up J3 538 0 0) k o) q ↔ q = (.inl (some (.int (nI (K ++ C ++ [(17, 0)]).length))), Wm J5 k o)) := l6
                show pm_R (d + 8) 45 137 _ _ _ q ↔ _
                rw [hopen3]
                simp (decide := true) only [q45_176, q45_177, q45_178, q45_181, q45_184, q45_185, q45_188, q45_189, q45_192, q45_195, q45_196, q45_199, q45_200, q45_203, q45_206, q45_209, q45_210, q45_213, q45_214, q45_217, q45_218, q45_221, q45_224, q45_225, q45_228, q45_229, q45_230, q45_231, q45_234, W_1, W_I, W_mk, W_tk, pm_rv, rf_0_0, rf_0_1, rf_0_2, rf_0_3, rf_0_4, rf_0_7, rf_0_8, rf_1_0, rf_1_2, rf_3_0, rf_3_1, rf_3_6, rf_3_7, rf_3_8, rf_9_0, rf_9_1, rf_10_0, rf_10_1, rf_10_6, rf_10_7, rf_10_8, rf_17_0, rf_17_1, rf_538_2, rf_538_6, rf_538_7, rf_538_9, rf_538_11, rf_538_12, rf_538_18, rf_538_19, rf_538_22, rf_538_23, rf_538_25, rf_538_27, rf_538_28, rf_538_30, rf_538_31, rf_538_32, rf_538_33, rf_538_34, rf_538_35, rf_538_36, ob_0, ob_1, ob_3, ob_9, ob_10, ob_17, ob_538, ar_2, ar_4, ar_5, ar_6, ar_7, ar_8, ar_11, ar_12, ar_13, ar_14, ar_15, ar_16, ar_116, ar_117, ar_539, ar_540, ar_541, ar_542, ar_543, ar_544, ar_545, ar_546, ar_547, ar_548, ar_549, ar_550, ar_551, ar_552, ar_553, ar_554, ar_555, ar_556, ar_557, ar_558, ex_eq, ex_ite, pm_bk_r, pm_bk_t, ol_nil, ol_one, true_and, and_true, false_and, and_false, reduceIte, Nat.reduceEqDiff, up_at, Nat.add_left_cancel_iff, h4, h3, h1, elt, show (p' + 1 < T.length) ↔ False from iff_false_intro (by omega), h5, e160, show (160 < (K ++ C ++ [(17, 0)]).length) ↔ False from iff_false_intro (by omega), l6']
          · rw [if_neg (fun q => hend q.2)]
            refine m_comp.no (hfin 1 _ rfl) (fun q => ?_)
            show pm_R (d + 8) 45 137 _ _ _ q ↔ _
            rw [hopen3]
            simp (decide := true) only [q45_176, q45_177, q45_178, q45_181, q45_184, q45_185, q45_188, q45_189, q45_192, q45_195, q45_196, q45_199, q45_200, q45_203, q45_206, q45_209, q45_210, q45_213, q45_214, q45_217, q45_218, q45_221, q45_224, q45_225, q45_234, W_1, W_I, W_mk, W_tk, pm_rv, rf_0_0, rf_0_1, rf_0_2, rf_0_3, rf_0_4, rf_0_7, rf_0_8, rf_1_0, rf_1_2, rf_3_0, rf_3_1, rf_3_6, rf_3_7, rf_3_8, rf_9_0, rf_9_1, rf_10_0, rf_10_1, rf_10_6, rf_10_7, rf_10_8, rf_17_0, rf_17_1, rf_538_2, rf_538_6, rf_538_7, rf_538_9, rf_538_11, rf_538_12, rf_538_18, rf_538_19, rf_538_22, rf_538_23, rf_538_25, rf_538_27, rf_538_28, rf_538_30, rf_538_31, rf_538_32, rf_538_33, rf_538_34, rf_538_35, rf_538_36, ob_0, ob_1, ob_3, ob_9, ob_10, ob_17, ob_538, ar_2, ar_4, ar_5, ar_6, ar_7, ar_8, ar_11, ar_12, ar_13, ar_14, ar_15, ar_16, ar_116, ar_117, ar_539, ar_540, ar_541, ar_542, ar_543, ar_544, ar_545, ar_546, ar_547, ar_548, ar_549, ar_550, ar_551, ar_552, ar_553, ar_554, ar_555, ar_556, ar_557, ar_558, ex_eq, ex_ite, pm_bk_r, pm_bk_t, ol_nil, ol_one, true_and, and_true, false_and, and_false, reduceIte, Nat.reduceEqDiff, up_at, Nat.add_left_cancel_iff, h4, h3, h1, elt, show (p' + 1 < T.length) ↔ True from iff_true_intro (by omega)]
        · rw [if_neg (fun q => n59 q.1)]
          rw [if_neg n59, show (false || !decide (nx T p' = 59)) = true by simp [n59]] at e1
          have h4 : J3 538 4 = 1 := e1.2.2.1
          refine m_comp.no (hfin 1 _ rfl) (fun q => ?_)
          show pm_R (d + 8) 45 137 _ _ _ q ↔ _
          rw [hopen3]
          simp (decide := true) only [q45_176, q45_177, q45_178, q45_181, q45_184, q45_185, q45_188, q45_189, q45_192, q45_195, q45_196, q45_199, q45_200, q45_203, q45_206, q45_209, q45_210, q45_213, q45_214, q45_217, q45_218, q45_221, q45_224, q45_225, q45_234, W_1, W_I, W_mk, W_tk, pm_rv, rf_0_0, rf_0_1, rf_0_2, rf_0_3, rf_0_4, rf_0_7, rf_0_8, rf_1_0, rf_1_2, rf_3_0, rf_3_1, rf_3_6, rf_3_7, rf_3_8, rf_9_0, rf_9_1, rf_10_0, rf_10_1, rf_10_6, rf_10_7, rf_10_8, rf_17_0, rf_17_1, rf_538_2, rf_538_6, rf_538_7, rf_538_9, rf_538_11, rf_538_12, rf_538_18, rf_538_19, rf_538_22, rf_538_23, rf_538_25, rf_538_27, rf_538_28, rf_538_30, rf_538_31, rf_538_32, rf_538_33, rf_538_34, rf_538_35, rf_538_36, ob_0, ob_1, ob_3, ob_9, ob_10, ob_17, ob_538, ar_2, ar_4, ar_5, ar_6, ar_7, ar_8, ar_11, ar_12, ar_13, ar_14, ar_15, ar_16, ar_116, ar_117, ar_539, ar_540, ar_541, ar_542, ar_543, ar_544, ar_545, ar_546, ar_547, ar_548, ar_549, ar_550, ar_551, ar_552, ar_553, ar_554, ar_555, ar_556, ar_557, ar_558, ex_eq, ex_ite, pm_bk_r, pm_bk_t, ol_nil, ol_one, true_and, and_true, false_and, and_false, reduceIte, Nat.reduceEqDiff, up_at, Nat.add_left_cancel_iff, h4]
      · have g0 : m_stk 0 (nx T p') := g0
        rw [if_neg (fun q => (stk_ne g0).2.1 q.1)]
        exact hbad J b1 b2 b3
  · rw [if_neg n69]
    rw [if_neg n69, show (false || !decide (nx T p = 69)) = true by simp [n69]] at a1
    obtain ⟨J5, f1, f2⟩ := c45_c (d := d) (k := k) (o := o) (c := 0) (y1 := some (.int (nI (nx T 1 - 48)))) (y2 := some (.int (nI (nx T 2 - 48)))) hT (by omega) ⟨p, _, W, a1, by omega, by rw [cK_len]; omega⟩
    refine m_comp.no (f1.tr a2.fo.fz) (fun q => ?_)
    show pm_R (d + 8) 45 137 _ _ _ q ↔ _
    rw [hopen, f2]
theorem c45 (hT : TX T) {I : Nat → Nat → Int32} (h : MX T I) (hw : ∃ W, WM W I) : m_comp (e_game T) I (fun q => pm_C (d + 9) 45 [.ref 538] (Wm I k o) q) k o := by
  have h240 := hT.1
  obtain ⟨W, hW⟩ := hw
  obtain ⟨I0, hI0⟩ : ∃ I0, I0 = pm_up (pm_up (pm_up (pm_up I 538 3 0) 538 4 0) 538 5 0) 538 10 0 := ⟨_, rfl⟩
  have s0 : ∀ x j, ¬ (x = 538 ∧ (j = 3 ∨ j = 4 ∨ j = 5 ∨ j = 10)) → I0 x j = I x j := fun x j hx => by rw [hI0, up_ne (by omega), up_ne (by omega), up_ne (by omega), up_ne (by omega)]
  have F0 : FZ I I0 := fun x j a b => s0 x j (by omega)
  have A0 : MT T 0 false [] W I0 := by
    refine ⟨⟨by rw [s0 _ _ (by omega)]; exact h.1, fun i hi => by rw [s0 _ _ (by omega)]; exact h.2 i hi⟩, ?_, ?_, ⟨?_, fun j hj => (by simp at hj)⟩, hW.cg (s0 _ _ (by omega)) (by funext j; exact s0 _ _ (by omega))⟩
    · rw [hI0, up_ne (by omega), up_ne (by omega), up_ne (by omega), up_eq]; rfl
    · rw [hI0, up_ne (by omega), up_ne (by omega), up_eq]; rfl
    · rw [hI0, up_ne (by omega), up_eq]; rfl
  have R0 : RN [] I0 := ⟨by rw [hI0, up_eq]; rfl, fun r hr => (by simp at hr)⟩
  obtain ⟨J1, a1, a2, a3⟩ := c28 (d := d + 5) (k := k) (o := o) (c := 68) hT A0 (by omega) (by omega)
  have a3' : ∀ q, (pm_C (d + 8) 28 [.ref 538, .int 68] (Wm I0 k o) q ↔ q = (.inl none, Wm J1 k o)) := a3
  obtain ⟨P, hP⟩ : ∃ P, P = (if nx T 0 = 68 then 0 + 1 else 0) := ⟨_, rfl⟩
  rw [← hP] at a1
  obtain ⟨w0, hw0⟩ : ∃ w0, w0 = (false || !decide (nx T 0 = 68)) := ⟨_, rfl⟩
  rw [← hw0] at a1
  have hP1 : P ≤ 1 := by rw [hP]; split <;> omega
  have A2 : MT T (P + 1) w0 [] W (uA J1 (P + 1)) := a1.a
  have A3 : MT T (P + 2) w0 [] W (uA (uA J1 (P + 1)) (P + 2)) := A2.a
  have n1 := nx_126 hT P
  have n2 := nx_126 hT (P + 1)
  have b26 : ∀ q, (pm_C (d + 8) 26 [.ref 538] (Wm J1 k o) q ↔ q = (.inl (some (.int (nI (nx T P)))), Wm J1 k o)) := fun q => c26 (d := d + 7) hT a1.1 a1.2.1 (by omega)
  have c26' : ∀ q, (pm_C (d + 8) 26 [.ref 538] (Wm (uA J1 (P + 1)) k o) q ↔ q = (.inl (some (.int (nI (nx T (P + 1))))), Wm (uA J1 (P + 1)) k o)) := fun q => c26 (d := d + 7) hT A2.1 A2.2.1 (by omega)
  have l1 := dg_lt (nx T P) (by omega)
  have l2 := dg_lt (nx T (P + 1)) (by omega)
  have g1 : 49 ≤ nx T P → ((4 < nI (nx T P) - 48) ↔ 52 < nx T P) := fun q => by
    have := dg_gt (x := nx T P) (m := 4) (by omega) q (by omega)
    exact this
  have g2 : 49 ≤ nx T (P + 1) → ((6 < nI (nx T (P + 1)) - 48) ↔ 54 < nx T (P + 1)) := fun q => by
    have := dg_gt (x := nx T (P + 1)) (m := 6) (by omega) q (by omega)
    exact this
  obtain ⟨dig, hdig⟩ : ∃ dig : Bool, dig = decide ((49 ≤ nx T P ∧ nx T P ≤ 52) ∧ (49 ≤ nx T (P + 1) ∧ nx T (P + 1) ≤ 54)) := ⟨_, rfl⟩
  have hopen : ∀ q, (pm_C (d + 9) 45 [.ref 538] (Wm I k o) q ↔ pm_R (d + 8) 45 62 [some (.ref 538), some (.int (nI (nx T P) - 48)), some (.int (nI (nx T (P + 1)) - 48))] [] (Wm (uA (uA J1 (P + 1)) (P + 2)) k o) q) := by
    intro q
    have e1 : pm_up J1 538 3 (nI (P + 1)) = uA J1 (P + 1) := rfl
    have p1 : J1 538 3 = nI P := a1.2.1
    have p2 : uA J1 (P + 1) 538 3 = nI (P + 1) := A2.2.1
    rw [n45]
    simp (decide := true) only [q45_0, q45_1, q45_2, q45_5, q45_6, q45_7, q45_10, q45_11, q45_12, q45_15, q45_16, q45_17, W_1, W_I, W_mk, W_tk, pm_rv, rf_0_0, rf_0_1, rf_0_2, rf_0_3, rf_0_4, rf_0_7, rf_0_8, rf_1_0, rf_1_2, rf_3_0, rf_3_1, rf_3_6, rf_3_7, rf_3_8, rf_9_0, rf_9_1, rf_10_0, rf_10_1, rf_10_6, rf_10_7, rf_10_8, rf_17_0, rf_17_1, rf_538_2, rf_538_6, rf_538_7, rf_538_9, rf_538_11, rf_538_12, rf_538_18, rf_538_19, rf_538_22, rf_538_23, rf_538_25, rf_538_27, rf_538_28, rf_538_30, rf_538_31, rf_538_32, rf_538_33, rf_538_34, rf_538_35, rf_538_36, ob_0, ob_1, ob_3, ob_9, ob_10, ob_17, ob_538, ar_2, ar_4, ar_5, ar_6, ar_7, ar_8, ar_11, ar_12, ar_13, ar_14, ar_15, ar_16, ar_116, ar_117, ar_539, ar_540, ar_541, ar_542, ar_543, ar_544, ar_545, ar_546, ar_547, ar_548, ar_549, ar_550, ar_551, ar_552, ar_553, ar_554, ar_555, ar_556, ar_557, ar_558, ex_eq, ex_ite, pm_bk_r, pm_bk_t, ol_nil, ol_one, true_and, and_true, false_and, and_false, reduceIte, Nat.reduceEqDiff, up_at, Nat.add_left_cancel_iff]
    rw [← hI0]
    simp (decide := true) only [q45_20, q45_21, q45_23, q45_26, q45_27, q45_30, q45_32, q45_33, q45_34, q45_35, q45_36, q45_39, q45_40, q45_41, q45_44, q45_45, q45_48, q45_50, q45_51, q45_52, q45_53, q45_54, q45_57, q45_58, q45_59, W_1, W_I, W_mk, W_tk, pm_rv, rf_0_0, rf_0_1, rf_0_2, rf_0_3, rf_0_4, rf_0_7, rf_0_8, rf_1_0, rf_1_2, rf_3_0, rf_3_1, rf_3_6, rf_3_7, rf_3_8, rf_9_0, rf_9_1, rf_10_0, rf_10_1, rf_10_6, rf_10_7, rf_10_8, rf_17_0, rf_17_1, rf_538_2, rf_538_6, rf_538_7, rf_538_9, rf_538_11, rf_538_12, rf_538_18, rf_538_19, rf_538_22, rf_538_23, rf_538_25, rf_538_27, rf_538_28, rf_538_30, rf_538_31, rf_538_32, rf_538_33, rf_538_34, rf_538_35, rf_538_36, ob_0, ob_1, ob_3, ob_9, ob_10, ob_17, ob_538, ar_2, ar_4, ar_5, ar_6, ar_7, ar_8, ar_11, ar_12, ar_13, ar_14, ar_15, ar_16, ar_116, ar_117, ar_539, ar_540, ar_541, ar_542, ar_543, ar_544, ar_545, ar_546, ar_547, ar_548, ar_549, ar_550, ar_551, ar_552, ar_553, ar_554, ar_555, ar_556, ar_557, ar_558, ex_eq, ex_ite, pm_bk_r, pm_bk_t, ol_nil, ol_one, true_and, and_true, false_and, and_false, reduceIte, Nat.reduceEqDiff, up_at, Nat.add_left_cancel_iff, a3', b26, p1, sm_s, e1, c26', p2]
    exact Iff.rfl
  have h4 : uA (uA J1 (P + 1)) (P + 2) 538 4 = bI w0 := A3.2.2.1
  have hopen2 : ∀ q, (pm_C (d + 9) 45 [.ref 538] (Wm I k o) q ↔ pm_R (d + 8) 45 99 [some (.ref 538), some (.int (nI (nx T P) - 48)), some (.int (nI (nx T (P + 1)) - 48))] [] (Wm (uW (uA (uA J1 (P + 1)) (P + 2)) (w0 || !dig)) k o) q) := by
    intro q
    rw [hopen]
    have y1 : ∀ (v1 v2 : Int32), pm_R (d + 8) 45 91 [some (.ref 538), some (.int v1), some (.int v2)] [.ref 538] (Wm (uA (uA J1 (P + 1)) (P + 2)) k o) q ↔ pm_R (d + 8) 45 99 [some (.ref 538), some (.int v1), some (.int v2)] [] (Wm (uW (uA (uA J1 (P + 1)) (P + 2)) true) k o) q := by
      intro v1 v2
      simp (decide := true) only [q45_91, q45_92, q45_95, q45_96, W_1, W_I, W_mk, W_tk, pm_rv, rf_0_0, rf_0_1, rf_0_2, rf_0_3, rf_0_4, rf_0_7, rf_0_8, rf_1_0, rf_1_2, rf_3_0, rf_3_1, rf_3_6, rf_3_7, rf_3_8, rf_9_0, rf_9_1, rf_10_0, rf_10_1, rf_10_6, rf_10_7, rf_10_8, rf_17_0, rf_17_1, rf_538_2, rf_538_6, rf_538_7, rf_538_9, rf_538_11, rf_538_12, rf_538_18, rf_538_19, rf_538_22, rf_538_23, rf_538_25, rf_538_27, rf_538_28, rf_538_30, rf_538_31, rf_538_32, rf_538_33, rf_538_34, rf_538_35, rf_538_36, ob_0, ob_1, ob_3, ob_9, ob_10, ob_17, ob_538, ar_2, ar_4, ar_5, ar_6, ar_7, ar_8, ar_11, ar_12, ar_13, ar_14, ar_15, ar_16, ar_116, ar_117, ar_539, ar_540, ar_541, ar_542, ar_543, ar_544, ar_545, ar_546, ar_547, ar_548, ar_549, ar_550, ar_551, ar_552, ar_553, ar_554, ar_555, ar_556, ar_557, ar_558, ex_eq, ex_ite, pm_bk_r, pm_bk_t, ol_nil, ol_one, true_and, and_true, false_and, and_false, reduceIte, Nat.reduceEqDiff, up_at, Nat.add_left_cancel_iff]
      exact Iff.rfl
    cases w0 with
    | true =>
      have h4 : uA (uA J1 (P + 1)) (P + 2) 538 4 = 1 := h4
      simp (decide := true) only [q45_62, q45_63, q45_64, q45_67, W_1, W_I, W_mk, W_tk, pm_rv, rf_0_0, rf_0_1, rf_0_2, rf_0_3, rf_0_4, rf_0_7, rf_0_8, rf_1_0, rf_1_2, rf_3_0, rf_3_1, rf_3_6, rf_3_7, rf_3_8, rf_9_0, rf_9_1, rf_10_0, rf_10_1, rf_10_6, rf_10_7, rf_10_8, rf_17_0, rf_17_1, rf_538_2, rf_538_6, rf_538_7, rf_538_9, rf_538_11, rf_538_12, rf_538_18, rf_538_19, rf_538_22, rf_538_23, rf_538_25, rf_538_27, rf_538_28, rf_538_30, rf_538_31, rf_538_32, rf_538_33, rf_538_34, rf_538_35, rf_538_36, ob_0, ob_1, ob_3, ob_9, ob_10, ob_17, ob_538, ar_2, ar_4, ar_5, ar_6, ar_7, ar_8, ar_11, ar_12, ar_13, ar_14, ar_15, ar_16, ar_116, ar_117, ar_539, ar_540, ar_541, ar_542, ar_543, ar_544, ar_545, ar_546, ar_547, ar_548, ar_549, ar_550, ar_551, ar_552, ar_553, ar_554, ar_555, ar_556, ar_557, ar_558, ex_eq, ex_ite, pm_bk_r, pm_bk_t, ol_nil, ol_one, true_and, and_true, false_and, and_false, reduceIte, Nat.reduceEqDiff, up_at, Nat.add_left_cancel_iff, h4, y1, Bool.true_or]
    | false =>
      have h4 : uA (uA J1 (P + 1)) (P + 2) 538 4 = 0 := h4
      rw [Bool.false_or]
      by_cases c1 : nx T P < 49
      · have hd : dig = false := by rw [hdig]; exact decide_eq_false (by omega)
        simp (decide := true) only [q45_62, q45_63, q45_64, q45_67, q45_70, q45_71, q45_72, W_1, W_I, W_mk, W_tk, pm_rv, rf_0_0, rf_0_1, rf_0_2, rf_0_3, rf_0_4, rf_0_7, rf_0_8, rf_1_0, rf_1_2, rf_3_0, rf_3_1, rf_3_6, rf_3_7, rf_3_8, rf_9_0, rf_9_1, rf_10_0, rf_10_1, rf_10_6, rf_10_7, rf_10_8, rf_17_0, rf_17_1, rf_538_2, rf_538_6, rf_538_7, rf_538_9, rf_538_11, rf_538_12, rf_538_18, rf_538_19, rf_538_22, rf_538_23, rf_538_25, rf_538_27, rf_538_28, rf_538_30, rf_538_31, rf_538_32, rf_538_33, rf_538_34, rf_538_35, rf_538_36, ob_0, ob_1, ob_3, ob_9, ob_10, ob_17, ob_538, ar_2, ar_4, ar_5, ar_6, ar_7, ar_8, ar_11, ar_12, ar_13, ar_14, ar_15, ar_16, ar_116, ar_117, ar_539, ar_540, ar_541, ar_542, ar_543, ar_544, ar_545, ar_546, ar_547, ar_548, ar_549, ar_550, ar_551, ar_552, ar_553, ar_554, ar_555, ar_556, ar_557, ar_558, ex_eq, ex_ite, pm_bk_r, pm_bk_t, ol_nil, ol_one, true_and, and_true, false_and, and_false, reduceIte, Nat.reduceEqDiff, up_at, Nat.add_left_cancel_iff, h4, l1, c1, y1, hd, Bool.not_false]
      · have g1 := g1 (by omega)
        by_cases c2 : 52 < nx T P
        · have hd : dig = false := by rw [hdig]; exact decide_eq_false (by omega)
          simp (decide := true) only [q45_62, q45_63, q45_64, q45_67, q45_70, q45_71, q45_72, q45_75, q45_76, q45_77, W_1, W_I, W_mk, W_tk, pm_rv, rf_0_0, rf_0_1, rf_0_2, rf_0_3, rf_0_4, rf_0_7, rf_0_8, rf_1_0, rf_1_2, rf_3_0, rf_3_1, rf_3_6, rf_3_7, rf_3_8, rf_9_0, rf_9_1, rf_10_0, rf_10_1, rf_10_6, rf_10_7, rf_10_8, rf_17_0, rf_17_1, rf_538_2, rf_538_6, rf_538_7, rf_538_9, rf_538_11, rf_538_12, rf_538_18, rf_538_19, rf_538_22, rf_538_23, rf_538_25, rf_538_27, rf_538_28, rf_538_30, rf_538_31, rf_538_32, rf_538_33, rf_538_34, rf_538_35, rf_538_36, ob_0, ob_1, ob_3, ob_9, ob_10, ob_17, ob_538, ar_2, ar_4, ar_5, ar_6, ar_7, ar_8, ar_11, ar_12, ar_13, ar_14, ar_15, ar_16, ar_116, ar_117, ar_539, ar_540, ar_541, ar_542, ar_543, ar_544, ar_545, ar_546, ar_547, ar_548, ar_549, ar_550, ar_551, ar_552, ar_553, ar_554, ar_555, ar_556, ar_557, ar_558, ex_eq, ex_ite, pm_bk_r, pm_bk_t, ol_nil, ol_one, true_and, and_true, false_and, and_false, reduceIte, Nat.reduceEqDiff, up_at, Nat.add_left_cancel_iff, h4, l1, c1, g1, c2, y1, hd, Bool.not_false]
        · by_cases c3 : nx T (P + 1) < 49
          · have hd : dig = false := by rw [hdig]; exact decide_eq_false (by omega)
            simp (decide := true) only [q45_62, q45_63, q45_64, q45_67, q45_70, q45_71, q45_72, q45_75, q45_76, q45_77, q45_80, q45_81, q45_82, W_1, W_I, W_mk, W_tk, pm_rv, rf_0_0, rf_0_1, rf_0_2, rf_0_3, rf_0_4, rf_0_7, rf_0_8, rf_1_0, rf_1_2, rf_3_0, rf_3_1, rf_3_6, rf_3_7, rf_3_8, rf_9_0, rf_9_1, rf_10_0, rf_10_1, rf_10_6, rf_10_7, rf_10_8, rf_17_0, rf_17_1, rf_538_2, rf_538_6, rf_538_7, rf_538_9, rf_538_11, rf_538_12, rf_538_18, rf_538_19, rf_538_22, rf_538_23, rf_538_25, rf_538_27, rf_538_28, rf_538_30, rf_538_31, rf_538_32, rf_538_33, rf_538_34, rf_538_35, rf_538_36, ob_0, ob_1, ob_3, ob_9, ob_10, ob_17, ob_538, ar_2, ar_4, ar_5, ar_6, ar_7, ar_8, ar_11, ar_12, ar_13, ar_14, ar_15, ar_16, ar_116, ar_117, ar_539, ar_540, ar_541, ar_542, ar_543, ar_544, ar_545, ar_546, ar_547, ar_548, ar_549, ar_550, ar_551, ar_552, ar_553, ar_554, ar_555, ar_556, ar_557, ar_558, ex_eq, ex_ite, pm_bk_r, pm_bk_t, ol_nil, ol_one, true_and, and_true, false_and, and_false, reduceIte, Nat.reduceEqDiff, up_at, Nat.add_left_cancel_iff, h4, l1, c1, g1, c2, l2, c3, y1, hd, Bool.not_false]
          · have g2 := g2 (by omega)
            by_cases c4 : 54 < nx T (P + 1)
            · have hd : dig = false := by rw [hdig]; exact decide_eq_false (by omega)
              simp (decide := true) only [q45_62, q45_63, q45_64, q45_67, q45_70, q45_71, q45_72, q45_75, q45_76, q45_77, q45_80, q45_81, q45_82, q45_85, q45_86, q45_88, W_1, W_I, W_mk, W_tk, pm_rv, rf_0_0, rf_0_1, rf_0_2, rf_0_3, rf_0_4, rf_0_7, rf_0_8, rf_1_0, rf_1_2, rf_3_0, rf_3_1, rf_3_6, rf_3_7, rf_3_8, rf_9_0, rf_9_1, rf_10_0, rf_10_1, rf_10_6, rf_10_7, rf_10_8, rf_17_0, rf_17_1, rf_538_2, rf_538_6, rf_538_7, rf_538_9, rf_538_11, rf_538_12, rf_538_18, rf_538_19, rf_538_22, rf_538_23, rf_538_25, rf_538_27, rf_538_28, rf_538_30, rf_538_31, rf_538_32, rf_538_33, rf_538_34, rf_538_35, rf_538_36, ob_0, ob_1, ob_3, ob_9, ob_10, ob_17, ob_538, ar_2, ar_4, ar_5, ar_6, ar_7, ar_8, ar_11, ar_12, ar_13, ar_14, ar_15, ar_16, ar_116, ar_117, ar_539, ar_540, ar_541, ar_542, ar_543, ar_544, ar_545, ar_546, ar_547, ar_548, ar_549, ar_550, ar_551, ar_552, ar_553, ar_554, ar_555, ar_556, ar_557, ar_558, ex_eq, ex_ite, pm_bk_r, pm_bk_t, ol_nil, ol_one, true_and, and_true, false_and, and_false, reduceIte, Nat.reduceEqDiff, up_at, Nat.add_left_cancel_iff, h4, l1, c1, g1, c2, l2, c3, g2, c4, y1, hd, Bool.not_false]
            · have hd : dig = true := by rw [hdig]; exact decide_eq_true (by omega)
              simp (decide := true) only [q45_62, q45_63, q45_64, q45_67, q45_70, q45_71, q45_72, q45_75, q45_76, q45_77, q45_80, q45_81, q45_82, q45_85, q45_86, q45_88, q45_91, q45_92, q45_95, q45_96, W_1, W_I, W_mk, W_tk, pm_rv, rf_0_0, rf_0_1, rf_0_2, rf_0_3, rf_0_4, rf_0_7, rf_0_8, rf_1_0, rf_1_2, rf_3_0, rf_3_1, rf_3_6, rf_3_7, rf_3_8, rf_9_0, rf_9_1, rf_10_0, rf_10_1, rf_10_6, rf_10_7, rf_10_8, rf_17_0, rf_17_1, rf_538_2, rf_538_6, rf_538_7, rf_538_9, rf_538_11, rf_538_12, rf_538_18, rf_538_19, rf_538_22, rf_538_23, rf_538_25, rf_538_27, rf_538_28, rf_538_30, rf_538_31, rf_538_32, rf_538_33, rf_538_34, rf_538_35, rf_538_36, ob_0, ob_1, ob_3, ob_9, ob_10, ob_17, ob_538, ar_2, ar_4, ar_5, ar_6, ar_7, ar_8, ar_11, ar_12, ar_13, ar_14, ar_15, ar_16, ar_116, ar_117, ar_539, ar_540, ar_541, ar_542, ar_543, ar_544, ar_545, ar_546, ar_547, ar_548, ar_549, ar_550, ar_551, ar_552, ar_553, ar_554, ar_555, ar_556, ar_557, ar_558, ex_eq, ex_ite, pm_bk_r, pm_bk_t, ol_nil, ol_one, true_and, and_true, false_and, and_false, reduceIte, Nat.reduceEqDiff, up_at, Nat.add_left_cancel_iff, h4, l1, c1, g1, c2, l2, c3, g2, c4, hd, Bool.not_true]
              exact Iff.rfl
  have A4 := A3.w (b := w0 || !dig)
  obtain ⟨J5, e1, e2, e3⟩ := c28 (d := d + 5) (k := k) (o := o) (c := 59) hT A4 (by omega) (by omega)
  have e3' : ∀ q, (pm_C (d + 8) 28 [.ref 538, .int 59] (Wm (uW (uA (uA J1 (P + 1)) (P + 2)) (w0 || !dig)) k o) q ↔ q = (.inl none, Wm J5 k o)) := e3
  have FA : FN I0 J5 := (((a2.trans fA).trans fA).trans fW).trans e2
  have F5 : FZ I J5 := F0.trans FA.fo.fz
  have hopen3 : ∀ q, (pm_C (d + 9) 45 [.ref 538] (Wm I k o) q ↔ pm_R (d + 8) 45 105 [some (.ref 538), some (.int (nI (nx T P) - 48)), some (.int (nI (nx T (P + 1)) - 48))] [] (Wm J5 k o) q) := by
    intro q
    rw [hopen2]
    simp (decide := true) only [q45_99, q45_100, q45_102, W_1, W_I, W_mk, W_tk, pm_rv, rf_0_0, rf_0_1, rf_0_2, rf_0_3, rf_0_4, rf_0_7, rf_0_8, rf_1_0, rf_1_2, rf_3_0, rf_3_1, rf_3_6, rf_3_7, rf_3_8, rf_9_0, rf_9_1, rf_10_0, rf_10_1, rf_10_6, rf_10_7, rf_10_8, rf_17_0, rf_17_1, rf_538_2, rf_538_6, rf_538_7, rf_538_9, rf_538_11, rf_538_12, rf_538_18, rf_538_19, rf_538_22, rf_538_23, rf_538_25, rf_538_27, rf_538_28, rf_538_30, rf_538_31, rf_538_32, rf_538_33, rf_538_34, rf_538_35, rf_538_36, ob_0, ob_1, ob_3, ob_9, ob_10, ob_17, ob_538, ar_2, ar_4, ar_5, ar_6, ar_7, ar_8, ar_11, ar_12, ar_13, ar_14, ar_15, ar_16, ar_116, ar_117, ar_539, ar_540, ar_541, ar_542, ar_543, ar_544, ar_545, ar_546, ar_547, ar_548, ar_549, ar_550, ar_551, ar_552, ar_553, ar_554, ar_555, ar_556, ar_557, ar_558, ex_eq, ex_ite, pm_bk_r, pm_bk_t, ol_nil, ol_one, true_and, and_true, false_and, and_false, reduceIte, Nat.reduceEqDiff, up_at, Nat.add_left_cancel_iff, e3']
  unfold e_game
  by_cases hc : nx T 0 = 68 ∧ (49 ≤ nx T 1 ∧ nx T 1 ≤ 52) ∧ (49 ≤ nx T 2 ∧ nx T 2 ≤ 54) ∧ nx T 3 = 59
  · rw [if_pos hc]
    rw [if_pos hc.1] at hP
    subst hP
    have hd : dig = true := by rw [hdig]; exact decide_eq_true ⟨hc.2.1, hc.2.2.1⟩
    have hw : w0 = false := by rw [hw0]; simp [hc.1]
    subst hd hw
    have n3 : nx T (0 + 1 + 2) = 59 := hc.2.2.2
    rw [if_pos n3, show (false || !true || !decide (nx T (0 + 1 + 2) = 59)) = false by simp [n3]] at e1
    have hlt := nx_lt (T := T) (p := 3) (by omega)
    have v1 : nI (nx T (0 + 1)) - 48 = nI (nx T 1 - 48) := by
      show nI (nx T 1) - nI 48 = _
      rw [sm_sub (by have := hc.2.1; omega)]
    have v2 : nI (nx T (0 + 1 + 1)) - 48 = nI (nx T 2 - 48) := by
      show nI (nx T 2) - nI 48 = _
      rw [sm_sub (by have := hc.2.2.1; omega)]
    rw [v1, v2] at hopen3
    have hr := c45_l (d := d) (k := k) (o := o) (y1 := some (.int (nI (nx T 1 - 48)))) (y2 := some (.int (nI (nx T 2 - 48)))) hT 8 4 [] [] W J5 rfl e1 (R0.fn FA) (by simp) (by omega)
    have hbad : ∀ J, m_bad T 3 J → FO J5 J → (∀ q, (pm_R (d + 8) 45 105 [some (.ref 538), some (.int (nI (nx T 1 - 48))), some (.int (nI (nx T 2 - 48)))] [] (Wm J5 k o) q ↔ pm_R (d + 8) 45 137 [some (.ref 538), some (.int (nI (nx T 1 - 48))), some (.int (nI (nx T 2 - 48)))] [] (Wm J k o) q)) → m_comp none I (fun q => pm_C (d + 9) 45 [.ref 538] (Wm I k o) q) k o := by
      intro J b1 b2 b3
      obtain ⟨J6, f1, f2⟩ := c45_e (d := d) (k := k) (o := o) (y1 := some (.int (nI (nx T 1 - 48)))) (y2 := some (.int (nI (nx T 2 - 48)))) hT (by omega) b1
      exact m_comp.no (f1.tr (F5.trans b2.fz)) (fun q => ((hopen3 q).trans (b3 q)).trans (f2 q))
    cases er : e_rules T 8 4 [] [] with
    | none =>
      obtain ⟨J, b1, b2, b3⟩ := hr.1 er
      exact hbad J b1 b2 b3
    | some x =>
      simp only []
      obtain ⟨x1, x2, x3, x4⟩ := hr.2 x er
      rcases x4 with ⟨J, W', f1, f2, f3, f4⟩ | ⟨f0, J, b1, b2, b3⟩
      · exact (c45_t (d := d) (k := k) (o := o) hT f1 f2 x1 x2 x3).of (F5.trans f3.fz) (fun q => (hopen3 q).trans (f4 q))
      · have : e_tail T x = none := if_neg f0
        rw [this]
        exact hbad J b1 b2 b3
  · rw [if_neg hc]
    have hbad : m_bad T 3 J5 := by
      refine ⟨(if nx T (P + 2) = 59 then P + 2 + 1 else P + 2), [], W, ?_, ?_, by simp⟩
      · have : ((w0 || !dig) || !decide (nx T (P + 2) = 59)) = true := by
          by_cases c0 : nx T 0 = 68
          · rw [if_pos c0] at hP
            subst hP
            by_cases cd : (49 ≤ nx T (0 + 1) ∧ nx T (0 + 1) ≤ 52) ∧ (49 ≤ nx T (0 + 1 + 1) ∧ nx T (0 + 1 + 1) ≤ 54)
            · have c3 : ¬ nx T (0 + 1 + 2) = 59 := fun q => hc ⟨c0, cd.1, cd.2, q⟩
              simp [c3]
            · have hd : dig = false := by rw [hdig]; exact decide_eq_false cd
              simp [hd]
          · have hw : w0 = true := by rw [hw0]; simp [c0]
            simp [hw]
        rw [this] at e1
        exact e1
      · split
        · have := nx_lt (T := T) (p := P + 2) (by omega)
          omega
        · omega
    have h5 : J5 538 4 = 1 := by obtain ⟨p, K, W, q1, -⟩ := hbad; exact q1.2.2.1
    obtain ⟨J6, f1, f2⟩ := c45_e (d := d) (k := k) (o := o) (y1 := some (.int (nI (nx T P) - 48))) (y2 := some (.int (nI (nx T (P + 1)) - 48))) hT (by omega) hbad
    refine m_comp.no (f1.tr F5) (fun q => ?_)
    show pm_C (d + 9) 45 _ _ q ↔ _
    rw [hopen3, q45_105]
    simp (decide := true) only [q45_106, q45_109, W_1, W_I, W_mk, W_tk, pm_rv, rf_0_0, rf_0_1, rf_0_2, rf_0_3, rf_0_4, rf_0_7, rf_0_8, rf_1_0, rf_1_2, rf_3_0, rf_3_1, rf_3_6, rf_3_7, rf_3_8, rf_9_0, rf_9_1, rf_10_0, rf_10_1, rf_10_6, rf_10_7, rf_10_8, rf_17_0, rf_17_1, rf_538_2, rf_538_6, rf_538_7, rf_538_9, rf_538_11, rf_538_12, rf_538_18, rf_538_19, rf_538_22, rf_538_23, rf_538_25, rf_538_27, rf_538_28, rf_538_30, rf_538_31, rf_538_32, rf_538_33, rf_538_34, rf_538_35, rf_538_36, ob_0, ob_1, ob_3, ob_9, ob_10, ob_17, ob_538, ar_2, ar_4, ar_5, ar_6, ar_7, ar_8, ar_11, ar_12, ar_13, ar_14, ar_15, ar_16, ar_116, ar_117, ar_539, ar_540, ar_541, ar_542, ar_543, ar_544, ar_545, ar_546, ar_547, ar_548, ar_549, ar_550, ar_551, ar_552, ar_553, ar_554, ar_555, ar_556, ar_557, ar_558, ex_eq, ex_ite, pm_bk_r, pm_bk_t, ol_nil, ol_one, true_and, and_true, false_and, and_false, reduceIte, Nat.reduceEqDiff, up_at, Nat.add_left_cancel_iff, h5, f2]
end MCN
