/-! THE CLASS: readRule, readGame -/
section RGN
variable {d k : Nat} {o : Int64}
theorem c95_l {T : List Nat} (hT : TX T) {ch : Bool} {K0 : List (Nat × Nat)} {y1 : Option Value} : ∀ n i p C (I : Nat → Nat → Int32), i + n = 240 → RD T p (K0 ++ C) ch I → (K0 ++ C).length ≤ p → p ≤ T.length →
    (∀ x, e_effs T ch n p C = some x → ∃ J z2, RD T x.1 (K0 ++ x.2) ch J ∧ FD I J ∧ ∀ q, (pm_R (d + 66) 95 120 [some (.ref 1), y1, some (.int (nI i))] [] (Wm I k o) q ↔ pm_R (d + 66) 95 146 [some (.ref 1), y1, z2] [] (Wm J k o) q)) ∧
    (e_effs T ch n p C = none → ∃ J, FD I J ∧ ∀ q, (pm_R (d + 66) 95 120 [some (.ref 1), y1, some (.int (nI i))] [] (Wm I k o) q ↔ q = (.inr 0, Wm J (k + 1) o))) := by
  have h240 := hT.1
  intro n
  induction n with
  | zero =>
    intro i p C I hi h hK hp
    refine ⟨fun x hx => ?_, fun hx => (by cases hx)⟩
    injection hx with hx
    subst hx
    refine ⟨I, some (.int (nI i)), h, FD.refl, fun q => ?_⟩
    obtain rfl : i = 240 := by omega
    rw [q95_120]
    simp (decide := true) only [q95_121, q95_124, ex_eq, ex_ite, pm_bk_r, pm_bk_t, ol_nil, ol_one, true_and, and_true, false_and, and_false, reduceIte, Nat.reduceEqDiff, up_at, Nat.add_left_cancel_iff]
  | succ n ih =>
    intro i p C I hi h hK hp
    have ei : (nI i < 240) ↔ True := iff_true_intro (by rw [show (240 : Int32) = nI 240 from rfl, sm_lt (by omega) (by omega)]; omega)
    have q44 : ∀ q, (pm_C (d + 66) 103 [.ref 1, .int (nI 44)] (Wm I k o) q ↔ if nx T p = 44 then q = (.inl (some (.int 1)), Wm (adv I (p + 1)) k o) else q = (.inl (some (.int 0)), Wm I k o)) := fun q => c103 (d := d + 64) hT h.1 h.2.1 (by omega) (by omega)
    unfold e_effs
    by_cases n44 : nx T p = 44
    · rw [if_pos n44]
      have hlt := nx_lt (T := T) (p := p) (by omega)
      have hA : RD T (p + 1) (K0 ++ C) ch (adv I (p + 1)) := h.ad
      have hX := c96 (d := d) (k := k) (o := o) hT (ch := ch) (p + 1) (K0 ++ C) _ hA (by omega) (by omega)
      have hopen : ∀ q, (pm_R (d + 66) 95 120 [some (.ref 1), y1, some (.int (nI i))] [] (Wm I k o) q ↔ ∃ r, pm_C (d + 66) 96 [.ref 1] (Wm (adv I (p + 1)) k o) r ∧ pm_bk (fun v M' => pm_R (d + 66) 95 140 [some (.ref 1), y1, some (.int (nI i))] (v.toList ++ []) M' q) (fun k M' => q = (.inr k, M')) r) := by
        intro q
        rw [q95_120]
        simp (decide := true) only [q95_121, q95_124, q95_127, q95_128, q95_130, q95_133, q95_136, q95_137, W_1, W_I, W_mk, W_tk, pm_rv, rf_0_0, rf_0_1, rf_0_2, rf_0_3, rf_0_4, rf_0_7, rf_0_8, rf_1_0, rf_1_2, rf_3_0, rf_3_1, rf_3_6, rf_3_7, rf_3_8, rf_9_0, rf_9_1, rf_10_0, rf_10_1, rf_10_6, rf_10_7, rf_10_8, rf_17_0, rf_17_1, rf_538_2, rf_538_6, rf_538_7, rf_538_9, rf_538_11, rf_538_12, rf_538_18, rf_538_19, rf_538_22, rf_538_23, rf_538_25, rf_538_27, rf_538_28, rf_538_30, rf_538_31, rf_538_32, rf_538_33, rf_538_34, rf_538_35, rf_538_36, ob_0, ob_1, ob_3, ob_9, ob_10, ob_17, ob_538, ar_2, ar_4, ar_5, ar_6, ar_7, ar_8, ar_11, ar_12, ar_13, ar_14, ar_15, ar_16, ar_116, ar_117, ar_539, ar_540, ar_541, ar_542, ar_543, ar_544, ar_545, ar_546, ar_547, ar_548, ar_549, ar_550, ar_551, ar_552, ar_553, ar_554, ar_555, ar_556, ar_557, ar_558, ex_eq, ex_ite, pm_bk_r, pm_bk_t, ol_nil, ol_one, true_and, and_true, false_and, and_false, reduceIte, Nat.reduceEqDiff, up_at, Nat.add_left_cancel_iff, ei, show (44 : Int32) = nI 44 from rfl, q44, n44]
      cases er : e_eff T ch (p + 1) with
      | none =>
        refine ⟨fun x hx => (by cases hx), fun _ => ?_⟩
        obtain ⟨J, g1, g2⟩ := hX.2 er
        refine ⟨J, FD.adv.trans g1, fun q => ?_⟩
        rw [hopen]
        simp only [g2, ex_eq, ex_ite, pm_bk_r, pm_bk_t, ol_nil, ol_one, true_and, and_true, false_and, and_false, reduceIte, Nat.reduceEqDiff, up_at, Nat.add_left_cancel_iff]
      | some y =>
        obtain ⟨p', C'⟩ := y
        obtain ⟨J, g1, g2, g3⟩ := hX.1 _ er
        have hg := e_eff_ok er
        have hg1 : p + 1 < p' := hg.1
        have hg2 : p' ≤ T.length := hg.2.1
        have hg3 : C'.length + (p + 1) ≤ p' := hg.2.2.1
        have g1' : RD T p' (K0 ++ (C ++ C')) ch J := by rw [← List.append_assoc]; exact g1
        have hr := ih (i + 1) p' (C ++ C') J (by omega) g1' (by rw [← List.append_assoc, List.length_append]; omega) hg2
        have hopen2 : ∀ q, (pm_R (d + 66) 95 120 [some (.ref 1), y1, some (.int (nI i))] [] (Wm I k o) q ↔ pm_R (d + 66) 95 120 [some (.ref 1), y1, some (.int (nI (i + 1)))] [] (Wm J k o) q) := by
          intro q
          rw [hopen]
          simp only [g3, ex_eq, ex_ite, pm_bk_r, pm_bk_t, ol_nil, ol_one, true_and, and_true, false_and, and_false, reduceIte, Nat.reduceEqDiff, up_at, Nat.add_left_cancel_iff, q95_140, q95_143, sm_s]
        simp only []
        refine ⟨fun x hx => ?_, fun hx => ?_⟩
        · obtain ⟨J', z2, f1, f2, f3⟩ := hr.1 x hx
          exact ⟨J', z2, f1, (FD.adv.trans g2).trans f2, fun q => (hopen2 q).trans (f3 q)⟩
        · obtain ⟨J', f1, f2⟩ := hr.2 hx
          exact ⟨J', (FD.adv.trans g2).trans f1, fun q => (hopen2 q).trans (f2 q)⟩
    · rw [if_neg n44]
      refine ⟨fun x hx => ?_, fun hx => (by cases hx)⟩
      injection hx with hx
      subst hx
      refine ⟨I, some (.int (nI i)), h, FD.refl, fun q => ?_⟩
      rw [q95_120]
      simp (decide := true) only [q95_121, q95_124, q95_127, q95_128, q95_130, q95_133, W_1, W_I, W_mk, W_tk, pm_rv, rf_0_0, rf_0_1, rf_0_2, rf_0_3, rf_0_4, rf_0_7, rf_0_8, rf_1_0, rf_1_2, rf_3_0, rf_3_1, rf_3_6, rf_3_7, rf_3_8, rf_9_0, rf_9_1, rf_10_0, rf_10_1, rf_10_6, rf_10_7, rf_10_8, rf_17_0, rf_17_1, rf_538_2, rf_538_6, rf_538_7, rf_538_9, rf_538_11, rf_538_12, rf_538_18, rf_538_19, rf_538_22, rf_538_23, rf_538_25, rf_538_27, rf_538_28, rf_538_30, rf_538_31, rf_538_32, rf_538_33, rf_538_34, rf_538_35, rf_538_36, ob_0, ob_1, ob_3, ob_9, ob_10, ob_17, ob_538, ar_2, ar_4, ar_5, ar_6, ar_7, ar_8, ar_11, ar_12, ar_13, ar_14, ar_15, ar_16, ar_116, ar_117, ar_539, ar_540, ar_541, ar_542, ar_543, ar_544, ar_545, ar_546, ar_547, ar_548, ar_549, ar_550, ar_551, ar_552, ar_553, ar_554, ar_555, ar_556, ar_557, ar_558, ex_eq, ex_ite, pm_bk_r, pm_bk_t, ol_nil, ol_one, true_and, and_true, false_and, and_false, reduceIte, Nat.reduceEqDiff, up_at, Nat.add_left_cancel_iff, ei, show (44 : Int32) = nI 44 from rfl, q44, n44]
theorem c95_a {T : List Nat} (hT : TX T) {ch : Bool} {K0 : List (Nat × Nat)} {y1 y2 : Option Value} {p : Nat} {I : Nat → Nat → Int32} (h : RD T p K0 ch I) (hK : K0.length ≤ p) (hp : p ≤ T.length) :
    (∀ x, e_all T ch p = some x → ∃ J z2, RD T x.1 (K0 ++ x.2) ch J ∧ FD I J ∧ ∀ q, (pm_R (d + 66) 95 105 [some (.ref 1), y1, y2] [] (Wm I k o) q ↔ pm_R (d + 66) 95 146 [some (.ref 1), y1, z2] [] (Wm J k o) q)) ∧
    (e_all T ch p = none → ∃ J, FD I J ∧ ∀ q, (pm_R (d + 66) 95 105 [some (.ref 1), y1, y2] [] (Wm I k o) q ↔ q = (.inr 0, Wm J (k + 1) o))) := by
  have h240 := hT.1
  have h126 := nx_126 hT p
  have e59 : (nI (nx T p) = 59) ↔ nx T p = 59 := by rw [show (59 : Int32) = nI 59 from rfl, sm_inj (by omega) (by omega)]
  unfold e_all
  by_cases n59 : nx T p = 59
  · rw [if_pos n59]
    refine ⟨fun x hx => ?_, fun hx => (by cases hx)⟩
    injection hx with hx
    subst hx
    refine ⟨I, y2, by rw [List.append_nil]; exact h, FD.refl, fun q => ?_⟩
    simp (decide := true) only [q95_105, q95_106, q95_109, q95_111, W_1, W_I, W_mk, W_tk, pm_rv, rf_0_0, rf_0_1, rf_0_2, rf_0_3, rf_0_4, rf_0_7, rf_0_8, rf_1_0, rf_1_2, rf_3_0, rf_3_1, rf_3_6, rf_3_7, rf_3_8, rf_9_0, rf_9_1, rf_10_0, rf_10_1, rf_10_6, rf_10_7, rf_10_8, rf_17_0, rf_17_1, rf_538_2, rf_538_6, rf_538_7, rf_538_9, rf_538_11, rf_538_12, rf_538_18, rf_538_19, rf_538_22, rf_538_23, rf_538_25, rf_538_27, rf_538_28, rf_538_30, rf_538_31, rf_538_32, rf_538_33, rf_538_34, rf_538_35, rf_538_36, ob_0, ob_1, ob_3, ob_9, ob_10, ob_17, ob_538, ar_2, ar_4, ar_5, ar_6, ar_7, ar_8, ar_11, ar_12, ar_13, ar_14, ar_15, ar_16, ar_116, ar_117, ar_539, ar_540, ar_541, ar_542, ar_543, ar_544, ar_545, ar_546, ar_547, ar_548, ar_549, ar_550, ar_551, ar_552, ar_553, ar_554, ar_555, ar_556, ar_557, ar_558, ex_eq, ex_ite, pm_bk_r, pm_bk_t, ol_nil, ol_one, true_and, and_true, false_and, and_false, reduceIte, Nat.reduceEqDiff, up_at, Nat.add_left_cancel_iff, c104 (d := d + 65) hT h.1 h.2.1 (show p < 100000 by omega), e59, n59]
  · rw [if_neg n59]
    have hX := c96 (d := d) (k := k) (o := o) hT (ch := ch) p K0 I h hK hp
    have hopen : ∀ q, (pm_R (d + 66) 95 105 [some (.ref 1), y1, y2] [] (Wm I k o) q ↔ ∃ r, pm_C (d + 66) 96 [.ref 1] (Wm I k o) r ∧ pm_bk (fun v M' => pm_R (d + 66) 95 118 [some (.ref 1), y1, y2] (v.toList ++ []) M' q) (fun k M' => q = (.inr k, M')) r) := by
      intro q
      simp (decide := true) only [q95_105, q95_106, q95_109, q95_111, q95_114, q95_115, W_1, W_I, W_mk, W_tk, pm_rv, rf_0_0, rf_0_1, rf_0_2, rf_0_3, rf_0_4, rf_0_7, rf_0_8, rf_1_0, rf_1_2, rf_3_0, rf_3_1, rf_3_6, rf_3_7, rf_3_8, rf_9_0, rf_9_1, rf_10_0, rf_10_1, rf_10_6, rf_10_7, rf_10_8, rf_17_0, rf_17_1, rf_538_2, rf_538_6, rf_538_7, rf_538_9, rf_538_11, rf_538_12, rf_538_18, rf_538_19, rf_538_22, rf_538_23, rf_538_25, rf_538_27, rf_538_28, rf_538_30, rf_538_31, rf_538_32, rf_538_33, rf_538_34, rf_538_35, rf_538_36, ob_0, ob_1, ob_3, ob_9, ob_10, ob_17, ob_538, ar_2, ar_4, ar_5, ar_6, ar_7, ar_8, ar_11, ar_12, ar_13, ar_14, ar_15, ar_16, ar_116, ar_117, ar_539, ar_540, ar_541, ar_542, ar_543, ar_544, ar_545, ar_546, ar_547, ar_548, ar_549, ar_550, ar_551, ar_552, ar_553, ar_554, ar_555, ar_556, ar_557, ar_558, ex_eq, ex_ite, pm_bk_r, pm_bk_t, ol_nil, ol_one, true_and, and_true, false_and, and_false, reduceIte, Nat.reduceEqDiff, up_at, Nat.add_left_cancel_iff, c104 (d := d + 65) hT h.1 h.2.1 (show p < 100000 by omega), e59, n59]
    cases er : e_eff T ch p with
    | none =>
      refine ⟨fun x hx => (by cases hx), fun _ => ?_⟩
      obtain ⟨J, g1, g2⟩ := hX.2 er
      refine ⟨J, g1, fun q => ?_⟩
      rw [hopen]
      simp only [g2, ex_eq, ex_ite, pm_bk_r, pm_bk_t, ol_nil, ol_one, true_and, and_true, false_and, and_false, reduceIte, Nat.reduceEqDiff, up_at, Nat.add_left_cancel_iff]
    | some y =>
      obtain ⟨p', C'⟩ := y
      obtain ⟨J, g1, g2, g3⟩ := hX.1 _ er
      have hg := e_eff_ok er
      have hg3 : C'.length + p ≤ p' := hg.2.2.1
      have hr := c95_l (d := d) (k := k) (o := o) (y1 := y1) hT 240 0 p' C' J rfl g1 (by rw [List.length_append]; omega) hg.2.1
      rw [show nI 0 = (0 : Int32) from rfl] at hr
      have hopen2 : ∀ q, (pm_R (d + 66) 95 105 [some (.ref 1), y1, y2] [] (Wm I k o) q ↔ pm_R (d + 66) 95 120 [some (.ref 1), y1, some (.int 0)] [] (Wm J k o) q) := by
        intro q
        rw [hopen]
        simp only [g3, ex_eq, ex_ite, pm_bk_r, pm_bk_t, ol_nil, ol_one, true_and, and_true, false_and, and_false, reduceIte, Nat.reduceEqDiff, up_at, Nat.add_left_cancel_iff, q95_118, q95_119]
      simp only []
      refine ⟨fun x hx => ?_, fun hx => ?_⟩
      · obtain ⟨J', z2, f1, f2, f3⟩ := hr.1 x hx
        exact ⟨J', z2, f1, g2.trans f2, fun q => (hopen2 q).trans (f3 q)⟩
      · obtain ⟨J', f1, f2⟩ := hr.2 hx
        exact ⟨J', g2.trans f1, fun q => (hopen2 q).trans (f2 q)⟩
/-- the head of a rule -/
def rhI (T : List Nat) (p n r : Nat) (I : Nat → Nat → Int32) : Nat → Nat → Int32 := pm_up (adv (pm_up (pm_up (pm_up I 1 4 (if e_isM T p = true then 1 else 0)) 6 r (nI (nx T p))) 3 5 (nI (r + 1))) (p + 1)) 7 r (nI n)
def RB (T : List Nat) (p : Nat) (K : List (Nat × Nat)) (I : Nat → Nat → Int32) : Prop := RT T I ∧ I 1 3 = nI p ∧ DS K I
theorem c95 {T : List Nat} (hT : TX T) {p : Nat} {K : List (Nat × Nat)} {R : List (Bool × Nat × Nat)} {I : Nat → Nat → Int32} (h : RB T p K I) (hR : RR R I) (hr : R.length < 8) (hK : K.length ≤ p) (hM : nx T p = 77 ∨ nx T p = 80) :
    (∀ x, e_rule T p = some x → ∃ J ch, RD T x.1 (K ++ x.2.1 ++ [(17, 0)] ++ x.2.2 ++ [(17, 0)]) ch J ∧ RR (R ++ [(e_isM T p, K.length, K.length + x.2.1.length + 1)]) J ∧ FU I J ∧ ∀ q, (pm_C (d + 67) 95 [.ref 1, .int (nI R.length)] (Wm I k o) q ↔ q = (.inl none, Wm J k o))) ∧
    (e_rule T p = none → ∃ J, FU I J ∧ ∀ q, (pm_C (d + 67) 95 [.ref 1, .int (nI R.length)] (Wm I k o) q ↔ q = (.inr 0, Wm J (k + 1) o))) := by
  have h240 := hT.1
  have h126 := nx_126 hT p
  have hlt := nx_lt (T := T) (p := p) (by omega)
  have e77 : (nI (nx T p) = 77) ↔ nx T p = 77 := by rw [show (77 : Int32) = nI 77 from rfl, sm_inj (by omega) (by omega)]
  obtain ⟨I1, hI1⟩ : ∃ I1, I1 = pm_up I 1 4 (if e_isM T p = true then 1 else 0) := ⟨_, rfl⟩
  have R1 : RT T I1 := by rw [hI1]; exact ⟨by rw [up_ne (by omega)]; exact h.1.1, fun i hi => by rw [up_ne (by omega)]; exact h.1.2 i hi⟩
  have p1 : I1 1 3 = nI p := by rw [hI1, up_ne (by omega)]; exact h.2.1
  obtain ⟨I2, hI2⟩ : ∃ I2, I2 = rhI T p K.length R.length I := ⟨_, rfl⟩
  have A2 : RD T (p + 1) K (e_isM T p) I2 := by
    rw [hI2]
    unfold rhI adv
    refine ⟨⟨?_, fun i hi => ?_⟩, ?_, ⟨?_, fun j hj h160 => ?_⟩, ?_⟩
    · rw [up_ne (by omega), up_ne (by omega), up_ne (by omega), up_ne (by omega), up_ne (by omega)]; exact h.1.1
    · rw [up_ne (by omega), up_ne (by omega), up_ne (by omega), up_ne (by omega), up_ne (by omega)]; exact h.1.2 i hi
    · rw [up_ne (by omega), up_eq]
    · rw [up_ne (by omega), up_ne (by omega), up_ne (by omega), up_ne (by omega), up_ne (by omega)]; exact h.2.2.1
    · rw [up_ne (by omega), up_ne (by omega), up_ne (by omega), up_ne (by omega), up_ne (by omega), up_ne (by omega), up_ne (by omega), up_ne (by omega), up_ne (by omega), up_ne (by omega)]; exact h.2.2.2 j hj h160
    · rw [up_ne (by omega), up_ne (by omega), up_ne (by omega), up_ne (by omega), up_eq]
  have F2 : FU I I2 := fun x j a b c => by
    rw [hI2]
    unfold rhI adv
    rw [up_ne (by omega), up_ne (by omega), up_ne (by omega), up_ne (by omega), up_ne (by omega)]
  have hn77 : (nI (nx T p)) = if e_isM T p = true then 77 else 80 := by
    rcases hM with e | e
    · have : e_isM T p = true := decide_eq_true e
      rw [this, e]; rfl
    · have : e_isM T p = false := decide_eq_false (by omega)
      rw [this, e]; rfl
  -- what the rows of the rules hold then, but for the effects' place
  have B2 : I2 3 5 = nI (R.length + 1) ∧ (∀ r, r < R.length → I2 6 r = (if (R.getD r (false, 0, 0)).1 = true then 77 else 80) ∧ I2 7 r = nI (R.getD r (false, 0, 0)).2.1 ∧ I2 8 r = nI (R.getD r (false, 0, 0)).2.2) ∧ I2 6 R.length = (if e_isM T p = true then 77 else 80) ∧ I2 7 R.length = nI K.length := by
    rw [hI2]
    unfold rhI adv
    refine ⟨?_, fun r hr => ?_, ?_, ?_⟩
    · rw [up_ne (by omega), up_ne (by omega), up_eq]
    · have := hR.2 r hr
      rw [up_ne (by omega), up_ne (by omega), up_ne (by omega), up_ne (by omega), up_ne (by omega), up_ne (by omega), up_ne (by omega), up_ne (by omega), up_ne (by omega), up_ne (by omega), up_ne (by omega), up_ne (by omega), up_ne (by omega), up_ne (by omega), up_ne (by omega)]
      exact this
    · rw [up_ne (by omega), up_ne (by omega), up_ne (by omega), up_eq, hn77]
    · rw [up_eq]
  have hX := c97E (d := d + 1) (k := k) (o := o) hT (ch := e_isM T p) (p + 1) K I2 A2 (by omega) (by omega)
  have hopen : ∀ q, (pm_C (d + 67) 95 [.ref 1, .int (nI R.length)] (Wm I k o) q ↔ ∃ r, pm_C (d + 66) 97 [.ref 1, .int 0, .int 0] (Wm I2 k o) r ∧ pm_bk (fun v M' => pm_R (d + 66) 95 73 [some (.ref 1), some (.int (nI R.length)), none] (v.toList ++ []) M' q) (fun k M' => q = (.inr k, M')) r) := by
    intro q
    have a1 : ∀ q, (pm_C (d + 66) 104 [.ref 1] (Wm I k o) q ↔ q = (.inl (some (.int (nI (nx T p)))), Wm I k o)) := fun q => c104 (d := d + 65) hT h.1 h.2.1 (by omega)
    have a2 : ∀ q, (pm_C (d + 66) 104 [.ref 1] (Wm I1 k o) q ↔ q = (.inl (some (.int (nI (nx T p)))), Wm I1 k o)) := fun q => c104 (d := d + 65) hT R1 p1 (by omega)
    have hgo : ∀ q, (pm_C (d + 67) 95 [.ref 1, .int (nI R.length)] (Wm I k o) q ↔ pm_R (d + 66) 95 18 [some (.ref 1), some (.int (nI R.length)), none] [] (Wm I1 k o) q) := by
      intro q
      rw [n95, hI1]
      by_cases e : nx T p = 77
      · have em : e_isM T p = true := decide_eq_true e
        simp (decide := true) only [q95_0, q95_1, q95_2, q95_5, q95_7, q95_10, q95_11, q95_14, q95_15, W_1, W_I, W_mk, W_tk, pm_rv, rf_0_0, rf_0_1, rf_0_2, rf_0_3, rf_0_4, rf_0_7, rf_0_8, rf_1_0, rf_1_2, rf_3_0, rf_3_1, rf_3_6, rf_3_7, rf_3_8, rf_9_0, rf_9_1, rf_10_0, rf_10_1, rf_10_6, rf_10_7, rf_10_8, rf_17_0, rf_17_1, rf_538_2, rf_538_6, rf_538_7, rf_538_9, rf_538_11, rf_538_12, rf_538_18, rf_538_19, rf_538_22, rf_538_23, rf_538_25, rf_538_27, rf_538_28, rf_538_30, rf_538_31, rf_538_32, rf_538_33, rf_538_34, rf_538_35, rf_538_36, ob_0, ob_1, ob_3, ob_9, ob_10, ob_17, ob_538, ar_2, ar_4, ar_5, ar_6, ar_7, ar_8, ar_11, ar_12, ar_13, ar_14, ar_15, ar_16, ar_116, ar_117, ar_539, ar_540, ar_541, ar_542, ar_543, ar_544, ar_545, ar_546, ar_547, ar_548, ar_549, ar_550, ar_551, ar_552, ar_553, ar_554, ar_555, ar_556, ar_557, ar_558, ex_eq, ex_ite, pm_bk_r, pm_bk_t, ol_nil, ol_one, true_and, and_true, false_and, and_false, reduceIte, Nat.reduceEqDiff, up_at, Nat.add_left_cancel_iff, a1, e77, e, em]
      · have em : e_isM T p = false := decide_eq_false e
        simp (decide := true) only [q95_0, q95_1, q95_2, q95_5, q95_7, q95_10, q95_11, q95_14, q95_15, W_1, W_I, W_mk, W_tk, pm_rv, rf_0_0, rf_0_1, rf_0_2, rf_0_3, rf_0_4, rf_0_7, rf_0_8, rf_1_0, rf_1_2, rf_3_0, rf_3_1, rf_3_6, rf_3_7, rf_3_8, rf_9_0, rf_9_1, rf_10_0, rf_10_1, rf_10_6, rf_10_7, rf_10_8, rf_17_0, rf_17_1, rf_538_2, rf_538_6, rf_538_7, rf_538_9, rf_538_11, rf_538_12, rf_538_18, rf_538_19, rf_538_22, rf_538_23, rf_538_25, rf_538_27, rf_538_28, rf_538_30, rf_538_31, rf_538_32, rf_538_33, rf_538_34, rf_538_35, rf_538_36, ob_0, ob_1, ob_3, ob_9, ob_10, ob_17, ob_538, ar_2, ar_4, ar_5, ar_6, ar_7, ar_8, ar_11, ar_12, ar_13, ar_14, ar_15, ar_16, ar_116, ar_117, ar_539, ar_540, ar_541, ar_542, ar_543, ar_544, ar_545, ar_546, ar_547, ar_548, ar_549, ar_550, ar_551, ar_552, ar_553, ar_554, ar_555, ar_556, ar_557, ar_558, ex_eq, ex_ite, pm_bk_r, pm_bk_t, ol_nil, ol_one, true_and, and_true, false_and, and_false, reduceIte, Nat.reduceEqDiff, up_at, Nat.add_left_cancel_iff, a1, e77, e, em]
    have h32 : I1 3 2 = nI K.length := by rw [hI1, up_ne (by omega)]; exact h.2.2.1
    rw [hgo]
    simp (decide := true) only [q95_18, q95_19, q95_22, q95_25, q95_26, q95_27, q95_30, q95_31, q95_32, q95_35, q95_36, q95_37, q95_38, q95_41, q95_42, q95_43, q95_46, q95_47, q95_48, q95_51, q95_52, q95_55, q95_58, q95_59, q95_60, q95_63, q95_66, q95_67, q95_68, q95_69, q95_70, W_1, W_I, W_mk, W_tk, pm_rv, rf_0_0, rf_0_1, rf_0_2, rf_0_3, rf_0_4, rf_0_7, rf_0_8, rf_1_0, rf_1_2, rf_3_0, rf_3_1, rf_3_6, rf_3_7, rf_3_8, rf_9_0, rf_9_1, rf_10_0, rf_10_1, rf_10_6, rf_10_7, rf_10_8, rf_17_0, rf_17_1, rf_538_2, rf_538_6, rf_538_7, rf_538_9, rf_538_11, rf_538_12, rf_538_18, rf_538_19, rf_538_22, rf_538_23, rf_538_25, rf_538_27, rf_538_28, rf_538_30, rf_538_31, rf_538_32, rf_538_33, rf_538_34, rf_538_35, rf_538_36, ob_0, ob_1, ob_3, ob_9, ob_10, ob_17, ob_538, ar_2, ar_4, ar_5, ar_6, ar_7, ar_8, ar_11, ar_12, ar_13, ar_14, ar_15, ar_16, ar_116, ar_117, ar_539, ar_540, ar_541, ar_542, ar_543, ar_544, ar_545, ar_546, ar_547, ar_548, ar_549, ar_550, ar_551, ar_552, ar_553, ar_554, ar_555, ar_556, ar_557, ar_558, ex_eq, ex_ite, pm_bk_r, pm_bk_t, ol_nil, ol_one, true_and, and_true, false_and, and_false, reduceIte, Nat.reduceEqDiff, up_at, Nat.add_left_cancel_iff, a2, p1, h32, sm_s, sm_in (show R.length < 2147483648 by omega), hr, sm_cl (show R.length < 2147483648 by omega)]
    rw [hI2]
    unfold rhI adv
    rw [← hI1]
  show (∀ x, e_rule T p = some x → _) ∧ (e_rule T p = none → _)
  unfold e_rule
  cases er : e_E T (e_isM T p) (p + 1) with
  | none =>
    refine ⟨fun x hx => (by cases hx), fun _ => ?_⟩
    obtain ⟨J, g1, g2⟩ := hX.2 er
    refine ⟨J, F2.trans g1.fu, fun q => ?_⟩
    have g2' : ∀ q, (pm_C (d + 66) 97 [.ref 1, .int 0, .int 0] (Wm I2 k o) q ↔ q = (.inr 0, Wm J (k + 1) o)) := g2
    rw [hopen]
    simp only [g2', ex_eq, ex_ite, pm_bk_r, pm_bk_t, ol_nil, ol_one, true_and, and_true, false_and, and_false, reduceIte, Nat.reduceEqDiff, up_at, Nat.add_left_cancel_iff]
  | some y =>
    obtain ⟨p1', C1⟩ := y
    obtain ⟨J, g1, g2, g3⟩ := hX.1 _ er
    have g3' : ∀ q, (pm_C (d + 66) 97 [.ref 1, .int 0, .int 0] (Wm I2 k o) q ↔ q = (.inl none, Wm J k o)) := g3
    have hg := e_expr_ok _ _ _ _ _ er
    have hg2 : p1' ≤ T.length := hg.2.1
    have hg3 : C1.length + (p + 1) ≤ p1' := hg.2.2.1
    have hl : (K ++ C1).length < 100000 := by rw [List.length_append]; omega
    have gE := g1.em (x := (17, 0))
    have h80 : ∀ q, (pm_C (d + 66) 80 [.ref 3, .int 17, .int 0] (Wm J k o) q ↔ q = (.inl none, Wm (emI (K ++ C1) (17, 0) J) k o)) := fun q => c80 (d := d + 65) (z := 17) (a := 0) g1.2.2.1 hl
    have q58 : ∀ q, (pm_C (d + 66) 102 [.ref 1, .int (nI 58)] (Wm (emI (K ++ C1) (17, 0) J) k o) q ↔ if nx T p1' = 58 then q = (.inl none, Wm (adv (emI (K ++ C1) (17, 0) J) (p1' + 1)) k o) else q = (.inr 0, Wm (emI (K ++ C1) (17, 0) J) (k + 1) o)) := fun q => c102 (d := d + 64) hT gE.1 gE.2.1 (by omega) (by omega)
    have hopen2 : ∀ q, (pm_C (d + 67) 95 [.ref 1, .int (nI R.length)] (Wm I k o) q ↔ ∃ r, pm_C (d + 66) 102 [.ref 1, .int (nI 58)] (Wm (emI (K ++ C1) (17, 0) J) k o) r ∧ pm_bk (fun v M' => pm_R (d + 66) 95 89 [some (.ref 1), some (.int (nI R.length)), none] (v.toList ++ []) M' q) (fun k M' => q = (.inr k, M')) r) := by
      intro q
      rw [hopen]
      simp only [g3', ex_eq, ex_ite, pm_bk_r, pm_bk_t, ol_nil, ol_one, true_and, and_true, false_and, and_false, reduceIte, Nat.reduceEqDiff, up_at, Nat.add_left_cancel_iff, q95_73, q95_74, q95_77, q95_79, q95_80, q95_83, q95_84, q95_86, W_1, W_I, W_mk, W_tk, pm_rv, rf_0_0, rf_0_1, rf_0_2, rf_0_3, rf_0_4, rf_0_7, rf_0_8, rf_1_0, rf_1_2, rf_3_0, rf_3_1, rf_3_6, rf_3_7, rf_3_8, rf_9_0, rf_9_1, rf_10_0, rf_10_1, rf_10_6, rf_10_7, rf_10_8, rf_17_0, rf_17_1, rf_538_2, rf_538_6, rf_538_7, rf_538_9, rf_538_11, rf_538_12, rf_538_18, rf_538_19, rf_538_22, rf_538_23, rf_538_25, rf_538_27, rf_538_28, rf_538_30, rf_538_31, rf_538_32, rf_538_33, rf_538_34, rf_538_35, rf_538_36, ob_0, ob_1, ob_3, ob_9, ob_10, ob_17, ob_538, ar_2, ar_4, ar_5, ar_6, ar_7, ar_8, ar_11, ar_12, ar_13, ar_14, ar_15, ar_16, ar_116, ar_117, ar_539, ar_540, ar_541, ar_542, ar_543, ar_544, ar_545, ar_546, ar_547, ar_548, ar_549, ar_550, ar_551, ar_552, ar_553, ar_554, ar_555, ar_556, ar_557, ar_558, h80, show (58 : Int32) = nI 58 from rfl]
    simp only []
    by_cases n58 : nx T p1' = 58
    · rw [if_pos n58]
      have hlt2 := nx_lt (T := T) (p := p1') (by omega)
      obtain ⟨I3, hI3⟩ : ∃ I3, I3 = adv (emI (K ++ C1) (17, 0) J) (p1' + 1) := ⟨_, rfl⟩
      have A3 : RD T (p1' + 1) (K ++ C1 ++ [(17, 0)]) (e_isM T p) I3 := by rw [hI3]; exact gE.ad
      have F3 : FD I2 I3 := by rw [hI3]; exact (g2.trans FD.em).trans FD.adv
      have hlen : (K ++ C1 ++ [(17, 0)]).length = K.length + C1.length + 1 := by simp; omega
      obtain ⟨I4, hI4⟩ : ∃ I4, I4 = pm_up I3 8 R.length (nI (K.length + C1.length + 1)) := ⟨_, rfl⟩
      have A4 : RD T (p1' + 1) (K ++ C1 ++ [(17, 0)]) (e_isM T p) I4 := by
        rw [hI4]
        exact ⟨⟨by rw [up_ne (by omega)]; exact A3.1.1, fun i hi => by rw [up_ne (by omega)]; exact A3.1.2 i hi⟩, by rw [up_ne (by omega)]; exact A3.2.1, ⟨by rw [up_ne (by omega)]; exact A3.2.2.1.1, fun j hj h1 => by rw [up_ne (by omega), up_ne (by omega)]; exact A3.2.2.1.2 j hj h1⟩, by rw [up_ne (by omega)]; exact A3.2.2.2⟩
      have R4 : RR (R ++ [(e_isM T p, K.length, K.length + C1.length + 1)]) I4 := by
        rw [hI4]
        have f : ∀ x j, (x = 6 ∨ x = 7 ∨ x = 8 ∨ (x = 3 ∧ j = 5)) → I3 x j = I2 x j := fun x j hx => F3 x j (by omega) (by omega) (by omega) (by omega)
        refine ⟨by rw [up_ne (by omega), f _ _ (by omega), B2.1]; simp, fun r hr' => ?_⟩
        by_cases e : r = R.length
        · subst e
          rw [up_ne (by omega), up_ne (by omega), up_eq, f _ _ (by omega), f _ _ (by omega), B2.2.2.1, B2.2.2.2, List.getD_eq_getElem?_getD, List.getElem?_append_right (by omega)]
          simp
        · have hr2 : r < R.length := by simp at hr'; omega
          rw [up_ne (by omega), up_ne (by omega), up_ne (by omega), f _ _ (by omega), f _ _ (by omega), f _ _ (by omega), List.getD_eq_getElem?_getD, List.getElem?_append_left hr2, ← List.getD_eq_getElem?_getD]
          exact B2.2.1 r hr2
      have F4 : FU I I4 := (F2.trans F3.fu).trans (fun x j a b c => by rw [hI4, up_ne (by omega)])
      have hr4 := c95_a (d := d) (k := k) (o := o) (y1 := some (.int (nI R.length))) (y2 := none) hT A4 (by omega) (by omega)
      have h32 : I3 3 2 = nI (K.length + C1.length + 1) := by rw [A3.2.2.1.1, hlen]
      have hopen3 : ∀ q, (pm_C (d + 67) 95 [.ref 1, .int (nI R.length)] (Wm I k o) q ↔ pm_R (d + 66) 95 105 [some (.ref 1), some (.int (nI R.length)), none] [] (Wm I4 k o) q) := by
        intro q
        rw [hopen2]
        simp (decide := true) only [q58, n58, hI3.symm, ex_eq, ex_ite, pm_bk_r, pm_bk_t, ol_nil, ol_one, true_and, and_true, false_and, and_false, reduceIte, Nat.reduceEqDiff, up_at, Nat.add_left_cancel_iff, q95_89, q95_90, q95_93, q95_96, q95_97, q95_98, q95_101, q95_104, W_1, W_I, W_mk, W_tk, pm_rv, rf_0_0, rf_0_1, rf_0_2, rf_0_3, rf_0_4, rf_0_7, rf_0_8, rf_1_0, rf_1_2, rf_3_0, rf_3_1, rf_3_6, rf_3_7, rf_3_8, rf_9_0, rf_9_1, rf_10_0, rf_10_1, rf_10_6, rf_10_7, rf_10_8, rf_17_0, rf_17_1, rf_538_2, rf_538_6, rf_538_7, rf_538_9, rf_538_11, rf_538_12, rf_538_18, rf_538_19, rf_538_22, rf_538_23, rf_538_25, rf_538_27, rf_538_28, rf_538_30, rf_538_31, rf_538_32, rf_538_33, rf_538_34, rf_538_35, rf_538_36, ob_0, ob_1, ob_3, ob_9, ob_10, ob_17, ob_538, ar_2, ar_4, ar_5, ar_6, ar_7, ar_8, ar_11, ar_12, ar_13, ar_14, ar_15, ar_16, ar_116, ar_117, ar_539, ar_540, ar_541, ar_542, ar_543, ar_544, ar_545, ar_546, ar_547, ar_548, ar_549, ar_550, ar_551, ar_552, ar_553, ar_554, ar_555, ar_556, ar_557, ar_558, h32, sm_in (show R.length < 2147483648 by omega), hr, sm_cl (show R.length < 2147483648 by omega), hI4.symm]
      cases ea : e_all T (e_isM T p) (p1' + 1) with
      | none =>
        refine ⟨fun x hx => (by cases hx), fun _ => ?_⟩
        obtain ⟨J5, f1, f2⟩ := hr4.2 ea
        exact ⟨J5, F4.trans f1.fu, fun q => (hopen3 q).trans (f2 q)⟩
      | some y =>
        obtain ⟨p2, C2⟩ := y
        obtain ⟨J5, z2, f1, f2, f3⟩ := hr4.1 _ ea
        have hga := e_all_ok (by omega) ea
        have hga2 : p2 ≤ T.length := hga.2.1
        have hga3 : C2.length + (p1' + 1) ≤ p2 := hga.2.2.1
        have hl5 : (K ++ C1 ++ [(17, 0)] ++ C2).length < 100000 := by rw [List.length_append, hlen]; omega
        have gE5 := f1.em (x := (17, 0))
        have h805 : ∀ q, (pm_C (d + 66) 80 [.ref 3, .int 17, .int 0] (Wm J5 k o) q ↔ q = (.inl none, Wm (emI (K ++ C1 ++ [(17, 0)] ++ C2) (17, 0) J5) k o)) := fun q => c80 (d := d + 65) (z := 17) (a := 0) f1.2.2.1 hl5
        have q59 : ∀ q, (pm_C (d + 66) 102 [.ref 1, .int (nI 59)] (Wm (emI (K ++ C1 ++ [(17, 0)] ++ C2) (17, 0) J5) k o) q ↔ if nx T p2 = 59 then q = (.inl none, Wm (adv (emI (K ++ C1 ++ [(17, 0)] ++ C2) (17, 0) J5) (p2 + 1)) k o) else q = (.inr 0, Wm (emI (K ++ C1 ++ [(17, 0)] ++ C2) (17, 0) J5) (k + 1) o)) := fun q => c102 (d := d + 64) hT gE5.1 gE5.2.1 (by omega) (by omega)
        simp only []
        by_cases n59 : nx T p2 = 59
        · rw [if_pos n59]
          refine ⟨fun x hx => ?_, fun hx => (by cases hx)⟩
          injection hx with hx
          subst hx
          refine ⟨_, e_isM T p, gE5.ad, ((R4.fd f2).fd FD.em).fd FD.adv, ((F4.trans f2.fu).trans FD.em.fu).trans FD.adv.fu, fun q => ?_⟩
          rw [hopen3, f3]
          simp (decide := true) only [q95_146, q95_147, q95_150, q95_152, q95_153, q95_156, q95_157, q95_159, q95_162, W_1, W_I, W_mk, W_tk, pm_rv, rf_0_0, rf_0_1, rf_0_2, rf_0_3, rf_0_4, rf_0_7, rf_0_8, rf_1_0, rf_1_2, rf_3_0, rf_3_1, rf_3_6, rf_3_7, rf_3_8, rf_9_0, rf_9_1, rf_10_0, rf_10_1, rf_10_6, rf_10_7, rf_10_8, rf_17_0, rf_17_1, rf_538_2, rf_538_6, rf_538_7, rf_538_9, rf_538_11, rf_538_12, rf_538_18, rf_538_19, rf_538_22, rf_538_23, rf_538_25, rf_538_27, rf_538_28, rf_538_30, rf_538_31, rf_538_32, rf_538_33, rf_538_34, rf_538_35, rf_538_36, ob_0, ob_1, ob_3, ob_9, ob_10, ob_17, ob_538, ar_2, ar_4, ar_5, ar_6, ar_7, ar_8, ar_11, ar_12, ar_13, ar_14, ar_15, ar_16, ar_116, ar_117, ar_539, ar_540, ar_541, ar_542, ar_543, ar_544, ar_545, ar_546, ar_547, ar_548, ar_549, ar_550, ar_551, ar_552, ar_553, ar_554, ar_555, ar_556, ar_557, ar_558, ex_eq, ex_ite, pm_bk_r, pm_bk_t, ol_nil, ol_one, true_and, and_true, false_and, and_false, reduceIte, Nat.reduceEqDiff, up_at, Nat.add_left_cancel_iff, h805, show (59 : Int32) = nI 59 from rfl, q59, n59]
        · rw [if_neg n59]
          refine ⟨fun x hx => (by cases hx), fun _ => ⟨emI (K ++ C1 ++ [(17, 0)] ++ C2) (17, 0) J5, (F4.trans f2.fu).trans FD.em.fu, fun q => ?_⟩⟩
          rw [hopen3, f3]
          simp (decide := true) only [q95_146, q95_147, q95_150, q95_152, q95_153, q95_156, q95_157, q95_159, q95_162, W_1, W_I, W_mk, W_tk, pm_rv, rf_0_0, rf_0_1, rf_0_2, rf_0_3, rf_0_4, rf_0_7, rf_0_8, rf_1_0, rf_1_2, rf_3_0, rf_3_1, rf_3_6, rf_3_7, rf_3_8, rf_9_0, rf_9_1, rf_10_0, rf_10_1, rf_10_6, rf_10_7, rf_10_8, rf_17_0, rf_17_1, rf_538_2, rf_538_6, rf_538_7, rf_538_9, rf_538_11, rf_538_12, rf_538_18, rf_538_19, rf_538_22, rf_538_23, rf_538_25, rf_538_27, rf_538_28, rf_538_30, rf_538_31, rf_538_32, rf_538_33, rf_538_34, rf_538_35, rf_538_36, ob_0, ob_1, ob_3, ob_9, ob_10, ob_17, ob_538, ar_2, ar_4, ar_5, ar_6, ar_7, ar_8, ar_11, ar_12, ar_13, ar_14, ar_15, ar_16, ar_116, ar_117, ar_539, ar_540, ar_541, ar_542, ar_543, ar_544, ar_545, ar_546, ar_547, ar_548, ar_549, ar_550, ar_551, ar_552, ar_553, ar_554, ar_555, ar_556, ar_557, ar_558, ex_eq, ex_ite, pm_bk_r, pm_bk_t, ol_nil, ol_one, true_and, and_true, false_and, and_false, reduceIte, Nat.reduceEqDiff, up_at, Nat.add_left_cancel_iff, h805, show (59 : Int32) = nI 59 from rfl, q59, n59]
    · rw [if_neg n58]
      refine ⟨fun x hx => (by cases hx), fun _ => ⟨emI (K ++ C1) (17, 0) J, (F2.trans g2.fu).trans FD.em.fu, fun q => ?_⟩⟩
      rw [hopen2]
      simp only [q58, n58, ex_eq, ex_ite, pm_bk_r, pm_bk_t, ol_nil, ol_one, true_and, and_true, false_and, and_false, reduceIte, Nat.reduceEqDiff, up_at, Nat.add_left_cancel_iff]
theorem dg_lt : ∀ x, x < 127 → ((nI x - 48 < 1) ↔ x < 49) := by decide +kernel
theorem dg_gt {x m : Nat} (hx : x < 127) (h1 : 49 ≤ x) (hm : m < 10) : (nI m < nI x - 48) ↔ 48 + m < x := by
  rw [show (48 : Int32) = nI 48 from rfl, sm_sub (by omega), sm_lt (by omega) (by omega)]
  omega
theorem c101 {T : List Nat} (hT : TX T) {I : Nat → Nat → Int32} (h : RT T I) {p m : Nat} (hp : I 1 3 = nI p) (hb : p < 100000) (hm : m < 10) {q : pm_Res} : pm_C (d + 2) 101 [.ref 1, .int (nI m)] (Wm I k o) q ↔ if 49 ≤ nx T p ∧ nx T p ≤ 48 + m then q = (.inl (some (.int (nI (nx T p - 48)))), Wm (adv I (p + 1)) k o) else q = (.inr 0, Wm I (k + 1) o) := by
  have h126 := nx_126 hT p
  have e1 := dg_lt (nx T p) (by omega)
  rw [n101]
  simp (decide := true) only [q101_0, q101_1, q101_4, q101_6, q101_7, q101_8, q101_9, q101_10, W_1, W_I, W_mk, W_tk, pm_rv, rf_0_0, rf_0_1, rf_0_2, rf_0_3, rf_0_4, rf_0_7, rf_0_8, rf_1_0, rf_1_2, rf_3_0, rf_3_1, rf_3_6, rf_3_7, rf_3_8, rf_9_0, rf_9_1, rf_10_0, rf_10_1, rf_10_6, rf_10_7, rf_10_8, rf_17_0, rf_17_1, rf_538_2, rf_538_6, rf_538_7, rf_538_9, rf_538_11, rf_538_12, rf_538_18, rf_538_19, rf_538_22, rf_538_23, rf_538_25, rf_538_27, rf_538_28, rf_538_30, rf_538_31, rf_538_32, rf_538_33, rf_538_34, rf_538_35, rf_538_36, ob_0, ob_1, ob_3, ob_9, ob_10, ob_17, ob_538, ar_2, ar_4, ar_5, ar_6, ar_7, ar_8, ar_11, ar_12, ar_13, ar_14, ar_15, ar_16, ar_116, ar_117, ar_539, ar_540, ar_541, ar_542, ar_543, ar_544, ar_545, ar_546, ar_547, ar_548, ar_549, ar_550, ar_551, ar_552, ar_553, ar_554, ar_555, ar_556, ar_557, ar_558, ex_eq, ex_ite, pm_bk_r, pm_bk_t, ol_nil, ol_one, true_and, and_true, false_and, and_false, reduceIte, Nat.reduceEqDiff, up_at, Nat.add_left_cancel_iff, c104 hT h hp hb, e1]
  by_cases h49 : nx T p < 49
  · rw [if_pos h49, if_neg (by omega)]
    simp (decide := true) only [q101_18, W_tk]
  · rw [if_neg h49]
    have e2 := dg_gt (m := m) (show nx T p < 127 by omega) (by omega) hm
    simp (decide := true) only [q101_13, q101_14, q101_15, W_1, W_I, W_mk, W_tk, pm_rv, rf_0_0, rf_0_1, rf_0_2, rf_0_3, rf_0_4, rf_0_7, rf_0_8, rf_1_0, rf_1_2, rf_3_0, rf_3_1, rf_3_6, rf_3_7, rf_3_8, rf_9_0, rf_9_1, rf_10_0, rf_10_1, rf_10_6, rf_10_7, rf_10_8, rf_17_0, rf_17_1, rf_538_2, rf_538_6, rf_538_7, rf_538_9, rf_538_11, rf_538_12, rf_538_18, rf_538_19, rf_538_22, rf_538_23, rf_538_25, rf_538_27, rf_538_28, rf_538_30, rf_538_31, rf_538_32, rf_538_33, rf_538_34, rf_538_35, rf_538_36, ob_0, ob_1, ob_3, ob_9, ob_10, ob_17, ob_538, ar_2, ar_4, ar_5, ar_6, ar_7, ar_8, ar_11, ar_12, ar_13, ar_14, ar_15, ar_16, ar_116, ar_117, ar_539, ar_540, ar_541, ar_542, ar_543, ar_544, ar_545, ar_546, ar_547, ar_548, ar_549, ar_550, ar_551, ar_552, ar_553, ar_554, ar_555, ar_556, ar_557, ar_558, ex_eq, ex_ite, pm_bk_r, pm_bk_t, ol_nil, ol_one, true_and, and_true, false_and, and_false, reduceIte, Nat.reduceEqDiff, up_at, Nat.add_left_cancel_iff, e2]
    by_cases hg : 48 + m < nx T p
    · rw [if_pos hg, if_neg (by omega)]
      simp (decide := true) only [q101_18, W_tk]
    · rw [if_neg hg, if_pos (by omega)]
      have e3 : nI (nx T p) - 48 = nI (nx T p - 48) := by rw [show (48 : Int32) = nI 48 from rfl, sm_sub (by omega)]
      simp (decide := true) only [q101_28, q101_29, q101_30, q101_33, q101_34, q101_35, q101_38, q101_39, W_1, W_I, W_mk, W_tk, pm_rv, rf_0_0, rf_0_1, rf_0_2, rf_0_3, rf_0_4, rf_0_7, rf_0_8, rf_1_0, rf_1_2, rf_3_0, rf_3_1, rf_3_6, rf_3_7, rf_3_8, rf_9_0, rf_9_1, rf_10_0, rf_10_1, rf_10_6, rf_10_7, rf_10_8, rf_17_0, rf_17_1, rf_538_2, rf_538_6, rf_538_7, rf_538_9, rf_538_11, rf_538_12, rf_538_18, rf_538_19, rf_538_22, rf_538_23, rf_538_25, rf_538_27, rf_538_28, rf_538_30, rf_538_31, rf_538_32, rf_538_33, rf_538_34, rf_538_35, rf_538_36, ob_0, ob_1, ob_3, ob_9, ob_10, ob_17, ob_538, ar_2, ar_4, ar_5, ar_6, ar_7, ar_8, ar_11, ar_12, ar_13, ar_14, ar_15, ar_16, ar_116, ar_117, ar_539, ar_540, ar_541, ar_542, ar_543, ar_544, ar_545, ar_546, ar_547, ar_548, ar_549, ar_550, ar_551, ar_552, ar_553, ar_554, ar_555, ar_556, ar_557, ar_558, ex_eq, ex_ite, pm_bk_r, pm_bk_t, ol_nil, ol_one, true_and, and_true, false_and, and_false, reduceIte, Nat.reduceEqDiff, up_at, Nat.add_left_cancel_iff, hp, sm_s, e3]
      exact Iff.rfl
theorem RB.fd {T : List Nat} {p : Nat} {K : List (Nat × Nat)} {ch : Bool} {I : Nat → Nat → Int32} (h : RD T p K ch I) : RB T p K I := ⟨h.1, h.2.1, h.2.2.1⟩
/-- the rules -/
theorem c94_l {T : List Nat} (hT : TX T) {y1 : Option Value} : ∀ n p K R (I : Nat → Nat → Int32), R.length + n = 8 → RB T p K I → RR R I → K.length ≤ p → p ≤ T.length →
    (∀ x, e_rules T n p K R = some x → ∃ J, RB T x.1 x.2.1 J ∧ RR x.2.2 J ∧ x.2.1.length ≤ x.1 ∧ x.1 ≤ T.length ∧ FU I J ∧ ∀ q, (pm_R (d + 67) 94 70 [some (.ref 1), y1, some (.int (nI R.length))] [] (Wm I k o) q ↔ pm_R (d + 67) 94 105 [some (.ref 1), y1, some (.int (nI x.2.2.length))] [] (Wm J k o) q)) ∧
    (e_rules T n p K R = none → ∃ J, FU I J ∧ ∀ q, (pm_R (d + 67) 94 70 [some (.ref 1), y1, some (.int (nI R.length))] [] (Wm I k o) q ↔ q = (.inr 0, Wm J (k + 1) o))) := by
  have h240 := hT.1
  intro n
  induction n with
  | zero =>
    intro p K R I hn h hR hK hp
    refine ⟨fun x hx => ?_, fun hx => (by cases hx)⟩
    injection hx with hx
    subst hx
    refine ⟨I, h, hR, hK, hp, FU.refl, fun q => ?_⟩
    have h8 : R.length = 8 := by omega
    rw [q94_70]
    simp only [h8]
    simp (decide := true) only [q94_71, q94_73, ex_eq, ex_ite, pm_bk_r, pm_bk_t, ol_nil, ol_one, true_and, and_true, false_and, and_false, reduceIte, Nat.reduceEqDiff, up_at, Nat.add_left_cancel_iff]
  | succ n ih =>
    intro p K R I hn h hR hK hp
    have h126 := nx_126 hT p
    have e77 : (nI (nx T p) = 77) ↔ nx T p = 77 := by rw [show (77 : Int32) = nI 77 from rfl, sm_inj (by omega) (by omega)]
    have e80 : (nI (nx T p) = 80) ↔ nx T p = 80 := by rw [show (80 : Int32) = nI 80 from rfl, sm_inj (by omega) (by omega)]
    have e8 : (nI R.length < 8) ↔ True := iff_true_intro (by rw [show (8 : Int32) = nI 8 from rfl, sm_lt (by omega) (by omega)]; omega)
    have a1 : ∀ q, (pm_C (d + 67) 104 [.ref 1] (Wm I k o) q ↔ q = (.inl (some (.int (nI (nx T p)))), Wm I k o)) := fun q => c104 (d := d + 66) hT h.1 h.2.1 (by omega)
    have hopen : ∀ q, (pm_R (d + 67) 94 70 [some (.ref 1), y1, some (.int (nI R.length))] [] (Wm I k o) q ↔ if nx T p = 77 ∨ nx T p = 80 then pm_R (d + 67) 94 94 [some (.ref 1), y1, some (.int (nI R.length))] [] (Wm I k o) q else pm_R (d + 67) 94 105 [some (.ref 1), y1, some (.int (nI R.length))] [] (Wm I k o) q) := by
      intro q
      rw [q94_70]
      simp (decide := true) only [q94_71, q94_73, q94_76, q94_77, q94_80, q94_82, q94_85, q94_86, q94_89, q94_91, W_1, W_I, W_mk, W_tk, pm_rv, rf_0_0, rf_0_1, rf_0_2, rf_0_3, rf_0_4, rf_0_7, rf_0_8, rf_1_0, rf_1_2, rf_3_0, rf_3_1, rf_3_6, rf_3_7, rf_3_8, rf_9_0, rf_9_1, rf_10_0, rf_10_1, rf_10_6, rf_10_7, rf_10_8, rf_17_0, rf_17_1, rf_538_2, rf_538_6, rf_538_7, rf_538_9, rf_538_11, rf_538_12, rf_538_18, rf_538_19, rf_538_22, rf_538_23, rf_538_25, rf_538_27, rf_538_28, rf_538_30, rf_538_31, rf_538_32, rf_538_33, rf_538_34, rf_538_35, rf_538_36, ob_0, ob_1, ob_3, ob_9, ob_10, ob_17, ob_538, ar_2, ar_4, ar_5, ar_6, ar_7, ar_8, ar_11, ar_12, ar_13, ar_14, ar_15, ar_16, ar_116, ar_117, ar_539, ar_540, ar_541, ar_542, ar_543, ar_544, ar_545, ar_546, ar_547, ar_548, ar_549, ar_550, ar_551, ar_552, ar_553, ar_554, ar_555, ar_556, ar_557, ar_558, ex_eq, ex_ite, pm_bk_r, pm_bk_t, ol_nil, ol_one, true_and, and_true, false_and, and_false, reduceIte, Nat.reduceEqDiff, up_at, Nat.add_left_cancel_iff, e8, a1, e77, e80]
      by_cases h1 : nx T p = 77
      · simp only [h1, reduceIte, true_or]
      · by_cases h2 : nx T p = 80
        · simp only [h2, reduceIte, or_true]
          simp
        · simp only [h1, h2, reduceIte, or_self]
    unfold e_rules
    by_cases hM : nx T p = 77 ∨ nx T p = 80
    · rw [if_pos hM]
      have hX := c95 (d := d) (k := k) (o := o) hT h hR (by omega) hK hM
      cases er : e_rule T p with
      | none =>
        refine ⟨fun x hx => (by cases hx), fun _ => ?_⟩
        obtain ⟨J, g1, g2⟩ := hX.2 er
        refine ⟨J, g1, fun q => ?_⟩
        rw [hopen, if_pos hM]
        simp only [q94_94, q94_95, q94_96, W_1, W_I, W_mk, W_tk, pm_rv, rf_0_0, rf_0_1, rf_0_2, rf_0_3, rf_0_4, rf_0_7, rf_0_8, rf_1_0, rf_1_2, rf_3_0, rf_3_1, rf_3_6, rf_3_7, rf_3_8, rf_9_0, rf_9_1, rf_10_0, rf_10_1, rf_10_6, rf_10_7, rf_10_8, rf_17_0, rf_17_1, rf_538_2, rf_538_6, rf_538_7, rf_538_9, rf_538_11, rf_538_12, rf_538_18, rf_538_19, rf_538_22, rf_538_23, rf_538_25, rf_538_27, rf_538_28, rf_538_30, rf_538_31, rf_538_32, rf_538_33, rf_538_34, rf_538_35, rf_538_36, ob_0, ob_1, ob_3, ob_9, ob_10, ob_17, ob_538, ar_2, ar_4, ar_5, ar_6, ar_7, ar_8, ar_11, ar_12, ar_13, ar_14, ar_15, ar_16, ar_116, ar_117, ar_539, ar_540, ar_541, ar_542, ar_543, ar_544, ar_545, ar_546, ar_547, ar_548, ar_549, ar_550, ar_551, ar_552, ar_553, ar_554, ar_555, ar_556, ar_557, ar_558, ex_eq, ex_ite, pm_bk_r, pm_bk_t, ol_nil, ol_one, true_and, and_true, false_and, and_false, reduceIte, Nat.reduceEqDiff, up_at, Nat.add_left_cancel_iff, g2]
      | some y =>
        obtain ⟨p', C1, C2⟩ := y
        obtain ⟨J, ch, g1, g2, g3, g4⟩ := hX.1 _ er
        have hg := e_rule_ok er
        have hg3 : C1.length + C2.length + 2 + p ≤ p' := hg.2.2.1
        have hr := ih p' _ _ J (by rw [List.length_append]; show R.length + 1 + n = 8; omega) (RB.fd g1) g2 (by simp only [List.length_append, List.length_singleton]; omega) hg.2.1
        have hopen2 : ∀ q, (pm_R (d + 67) 94 70 [some (.ref 1), y1, some (.int (nI R.length))] [] (Wm I k o) q ↔ pm_R (d + 67) 94 70 [some (.ref 1), y1, some (.int (nI (R ++ [(e_isM T p, K.length, K.length + C1.length + 1)]).length))] [] (Wm J k o) q) := by
          intro q
          rw [hopen, if_pos hM]
          simp only [q94_94, q94_95, q94_96, q94_99, q94_102, W_1, W_I, W_mk, W_tk, pm_rv, rf_0_0, rf_0_1, rf_0_2, rf_0_3, rf_0_4, rf_0_7, rf_0_8, rf_1_0, rf_1_2, rf_3_0, rf_3_1, rf_3_6, rf_3_7, rf_3_8, rf_9_0, rf_9_1, rf_10_0, rf_10_1, rf_10_6, rf_10_7, rf_10_8, rf_17_0, rf_17_1, rf_538_2, rf_538_6, rf_538_7, rf_538_9, rf_538_11, rf_538_12, rf_538_18, rf_538_19, rf_538_22, rf_538_23, rf_538_25, rf_538_27, rf_538_28, rf_538_30, rf_538_31, rf_538_32, rf_538_33, rf_538_34, rf_538_35, rf_538_36, ob_0, ob_1, ob_3, ob_9, ob_10, ob_17, ob_538, ar_2, ar_4, ar_5, ar_6, ar_7, ar_8, ar_11, ar_12, ar_13, ar_14, ar_15, ar_16, ar_116, ar_117, ar_539, ar_540, ar_541, ar_542, ar_543, ar_544, ar_545, ar_546, ar_547, ar_548, ar_549, ar_550, ar_551, ar_552, ar_553, ar_554, ar_555, ar_556, ar_557, ar_558, ex_eq, ex_ite, pm_bk_r, pm_bk_t, ol_nil, ol_one, true_and, and_true, false_and, and_false, reduceIte, Nat.reduceEqDiff, up_at, Nat.add_left_cancel_iff, g4, sm_s, List.length_append, List.length_singleton]
        simp only []
        refine ⟨fun x hx => ?_, fun hx => ?_⟩
        · obtain ⟨J', f1, f2, f3, f4, f5, f6⟩ := hr.1 x hx
          exact ⟨J', f1, f2, f3, f4, g3.trans f5, fun q => (hopen2 q).trans (f6 q)⟩
        · obtain ⟨J', f1, f2⟩ := hr.2 hx
          exact ⟨J', g3.trans f1, fun q => (hopen2 q).trans (f2 q)⟩
    · rw [if_neg hM]
      refine ⟨fun x hx => ?_, fun hx => (by cases hx)⟩
      injection hx with hx
      subst hx
      refine ⟨I, h, hR, hK, hp, FU.refl, fun q => ?_⟩
      rw [hopen, if_neg hM]
def FH (I J : Nat → Nat → Int32) : Prop := ∀ x j, ¬ (x = 1 ∧ (j = 3 ∨ j = 4)) → ¬ (3 ≤ x ∧ x ≤ 8) → J x j = I x j
theorem FH.trans {I J K : Nat → Nat → Int32} (h1 : FH I J) (h2 : FH J K) : FH I K := fun x j a b => (h2 x j a b).trans (h1 x j a b)
theorem FU.fh {I J : Nat → Nat → Int32} (h : FU I J) : FH I J := fun x j a b => h x j a (by omega) (by omega)
/-- the game as the draft keeps it -/
def DG (G : Gm) (I : Nat → Nat → Int32) : Prop := DS G.1 I ∧ I 3 3 = nI (g_n G) ∧ I 3 4 = nI G.2.2.1 ∧ RR G.2.2.2.1 I ∧ I 3 9 = nI G.2.2.2.2
/-- the ending -/
theorem c94_t {T : List Nat} (hT : TX T) {y1 y2 : Option Value} {x : Nat × List (Nat × Nat) × List (Bool × Nat × Nat)} {I : Nat → Nat → Int32} (h : RB T x.1 x.2.1 I) (hR : RR x.2.2 I) (hK : x.2.1.length ≤ x.1) (hp : x.1 ≤ T.length) (h33 : I 3 3 = nI ((nx T 1 - 48) * (nx T 2 - 48))) (h34 : I 3 4 = nI (nx T 2 - 48)) :
    (∀ G, e_tail T x = some G → ∃ J, DG G J ∧ FH I J ∧ ∀ q, (pm_R (d + 67) 94 105 [some (.ref 1), y1, y2] [] (Wm I k o) q ↔ q = (.inl none, Wm J k o))) ∧
    (e_tail T x = none → ∃ J, FH I J ∧ ∀ q, (pm_R (d + 67) 94 105 [some (.ref 1), y1, y2] [] (Wm I k o) q ↔ q = (.inr 0, Wm J (k + 1) o))) := by
  obtain ⟨p, K, R⟩ := x
  have h240 := hT.1
  have hp' : p ≤ T.length := hp
  have hK' : K.length ≤ p := hK
  have h1 : RT T I := h.1
  have h2 : I 1 3 = nI p := h.2.1
  have h3 : DS K I := h.2.2
  have q69 : ∀ q, (pm_C (d + 67) 102 [.ref 1, .int (nI 69)] (Wm I k o) q ↔ if nx T p = 69 then q = (.inl none, Wm (adv I (p + 1)) k o) else q = (.inr 0, Wm I (k + 1) o)) := fun q => c102 (d := d + 65) hT h1 h2 (by omega) (by omega)
  show (∀ G, e_tail T (p, K, R) = some G → _) ∧ (e_tail T (p, K, R) = none → _)
  unfold e_tail
  simp only []
  by_cases n69 : nx T p = 69
  · rw [if_pos n69]
    have hlt := nx_lt (T := T) (p := p) (by omega)
    obtain ⟨I2, hI2⟩ : ∃ I2, I2 = pm_up (pm_up (adv I (p + 1)) 1 4 0) 3 9 (nI K.length) := ⟨_, rfl⟩
    have A2 : RD T (p + 1) K false I2 := by
      rw [hI2]
      unfold adv
      refine ⟨⟨?_, fun i hi => ?_⟩, ?_, ⟨?_, fun j hj h160 => ?_⟩, ?_⟩
      · rw [up_ne (by omega), up_ne (by omega), up_ne (by omega)]; exact h1.1
      · rw [up_ne (by omega), up_ne (by omega), up_ne (by omega)]; exact h1.2 i hi
      · rw [up_ne (by omega), up_ne (by omega), up_eq]
      · rw [up_ne (by omega), up_ne (by omega), up_ne (by omega)]; exact h3.1
      · rw [up_ne (by omega), up_ne (by omega), up_ne (by omega), up_ne (by omega), up_ne (by omega), up_ne (by omega)]; exact h3.2 j hj h160
      · rw [up_ne (by omega), up_eq]; rfl
    have F2 : FH I I2 := fun x j a b => by
      rw [hI2]
      unfold adv
      rw [up_ne (by omega), up_ne (by omega), up_ne (by omega)]
    have s2 : ∀ x j, ((x = 3 ∧ (j = 3 ∨ j = 4 ∨ j = 5)) ∨ (6 ≤ x ∧ x ≤ 8)) → I2 x j = I x j := fun x j hx => by
      rw [hI2]
      unfold adv
      rw [up_ne (by omega), up_ne (by omega), up_ne (by omega)]
    have hX := c97E (d := d + 2) (k := k) (o := o) hT (ch := false) (p + 1) K I2 A2 (by omega) (by omega)
    have hopen : ∀ q, (pm_R (d + 67) 94 105 [some (.ref 1), y1, y2] [] (Wm I k o) q ↔ ∃ r, pm_C (d + 67) 97 [.ref 1, .int 0, .int 0] (Wm I2 k o) r ∧ pm_bk (fun v M' => pm_R (d + 67) 94 136 [some (.ref 1), y1, y2] (v.toList ++ []) M' q) (fun k M' => q = (.inr k, M')) r) := by
      intro q
      have h32 : adv I (p + 1) 3 2 = nI K.length := h3.ad.1
      simp (decide := true) only [q94_105, q94_106, q94_108, q94_111, q94_112, q94_113, q94_116, q94_117, q94_120, q94_121, q94_124, q94_127, q94_130, q94_131, q94_132, q94_133, W_1, W_I, W_mk, W_tk, pm_rv, rf_0_0, rf_0_1, rf_0_2, rf_0_3, rf_0_4, rf_0_7, rf_0_8, rf_1_0, rf_1_2, rf_3_0, rf_3_1, rf_3_6, rf_3_7, rf_3_8, rf_9_0, rf_9_1, rf_10_0, rf_10_1, rf_10_6, rf_10_7, rf_10_8, rf_17_0, rf_17_1, rf_538_2, rf_538_6, rf_538_7, rf_538_9, rf_538_11, rf_538_12, rf_538_18, rf_538_19, rf_538_22, rf_538_23, rf_538_25, rf_538_27, rf_538_28, rf_538_30, rf_538_31, rf_538_32, rf_538_33, rf_538_34, rf_538_35, rf_538_36, ob_0, ob_1, ob_3, ob_9, ob_10, ob_17, ob_538, ar_2, ar_4, ar_5, ar_6, ar_7, ar_8, ar_11, ar_12, ar_13, ar_14, ar_15, ar_16, ar_116, ar_117, ar_539, ar_540, ar_541, ar_542, ar_543, ar_544, ar_545, ar_546, ar_547, ar_548, ar_549, ar_550, ar_551, ar_552, ar_553, ar_554, ar_555, ar_556, ar_557, ar_558, ex_eq, ex_ite, pm_bk_r, pm_bk_t, ol_nil, ol_one, true_and, and_true, false_and, and_false, reduceIte, Nat.reduceEqDiff, up_at, Nat.add_left_cancel_iff, show (69 : Int32) = nI 69 from rfl, q69, n69, h32]
      rw [hI2]
    cases er : e_E T false (p + 1) with
    | none =>
      refine ⟨fun x hx => (by cases hx), fun _ => ?_⟩
      obtain ⟨J, g1, g2⟩ := hX.2 er
      have g2' : ∀ q, (pm_C (d + 67) 97 [.ref 1, .int 0, .int 0] (Wm I2 k o) q ↔ q = (.inr 0, Wm J (k + 1) o)) := g2
      refine ⟨J, F2.trans g1.fu.fh, fun q => ?_⟩
      rw [hopen]
      simp only [g2', ex_eq, ex_ite, pm_bk_r, pm_bk_t, ol_nil, ol_one, true_and, and_true, false_and, and_false, reduceIte, Nat.reduceEqDiff, up_at, Nat.add_left_cancel_iff]
    | some y =>
      obtain ⟨p', C⟩ := y
      obtain ⟨J, g1, g2, g3⟩ := hX.1 _ er
      have g3' : ∀ q, (pm_C (d + 67) 97 [.ref 1, .int 0, .int 0] (Wm I2 k o) q ↔ q = (.inl none, Wm J k o)) := g3
      have hg := e_expr_ok _ _ _ _ _ er
      have hg2 : p' ≤ T.length := hg.2.1
      have hg3 : C.length + (p + 1) ≤ p' := hg.2.2.1
      have hl : (K ++ C).length < 100000 := by rw [List.length_append]; omega
      have gE := g1.em (x := (17, 0))
      have h80 : ∀ q, (pm_C (d + 67) 80 [.ref 3, .int 17, .int 0] (Wm J k o) q ↔ q = (.inl none, Wm (emI (K ++ C) (17, 0) J) k o)) := fun q => c80 (d := d + 66) (z := 17) (a := 0) g1.2.2.1 hl
      have q59 : ∀ q, (pm_C (d + 67) 102 [.ref 1, .int (nI 59)] (Wm (emI (K ++ C) (17, 0) J) k o) q ↔ if nx T p' = 59 then q = (.inl none, Wm (adv (emI (K ++ C) (17, 0) J) (p' + 1)) k o) else q = (.inr 0, Wm (emI (K ++ C) (17, 0) J) (k + 1) o)) := fun q => c102 (d := d + 65) hT gE.1 gE.2.1 (by omega) (by omega)
      have hopen2 : ∀ q, (pm_R (d + 67) 94 105 [some (.ref 1), y1, y2] [] (Wm I k o) q ↔ ∃ r, pm_C (d + 67) 102 [.ref 1, .int (nI 59)] (Wm (emI (K ++ C) (17, 0) J) k o) r ∧ pm_bk (fun v M' => pm_R (d + 67) 94 152 [some (.ref 1), y1, y2] (v.toList ++ []) M' q) (fun k M' => q = (.inr k, M')) r) := by
        intro q
        rw [hopen]
        simp only [g3', ex_eq, ex_ite, pm_bk_r, pm_bk_t, ol_nil, ol_one, true_and, and_true, false_and, and_false, reduceIte, Nat.reduceEqDiff, up_at, Nat.add_left_cancel_iff, q94_136, q94_137, q94_140, q94_142, q94_143, q94_146, q94_147, q94_149, W_1, W_I, W_mk, W_tk, pm_rv, rf_0_0, rf_0_1, rf_0_2, rf_0_3, rf_0_4, rf_0_7, rf_0_8, rf_1_0, rf_1_2, rf_3_0, rf_3_1, rf_3_6, rf_3_7, rf_3_8, rf_9_0, rf_9_1, rf_10_0, rf_10_1, rf_10_6, rf_10_7, rf_10_8, rf_17_0, rf_17_1, rf_538_2, rf_538_6, rf_538_7, rf_538_9, rf_538_11, rf_538_12, rf_538_18, rf_538_19, rf_538_22, rf_538_23, rf_538_25, rf_538_27, rf_538_28, rf_538_30, rf_538_31, rf_538_32, rf_538_33, rf_538_34, rf_538_35, rf_538_36, ob_0, ob_1, ob_3, ob_9, ob_10, ob_17, ob_538, ar_2, ar_4, ar_5, ar_6, ar_7, ar_8, ar_11, ar_12, ar_13, ar_14, ar_15, ar_16, ar_116, ar_117, ar_539, ar_540, ar_541, ar_542, ar_543, ar_544, ar_545, ar_546, ar_547, ar_548, ar_549, ar_550, ar_551, ar_552, ar_553, ar_554, ar_555, ar_556, ar_557, ar_558, h80, show (59 : Int32) = nI 59 from rfl]
      have F3 : FH I (emI (K ++ C) (17, 0) J) := (F2.trans g2.fu.fh).trans FD.em.fu.fh
      simp only []
      by_cases n59 : nx T p' = 59
      · have hlt2 := nx_lt (T := T) (p := p') (by omega)
        have gA : RD T (p' + 1) (K ++ C ++ [(17, 0)]) false (adv (emI (K ++ C) (17, 0) J) (p' + 1)) := gE.ad
        have FA : FD I2 (adv (emI (K ++ C) (17, 0) J) (p' + 1)) := (g2.trans FD.em).trans FD.adv
        have elt : (nI (p' + 1) < nI T.length) ↔ p' + 1 < T.length := sm_lt (by omega) (by omega)
        by_cases hend : T.length ≤ p' + 1
        · rw [if_pos ⟨n59, hend⟩]
          refine ⟨fun G hx => ?_, fun hx => (by cases hx)⟩
          injection hx with hx
          subst hx
          refine ⟨_, ⟨gA.2.2.1, ?_, ?_, ?_, ?_⟩, F3.trans FD.adv.fu.fh, fun q => ?_⟩
          · rw [FA _ _ (by omega) (by omega) (by omega) (by omega), s2 _ _ (by omega)]; exact h33
          · rw [FA _ _ (by omega) (by omega) (by omega) (by omega), s2 _ _ (by omega)]; exact h34
          · refine RR.fd ⟨?_, fun r hr => ?_⟩ FA
            · rw [s2 _ _ (by omega)]; exact hR.1
            · rw [s2 _ _ (by omega), s2 _ _ (by omega), s2 _ _ (by omega)]; exact hR.2 r hr
          · rw [FA _ _ (by omega) (by omega) (by omega) (by omega), hI2, up_eq]
          · rw [hopen2]
            simp only [q59, n59, ex_eq, ex_ite, pm_bk_r, pm_bk_t, ol_nil, ol_one, true_and, and_true, false_and, and_false, reduceIte, Nat.reduceEqDiff, up_at, Nat.add_left_cancel_iff, q94_152, q94_153, q94_156, q94_157, q94_160, q94_173, W_1, W_I, W_mk, W_tk, pm_rv, rf_0_0, rf_0_1, rf_0_2, rf_0_3, rf_0_4, rf_0_7, rf_0_8, rf_1_0, rf_1_2, rf_3_0, rf_3_1, rf_3_6, rf_3_7, rf_3_8, rf_9_0, rf_9_1, rf_10_0, rf_10_1, rf_10_6, rf_10_7, rf_10_8, rf_17_0, rf_17_1, rf_538_2, rf_538_6, rf_538_7, rf_538_9, rf_538_11, rf_538_12, rf_538_18, rf_538_19, rf_538_22, rf_538_23, rf_538_25, rf_538_27, rf_538_28, rf_538_30, rf_538_31, rf_538_32, rf_538_33, rf_538_34, rf_538_35, rf_538_36, ob_0, ob_1, ob_3, ob_9, ob_10, ob_17, ob_538, ar_2, ar_4, ar_5, ar_6, ar_7, ar_8, ar_11, ar_12, ar_13, ar_14, ar_15, ar_16, ar_116, ar_117, ar_539, ar_540, ar_541, ar_542, ar_543, ar_544, ar_545, ar_546, ar_547, ar_548, ar_549, ar_550, ar_551, ar_552, ar_553, ar_554, ar_555, ar_556, ar_557, ar_558, gA.2.1, gA.1.1, elt, show (p' + 1 < T.length) ↔ False from iff_false_intro (by omega)]
        · rw [if_neg (fun q => hend q.2)]
          refine ⟨fun x hx => (by cases hx), fun _ => ⟨_, F3.trans (FD.adv (p := p' + 1)).fu.fh, fun q => ?_⟩⟩
          rw [hopen2]
          simp only [q59, n59, ex_eq, ex_ite, pm_bk_r, pm_bk_t, ol_nil, ol_one, true_and, and_true, false_and, and_false, reduceIte, Nat.reduceEqDiff, up_at, Nat.add_left_cancel_iff, q94_152, q94_153, q94_156, q94_157, q94_160, q94_163, W_1, W_I, W_mk, W_tk, pm_rv, rf_0_0, rf_0_1, rf_0_2, rf_0_3, rf_0_4, rf_0_7, rf_0_8, rf_1_0, rf_1_2, rf_3_0, rf_3_1, rf_3_6, rf_3_7, rf_3_8, rf_9_0, rf_9_1, rf_10_0, rf_10_1, rf_10_6, rf_10_7, rf_10_8, rf_17_0, rf_17_1, rf_538_2, rf_538_6, rf_538_7, rf_538_9, rf_538_11, rf_538_12, rf_538_18, rf_538_19, rf_538_22, rf_538_23, rf_538_25, rf_538_27, rf_538_28, rf_538_30, rf_538_31, rf_538_32, rf_538_33, rf_538_34, rf_538_35, rf_538_36, ob_0, ob_1, ob_3, ob_9, ob_10, ob_17, ob_538, ar_2, ar_4, ar_5, ar_6, ar_7, ar_8, ar_11, ar_12, ar_13, ar_14, ar_15, ar_16, ar_116, ar_117, ar_539, ar_540, ar_541, ar_542, ar_543, ar_544, ar_545, ar_546, ar_547, ar_548, ar_549, ar_550, ar_551, ar_552, ar_553, ar_554, ar_555, ar_556, ar_557, ar_558, gA.2.1, gA.1.1, elt, show (p' + 1 < T.length) ↔ True from iff_true_intro (by omega), W_tk]
      · rw [if_neg (fun q => n59 q.1)]
        refine ⟨fun x hx => (by cases hx), fun _ => ⟨_, F3, fun q => ?_⟩⟩
        rw [hopen2]
        simp only [q59, n59, ex_eq, ex_ite, pm_bk_r, pm_bk_t, ol_nil, ol_one, true_and, and_true, false_and, and_false, reduceIte, Nat.reduceEqDiff, up_at, Nat.add_left_cancel_iff]
  · rw [if_neg n69]
    refine ⟨fun x hx => (by cases hx), fun _ => ⟨I, fun _ _ _ _ => rfl, fun q => ?_⟩⟩
    simp only [q94_105, q94_106, q94_108, W_1, W_I, W_mk, W_tk, pm_rv, rf_0_0, rf_0_1, rf_0_2, rf_0_3, rf_0_4, rf_0_7, rf_0_8, rf_1_0, rf_1_2, rf_3_0, rf_3_1, rf_3_6, rf_3_7, rf_3_8, rf_9_0, rf_9_1, rf_10_0, rf_10_1, rf_10_6, rf_10_7, rf_10_8, rf_17_0, rf_17_1, rf_538_2, rf_538_6, rf_538_7, rf_538_9, rf_538_11, rf_538_12, rf_538_18, rf_538_19, rf_538_22, rf_538_23, rf_538_25, rf_538_27, rf_538_28, rf_538_30, rf_538_31, rf_538_32, rf_538_33, rf_538_34, rf_538_35, rf_538_36, ob_0, ob_1, ob_3, ob_9, ob_10, ob_17, ob_538, ar_2, ar_4, ar_5, ar_6, ar_7, ar_8, ar_11, ar_12, ar_13, ar_14, ar_15, ar_16, ar_116, ar_117, ar_539, ar_540, ar_541, ar_542, ar_543, ar_544, ar_545, ar_546, ar_547, ar_548, ar_549, ar_550, ar_551, ar_552, ar_553, ar_554, ar_555, ar_556, ar_557, ar_558, ex_eq, ex_ite, pm_bk_r, pm_bk_t, ol_nil, ol_one, true_and, and_true, false_and, and_false, reduceIte, Nat.reduceEqDiff, up_at, Nat.add_left_cancel_iff, show (69 : Int32) = nI 69 from rfl, q69, n69]
/-- a whole text -/
theorem c94 {T : List Nat} (hT : TX T) {I : Nat → Nat → Int32} (h : RT T I) :
    (∀ G, e_game T = some G → ∃ J, DG G J ∧ FH I J ∧ ∀ q, (pm_C (d + 68) 94 [.ref 1] (Wm I k o) q ↔ q = (.inl none, Wm J k o))) ∧
    (e_game T = none → ∃ J, FH I J ∧ ∀ q, (pm_C (d + 68) 94 [.ref 1] (Wm I k o) q ↔ q = (.inr 0, Wm J (k + 1) o))) := by
  have h240 := hT.1
  obtain ⟨I0, hI0⟩ : ∃ I0, I0 = pm_up (pm_up (adv I 0) 3 2 0) 3 5 0 := ⟨_, rfl⟩
  have F0 : FH I I0 := fun x j a b => by
    rw [hI0]
    unfold adv
    rw [up_ne (by omega), up_ne (by omega), up_ne (by omega)]
  have A0 : RB T 0 [] I0 := by
    rw [hI0]
    unfold adv
    refine ⟨⟨?_, fun i hi => ?_⟩, ?_, ?_, fun j hj => (by simp at hj)⟩
    · rw [up_ne (by omega), up_ne (by omega), up_ne (by omega)]; exact h.1
    · rw [up_ne (by omega), up_ne (by omega), up_ne (by omega)]; exact h.2 i hi
    · rw [up_ne (by omega), up_ne (by omega), up_eq]
    · rw [up_ne (by omega), up_eq]; rfl
  have R0 : RR [] I0 := ⟨by rw [hI0, up_eq]; rfl, fun r hr => by simp at hr⟩
  have FA : ∀ p, FH I0 (adv I0 p) := fun p => FD.adv.fu.fh
  have q68 : ∀ q, (pm_C (d + 67) 102 [.ref 1, .int (nI 68)] (Wm I0 k o) q ↔ if nx T 0 = 68 then q = (.inl none, Wm (adv I0 1) k o) else q = (.inr 0, Wm I0 (k + 1) o)) := fun q => c102 (d := d + 65) (p := 0) hT A0.1 A0.2.1 (by omega) (by omega)
  have d4 : ∀ q, (pm_C (d + 67) 101 [.ref 1, .int (nI 4)] (Wm (adv I0 1) k o) q ↔ if 49 ≤ nx T 1 ∧ nx T 1 ≤ 52 then q = (.inl (some (.int (nI (nx T 1 - 48)))), Wm (adv I0 2) k o) else q = (.inr 0, Wm (adv I0 1) (k + 1) o)) := fun q => by
    have := c101 (d := d + 65) (k := k) (o := o) (q := q) (p := 1) (m := 4) hT (RT.ad (p := 1) A0.1) adv_p (by omega) (by omega)
    rw [adv_adv] at this
    exact this
  have d6 : ∀ q, (pm_C (d + 67) 101 [.ref 1, .int (nI 6)] (Wm (adv I0 2) k o) q ↔ if 49 ≤ nx T 2 ∧ nx T 2 ≤ 54 then q = (.inl (some (.int (nI (nx T 2 - 48)))), Wm (adv I0 3) k o) else q = (.inr 0, Wm (adv I0 2) (k + 1) o)) := fun q => by
    have := c101 (d := d + 65) (k := k) (o := o) (q := q) (p := 2) (m := 6) hT (RT.ad (p := 2) A0.1) adv_p (by omega) (by omega)
    rw [adv_adv] at this
    exact this
  have hopen : ∀ q, (pm_C (d + 68) 94 [.ref 1] (Wm I k o) q ↔ ∃ r, pm_C (d + 67) 102 [.ref 1, .int (nI 68)] (Wm I0 k o) r ∧ pm_bk (fun v M' => pm_R (d + 67) 94 27 [some (.ref 1), none, none] (v.toList ++ []) M' q) (fun k M' => q = (.inr k, M')) r) := by
    intro q
    rw [n94]
    simp only [q94_0, q94_1, q94_2, q94_5, q94_6, q94_9, q94_10, q94_13, q94_14, q94_17, q94_18, q94_21, q94_22, q94_24, W_1, W_I, W_mk, W_tk, pm_rv, rf_0_0, rf_0_1, rf_0_2, rf_0_3, rf_0_4, rf_0_7, rf_0_8, rf_1_0, rf_1_2, rf_3_0, rf_3_1, rf_3_6, rf_3_7, rf_3_8, rf_9_0, rf_9_1, rf_10_0, rf_10_1, rf_10_6, rf_10_7, rf_10_8, rf_17_0, rf_17_1, rf_538_2, rf_538_6, rf_538_7, rf_538_9, rf_538_11, rf_538_12, rf_538_18, rf_538_19, rf_538_22, rf_538_23, rf_538_25, rf_538_27, rf_538_28, rf_538_30, rf_538_31, rf_538_32, rf_538_33, rf_538_34, rf_538_35, rf_538_36, ob_0, ob_1, ob_3, ob_9, ob_10, ob_17, ob_538, ar_2, ar_4, ar_5, ar_6, ar_7, ar_8, ar_11, ar_12, ar_13, ar_14, ar_15, ar_16, ar_116, ar_117, ar_539, ar_540, ar_541, ar_542, ar_543, ar_544, ar_545, ar_546, ar_547, ar_548, ar_549, ar_550, ar_551, ar_552, ar_553, ar_554, ar_555, ar_556, ar_557, ar_558, ex_eq, ex_ite, pm_bk_r, pm_bk_t, ol_nil, ol_one, true_and, and_true, false_and, and_false, reduceIte, Nat.reduceEqDiff, up_at, Nat.add_left_cancel_iff, show (68 : Int32) = nI 68 from rfl]
    rw [hI0]
    exact Iff.rfl
  show (∀ G, e_game T = some G → _) ∧ (e_game T = none → _)
  unfold e_game
  by_cases n68 : nx T 0 = 68
  · by_cases n4 : 49 ≤ nx T 1 ∧ nx T 1 ≤ 52
    · by_cases n6 : 49 ≤ nx T 2 ∧ nx T 2 ≤ 54
      · obtain ⟨I3, hI3⟩ : ∃ I3, I3 = pm_up (pm_up (adv I0 3) 3 4 (nI (nx T 2 - 48))) 3 3 (nI ((nx T 1 - 48) * (nx T 2 - 48))) := ⟨_, rfl⟩
        have s3 : ∀ x j, ¬ (x = 1 ∧ j = 3) → ¬ (x = 3 ∧ (j = 3 ∨ j = 4)) → I3 x j = I0 x j := fun x j a b => by
          rw [hI3]
          unfold adv
          rw [up_ne (by omega), up_ne (by omega), up_ne (by omega)]
        have F3 : FH I I3 := F0.trans (fun x j a b => s3 x j (by omega) (by omega))
        have p3 : I3 1 3 = nI 3 := by
          rw [hI3]
          unfold adv
          rw [up_ne (by omega), up_ne (by omega), up_eq]
        have T3 : RT T I3 := ⟨by rw [s3 _ _ (by omega) (by omega)]; exact A0.1.1, fun i hi => by rw [s3 _ _ (by omega) (by omega)]; exact A0.1.2 i hi⟩
        have q59 : ∀ q, (pm_C (d + 67) 102 [.ref 1, .int (nI 59)] (Wm I3 k o) q ↔ if nx T 3 = 59 then q = (.inl none, Wm (adv I3 4) k o) else q = (.inr 0, Wm I3 (k + 1) o)) := fun q => c102 (d := d + 65) (p := 3) hT T3 p3 (by omega) (by omega)
        have emul : nI (nx T 1 - 48) * nI (nx T 2 - 48) = nI ((nx T 1 - 48) * (nx T 2 - 48)) := sm_mul _ _
        have hopen2 : ∀ q, (pm_C (d + 68) 94 [.ref 1] (Wm I k o) q ↔ ∃ r, pm_C (d + 67) 102 [.ref 1, .int (nI 59)] (Wm I3 k o) r ∧ pm_bk (fun v M' => pm_R (d + 67) 94 68 [some (.ref 1), some (.int (nI (nx T 1 - 48))), none] (v.toList ++ []) M' q) (fun k M' => q = (.inr k, M')) r) := by
          intro q
          rw [hopen]
          simp only [q68, n68, ex_eq, ex_ite, pm_bk_r, pm_bk_t, ol_nil, ol_one, true_and, and_true, false_and, and_false, reduceIte, Nat.reduceEqDiff, up_at, Nat.add_left_cancel_iff, q94_27, q94_28, q94_29, q94_32, q94_33, q94_34, q94_37, q94_38, q94_40, q94_43, q94_46, q94_47, q94_50, q94_51, q94_52, q94_55, q94_58, q94_59, q94_62, q94_63, q94_65, W_1, W_I, W_mk, W_tk, pm_rv, rf_0_0, rf_0_1, rf_0_2, rf_0_3, rf_0_4, rf_0_7, rf_0_8, rf_1_0, rf_1_2, rf_3_0, rf_3_1, rf_3_6, rf_3_7, rf_3_8, rf_9_0, rf_9_1, rf_10_0, rf_10_1, rf_10_6, rf_10_7, rf_10_8, rf_17_0, rf_17_1, rf_538_2, rf_538_6, rf_538_7, rf_538_9, rf_538_11, rf_538_12, rf_538_18, rf_538_19, rf_538_22, rf_538_23, rf_538_25, rf_538_27, rf_538_28, rf_538_30, rf_538_31, rf_538_32, rf_538_33, rf_538_34, rf_538_35, rf_538_36, ob_0, ob_1, ob_3, ob_9, ob_10, ob_17, ob_538, ar_2, ar_4, ar_5, ar_6, ar_7, ar_8, ar_11, ar_12, ar_13, ar_14, ar_15, ar_16, ar_116, ar_117, ar_539, ar_540, ar_541, ar_542, ar_543, ar_544, ar_545, ar_546, ar_547, ar_548, ar_549, ar_550, ar_551, ar_552, ar_553, ar_554, ar_555, ar_556, ar_557, ar_558, show (4 : Int32) = nI 4 from rfl, d4, n4, show (6 : Int32) = nI 6 from rfl, d6, n6, emul, show (59 : Int32) = nI 59 from rfl]
          rw [hI3]
        by_cases n59 : nx T 3 = 59
        · rw [if_pos ⟨n68, n4, n6, n59⟩]
          have hlt := nx_lt (T := T) (p := 3) (by omega)
          have B4 : RB T 4 [] (adv I3 4) := ⟨T3.ad, adv_p, ⟨by unfold adv; rw [up_ne (by omega), s3 _ _ (by omega) (by omega)]; exact A0.2.2.1, fun j hj => (by simp at hj)⟩⟩
          have R4 : RR [] (adv I3 4) := ⟨by unfold adv; rw [up_ne (by omega), s3 _ _ (by omega) (by omega)]; exact R0.1, fun r hr => by simp at hr⟩
          have F4 : FH I (adv I3 4) := F3.trans FD.adv.fu.fh
          have hr := c94_l (d := d) (k := k) (o := o) (y1 := some (.int (nI (nx T 1 - 48)))) hT 8 4 [] [] (adv I3 4) rfl B4 R4 (by simp) (by omega)
          rw [show nI ([] : List (Bool × Nat × Nat)).length = (0 : Int32) from rfl] at hr
          have hopen3 : ∀ q, (pm_C (d + 68) 94 [.ref 1] (Wm I k o) q ↔ pm_R (d + 67) 94 70 [some (.ref 1), some (.int (nI (nx T 1 - 48))), some (.int 0)] [] (Wm (adv I3 4) k o) q) := by
            intro q
            rw [hopen2]
            simp only [q59, n59, ex_eq, ex_ite, pm_bk_r, pm_bk_t, ol_nil, ol_one, true_and, and_true, false_and, and_false, reduceIte, Nat.reduceEqDiff, up_at, Nat.add_left_cancel_iff, q94_68, q94_69]
          cases er : e_rules T 8 4 [] [] with
          | none =>
            refine ⟨fun x hx => (by cases hx), fun _ => ?_⟩
            obtain ⟨J, g1, g2⟩ := hr.2 er
            exact ⟨J, F4.trans g1.fh, fun q => (hopen3 q).trans (g2 q)⟩
          | some x =>
            obtain ⟨J, g1, g2, g3, g4, g5, g6⟩ := hr.1 x er
            have h33 : J 3 3 = nI ((nx T 1 - 48) * (nx T 2 - 48)) := by
              rw [g5 _ _ (by omega) (by omega) (by omega)]
              unfold adv
              rw [up_ne (by omega), hI3, up_eq]
            have h34 : J 3 4 = nI (nx T 2 - 48) := by
              rw [g5 _ _ (by omega) (by omega) (by omega)]
              unfold adv
              rw [up_ne (by omega), hI3, up_ne (by omega), up_eq]
            have ht := c94_t (d := d) (k := k) (o := o) (y1 := some (.int (nI (nx T 1 - 48)))) (y2 := some (.int (nI x.2.2.length))) hT g1 g2 g3 g4 h33 h34
            simp only []
            refine ⟨fun G hx => ?_, fun hx => ?_⟩
            · obtain ⟨J', f1, f2, f3⟩ := ht.1 G hx
              exact ⟨J', f1, (F4.trans g5.fh).trans f2, fun q => ((hopen3 q).trans (g6 q)).trans (f3 q)⟩
            · obtain ⟨J', f1, f2⟩ := ht.2 hx
              exact ⟨J', (F4.trans g5.fh).trans f1, fun q => ((hopen3 q).trans (g6 q)).trans (f2 q)⟩
        · rw [if_neg (fun q => n59 q.2.2.2)]
          refine ⟨fun x hx => (by cases hx), fun _ => ⟨_, F3, fun q => ?_⟩⟩
          rw [hopen2]
          simp only [q59, n59, ex_eq, ex_ite, pm_bk_r, pm_bk_t, ol_nil, ol_one, true_and, and_true, false_and, and_false, reduceIte, Nat.reduceEqDiff, up_at, Nat.add_left_cancel_iff]
      · rw [if_neg (fun q => n6 q.2.2.1)]
        refine ⟨fun x hx => (by cases hx), fun _ => ⟨_, F0.trans (FA 2), fun q => ?_⟩⟩
        rw [hopen]
        simp only [q68, n68, ex_eq, ex_ite, pm_bk_r, pm_bk_t, ol_nil, ol_one, true_and, and_true, false_and, and_false, reduceIte, Nat.reduceEqDiff, up_at, Nat.add_left_cancel_iff, q94_27, q94_28, q94_29, q94_32, q94_33, q94_34, q94_37, q94_38, q94_40, W_1, W_I, W_mk, W_tk, pm_rv, rf_0_0, rf_0_1, rf_0_2, rf_0_3, rf_0_4, rf_0_7, rf_0_8, rf_1_0, rf_1_2, rf_3_0, rf_3_1, rf_3_6, rf_3_7, rf_3_8, rf_9_0, rf_9_1, rf_10_0, rf_10_1, rf_10_6, rf_10_7, rf_10_8, rf_17_0, rf_17_1, rf_538_2, rf_538_6, rf_538_7, rf_538_9, rf_538_11, rf_538_12, rf_538_18, rf_538_19, rf_538_22, rf_538_23, rf_538_25, rf_538_27, rf_538_28, rf_538_30, rf_538_31, rf_538_32, rf_538_33, rf_538_34, rf_538_35, rf_538_36, ob_0, ob_1, ob_3, ob_9, ob_10, ob_17, ob_538, ar_2, ar_4, ar_5, ar_6, ar_7, ar_8, ar_11, ar_12, ar_13, ar_14, ar_15, ar_16, ar_116, ar_117, ar_539, ar_540, ar_541, ar_542, ar_543, ar_544, ar_545, ar_546, ar_547, ar_548, ar_549, ar_550, ar_551, ar_552, ar_553, ar_554, ar_555, ar_556, ar_557, ar_558, show (4 : Int32) = nI 4 from rfl, d4, n4, show (6 : Int32) = nI 6 from rfl, d6, n6]
    · rw [if_neg (fun q => n4 q.2.1)]
      refine ⟨fun x hx => (by cases hx), fun _ => ⟨_, F0.trans (FA 1), fun q => ?_⟩⟩
      rw [hopen]
      simp only [q68, n68, ex_eq, ex_ite, pm_bk_r, pm_bk_t, ol_nil, ol_one, true_and, and_true, false_and, and_false, reduceIte, Nat.reduceEqDiff, up_at, Nat.add_left_cancel_iff, q94_27, q94_28, q94_29, q94_32, W_1, W_I, W_mk, W_tk, pm_rv, rf_0_0, rf_0_1, rf_0_2, rf_0_3, rf_0_4, rf_0_7, rf_0_8, rf_1_0, rf_1_2, rf_3_0, rf_3_1, rf_3_6, rf_3_7, rf_3_8, rf_9_0, rf_9_1, rf_10_0, rf_10_1, rf_10_6, rf_10_7, rf_10_8, rf_17_0, rf_17_1, rf_538_2, rf_538_6, rf_538_7, rf_538_9, rf_538_11, rf_538_12, rf_538_18, rf_538_19, rf_538_22, rf_538_23, rf_538_25, rf_538_27, rf_538_28, rf_538_30, rf_538_31, rf_538_32, rf_538_33, rf_538_34, rf_538_35, rf_538_36, ob_0, ob_1, ob_3, ob_9, ob_10, ob_17, ob_538, ar_2, ar_4, ar_5, ar_6, ar_7, ar_8, ar_11, ar_12, ar_13, ar_14, ar_15, ar_16, ar_116, ar_117, ar_539, ar_540, ar_541, ar_542, ar_543, ar_544, ar_545, ar_546, ar_547, ar_548, ar_549, ar_550, ar_551, ar_552, ar_553, ar_554, ar_555, ar_556, ar_557, ar_558, show (4 : Int32) = nI 4 from rfl, d4, n4]
  · rw [if_neg (fun q => n68 q.1)]
    refine ⟨fun x hx => (by cases hx), fun _ => ⟨_, F0, fun q => ?_⟩⟩
    rw [hopen]
    simp only [q68, n68, ex_eq, ex_ite, pm_bk_r, pm_bk_t, ol_nil, ol_one, true_and, and_true, false_and, and_false, reduceIte, Nat.reduceEqDiff, up_at, Nat.add_left_cancel_iff]
end RGN
