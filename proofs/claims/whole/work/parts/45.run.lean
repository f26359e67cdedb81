/-! THE CLASS: Machine.doEffect, Machine.run -/
/-- the cards 0 .. N - 1 lie, each once -/
def PA (N : Nat) (P : Pos) : Prop := PD P ∧ (∀ x, x < N ↔ ∃ p, p < 6 ∧ x ∈ P.1 p) ∧ N ≤ 24 ∧ P.2.2.2 < 2
def CH (N : Nat) (c : Int32) : Prop := c = -1 ∨ ∃ x, x < N ∧ c = nI x
theorem PA.go {N c p : Nat} {P : Pos} (h : PA N P) (hc : c < N) (hp : p < 6) : PA N (a_go P c p) := by
  refine ⟨h.1.go (by have := h.2.2.1; omega), fun x => ?_, h.2.2.1, h.2.2.2⟩
  rw [h.2.1 x]
  have key : ∀ r, x ∈ (a_go P c p).1 r ↔ (x = c ∧ r = p) ∨ (x ≠ c ∧ x ∈ P.1 r) := by
    intro r
    show x ∈ (if r = p then a_fil c (P.1 r) ++ [c] else a_fil c (P.1 r)) ↔ _
    split
    · rename_i e
      rw [List.mem_append, a_fil_mem, List.mem_singleton]
      constructor
      · rintro (⟨h1, h2⟩ | h1)
        · exact Or.inr ⟨h2, h1⟩
        · exact Or.inl ⟨h1, e⟩
      · rintro (⟨h1, -⟩ | ⟨h1, h2⟩)
        · exact Or.inr h1
        · exact Or.inl ⟨h2, h1⟩
    · rename_i e
      rw [a_fil_mem]
      constructor
      · rintro ⟨h1, h2⟩
        exact Or.inr ⟨h2, h1⟩
      · rintro (⟨-, h1⟩ | ⟨h1, h2⟩)
        · exact absurd h1 e
        · exact ⟨h2, h1⟩
  constructor
  · rintro ⟨r, hr, hx⟩
    by_cases e : x = c
    · exact ⟨p, hp, (key p).mpr (Or.inl ⟨e, rfl⟩)⟩
    · exact ⟨r, hr, (key r).mpr (Or.inr ⟨e, hx⟩)⟩
  · rintro ⟨r, hr, hx⟩
    rcases (key r).mp hx with ⟨e1, e2⟩ | ⟨e1, e2⟩
    · subst e1
      exact (h.2.1 x).mp hc
    · exact ⟨r, hr, e2⟩
theorem m1_neg : (-1 : Int32) < 0 := by decide
theorem a_card_spec {N s z : Nat} {c : Int32} {P : Pos} (h : PA N P) (hs : s < 2) (hc : CH N c) : a_card P s c z = -1 ∨ ∃ x p, x < N ∧ p < 6 ∧ x ∈ P.1 p ∧ a_card P s c z = nI x := by
  unfold a_card
  split
  · rcases hc with hc | ⟨x, hx, hc⟩
    · exact Or.inl hc
    · obtain ⟨p, hp, hm⟩ := (h.2.1 x).mp hx
      exact Or.inr ⟨x, p, hx, hp, hm, hc⟩
  · have hp := a_place_lt (z := z) hs
    unfold a_top
    cases e : (P.1 (a_place z s)).getLast? with
    | none => exact Or.inl rfl
    | some x =>
      have hm := List.mem_of_getLast? e
      exact Or.inr ⟨x, _, (h.2.1 x).mpr ⟨_, hp, hm⟩, hp, hm, rfl⟩
def FR (t : Nat) (I J : Nat → Nat → Int32) : Prop := ∀ x j, x ≠ 16 → ¬ (x = 9 ∧ j = 2) → (x < t ∨ t + 6 < x) → J x j = I x j
theorem FR.refl {t : Nat} {I : Nat → Nat → Int32} : FR t I I := fun _ _ _ _ _ => rfl
theorem FR.trans {t : Nat} {I J K : Nat → Nat → Int32} (h1 : FR t I J) (h2 : FR t J K) : FR t I K := fun x j a b c => (h2 x j a b c).trans (h1 x j a b c)
theorem tb_16 {t : Nat} (h : tb t) : 16 < t := by rcases h with rfl | ⟨h, hh, rfl⟩ | ⟨h, hh, rfl⟩ <;> omega
theorem TR.fr9 {t : Nat} (ht : tb t) {P : Pos} {I : Nat → Nat → Int32} (h : TR t P I) (x : Int32) : TR t P (pm_up I 9 2 x) := h.congr (up_ne (fun q => by have := tb_16 ht; omega)) (fun y h1 h2 => by funext j; exact up_ne (fun q => by have := tb_16 ht; omega))
theorem TR.fr16 {t : Nat} (ht : tb t) {P : Pos} {I : Nat → Nat → Int32} (h : TR t P I) (x : Int32) (i : Nat) : TR t P (pm_up I 16 i x) := h.congr (up_ne (fun q => by have := tb_16 ht; omega)) (fun y h1 h2 => by funext j; exact up_ne (fun q => by have := tb_16 ht; omega))
theorem SR.fr {S : List Int32} {I J : Nat → Nat → Int32} (h : SR S I) (h1 : J 9 2 = I 9 2) (h2 : J 16 = I 16) : SR S J := by
  unfold SR
  rw [h1, h2]
  exact h
theorem FR.up9 {t : Nat} {I : Nat → Nat → Int32} {x : Int32} : FR t I (pm_up I 9 2 x) := fun y j _ h _ => up_ne h
theorem FR.up16 {t i : Nat} {I : Nat → Nat → Int32} {x : Int32} : FR t I (pm_up I 16 i x) := fun y j h _ _ => up_ne (fun q => h q.1)
theorem up_row {I : Nat → Nat → Int32} {a i b : Nat} {x : Int32} (h : b ≠ a) : pm_up I a i x b = I b := by funext j; exact up_ne (fun q => h q.1)
theorem TR.upd {t : Nat} {P P' : Pos} {I J : Nat → Nat → Int32} (h : TR t P I) (hp : P'.1 = P.1) (r1 : J (t + 1) = I (t + 1)) (r2 : J (t + 2) = I (t + 2)) (r3 : J (t + 3) = I (t + 3)) (r4 : J (t + 4) = I (t + 4)) (h5 : ∀ j, j < 4 → J (t + 5) j = P'.2.1 j) (h6 : ∀ j, j < 2 → J (t + 6) j = P'.2.2.1 j) (h0 : J t 6 = nI P'.2.2.2) : TR t P' J := by
  obtain ⟨g1, g2, g3, g4, g5, g6⟩ := h
  refine ⟨?_, ?_, ?_, h5, h6, h0⟩
  · rw [hp, r2, r3, r4]; exact g1
  · rw [hp, r1]; exact g2
  · rw [hp, r1, r2]; exact g3
section RUN2
variable {d k t : Nat} {o : Int64} {q : pm_Res}
theorem c90 (ht : tb t) {I : Nat → Nat → Int32} {P : Pos} {N rk s z a : Nat} {c : Int32} {S : List Int32} (h : TR t P I) (hP : PA N P) (hS : SR S I) (hs : s < 2) (hc : CH N c) (hz : 13 ≤ z) (hz2 : z ≤ 16) (ha : a_arg z a = true) (h1 : z = 14 ∨ z = 15 → 1 ≤ S.length) (hl : S.length ≤ 160) :
    ∃ J, TR t (a_step rk s c z a S P).2 J ∧ SR (a_step rk s c z a S P).1 J ∧ PA N (a_step rk s c z a S P).2 ∧ FR t I J ∧ ∀ q, (pm_C (d + 3) 90 [.ref 9, .int (nI z), .int (nI a), .ref t, .int (nI s), .int c] (Wm I k o) q ↔ q = (.inl none, Wm J k o)) := by
  have h16 := tb_16 ht
  have hN := hP.2.2.1
  rcases (show z = 13 ∨ z = 14 ∨ z = 15 ∨ z = 16 by omega) with rfl | rfl | rfl | rfl
  · -- MOVE
    have ha2 : a / 8 < 7 ∧ a % 8 < 6 := by simpa [a_arg] using ha
    have hst : a_step rk s c 13 a S P = if a_card P s c (a / 8) < 0 then (S, P) else (S, a_go P (a_card P s c (a / 8)).toNatClampNeg (a_place (a % 8) s)) := by
      unfold a_step
      rw [if_neg (by decide), if_neg (by decide), if_neg (by decide), if_pos rfl]
    have hdv : nI a / 8 = nI (a / 8) := by
      rw [show (8 : Int32) = nI 8 from rfl]
      exact sm_div (by omega) (by omega)
    have hrm : nI a - nI (a / 8) * 8 = nI (a % 8) := by
      rw [show (8 : Int32) = nI 8 from rfl, sm_mul, sm_sub (by omega)]
      congr 1; omega
    have hpl := a_place_lt (z := a / 8) hs
    have hp2 := a_place_lt (z := a % 8) hs
    have e1 : ∀ q, (pm_C (d + 3) 90 [.ref 9, .int (nI 13), .int (nI a), .ref t, .int (nI s), .int c] (Wm I k o) q ↔ pm_R (d + 2) 90 57 [some (.ref 9), some (.int (nI 13)), some (.int (nI a)), some (.ref t), some (.int (nI s)), some (.int c), some (.int (nI (a / 8))), none] [.int (a_card P s c (a / 8))] (Wm I k o) q) := by
      intro q
      rw [n90]
      simp (decide := true) only [q90_0, q90_1, q90_28, q90_29, q90_31, q90_32, q90_34, q90_36, reduceIte, hdv, true_and, not_false_eq_true]
      by_cases e6 : a / 8 = 6
      · simp (decide := true) only [q90_38, e6, q90_41, q90_43, reduceIte, a_card]
      · have hne : (nI (a / 8) = 6) ↔ False := iff_false_intro (by rw [show (6 : Int32) = nI 6 from rfl, sm_inj (by omega) (by omega)]; exact e6)
        simp only [q90_38, hne, reduceIte, q90_46, q90_47, q90_49, q90_51, q90_54, ex_eq, ex_ite, pm_bk_r, pm_bk_t, ol_nil, ol_one, true_and, and_true, false_and, and_false, reduceIte, Nat.reduceEqDiff, up_at, Nat.add_left_cancel_iff, ob_t ht, c91 (show a / 8 < 6 by omega) hs, c135 ht hpl, h.top hpl, a_card, if_neg e6]
    rcases a_card_spec (z := a / 8) hP hs hc with hcd | ⟨x, f, hx, hf, hm, hcd⟩
    · rw [hst, hcd, if_pos m1_neg]
      refine ⟨I, h, hS, hP, FR.refl, fun q => ?_⟩
      rw [e1, hcd]
      simp only [q90_57, q90_59, q90_61, m1_neg, reduceIte, q90_115]
    · rw [hst, hcd, if_neg (sm_neg (by omega)), sm_cl (by omega)]
      refine ⟨rzI t x (a_place (a % 8) s) f I, h.raise hP.1 (by omega) hp2 hf hm, hS.fr (rz_fr (by omega)) (by funext j; exact rz_fr (by omega)), hP.go hx hp2, fun y j _ _ hy => rz_fr (by omega), fun q => ?_⟩
      rw [e1, hcd]
      simp only [q90_57, q90_59, q90_61, show (nI x < 0) ↔ False from iff_false_intro (sm_neg (by omega)), reduceIte, q90_64, q90_65, q90_67, q90_68, q90_70, show ¬ ((8 : Int32) = 0) from by decide, not_false_eq_true, hdv, hrm, q90_71, q90_73, ex_eq, ex_ite, pm_bk_r, pm_bk_t, ol_nil, ol_one, true_and, and_true, false_and, and_false, reduceIte, Nat.reduceEqDiff, up_at, Nat.add_left_cancel_iff, c91 ha2.2 hs, q90_76, ob_t ht, c112R ht h hP.1 (show x < 24 by omega) hp2 hf hm, q90_79, q90_115]
  · -- SET
    cases S with
    | nil => simp at h1
    | cons x S =>
      have ha4 : a < 4 := by simpa [a_arg] using ha
      have hl' : S.length < 160 := by simp at hl; omega
      refine ⟨pm_up (pm_up I 9 2 (nI S.length)) (t + 5) a x, ?_, ?_, hP, fun y j hy h9 hr => ?_, fun q => ?_⟩
      · have g := h.fr9 ht (nI S.length)
        refine g.upd (P' := (P.1, a_set P.2.1 a x, P.2.2)) rfl (up_row (by omega)) (up_row (by omega)) (up_row (by omega)) (up_row (by omega)) (fun j hj => ?_) (fun j hj => ?_) ?_
        · show _ = a_set P.2.1 a x j
          unfold a_set
          by_cases e : j = a
          · subst e; rw [up_eq, if_pos rfl]
          · rw [up_ne (fun q => e q.2), if_neg e]; exact g.2.2.2.1 j hj
        · rw [up_ne (fun q => by omega)]; exact g.2.2.2.2.1 j hj
        · rw [up_ne (fun q => by omega)]; exact g.2.2.2.2.2
      · exact hS.pop.fr (up_ne (fun q => by omega)) (by funext j; exact up_ne (fun q => by omega))
      · rw [up_ne (fun q => by omega), up_ne (fun q => h9 q)]
      · rw [n90]
        simp (decide := true) only [q90_0, q90_1, reduceIte, q90_82, q90_83, q90_84, q90_85, q90_88, q90_91, q90_115, W_1, W_I, W_mk, W_tk, pm_rv, rf_0_0, rf_0_1, rf_0_2, rf_0_3, rf_0_4, rf_0_7, rf_0_8, rf_1_0, rf_1_2, rf_3_0, rf_3_1, rf_3_6, rf_3_7, rf_3_8, rf_9_0, rf_9_1, rf_10_0, rf_10_1, rf_10_6, rf_10_7, rf_10_8, rf_17_0, rf_17_1, rf_538_2, rf_538_6, rf_538_7, rf_538_9, rf_538_11, rf_538_12, rf_538_18, rf_538_19, rf_538_22, rf_538_23, rf_538_25, rf_538_27, rf_538_28, rf_538_30, rf_538_31, rf_538_32, rf_538_33, rf_538_34, rf_538_35, rf_538_36, ob_0, ob_1, ob_3, ob_9, ob_10, ob_17, ob_538, ar_2, ar_4, ar_5, ar_6, ar_7, ar_8, ar_11, ar_12, ar_13, ar_14, ar_15, ar_16, ar_116, ar_117, ar_539, ar_540, ar_541, ar_542, ar_543, ar_544, ar_545, ar_546, ar_547, ar_548, ar_549, ar_550, ar_551, ar_552, ar_553, ar_554, ar_555, ar_556, ar_557, ar_558, ex_eq, ex_ite, pm_bk_r, pm_bk_t, ol_nil, ol_one, true_and, and_true, false_and, and_false, reduceIte, Nat.reduceEqDiff, up_at, Nat.add_left_cancel_iff, ob_t ht, c87 hS hl', c137 ht ha4]
  · -- SCORE
    cases S with
    | nil => simp at h1
    | cons x S =>
      have hl' : S.length < 160 := by simp at hl; omega
      have hsc := h.2.2.2.2.1 s hs
      refine ⟨pm_up (pm_up I 9 2 (nI S.length)) (t + 6) s (P.2.2.1 s + x), ?_, ?_, hP, fun y j hy h9 hr => ?_, fun q => ?_⟩
      · have g := h.fr9 ht (nI S.length)
        refine g.upd (P' := (P.1, P.2.1, a_set P.2.2.1 s (P.2.2.1 s + x), P.2.2.2)) rfl (up_row (by omega)) (up_row (by omega)) (up_row (by omega)) (up_row (by omega)) (fun j hj => ?_) (fun j hj => ?_) ?_
        · rw [up_ne (fun q => by omega)]; exact g.2.2.2.1 j hj
        · show _ = a_set P.2.2.1 s (P.2.2.1 s + x) j
          unfold a_set
          by_cases e : j = s
          · subst e; rw [up_eq, if_pos rfl]
          · rw [up_ne (fun q => e q.2), if_neg e]; exact g.2.2.2.2.1 j hj
        · rw [up_ne (fun q => by omega)]; exact g.2.2.2.2.2
      · exact hS.pop.fr (up_ne (fun q => by omega)) (by funext j; exact up_ne (fun q => by omega))
      · rw [up_ne (fun q => by omega), up_ne (fun q => h9 q)]
      · rw [n90]
        simp (decide := true) only [q90_0, q90_1, reduceIte, q90_94, q90_95, q90_97, q90_98, q90_101, q90_104, q90_115, W_1, W_I, W_mk, W_tk, pm_rv, rf_0_0, rf_0_1, rf_0_2, rf_0_3, rf_0_4, rf_0_7, rf_0_8, rf_1_0, rf_1_2, rf_3_0, rf_3_1, rf_3_6, rf_3_7, rf_3_8, rf_9_0, rf_9_1, rf_10_0, rf_10_1, rf_10_6, rf_10_7, rf_10_8, rf_17_0, rf_17_1, rf_538_2, rf_538_6, rf_538_7, rf_538_9, rf_538_11, rf_538_12, rf_538_18, rf_538_19, rf_538_22, rf_538_23, rf_538_25, rf_538_27, rf_538_28, rf_538_30, rf_538_31, rf_538_32, rf_538_33, rf_538_34, rf_538_35, rf_538_36, ob_0, ob_1, ob_3, ob_9, ob_10, ob_17, ob_538, ar_2, ar_4, ar_5, ar_6, ar_7, ar_8, ar_11, ar_12, ar_13, ar_14, ar_15, ar_16, ar_116, ar_117, ar_539, ar_540, ar_541, ar_542, ar_543, ar_544, ar_545, ar_546, ar_547, ar_548, ar_549, ar_550, ar_551, ar_552, ar_553, ar_554, ar_555, ar_556, ar_557, ar_558, ex_eq, ex_ite, pm_bk_r, pm_bk_t, ol_nil, ol_one, true_and, and_true, false_and, and_false, reduceIte, Nat.reduceEqDiff, up_at, Nat.add_left_cancel_iff, ob_t ht, c87 hS hl', c138 ht hs, hsc, show ¬ (t = 3 ∧ s = 2) from fun q => by omega]
  · -- TURN
    refine ⟨pm_up I t 6 (nI (1 - s)), ?_, ?_, ?_, fun y j hy h9 hr => ?_, fun q => ?_⟩
    · refine h.upd (P' := (P.1, P.2.1, P.2.2.1, 1 - s)) rfl (up_row (by omega)) (up_row (by omega)) (up_row (by omega)) (up_row (by omega)) (fun j hj => ?_) (fun j hj => ?_) up_eq
      · rw [up_ne (fun q => by omega)]; exact h.2.2.2.1 j hj
      · rw [up_ne (fun q => by omega)]; exact h.2.2.2.2.1 j hj
    · exact hS.fr (up_ne (fun q => by omega)) (by funext j; exact up_ne (fun q => by omega))
    · exact ⟨hP.1, hP.2.1, hP.2.2.1, show 1 - s < 2 by omega⟩
    · rw [up_ne (fun q => by omega)]
    · rw [n90]
      have e : (1 : Int32) - nI s = nI (1 - s) := by rw [show (1 : Int32) = nI 1 from rfl, sm_sub (by omega)]
      simp (decide := true) only [q90_0, q90_1, reduceIte, q90_107, q90_108, q90_109, q90_111, q90_112, q90_115, W_1, W_I, W_mk, W_tk, pm_rv, rf_0_0, rf_0_1, rf_0_2, rf_0_3, rf_0_4, rf_0_7, rf_0_8, rf_1_0, rf_1_2, rf_3_0, rf_3_1, rf_3_6, rf_3_7, rf_3_8, rf_9_0, rf_9_1, rf_10_0, rf_10_1, rf_10_6, rf_10_7, rf_10_8, rf_17_0, rf_17_1, rf_538_2, rf_538_6, rf_538_7, rf_538_9, rf_538_11, rf_538_12, rf_538_18, rf_538_19, rf_538_22, rf_538_23, rf_538_25, rf_538_27, rf_538_28, rf_538_30, rf_538_31, rf_538_32, rf_538_33, rf_538_34, rf_538_35, rf_538_36, ob_0, ob_1, ob_3, ob_9, ob_10, ob_17, ob_538, ar_2, ar_4, ar_5, ar_6, ar_7, ar_8, ar_11, ar_12, ar_13, ar_14, ar_15, ar_16, ar_116, ar_117, ar_539, ar_540, ar_541, ar_542, ar_543, ar_544, ar_545, ar_546, ar_547, ar_548, ar_549, ar_550, ar_551, ar_552, ar_553, ar_554, ar_555, ar_556, ar_557, ar_558, ob_t ht, rt_0 ht, at_0 ht, rt_1 ht, at_1 ht, rt_2 ht, at_2 ht, rt_3 ht, at_3 ht, rt_4 ht, at_4 ht, rt_5 ht, at_5 ht, ex_eq, ex_ite, pm_bk_r, pm_bk_t, ol_nil, ol_one, true_and, and_true, false_and, and_false, reduceIte, Nat.reduceEqDiff, up_at, Nat.add_left_cancel_iff, e]
end RUN2
