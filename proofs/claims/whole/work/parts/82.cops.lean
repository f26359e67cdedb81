/-! THE CLASS: its calls -/
def o_mv (S : AS) : List (Nat × Nat) := match S.2.1, S.2.2.1 with
  | some G, some P => a_list G P
  | _, _ => []
def o_comp (S : AS) : AS × (Int32 ⊕ Nat) := match e_game S.1 with
  | none => (S, .inr 0)
  | some G => if 160 < G.1.length then (S, .inr 3) else (([], some G, none, [], -1), .inl (nI G.1.length))
def o_in (i : Int32) (L : List (Nat × Nat)) : Option (Nat × Nat) := if ¬ i < 0 ∧ i < nI L.length then some (L.getD i.toNatClampNeg (0, 0)) else none
def o_move (S : AS) (i : Int32) (c : Bool) : Int32 ⊕ Nat := match o_in i (o_mv S) with
  | none => .inr 2
  | some m => .inl (if c = true then a_ch m.2 else nI m.1)
def o_act (S : AS) (i : Int32) : AS × (Int32 ⊕ Nat) := match o_in i (o_mv S), S.2.1, S.2.2.1 with
  | some m, some G, some P => if 60 ≤ S.2.2.2.1.length then (S, .inr 1) else ((S.1, some G, some (a_make G P m), S.2.2.2.1 ++ [P], -1), .inl (nI (S.2.2.2.1.length + 1)))
  | _, _, _ => (S, .inr 2)
def o_undo (S : AS) : AS := if S.2.2.2.1.length = 0 then S else (S.1, S.2.1, some (S.2.2.2.1.getD (S.2.2.2.1.length - 1) a_nil), S.2.2.2.1.take (S.2.2.2.1.length - 1), -1)
def o_put (S : AS) (c p : Int32) : AS × Bool := match S.2.1, S.2.2.1 with
  | some G, some P => if (¬ c < 0 ∧ c < nI (g_n G)) ∧ (¬ p < 0 ∧ p < 6) then ((S.1, some G, some (a_go P c.toNatClampNeg p.toNatClampNeg), S.2.2.2.1, -1), true) else (S, false)
  | _, _ => (S, false)
def o_card (S : AS) (p i : Int32) : Int32 := match S.2.2.1 with
  | none => -1
  | some P => if ¬ p < 0 ∧ p < 6 then (if i = -1 then nI (P.1 p.toNatClampNeg).length else a_at (P.1 p.toNatClampNeg) i) else -1
def o_seen (S : AS) (s p i : Int32) : Int32 := if s < 0 ∨ ¬ s < 2 then -1 else if (p = 2 ∨ p = 1 - s) ∧ ¬ i = -1 then -1 else o_card S p i
def o_cnt (S : AS) (x : Int32) : Int32 ⊕ Nat := if ¬ x < 0 ∧ x < 6 then .inl (match S.2.2.1 with
    | none => 0
    | some P => if x < 4 then P.2.1 x.toNatClampNeg else P.2.2.1 (x.toNatClampNeg - 4)) else .inr 2
def o_gl (G : Option Gm) : Int32 := match G with
  | none => 0
  | some G => nI G.1.length
def o_gc (G : Option Gm) : Int32 := match G with
  | none => 0
  | some G => nI (g_n G)
def o_gr (G : Option Gm) : Int32 := match G with
  | none => 0
  | some G => nI G.2.2.2.1.length
def o_look (S : AS) (w : Int32) : Int32 := if w = 0 then nI S.1.length else if w = 1 then o_gl S.2.1 else if w = 2 then o_gc S.2.1 else if w = 3 then o_gr S.2.1 else if w = 4 then bI S.2.2.1.isSome else if w = 5 then (match S.2.2.1 with
    | none => -1
    | some P => nI P.2.2.2) else if w = 6 then (match S.2.2.1 with
    | none => -1
    | some _ => if (o_mv S).length = 0 then 1 else 0) else if w = 7 then nI S.2.2.2.1.length else -1
def o_solve (S : AS) (b : Int32) : AS × (Int32 ⊕ Nat) := match S.2.1, S.2.2.1 with
  | some G, some P => if b < 1 ∨ 2000 < b then (S, .inr 0) else if t_ok G 10 P = true ∧ t_n G 10 P < b.toNatClampNeg then ((S.1, some G, some P, S.2.2.2.1, (t_v G 10 P).2), .inl (t_v G 10 P).1) else (S, .inr 3)
  | _, _ => (S, .inr 1)
theorem e_rules_len {T : List Nat} : ∀ n p K R x, K.length ≤ p → e_rules T n p K R = some x → x.2.1.length ≤ x.1 := by
  intro n
  induction n with
  | zero =>
    intro p K R x h hx
    injection hx with hx
    subst hx
    exact h
  | succ n ih =>
    intro p K R x h hx
    unfold e_rules at hx
    split at hx
    · split at hx
      · cases hx
      · rename_i p' C1 C2 er
        have hg := e_rule_ok er
        have hg3 : C1.length + C2.length + 2 + p ≤ p' := hg.2.2.1
        exact ih _ _ _ _ (by simp only [List.length_append, List.length_singleton]; omega) hx
    · injection hx with hx
      subst hx
      exact h
theorem game_len {T : List Nat} {G : Gm} (h : e_game T = some G) : G.1.length ≤ T.length := by
  unfold e_game at h
  split at h
  · split at h
    · cases h
    · rename_i x er
      have hx := e_rules_len 8 4 [] [] x (by simp) er
      unfold e_tail at h
      split at h
      · split at h
        · cases h
        · rename_i p' C ee
          split at h
          · injection h with h
            subst h
            have hg := e_expr_ok _ _ _ _ _ ee
            have g2 : p' ≤ T.length := hg.2.1
            have g3 : C.length + (x.1 + 1) ≤ p' := hg.2.2.1
            show (x.2.1 ++ C ++ [(17, 0)]).length ≤ _
            simp only [List.length_append, List.length_singleton]
            omega
          · cases h
      · cases h
  · cases h
section COP
variable {d k : Nat} {o : Int64} {S : AS} {I : Nat → Nat → Int32}
def cgI (I : Nat → Nat → Int32) : Nat → Nat → Int32 := pm_up (pm_up (pm_up (pm_up (pm_up (pm_cpy (pm_cpy (pm_cpy (pm_cpy (pm_cpy I 4 0 11 0 160) 5 0 12 0 160) 6 0 13 0 8) 7 0 14 0 8) 8 0 15 0 8) 10 2 (I 3 2)) 10 3 (I 3 3)) 10 4 (I 3 4)) 10 5 (I 3 5)) 10 9 (I 3 9)
theorem sh_g : pm_sh 4 = (1, 160) ∧ pm_sh 5 = (1, 160) ∧ pm_sh 6 = (1, 8) ∧ pm_sh 7 = (1, 8) ∧ pm_sh 8 = (1, 8) ∧ pm_sh 11 = (1, 160) ∧ pm_sh 12 = (1, 160) ∧ pm_sh 13 = (1, 8) ∧ pm_sh 14 = (1, 8) ∧ pm_sh 15 = (1, 8) := by decide +kernel
theorem c81 {q : pm_Res} : pm_C (d + 1) 81 [.ref 10, .ref 3] (Wm I k o) q ↔ q = (.inl none, Wm (cgI I) k o) := by
  obtain ⟨s1, s2, s3, s4, s5, s6, s7, s8, s9, s10⟩ := sh_g
  rw [n81]
  simp (decide := true) only [q81_0, q81_1, q81_4, q81_5, q81_6, q81_9, q81_10, q81_13, q81_16, q81_17, q81_20, q81_21, q81_22, q81_25, q81_26, q81_29, q81_32, q81_33, q81_36, q81_37, q81_38, q81_41, q81_42, q81_44, q81_47, q81_48, q81_51, q81_52, q81_53, q81_56, q81_57, q81_59, q81_62, q81_63, q81_66, q81_67, q81_68, q81_71, q81_72, q81_74, q81_77, q81_78, q81_79, q81_82, q81_85, q81_86, q81_87, q81_90, q81_93, q81_94, q81_95, q81_98, q81_101, q81_102, q81_103, q81_106, q81_109, q81_110, q81_111, q81_114, q81_117, W_1, W_I, W_mk, W_tk, pm_rv, rf_0_0, rf_0_1, rf_0_2, rf_0_3, rf_0_4, rf_0_7, rf_0_8, rf_1_0, rf_1_2, rf_3_0, rf_3_1, rf_3_6, rf_3_7, rf_3_8, rf_9_0, rf_9_1, rf_10_0, rf_10_1, rf_10_6, rf_10_7, rf_10_8, rf_17_0, rf_17_1, rf_538_2, rf_538_6, rf_538_7, rf_538_9, rf_538_11, rf_538_12, rf_538_18, rf_538_19, rf_538_22, rf_538_23, rf_538_25, rf_538_27, rf_538_28, rf_538_30, rf_538_31, rf_538_32, rf_538_33, rf_538_34, rf_538_35, rf_538_36, ob_0, ob_1, ob_3, ob_9, ob_10, ob_17, ob_538, ar_2, ar_4, ar_5, ar_6, ar_7, ar_8, ar_11, ar_12, ar_13, ar_14, ar_15, ar_16, ar_116, ar_117, ar_539, ar_540, ar_541, ar_542, ar_543, ar_544, ar_545, ar_546, ar_547, ar_548, ar_549, ar_550, ar_551, ar_552, ar_553, ar_554, ar_555, ar_556, ar_557, ar_558, ex_eq, ex_ite, pm_bk_r, pm_bk_t, ol_nil, ol_one, true_and, and_true, false_and, and_false, reduceIte, Nat.reduceEqDiff, up_at, Nat.add_left_cancel_iff, kc0, kn0, kc1, kn1, kc2, kn2, kc4, kn4, kc5, kn5, kc6, kn6, kc8, kn8, kc10, kn10, kc24, kn24, kc60, kn60, kc160, kn160, kc192, kn192, kc240, kn240, s1, s2, s3, s4, s5, s6, s7, s8, s9, s10, Nat.zero_add, Nat.le_refl, not_false_eq_true, Nat.reduceLeDiff, show (8 : Int32) < 0 ↔ False from by decide, show (160 : Int32) < 0 ↔ False from by decide, cp_ne (show 3 ≠ 11 by decide), cp_ne (show 3 ≠ 12 by decide), cp_ne (show 3 ≠ 13 by decide), cp_ne (show 3 ≠ 14 by decide), cp_ne (show 3 ≠ 15 by decide)]
  exact Iff.rfl
theorem cg_at {x j : Nat} : cgI I x j = if x = 10 ∧ j = 9 then I 3 9 else if x = 10 ∧ j = 5 then I 3 5 else if x = 10 ∧ j = 4 then I 3 4 else if x = 10 ∧ j = 3 then I 3 3 else if x = 10 ∧ j = 2 then I 3 2 else if x = 15 ∧ j < 8 then I 8 j else if x = 14 ∧ j < 8 then I 7 j else if x = 13 ∧ j < 8 then I 6 j else if x = 12 ∧ j < 160 then I 5 j else if x = 11 ∧ j < 160 then I 4 j else I x j := by
  unfold cgI
  simp (decide := true) only [up_at, cp_at, Nat.zero_le, Nat.zero_add, Nat.sub_zero, true_and, false_and, reduceIte]
theorem GR.cg {G : Gm} (hl : G.1.length ≤ 160) (h8 : G.2.2.2.1.length ≤ 8) (h : DG G I) : GR G (cgI I) := by
  obtain ⟨h1, h2, h3, h4, h5⟩ := h
  refine ⟨⟨hl, ?_, fun j hj => ?_⟩, ?_, ?_, ?_, ?_, fun r hr => ?_⟩
  · rw [cg_at]; simp (decide := true) only [reduceIte, false_and, true_and, and_false, and_true]; exact h1.1
  · have := h1.2 j hj (by omega)
    rw [cg_at, cg_at]
    simp (decide := true) only [show j < 160 by omega, reduceIte, false_and, true_and, and_false, and_true]
    exact this
  · rw [cg_at]; simp (decide := true) only [reduceIte, false_and, true_and, and_false, and_true]; exact h2
  · rw [cg_at]; simp (decide := true) only [reduceIte, false_and, true_and, and_false, and_true]; exact h3
  · rw [cg_at]; simp (decide := true) only [reduceIte, false_and, true_and, and_false, and_true]; exact h4.1
  · rw [cg_at]; simp (decide := true) only [reduceIte, false_and, true_and, and_false, and_true]; exact h5
  · have := h4.2 r hr
    rw [cg_at, cg_at, cg_at]
    simp (decide := true) only [show r < 8 by omega, reduceIte, false_and, true_and, and_false, and_true]
    exact this
theorem k4 (hA : AOK S) (h : CI S I) : COK (o_comp S).1 (o_comp S).2 I k o (fun M q => pm_C (d + 69) 4 [.ref 0] M q) := by
  have hc := c94 (d := d) (k := k) (o := o) hA.1 h.1
  have hsame : ∀ J, FH I J → CI S J ∧ HI I J := fun J hf => ⟨h.cf hf.cf (fun P hP => (h.2.2.2.2.1 P hP).eq (fun x a b => by funext j; exact hf _ _ (by omega) (by omega))), hf.cf.hi⟩
  unfold o_comp
  cases e : e_game S.1 with
  | none =>
    obtain ⟨J, g1, g2⟩ := hc.2 e
    have hs := hsame J g1
    refine ⟨J, hs.1, hs.2, fun q => ?_⟩
    show pm_C (d + 69) 4 _ _ q ↔ _
    rw [n4]
    simp (decide := true) only [q4_0, q4_1, q4_4, W_1, W_I, W_mk, W_tk, pm_rv, rf_0_0, rf_0_1, rf_0_2, rf_0_3, rf_0_4, rf_0_7, rf_0_8, rf_1_0, rf_1_2, rf_3_0, rf_3_1, rf_3_6, rf_3_7, rf_3_8, rf_9_0, rf_9_1, rf_10_0, rf_10_1, rf_10_6, rf_10_7, rf_10_8, rf_17_0, rf_17_1, rf_538_2, rf_538_6, rf_538_7, rf_538_9, rf_538_11, rf_538_12, rf_538_18, rf_538_19, rf_538_22, rf_538_23, rf_538_25, rf_538_27, rf_538_28, rf_538_30, rf_538_31, rf_538_32, rf_538_33, rf_538_34, rf_538_35, rf_538_36, ob_0, ob_1, ob_3, ob_9, ob_10, ob_17, ob_538, ar_2, ar_4, ar_5, ar_6, ar_7, ar_8, ar_11, ar_12, ar_13, ar_14, ar_15, ar_16, ar_116, ar_117, ar_539, ar_540, ar_541, ar_542, ar_543, ar_544, ar_545, ar_546, ar_547, ar_548, ar_549, ar_550, ar_551, ar_552, ar_553, ar_554, ar_555, ar_556, ar_557, ar_558, ex_eq, ex_ite, pm_bk_r, pm_bk_t, ol_nil, ol_one, true_and, and_true, false_and, and_false, reduceIte, Nat.reduceEqDiff, up_at, Nat.add_left_cancel_iff, g2, rfin]
  | some G =>
    obtain ⟨J, g1, g2, g3⟩ := hc.1 G e
    have hs := hsame J g2
    have hlen : J 3 2 = nI G.1.length := g1.1.1
    have hb : G.1.length < 100000 := by
      have := game_len e
      have := hA.1.1
      omega
    have e160 : (160 < nI G.1.length) ↔ 160 < G.1.length := sm_lt (a := 160) (by omega) (by omega)
    simp only []
    by_cases hbig : 160 < G.1.length
    · rw [if_pos hbig]
      refine ⟨J, hs.1, hs.2, fun q => ?_⟩
      show pm_C (d + 69) 4 _ _ q ↔ _
      rw [n4]
      simp (decide := true) only [q4_0, q4_1, q4_4, q4_7, q4_8, q4_11, q4_14, q4_17, q4_20, q4_23, W_1, W_I, W_mk, W_tk, pm_rv, rf_0_0, rf_0_1, rf_0_2, rf_0_3, rf_0_4, rf_0_7, rf_0_8, rf_1_0, rf_1_2, rf_3_0, rf_3_1, rf_3_6, rf_3_7, rf_3_8, rf_9_0, rf_9_1, rf_10_0, rf_10_1, rf_10_6, rf_10_7, rf_10_8, rf_17_0, rf_17_1, rf_538_2, rf_538_6, rf_538_7, rf_538_9, rf_538_11, rf_538_12, rf_538_18, rf_538_19, rf_538_22, rf_538_23, rf_538_25, rf_538_27, rf_538_28, rf_538_30, rf_538_31, rf_538_32, rf_538_33, rf_538_34, rf_538_35, rf_538_36, ob_0, ob_1, ob_3, ob_9, ob_10, ob_17, ob_538, ar_2, ar_4, ar_5, ar_6, ar_7, ar_8, ar_11, ar_12, ar_13, ar_14, ar_15, ar_16, ar_116, ar_117, ar_539, ar_540, ar_541, ar_542, ar_543, ar_544, ar_545, ar_546, ar_547, ar_548, ar_549, ar_550, ar_551, ar_552, ar_553, ar_554, ar_555, ar_556, ar_557, ar_558, ex_eq, ex_ite, pm_bk_r, pm_bk_t, ol_nil, ol_one, true_and, and_true, false_and, and_false, reduceIte, Nat.reduceEqDiff, up_at, Nat.add_left_cancel_iff, g3, hlen, e160, hbig, W_tk, rfin]
    · rw [if_neg hbig]
      have hok := (game_ok e (by omega)).1
      have hgr := GR.cg (by omega) hok.2.2.2.1 g1
      obtain ⟨K, hK⟩ : ∃ K, K = pm_up (pm_up (pm_up (pm_up (cgI J) 1 1 0) 0 6 0) 0 5 0) 0 9 (-1) := ⟨_, rfl⟩
      have s : ∀ x j, ¬ (x = 0 ∧ (j = 5 ∨ j = 6 ∨ j = 9)) → ¬ (x = 1 ∧ j = 1) → K x j = cgI J x j := fun x j a b => by rw [hK, up_ne (by omega), up_ne (by omega), up_ne (by omega), up_ne (by omega)]
      have h102 : cgI J 10 2 = nI G.1.length := hgr.1.2.1
      refine ⟨K, ⟨⟨?_, fun i hi => (by simp at hi)⟩, ?_, ?_, ?_, fun P hP => (by cases hP), fun h hh => (by simp at hh), ?_⟩, ?_, fun q => ?_⟩
      · rw [hK, up_ne (by omega), up_ne (by omega), up_ne (by omega), up_eq]; rfl
      · exact GR.congr hgr (fun x a b => by funext j; exact s x j (by omega) (by omega))
      · rw [hK, up_ne (by omega), up_ne (by omega), up_eq]; rfl
      · rw [hK, up_ne (by omega), up_eq]; rfl
      · rw [hK, up_eq]
      · intro x hx
        funext j
        rw [s x j (by omega) (by omega), cg_at, if_neg (by omega), if_neg (by omega), if_neg (by omega), if_neg (by omega), if_neg (by omega), if_neg (by omega), if_neg (by omega), if_neg (by omega), if_neg (by omega), if_neg (by omega)]
        exact g2 x j (by omega) (by omega)
      · show pm_C (d + 69) 4 _ _ q ↔ _
        rw [n4]
        simp (decide := true) only [q4_0, q4_1, q4_4, q4_7, q4_8, q4_11, q4_14, q4_17, q4_20, q4_33, q4_34, q4_37, q4_40, q4_41, q4_44, q4_47, q4_50, q4_51, q4_54, q4_55, q4_58, q4_59, q4_60, q4_63, q4_64, q4_65, q4_68, q4_69, q4_70, q4_73, q4_74, q4_77, q4_80, q4_83, W_1, W_I, W_mk, W_tk, pm_rv, rf_0_0, rf_0_1, rf_0_2, rf_0_3, rf_0_4, rf_0_7, rf_0_8, rf_1_0, rf_1_2, rf_3_0, rf_3_1, rf_3_6, rf_3_7, rf_3_8, rf_9_0, rf_9_1, rf_10_0, rf_10_1, rf_10_6, rf_10_7, rf_10_8, rf_17_0, rf_17_1, rf_538_2, rf_538_6, rf_538_7, rf_538_9, rf_538_11, rf_538_12, rf_538_18, rf_538_19, rf_538_22, rf_538_23, rf_538_25, rf_538_27, rf_538_28, rf_538_30, rf_538_31, rf_538_32, rf_538_33, rf_538_34, rf_538_35, rf_538_36, ob_0, ob_1, ob_3, ob_9, ob_10, ob_17, ob_538, ar_2, ar_4, ar_5, ar_6, ar_7, ar_8, ar_11, ar_12, ar_13, ar_14, ar_15, ar_16, ar_116, ar_117, ar_539, ar_540, ar_541, ar_542, ar_543, ar_544, ar_545, ar_546, ar_547, ar_548, ar_549, ar_550, ar_551, ar_552, ar_553, ar_554, ar_555, ar_556, ar_557, ar_558, ex_eq, ex_ite, pm_bk_r, pm_bk_t, ol_nil, ol_one, true_and, and_true, false_and, and_false, reduceIte, Nat.reduceEqDiff, up_at, Nat.add_left_cancel_iff, g3, hlen, e160, hbig, c81 (d := d + 67), h102, rfin]
        rw [hK]
/-! moves -/
theorem AOK.g (hA : AOK S) {P : Pos} (hP : S.2.2.1 = some P) : ∃ G, S.2.1 = some G ∧ g_ok G ∧ PA (g_n G) P := by
  obtain ⟨G, h1, h2, -⟩ := hA.2.2.2.2 P hP
  exact ⟨G, h1, (hA.2.1 G h1).1, h2⟩
theorem k9 (hA : AOK S) (h : CI S I) : ∃ J, CI S J ∧ HI I J ∧ RW 117 (o_mv S) J ∧ (o_mv S).length ≤ 192 ∧ ∀ q, (pm_C (d + 6) 9 [.ref 0] (Wm I k o) q ↔ q = (.inl (some (.int (nI (o_mv S).length))), Wm J k o)) := by
  have h6 := h.2.2.1
  cases hD : S.2.2.1 with
  | none =>
    rw [hD] at h6
    have h6 : I 0 6 = 0 := h6
    have hm : o_mv S = [] := by unfold o_mv; rw [hD]; cases S.2.1 <;> rfl
    rw [hm]
    refine ⟨I, h, fun _ _ => rfl, fun i hi => (by simp at hi), by simp, fun q => ?_⟩
    rw [n9]
    simp (decide := true) only [q9_0, q9_1, q9_4, q9_7, q9_8, q9_11, q9_12, q9_15, q9_16, q9_19, q9_22, q9_25, q9_26, W_1, W_I, W_mk, W_tk, pm_rv, rf_0_0, rf_0_1, rf_0_2, rf_0_3, rf_0_4, rf_0_7, rf_0_8, rf_1_0, rf_1_2, rf_3_0, rf_3_1, rf_3_6, rf_3_7, rf_3_8, rf_9_0, rf_9_1, rf_10_0, rf_10_1, rf_10_6, rf_10_7, rf_10_8, rf_17_0, rf_17_1, rf_538_2, rf_538_6, rf_538_7, rf_538_9, rf_538_11, rf_538_12, rf_538_18, rf_538_19, rf_538_22, rf_538_23, rf_538_25, rf_538_27, rf_538_28, rf_538_30, rf_538_31, rf_538_32, rf_538_33, rf_538_34, rf_538_35, rf_538_36, ob_0, ob_1, ob_3, ob_9, ob_10, ob_17, ob_538, ar_2, ar_4, ar_5, ar_6, ar_7, ar_8, ar_11, ar_12, ar_13, ar_14, ar_15, ar_16, ar_116, ar_117, ar_539, ar_540, ar_541, ar_542, ar_543, ar_544, ar_545, ar_546, ar_547, ar_548, ar_549, ar_550, ar_551, ar_552, ar_553, ar_554, ar_555, ar_556, ar_557, ar_558, ex_eq, ex_ite, pm_bk_r, pm_bk_t, ol_nil, ol_one, true_and, and_true, false_and, and_false, reduceIte, Nat.reduceEqDiff, up_at, Nat.add_left_cancel_iff, h6]
    exact Iff.rfl
  | some P =>
    rw [hD] at h6
    have h6 : I 0 6 = 1 := h6
    obtain ⟨G, hG, hok, hPA⟩ := hA.g hD
    have hm : o_mv S = a_list G P := by unfold o_mv; rw [hG, hD]
    have hgr : GR G I := by have := h.2.1; rw [hG] at this; exact this
    obtain ⟨J, g1, g2, g3, g4, g5⟩ := c83 (d := d) (k := k) (o := o) (R := 117) tb_108 hok hPA (Or.inl rfl) hgr (h.2.2.2.2.1 P hD)
    rw [hm]
    refine ⟨J, h.cf g4.cf (fun P' hP' => ?_), g4.cf.hi, g3, a_list_len hok, fun q => ?_⟩
    · rw [hD] at hP'
      injection hP' with hP'
      rw [← hP']
      exact g1
    · rw [n9]
      simp (decide := true) only [q9_0, q9_1, q9_4, q9_7, q9_8, q9_11, q9_12, q9_15, q9_16, q9_19, q9_22, q9_25, q9_26, W_1, W_I, W_mk, W_tk, pm_rv, rf_0_0, rf_0_1, rf_0_2, rf_0_3, rf_0_4, rf_0_7, rf_0_8, rf_1_0, rf_1_2, rf_3_0, rf_3_1, rf_3_6, rf_3_7, rf_3_8, rf_9_0, rf_9_1, rf_10_0, rf_10_1, rf_10_6, rf_10_7, rf_10_8, rf_17_0, rf_17_1, rf_538_2, rf_538_6, rf_538_7, rf_538_9, rf_538_11, rf_538_12, rf_538_18, rf_538_19, rf_538_22, rf_538_23, rf_538_25, rf_538_27, rf_538_28, rf_538_30, rf_538_31, rf_538_32, rf_538_33, rf_538_34, rf_538_35, rf_538_36, ob_0, ob_1, ob_3, ob_9, ob_10, ob_17, ob_538, ar_2, ar_4, ar_5, ar_6, ar_7, ar_8, ar_11, ar_12, ar_13, ar_14, ar_15, ar_16, ar_116, ar_117, ar_539, ar_540, ar_541, ar_542, ar_543, ar_544, ar_545, ar_546, ar_547, ar_548, ar_549, ar_550, ar_551, ar_552, ar_553, ar_554, ar_555, ar_556, ar_557, ar_558, ex_eq, ex_ite, pm_bk_r, pm_bk_t, ol_nil, ol_one, true_and, and_true, false_and, and_false, reduceIte, Nat.reduceEqDiff, up_at, Nat.add_left_cancel_iff, h6, g5]
theorem in_some {i : Int32} {L : List (Nat × Nat)} (hl : L.length ≤ 192) {m : Nat × Nat} (h : o_in i L = some m) : ¬ i < 0 ∧ i < nI L.length ∧ i.toNatClampNeg < L.length ∧ m = L.getD i.toNatClampNeg (0, 0) ∧ m ∈ L ∧ (vp_in i 192 ↔ True) := by
  unfold o_in at h
  split at h
  · rename_i e
    injection h with h
    have hn := nn_nI e.1
    have hlt : i.toNatClampNeg < L.length := by
      have := e.2
      rw [hn.1, sm_lt hn.2 (by omega)] at this
      exact this
    refine ⟨e.1, e.2, hlt, h.symm, ?_, iff_true_intro (by rw [hn.1]; exact (sm_in hn.2).mpr (by omega))⟩
    rw [← h, List.getD_eq_getElem?_getD, List.getElem?_eq_getElem hlt]
    exact List.getElem_mem hlt
  · cases h
theorem mv_mem {m : Nat × Nat} (hm : m ∈ o_mv S) : ∃ G P, S.2.1 = some G ∧ S.2.2.1 = some P ∧ m ∈ a_list G P := by
  unfold o_mv at hm
  split at hm
  · rename_i G P h1 h2
    exact ⟨G, P, h1, h2, hm⟩
  · cases hm
theorem k11 (hA : AOK S) (h : CI S I) {i : Int32} : ∃ J, CI S J ∧ HI I J ∧ (o_in i (o_mv S) = none → ∀ q, (pm_C (d + 7) 11 [.ref 0, .int i] (Wm I k o) q ↔ q = (.inr 2, Wm J (k + 1) o))) ∧ (∀ m, o_in i (o_mv S) = some m → ∀ q, (pm_C (d + 7) 11 [.ref 0, .int i] (Wm I k o) q ↔ q = (.inl (some (.int (nI (a_enc m)))), Wm J k o))) := by
  by_cases i0 : i < 0
  · have hn : o_in i (o_mv S) = none := if_neg (fun q => q.1 i0)
    refine ⟨I, h, fun _ _ => rfl, fun _ q => ?_, fun m hm => (by rw [hn] at hm; cases hm)⟩
    rw [n11]
    simp (decide := true) only [q11_0, q11_1, q11_4, q11_5, q11_6, q11_9, q11_12, q11_22, q11_23, q11_26, q11_27, q11_28, W_1, W_I, W_mk, W_tk, pm_rv, rf_0_0, rf_0_1, rf_0_2, rf_0_3, rf_0_4, rf_0_7, rf_0_8, rf_1_0, rf_1_2, rf_3_0, rf_3_1, rf_3_6, rf_3_7, rf_3_8, rf_9_0, rf_9_1, rf_10_0, rf_10_1, rf_10_6, rf_10_7, rf_10_8, rf_17_0, rf_17_1, rf_538_2, rf_538_6, rf_538_7, rf_538_9, rf_538_11, rf_538_12, rf_538_18, rf_538_19, rf_538_22, rf_538_23, rf_538_25, rf_538_27, rf_538_28, rf_538_30, rf_538_31, rf_538_32, rf_538_33, rf_538_34, rf_538_35, rf_538_36, ob_0, ob_1, ob_3, ob_9, ob_10, ob_17, ob_538, ar_2, ar_4, ar_5, ar_6, ar_7, ar_8, ar_11, ar_12, ar_13, ar_14, ar_15, ar_16, ar_116, ar_117, ar_539, ar_540, ar_541, ar_542, ar_543, ar_544, ar_545, ar_546, ar_547, ar_548, ar_549, ar_550, ar_551, ar_552, ar_553, ar_554, ar_555, ar_556, ar_557, ar_558, ex_eq, ex_ite, pm_bk_r, pm_bk_t, ol_nil, ol_one, true_and, and_true, false_and, and_false, reduceIte, Nat.reduceEqDiff, up_at, Nat.add_left_cancel_iff, i0, W_tk]
  · obtain ⟨J, g1, g2, g3, g4, g5⟩ := k9 (d := d) (k := k) (o := o) hA h
    refine ⟨J, g1, g2, fun hn q => ?_, fun m hm q => ?_⟩
    · have hl : ¬ i < nI (o_mv S).length := by
        intro q
        unfold o_in at hn
        rw [if_pos ⟨i0, q⟩] at hn
        cases hn
      rw [n11]
      simp (decide := true) only [q11_0, q11_1, q11_4, q11_5, q11_6, q11_9, q11_12, q11_22, q11_23, q11_26, q11_27, q11_28, W_1, W_I, W_mk, W_tk, pm_rv, rf_0_0, rf_0_1, rf_0_2, rf_0_3, rf_0_4, rf_0_7, rf_0_8, rf_1_0, rf_1_2, rf_3_0, rf_3_1, rf_3_6, rf_3_7, rf_3_8, rf_9_0, rf_9_1, rf_10_0, rf_10_1, rf_10_6, rf_10_7, rf_10_8, rf_17_0, rf_17_1, rf_538_2, rf_538_6, rf_538_7, rf_538_9, rf_538_11, rf_538_12, rf_538_18, rf_538_19, rf_538_22, rf_538_23, rf_538_25, rf_538_27, rf_538_28, rf_538_30, rf_538_31, rf_538_32, rf_538_33, rf_538_34, rf_538_35, rf_538_36, ob_0, ob_1, ob_3, ob_9, ob_10, ob_17, ob_538, ar_2, ar_4, ar_5, ar_6, ar_7, ar_8, ar_11, ar_12, ar_13, ar_14, ar_15, ar_16, ar_116, ar_117, ar_539, ar_540, ar_541, ar_542, ar_543, ar_544, ar_545, ar_546, ar_547, ar_548, ar_549, ar_550, ar_551, ar_552, ar_553, ar_554, ar_555, ar_556, ar_557, ar_558, ex_eq, ex_ite, pm_bk_r, pm_bk_t, ol_nil, ol_one, true_and, and_true, false_and, and_false, reduceIte, Nat.reduceEqDiff, up_at, Nat.add_left_cancel_iff, i0, g5, hl, W_tk]
    · have hs := in_some g4 hm
      have hrow : J 117 i.toNatClampNeg = nI (a_enc m) := by rw [g3 _ hs.2.2.1, hs.2.2.2.1]
      rw [n11]
      simp (decide := true) only [q11_0, q11_1, q11_4, q11_5, q11_6, q11_9, q11_12, q11_22, q11_23, q11_26, q11_27, q11_28, W_1, W_I, W_mk, W_tk, pm_rv, rf_0_0, rf_0_1, rf_0_2, rf_0_3, rf_0_4, rf_0_7, rf_0_8, rf_1_0, rf_1_2, rf_3_0, rf_3_1, rf_3_6, rf_3_7, rf_3_8, rf_9_0, rf_9_1, rf_10_0, rf_10_1, rf_10_6, rf_10_7, rf_10_8, rf_17_0, rf_17_1, rf_538_2, rf_538_6, rf_538_7, rf_538_9, rf_538_11, rf_538_12, rf_538_18, rf_538_19, rf_538_22, rf_538_23, rf_538_25, rf_538_27, rf_538_28, rf_538_30, rf_538_31, rf_538_32, rf_538_33, rf_538_34, rf_538_35, rf_538_36, ob_0, ob_1, ob_3, ob_9, ob_10, ob_17, ob_538, ar_2, ar_4, ar_5, ar_6, ar_7, ar_8, ar_11, ar_12, ar_13, ar_14, ar_15, ar_16, ar_116, ar_117, ar_539, ar_540, ar_541, ar_542, ar_543, ar_544, ar_545, ar_546, ar_547, ar_548, ar_549, ar_550, ar_551, ar_552, ar_553, ar_554, ar_555, ar_556, ar_557, ar_558, ex_eq, ex_ite, pm_bk_r, pm_bk_t, ol_nil, ol_one, true_and, and_true, false_and, and_false, reduceIte, Nat.reduceEqDiff, up_at, Nat.add_left_cancel_iff, i0, g5, hs.2.1, hs.2.2.2.2.2, hrow]
theorem enc_b {m : Nat × Nat} (hA : AOK S) (hm : m ∈ o_mv S) : m.2 ≤ 24 ∧ m.1 < 1000 := by
  obtain ⟨G, P, h1, h2, h3⟩ := mv_mem hm
  have hok := (hA.2.1 G h1).1
  have := a_list_mem h3
  have h8 : G.2.2.2.1.length ≤ 8 := hok.2.2.2.1
  have hn := g_n24 hok
  omega
theorem k10 (hA : AOK S) (h : CI S I) {i : Int32} {c : Bool} : COK S (o_move S i c) I k o (fun M q => pm_C (d + 8) 10 [.ref 0, .int i, .int (bI c)] M q) := by
  obtain ⟨J, g1, g2, g3, g4⟩ := k11 (d := d) (k := k) (o := o) (i := i) hA h
  refine ⟨J, g1, g2, fun q => ?_⟩
  show pm_C (d + 8) 10 _ _ q ↔ _
  unfold o_move
  rw [n10]
  cases e : o_in i (o_mv S) with
  | none =>
    have g3 := g3 e
    simp (decide := true) only [q10_0, q10_1, q10_2, q10_5, q10_6, q10_7, q10_10, q10_11, q10_14, q10_17, q10_18, q10_21, W_1, W_I, W_mk, W_tk, pm_rv, rf_0_0, rf_0_1, rf_0_2, rf_0_3, rf_0_4, rf_0_7, rf_0_8, rf_1_0, rf_1_2, rf_3_0, rf_3_1, rf_3_6, rf_3_7, rf_3_8, rf_9_0, rf_9_1, rf_10_0, rf_10_1, rf_10_6, rf_10_7, rf_10_8, rf_17_0, rf_17_1, rf_538_2, rf_538_6, rf_538_7, rf_538_9, rf_538_11, rf_538_12, rf_538_18, rf_538_19, rf_538_22, rf_538_23, rf_538_25, rf_538_27, rf_538_28, rf_538_30, rf_538_31, rf_538_32, rf_538_33, rf_538_34, rf_538_35, rf_538_36, ob_0, ob_1, ob_3, ob_9, ob_10, ob_17, ob_538, ar_2, ar_4, ar_5, ar_6, ar_7, ar_8, ar_11, ar_12, ar_13, ar_14, ar_15, ar_16, ar_116, ar_117, ar_539, ar_540, ar_541, ar_542, ar_543, ar_544, ar_545, ar_546, ar_547, ar_548, ar_549, ar_550, ar_551, ar_552, ar_553, ar_554, ar_555, ar_556, ar_557, ar_558, ex_eq, ex_ite, pm_bk_r, pm_bk_t, ol_nil, ol_one, true_and, and_true, false_and, and_false, reduceIte, Nat.reduceEqDiff, up_at, Nat.add_left_cancel_iff, g3, rfin]
  | some m =>
    have g4 := g4 m e
    have hl : (o_mv S).length ≤ 192 := (k9 (d := 0) (k := k) (o := o) hA h).choose_spec.2.2.2.1
    have hb := enc_b hA (in_some hl e).2.2.2.2.1
    cases c <;> simp (decide := true) only [q10_0, q10_1, q10_2, q10_5, q10_6, q10_7, q10_10, q10_11, q10_14, q10_17, q10_18, q10_21, W_1, W_I, W_mk, W_tk, pm_rv, rf_0_0, rf_0_1, rf_0_2, rf_0_3, rf_0_4, rf_0_7, rf_0_8, rf_1_0, rf_1_2, rf_3_0, rf_3_1, rf_3_6, rf_3_7, rf_3_8, rf_9_0, rf_9_1, rf_10_0, rf_10_1, rf_10_6, rf_10_7, rf_10_8, rf_17_0, rf_17_1, rf_538_2, rf_538_6, rf_538_7, rf_538_9, rf_538_11, rf_538_12, rf_538_18, rf_538_19, rf_538_22, rf_538_23, rf_538_25, rf_538_27, rf_538_28, rf_538_30, rf_538_31, rf_538_32, rf_538_33, rf_538_34, rf_538_35, rf_538_36, ob_0, ob_1, ob_3, ob_9, ob_10, ob_17, ob_538, ar_2, ar_4, ar_5, ar_6, ar_7, ar_8, ar_11, ar_12, ar_13, ar_14, ar_15, ar_16, ar_116, ar_117, ar_539, ar_540, ar_541, ar_542, ar_543, ar_544, ar_545, ar_546, ar_547, ar_548, ar_549, ar_550, ar_551, ar_552, ar_553, ar_554, ar_555, ar_556, ar_557, ar_558, ex_eq, ex_ite, pm_bk_r, pm_bk_t, ol_nil, ol_one, true_and, and_true, false_and, and_false, reduceIte, Nat.reduceEqDiff, up_at, Nat.add_left_cancel_iff, g4, bI, c12 (d := d + 6) hb.1 hb.2, c13 (d := d + 6) hb.1 hb.2, rfin]
/-! act, undo -/
theorem k14 (hA : AOK S) (h : CI S I) {i : Int32} : COK (o_act S i).1 (o_act S i).2 I k o (fun M q => pm_C (d + 8) 14 [.ref 0, .int i] M q) := by
  obtain ⟨J, g1, g2, g3, g4⟩ := k11 (d := d) (k := k) (o := o) (i := i) hA h
  have h60 := hA.2.2.1
  unfold o_act
  cases e : o_in i (o_mv S) with
  | none =>
    refine ⟨J, g1, g2, fun q => ?_⟩
    show pm_C (d + 8) 14 _ _ q ↔ _
    have g3 := g3 e
    rw [n14]
    simp (decide := true) only [q14_0, q14_1, q14_2, W_1, W_I, W_mk, W_tk, pm_rv, rf_0_0, rf_0_1, rf_0_2, rf_0_3, rf_0_4, rf_0_7, rf_0_8, rf_1_0, rf_1_2, rf_3_0, rf_3_1, rf_3_6, rf_3_7, rf_3_8, rf_9_0, rf_9_1, rf_10_0, rf_10_1, rf_10_6, rf_10_7, rf_10_8, rf_17_0, rf_17_1, rf_538_2, rf_538_6, rf_538_7, rf_538_9, rf_538_11, rf_538_12, rf_538_18, rf_538_19, rf_538_22, rf_538_23, rf_538_25, rf_538_27, rf_538_28, rf_538_30, rf_538_31, rf_538_32, rf_538_33, rf_538_34, rf_538_35, rf_538_36, ob_0, ob_1, ob_3, ob_9, ob_10, ob_17, ob_538, ar_2, ar_4, ar_5, ar_6, ar_7, ar_8, ar_11, ar_12, ar_13, ar_14, ar_15, ar_16, ar_116, ar_117, ar_539, ar_540, ar_541, ar_542, ar_543, ar_544, ar_545, ar_546, ar_547, ar_548, ar_549, ar_550, ar_551, ar_552, ar_553, ar_554, ar_555, ar_556, ar_557, ar_558, ex_eq, ex_ite, pm_bk_r, pm_bk_t, ol_nil, ol_one, true_and, and_true, false_and, and_false, reduceIte, Nat.reduceEqDiff, up_at, Nat.add_left_cancel_iff, g3, rfin]
  | some m =>
    have g4 := g4 m e
    have hl : (o_mv S).length ≤ 192 := (k9 (d := 0) (k := k) (o := o) hA h).choose_spec.2.2.2.1
    have hmem := (in_some hl e).2.2.2.2.1
    obtain ⟨G, P, hG, hD, hin⟩ := mv_mem hmem
    have hmb := a_list_mem hin
    obtain ⟨G', hG', hok, hPA⟩ := hA.g hD
    rw [hG] at hG'
    injection hG' with hG'
    subst hG'
    rw [hG, hD]
    simp only []
    have h5 : J 0 5 = nI S.2.2.2.1.length := g1.2.2.2.1
    have e60 : (nI S.2.2.2.1.length < 60) ↔ S.2.2.2.1.length < 60 := sm_lt (b := 60) (by omega) (by omega)
    by_cases hfull : 60 ≤ S.2.2.2.1.length
    · rw [if_pos hfull]
      refine ⟨J, g1, g2, fun q => ?_⟩
      show pm_C (d + 8) 14 _ _ q ↔ _
      rw [n14]
      simp (decide := true) only [q14_0, q14_1, q14_2, q14_5, q14_6, q14_7, q14_10, q14_12, q14_15, W_1, W_I, W_mk, W_tk, pm_rv, rf_0_0, rf_0_1, rf_0_2, rf_0_3, rf_0_4, rf_0_7, rf_0_8, rf_1_0, rf_1_2, rf_3_0, rf_3_1, rf_3_6, rf_3_7, rf_3_8, rf_9_0, rf_9_1, rf_10_0, rf_10_1, rf_10_6, rf_10_7, rf_10_8, rf_17_0, rf_17_1, rf_538_2, rf_538_6, rf_538_7, rf_538_9, rf_538_11, rf_538_12, rf_538_18, rf_538_19, rf_538_22, rf_538_23, rf_538_25, rf_538_27, rf_538_28, rf_538_30, rf_538_31, rf_538_32, rf_538_33, rf_538_34, rf_538_35, rf_538_36, ob_0, ob_1, ob_3, ob_9, ob_10, ob_17, ob_538, ar_2, ar_4, ar_5, ar_6, ar_7, ar_8, ar_11, ar_12, ar_13, ar_14, ar_15, ar_16, ar_116, ar_117, ar_539, ar_540, ar_541, ar_542, ar_543, ar_544, ar_545, ar_546, ar_547, ar_548, ar_549, ar_550, ar_551, ar_552, ar_553, ar_554, ar_555, ar_556, ar_557, ar_558, ex_eq, ex_ite, pm_bk_r, pm_bk_t, ol_nil, ol_one, true_and, and_true, false_and, and_false, reduceIte, Nat.reduceEqDiff, up_at, Nat.add_left_cancel_iff, g4, h5, e60, show (S.2.2.2.1.length < 60) ↔ False from iff_false_intro (by omega), W_tk, rfin]
    · rw [if_neg hfull]
      have hh : S.2.2.2.1.length < 60 := by omega
      have ht := tb_h hh
      have hs : (118 + 7 * S.2.2.2.1.length) + 7 ≤ 108 ∨ 108 + 7 ≤ 118 + 7 * S.2.2.2.1.length := by omega
      have hT := g1.2.2.2.2.1 P hD
      obtain ⟨J1, hJ1⟩ : ∃ J1, J1 = cpT (118 + 7 * S.2.2.2.1.length) 108 J := ⟨_, rfl⟩
      have f1 : ∀ x, x < 118 + 7 * S.2.2.2.1.length ∨ 118 + 7 * S.2.2.2.1.length + 6 < x → J1 x = J x := fun x hx => by rw [hJ1]; exact cpT_fr hs hx
      have hgr : GR G J1 := by
        have := g1.2.1
        rw [hG] at this
        exact GR.congr this (fun x a b => f1 x (by omega))
      have hT1 : TR 108 P J1 := hT.eq (fun x a b => f1 x (by omega))
      obtain ⟨J2, a1, a2, a3, a4⟩ := c84 (d := d + 2) (k := k) (o := o) tb_108 hok hPA hmb.1 hmb.2 hgr hT1
      obtain ⟨J3, hJ3⟩ : ∃ J3, J3 = pm_up (pm_up J2 0 5 (nI (S.2.2.2.1.length + 1))) 0 9 (-1) := ⟨_, rfl⟩
      have s3 : ∀ x j, ¬ (x = 0 ∧ (j = 5 ∨ j = 9)) → J3 x j = J2 x j := fun x j hx => by rw [hJ3, up_ne (by omega), up_ne (by omega)]
      have s2 : ∀ x j, x ≠ 16 → ¬ (x = 9 ∧ j = 2) → (x < 108 ∨ 114 < x) → J2 x j = J1 x j := fun x j a b c => a3 x j a b (by omega)
      have h52 : J2 0 5 = nI S.2.2.2.1.length := by rw [s2 _ _ (by omega) (by omega) (by omega), f1 0 (by omega)]; exact h5
      refine ⟨J3, ⟨?_, ?_, ?_, ?_, fun P' hP' => ?_, fun h' hh' => ?_, ?_⟩, ?_, fun q => ?_⟩
      · exact g1.1.eq (by rw [s3 _ _ (by omega), s2 _ _ (by omega) (by omega) (by omega), f1 1 (by omega)]) (by funext j; rw [s3 _ _ (by omega), s2 _ _ (by omega) (by omega) (by omega), f1 2 (by omega)])
      · exact GR.congr hgr (fun x a b => by funext j; rw [s3 _ _ (by omega), s2 _ _ (by omega) (by omega) (by omega)])
      · rw [s3 _ _ (by omega), s2 _ _ (by omega) (by omega) (by omega), f1 0 (by omega), g1.2.2.1, hD]; rfl
      · show J3 0 5 = nI (S.2.2.2.1 ++ [P]).length
        rw [hJ3, up_ne (by omega), up_eq]; simp
      · injection hP' with hP'
        rw [← hP']
        exact a1.eq (fun x a b => by funext j; exact s3 _ _ (by omega))
      · have hh' : h' < (S.2.2.2.1 ++ [P]).length := hh'
        show TR (118 + 7 * h') ((S.2.2.2.1 ++ [P]).getD h' a_nil) J3
        by_cases eh : h' = S.2.2.2.1.length
        · subst eh
          have eg : (S.2.2.2.1 ++ [P]).getD S.2.2.2.1.length a_nil = P := by
            rw [List.getD_eq_getElem?_getD, List.getElem?_append_right (by omega)]
            simp
          rw [eg]
          have hc : TR (118 + 7 * S.2.2.2.1.length) P J1 := by rw [hJ1]; exact hT.copy hPA.1 hs
          exact hc.eq (fun x a b => by funext j; rw [s3 _ _ (by omega), s2 _ _ (by omega) (by omega) (by omega)])
        · have hlt : h' < S.2.2.2.1.length := by simp at hh'; omega
          have eg : (S.2.2.2.1 ++ [P]).getD h' a_nil = S.2.2.2.1.getD h' a_nil := by
            rw [List.getD_eq_getElem?_getD, List.getElem?_append_left hlt, ← List.getD_eq_getElem?_getD]
          rw [eg]
          exact (g1.2.2.2.2.2.1 h' hlt).eq (fun x a b => by funext j; rw [s3 _ _ (by omega), s2 _ _ (by omega) (by omega) (by omega), f1 x (by omega)])
      · show J3 0 9 = -1
        rw [hJ3, up_eq]
      · intro x hx
        funext j
        rw [s3 _ _ (by omega), s2 _ _ (by omega) (by omega) (by omega), f1 x (by omega), g2 x hx]
      · show pm_C (d + 8) 14 _ _ q ↔ _
        rw [n14]
        simp (decide := true) only [q14_0, q14_1, q14_2, q14_5, q14_6, q14_7, q14_10, q14_12, q14_15, q14_25, q14_26, q14_29, q14_30, q14_33, q14_34, q14_35, q14_38, q14_41, q14_42, q14_45, q14_46, q14_49, q14_50, q14_53, q14_54, q14_55, q14_58, q14_59, q14_60, q14_63, q14_64, q14_65, q14_68, q14_69, q14_72, W_1, W_I, W_mk, W_tk, pm_rv, rf_0_0, rf_0_1, rf_0_2, rf_0_3, rf_0_4, rf_0_7, rf_0_8, rf_1_0, rf_1_2, rf_3_0, rf_3_1, rf_3_6, rf_3_7, rf_3_8, rf_9_0, rf_9_1, rf_10_0, rf_10_1, rf_10_6, rf_10_7, rf_10_8, rf_17_0, rf_17_1, rf_538_2, rf_538_6, rf_538_7, rf_538_9, rf_538_11, rf_538_12, rf_538_18, rf_538_19, rf_538_22, rf_538_23, rf_538_25, rf_538_27, rf_538_28, rf_538_30, rf_538_31, rf_538_32, rf_538_33, rf_538_34, rf_538_35, rf_538_36, ob_0, ob_1, ob_3, ob_9, ob_10, ob_17, ob_538, ar_2, ar_4, ar_5, ar_6, ar_7, ar_8, ar_11, ar_12, ar_13, ar_14, ar_15, ar_16, ar_116, ar_117, ar_539, ar_540, ar_541, ar_542, ar_543, ar_544, ar_545, ar_546, ar_547, ar_548, ar_549, ar_550, ar_551, ar_552, ar_553, ar_554, ar_555, ar_556, ar_557, ar_558, ex_eq, ex_ite, pm_bk_r, pm_bk_t, ol_nil, ol_one, true_and, and_true, false_and, and_false, reduceIte, Nat.reduceEqDiff, up_at, Nat.add_left_cancel_iff, g4, h5, e60, hh, ar_115, sm_in (show S.2.2.2.1.length < 2147483648 by omega), sm_cl (show S.2.2.2.1.length < 2147483648 by omega), rf_115 hh, pm_rv, ob_t ht, c110 (d := d + 6) ht tb_108 hs, hJ1.symm, a4, h52, sm_s, rfin]
        rw [hJ3]
end COP
