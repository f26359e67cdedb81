/-! THE STATE STAYS A STATE -/
theorem step_PA {N rk s z a : Nat} {c : Int32} {S : List Int32} {P : Pos} (hP : PA N P) (hs : s < 2) (hc : CH N c) (hz : z ≤ 16) : PA N (a_step rk s c z a S P).2 := by
  unfold a_step
  by_cases h4 : z ≤ 4
  · rw [if_pos h4]; exact hP
  · rw [if_neg h4]
    by_cases h11 : z ≤ 11
    · rw [if_pos h11]; split <;> exact hP
    · rw [if_neg h11]
      by_cases h12 : z = 12
      · rw [if_pos h12]; split <;> exact hP
      · rw [if_neg h12]
        by_cases h13 : z = 13
        · rw [if_pos h13]
          rcases a_card_spec (z := a / 8) hP hs hc with e | ⟨x, p, hx, hp, hm, e⟩
          · rw [e, if_pos m1_neg]; exact hP
          · have hx24 : x < 24 := by have := hP.2.2.1; omega
            rw [e, if_neg (sm_neg (by omega)), sm_cl (by omega)]
            exact hP.go hx (a_place_lt hs)
        · rw [if_neg h13]
          by_cases h14 : z = 14
          · rw [if_pos h14]; split <;> exact hP
          · rw [if_neg h14]
            by_cases h15 : z = 15
            · rw [if_pos h15]; split <;> exact hP
            · rw [if_neg h15]
              exact ⟨hP.1, hP.2.1, hP.2.2.1, by show 1 - s < 2; omega⟩
theorem run_PA {N rk s : Nat} {c : Int32} (hs : s < 2) (hc : CH N c) : ∀ {L : List (Nat × Nat)} {S : List Int32} {P : Pos}, (∀ q ∈ L, q.1 ≤ 16) → PA N P → PA N (a_run rk s c L S P).2 := by
  intro L
  induction L with
  | nil => intro S P _ h; exact h
  | cons x L ih =>
    intro S P hq h
    exact ih (fun q hh => hq q (List.mem_cons_of_mem _ hh)) (step_PA h hs hc (hq x List.mem_cons_self))
theorem make_PA {G : Gm} (hG : g_ok G) {P : Pos} (hP : PA (g_n G) P) {m : Nat × Nat} (hr : m.1 < G.2.2.2.1.length) (hm : m.2 ≤ g_n G) : PA (g_n G) (a_make G P m) := by
  obtain ⟨b, Z, h1, h2, -⟩ := (hG.2.2.2.2.1 m.1 hr).2.1
  exact run_PA hP.2.2.2 (a_ch_CH hm) (a_ty_le h2) hP
section AKS
variable {S : AS}
theorem ak_text {T : List Nat} (h : AOK S) (hT : TX T) : AOK (T, S.2) := ⟨hT, h.2⟩
theorem ak_comp (h : AOK S) : AOK (o_comp S).1 := by
  unfold o_comp
  cases e : e_game S.1 with
  | none => exact h
  | some G =>
    simp only []
    by_cases hb : 160 < G.1.length
    · rw [if_pos hb]; exact h
    · rw [if_neg hb]
      refine ⟨⟨by simp, fun c hc => (by cases hc)⟩, fun G' hG' => ?_, by simp, fun _ => rfl, fun P hP => (by cases hP)⟩
      injection hG' with hG'
      subst hG'
      exact game_ok e (by omega)
theorem ak_deal (h : AOK S) {seed n : Int32} : AOK (o_deal S seed n).1 := by
  unfold o_deal
  cases hG : S.2.1 with
  | none => exact h
  | some G =>
    simp only []
    by_cases n0 : n < 0
    · rw [if_pos n0]; exact h
    · rw [if_neg n0]
      have hok := h.2.1 G hG
      have hg := g_n24 hok.1
      refine ⟨h.1, fun G' hG' => ?_, by simp, fun q => (by cases q), fun P hP => ⟨G, rfl, ?_, fun h hh => (by simp at hh)⟩⟩
      · injection hG' with hG'
        subst hG'
        exact hok
      · injection hP with hP
        rw [← hP]
        exact deal_ok hg.1 hg.2 _ _
theorem ak_put (h : AOK S) {c p : Int32} : AOK (o_put S c p).1 := by
  unfold o_put
  cases hG : S.2.1 with
  | none => exact h
  | some G =>
    cases hD : S.2.2.1 with
    | none => exact h
    | some P =>
      simp only []
      by_cases hc : (¬ c < 0 ∧ c < nI (g_n G)) ∧ (¬ p < 0 ∧ p < 6)
      · rw [if_pos hc]
        obtain ⟨G', hG', hPA, hH⟩ := h.2.2.2.2 P hD
        rw [hG] at hG'
        injection hG' with hG'
        subst hG'
        have hok := h.2.1 G hG
        have hg := g_n24 hok.1
        have hcn := nn_nI hc.1.1
        have hcl : c.toNatClampNeg < g_n G := by
          have := hc.1.2
          rw [hcn.1, sm_lt hcn.2 (by omega)] at this
          exact this
        have hp := p6 hc.2.1 hc.2.2
        refine ⟨h.1, fun G' hG' => ?_, h.2.2.1, fun q => (by cases q), fun P' hP' => ⟨G, rfl, ?_, hH⟩⟩
        · injection hG' with hG'
          subst hG'
          exact hok
        · injection hP' with hP'
          rw [← hP']
          exact hPA.go hcl hp.2
      · rw [if_neg hc]; exact h
theorem ak_act (h : AOK S) {i : Int32} : AOK (o_act S i).1 := by
  unfold o_act
  cases e : o_in i (o_mv S) with
  | none => exact h
  | some m =>
    cases hG : S.2.1 with
    | none => exact h
    | some G =>
      cases hD : S.2.2.1 with
      | none => exact h
      | some P =>
        simp only []
        by_cases hf : 60 ≤ S.2.2.2.1.length
        · rw [if_pos hf]; exact h
        · rw [if_neg hf]
          obtain ⟨G', hG', hPA, hH⟩ := h.2.2.2.2 P hD
          rw [hG] at hG'
          injection hG' with hG'
          subst hG'
          have hok := h.2.1 G hG
          have hm : o_mv S = a_list G P := by unfold o_mv; rw [hG, hD]
          have hl : (o_mv S).length ≤ 192 := by rw [hm]; exact a_list_len hok.1
          have hmem := (in_some hl e).2.2.2.2.1
          rw [hm] at hmem
          have hmb := a_list_mem hmem
          refine ⟨h.1, fun G' hG' => ?_, by show (S.2.2.2.1 ++ [P]).length ≤ 60; rw [List.length_append]; show S.2.2.2.1.length + 1 ≤ 60; omega, fun q => (by cases q), fun P' hP' => ⟨G, rfl, ?_, fun h' hh' => ?_⟩⟩
          · injection hG' with hG'
            subst hG'
            exact hok
          · injection hP' with hP'
            rw [← hP']
            exact make_PA hok.1 hPA hmb.1 hmb.2
          · have hh' : h' < (S.2.2.2.1 ++ [P]).length := hh'
            show PA (g_n G) ((S.2.2.2.1 ++ [P]).getD h' a_nil)
            by_cases eh : h' = S.2.2.2.1.length
            · have eg : (S.2.2.2.1 ++ [P]).getD h' a_nil = P := by
                rw [eh, List.getD_eq_getElem?_getD, List.getElem?_append_right (by omega)]
                simp
              rw [eg]
              exact hPA
            · have hlt : h' < S.2.2.2.1.length := by simp at hh'; omega
              have eg : (S.2.2.2.1 ++ [P]).getD h' a_nil = S.2.2.2.1.getD h' a_nil := by
                rw [List.getD_eq_getElem?_getD, List.getElem?_append_left hlt, ← List.getD_eq_getElem?_getD]
              rw [eg]
              exact hH h' hlt
theorem ak_undo (h : AOK S) : AOK (o_undo S) := by
  unfold o_undo
  by_cases h0 : S.2.2.2.1.length = 0
  · rw [if_pos h0]; exact h
  · rw [if_neg h0]
    have h60 := h.2.2.1
    cases hD : S.2.2.1 with
    | none =>
      have := h.2.2.2.1 hD
      rw [this] at h0
      exact absurd rfl h0
    | some P =>
      obtain ⟨G, hG, hPA, hH⟩ := h.2.2.2.2 P hD
      refine ⟨h.1, h.2.1, ?_, fun q => (by cases q), fun P' hP' => ⟨G, hG, ?_, fun h' hh' => ?_⟩⟩
      · show (S.2.2.2.1.take (S.2.2.2.1.length - 1)).length ≤ 60
        rw [List.length_take]; omega
      · injection hP' with hP'
        rw [← hP']
        exact hH _ (by omega)
      · have hh' : h' < (S.2.2.2.1.take (S.2.2.2.1.length - 1)).length := hh'
        rw [List.length_take] at hh'
        show PA (g_n G) ((S.2.2.2.1.take (S.2.2.2.1.length - 1)).getD h' a_nil)
        rw [List.getD_eq_getElem?_getD, List.getElem?_take_of_lt (by omega), ← List.getD_eq_getElem?_getD]
        exact hH h' (by omega)
theorem ak_solve (h : AOK S) {b : Int32} : AOK (o_solve S b).1 := by
  unfold o_solve
  cases hG : S.2.1 with
  | none => exact h
  | some G =>
    cases hD : S.2.2.1 with
    | none => exact h
    | some P =>
      simp only []
      by_cases hb : b < 1 ∨ 2000 < b
      · rw [if_pos hb]; exact h
      · rw [if_neg hb]
        by_cases hs : t_ok G 10 P = true ∧ t_n G 10 P < b.toNatClampNeg
        · rw [if_pos hs]
          have h1 := h.2.1
          have h4 := h.2.2.2.2
          rw [hG] at h1 h4
          rw [hD] at h4
          exact ⟨h.1, h1, h.2.2.1, fun q => (by cases q), h4⟩
        · rw [if_neg hs]; exact h
end AKS
/-! THE LAW'S HELPERS -/
def kk (r : Int32 ⊕ Nat) (k : Nat) : Nat := match r with
  | .inl _ => k
  | .inr _ => k + 1
def oo (r : Int32 ⊕ Nat) (o : Int64) : Int64 := match r with
  | .inl v => v.toInt64
  | .inr _ => o
section HLP
variable {d k : Nat} {o : Int64} {S' : AS} {r : Int32 ⊕ Nat} {I : Nat → Nat → Int32}
def HOK (S' : AS) (r : Int32 ⊕ Nat) (t : Int32) (I : Nat → Nat → Int32) (k : Nat) (o : Int64) (call : pm_Mem → pm_Res → Prop) : Prop := ∃ J, CI S' J ∧ HI I J ∧ ∀ q, (call (Wm I k o) q ↔ q = (.inl (some (.int t)), Wm J (kk r k) (oo r o)))
theorem hd4 : pm_hd 114 3 0 = some (12, 2) ∧ pm_hd 114 3 3 = some (15, 2) := by decide +kernel
theorem hd5 : pm_hd 115 5 2 = some (15, 4) ∧ pm_hd 117 5 2 = some (15, 4) := by decide +kernel
theorem hd6 : pm_hd 116 5 1 = some (15, 4) ∧ pm_hd 116 5 0 = some (19, 4) := by decide +kernel
theorem hd7 : pm_hd 118 4 2 = some (13, 3) ∧ pm_hd 118 4 1 = some (16, 3) ∧ pm_hd 119 4 2 = some (13, 3) := by decide +kernel
theorem hd8 : pm_hd 120 4 1 = some (13, 3) ∧ pm_hd 120 4 0 = some (16, 3) ∧ pm_hd 120 4 3 = some (19, 3) := by decide +kernel
theorem ls2 {a b c : Option Value} : [a, b, c].set 2 none = [a, b, none] := rfl
theorem ls3 {a b c e : Option Value} : [a, b, c, e].set 3 none = [a, b, c, none] := rfl
theorem ls4 {a b c e f : Option Value} : [a, b, c, e, f].set 4 none = [a, b, c, e, none] := rfl
theorem h114 (h : COK S' r I k o (fun M q => pm_C (d + 69) 4 [.ref 0] M q)) (hr : (∃ v, r = .inl v) ∨ r = .inr 0 ∨ r = .inr 3) : HOK S' r (t_comp r) I k o (fun M q => pm_C (d + 70) 114 [.ref 0, .ref 559] M q) := by
  obtain ⟨J, g1, g2, g3⟩ := h
  have g3' : ∀ q, (pm_C (d + 69) 4 [.ref 0] (Wm I k o) q ↔ q = rfin r k o J) := g3
  refine ⟨J, g1, g2, fun q => ?_⟩
  show pm_C (d + 70) 114 _ _ q ↔ _
  rw [n114]
  rcases hr with ⟨v, rfl⟩ | rfl | rfl
  · simp (decide := true) only [q114_0, q114_1, q114_2, q114_3, q114_6, q114_7, q114_8, q114_12, q114_13, q114_15, q114_16, q114_17, q114_18, W_1, W_I, W_mk, W_tk, pm_rv, rf_0_0, rf_0_1, rf_0_2, rf_0_3, rf_0_4, rf_0_7, rf_0_8, rf_1_0, rf_1_2, rf_3_0, rf_3_1, rf_3_6, rf_3_7, rf_3_8, rf_9_0, rf_9_1, rf_10_0, rf_10_1, rf_10_6, rf_10_7, rf_10_8, rf_17_0, rf_17_1, rf_538_2, rf_538_6, rf_538_7, rf_538_9, rf_538_11, rf_538_12, rf_538_18, rf_538_19, rf_538_22, rf_538_23, rf_538_25, rf_538_27, rf_538_28, rf_538_30, rf_538_31, rf_538_32, rf_538_33, rf_538_34, rf_538_35, rf_538_36, ob_0, ob_1, ob_3, ob_9, ob_10, ob_17, ob_538, ar_2, ar_4, ar_5, ar_6, ar_7, ar_8, ar_11, ar_12, ar_13, ar_14, ar_15, ar_16, ar_116, ar_117, ar_539, ar_540, ar_541, ar_542, ar_543, ar_544, ar_545, ar_546, ar_547, ar_548, ar_549, ar_550, ar_551, ar_552, ar_553, ar_554, ar_555, ar_556, ar_557, ar_558, ex_eq, ex_ite, pm_bk_r, pm_bk_t, ol_nil, ol_one, true_and, and_true, false_and, and_false, reduceIte, Nat.reduceEqDiff, up_at, Nat.add_left_cancel_iff, g3', rfin, ar_559, vp_0, kc0, W_sl, t_comp, kk, oo]
  · simp (decide := true) only [q114_0, q114_1, q114_2, q114_3, q114_6, q114_7, q114_8, q114_12, q114_13, q114_15, q114_16, q114_17, q114_18, W_1, W_I, W_mk, W_tk, pm_rv, rf_0_0, rf_0_1, rf_0_2, rf_0_3, rf_0_4, rf_0_7, rf_0_8, rf_1_0, rf_1_2, rf_3_0, rf_3_1, rf_3_6, rf_3_7, rf_3_8, rf_9_0, rf_9_1, rf_10_0, rf_10_1, rf_10_6, rf_10_7, rf_10_8, rf_17_0, rf_17_1, rf_538_2, rf_538_6, rf_538_7, rf_538_9, rf_538_11, rf_538_12, rf_538_18, rf_538_19, rf_538_22, rf_538_23, rf_538_25, rf_538_27, rf_538_28, rf_538_30, rf_538_31, rf_538_32, rf_538_33, rf_538_34, rf_538_35, rf_538_36, ob_0, ob_1, ob_3, ob_9, ob_10, ob_17, ob_538, ar_2, ar_4, ar_5, ar_6, ar_7, ar_8, ar_11, ar_12, ar_13, ar_14, ar_15, ar_16, ar_116, ar_117, ar_539, ar_540, ar_541, ar_542, ar_543, ar_544, ar_545, ar_546, ar_547, ar_548, ar_549, ar_550, ar_551, ar_552, ar_553, ar_554, ar_555, ar_556, ar_557, ar_558, ex_eq, ex_ite, pm_bk_r, pm_bk_t, ol_nil, ol_one, true_and, and_true, false_and, and_false, reduceIte, Nat.reduceEqDiff, up_at, Nat.add_left_cancel_iff, g3', rfin, hd4.1, ls2, t_comp, kk, oo]
  · simp (decide := true) only [q114_0, q114_1, q114_2, q114_3, q114_6, q114_7, q114_8, q114_12, q114_13, q114_15, q114_16, q114_17, q114_18, W_1, W_I, W_mk, W_tk, pm_rv, rf_0_0, rf_0_1, rf_0_2, rf_0_3, rf_0_4, rf_0_7, rf_0_8, rf_1_0, rf_1_2, rf_3_0, rf_3_1, rf_3_6, rf_3_7, rf_3_8, rf_9_0, rf_9_1, rf_10_0, rf_10_1, rf_10_6, rf_10_7, rf_10_8, rf_17_0, rf_17_1, rf_538_2, rf_538_6, rf_538_7, rf_538_9, rf_538_11, rf_538_12, rf_538_18, rf_538_19, rf_538_22, rf_538_23, rf_538_25, rf_538_27, rf_538_28, rf_538_30, rf_538_31, rf_538_32, rf_538_33, rf_538_34, rf_538_35, rf_538_36, ob_0, ob_1, ob_3, ob_9, ob_10, ob_17, ob_538, ar_2, ar_4, ar_5, ar_6, ar_7, ar_8, ar_11, ar_12, ar_13, ar_14, ar_15, ar_16, ar_116, ar_117, ar_539, ar_540, ar_541, ar_542, ar_543, ar_544, ar_545, ar_546, ar_547, ar_548, ar_549, ar_550, ar_551, ar_552, ar_553, ar_554, ar_555, ar_556, ar_557, ar_558, ex_eq, ex_ite, pm_bk_r, pm_bk_t, ol_nil, ol_one, true_and, and_true, false_and, and_false, reduceIte, Nat.reduceEqDiff, up_at, Nat.add_left_cancel_iff, g3', rfin, hd4.2, ls2, t_comp, kk, oo]
end HLP
