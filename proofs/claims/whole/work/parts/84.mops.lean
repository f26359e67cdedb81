/-! THE REFERENCE: its calls -/
def MKp (I J : Nat → Nat → Int32) : Prop := (∀ j, (j = 1 ∨ j = 8 ∨ (14 ≤ j ∧ j ≤ 21) ∨ j = 24 ∨ j = 26 ∨ j = 37) → J 538 j = I 538 j) ∧ (∀ x j, (x < 538 ∨ x = 539 ∨ x = 542 ∨ (545 ≤ x ∧ x ≤ 548) ∨ x = 550 ∨ 558 < x) → J x j = I x j)
theorem MKp.lo {I J : Nat → Nat → Int32} (h : MKp I J) : LO I J := fun x hx => by funext j; exact h.2 x j (by omega)
theorem MKp.trans {I J K : Nat → Nat → Int32} (h1 : MKp I J) (h2 : MKp J K) : MKp I K := ⟨fun j a => (h2.1 j a).trans (h1.1 j a), fun x j a => (h2.2 x j a).trans (h1.2 x j a)⟩
theorem FM.kp {I J : Nat → Nat → Int32} (h : FM I J) : MKp I J := ⟨fun j a => h _ _ (by omega) (by omega) (by omega), fun x j a => h _ _ (by omega) (by omega) (by omega)⟩
theorem FQ.kp {e : Nat} {I J : Nat → Nat → Int32} (h : FQ e I J) : MKp I J := ⟨fun j a => h _ _ (by omega) (by omega) (by omega) (by omega) (by omega), fun x j a => h _ _ (by omega) (by omega) (by omega) (by omega) (by omega)⟩
theorem FW.kp {e : Nat} {I J : Nat → Nat → Int32} (h : FW e I J) : MKp I J := ⟨fun j a => h _ _ (by omega) (by omega) (by omega) (by omega) (by omega) (by omega), fun x j a => h _ _ (by omega) (by omega) (by omega) (by omega) (by omega) (by omega)⟩
theorem kp_th {I : Nat → Nat → Int32} {t : Int32} : MKp I (pm_up I 538 0 t) := ⟨fun j a => up_ne (by omega), fun x j a => up_ne (by omega)⟩
theorem MG.kp {G : Option Gm} {I J : Nat → Nat → Int32} (h3 : MG G I) (h : MKp I J) : MG G J := by
  cases G with
  | none =>
    unfold MG at h3 ⊢
    rw [h.1 14 (by omega), h.1 15 (by omega), h.1 16 (by omega), h.1 17 (by omega), h.1 21 (by omega)]; exact h3
  | some G =>
    unfold MG at h3 ⊢
    exact ⟨by rw [h.1 14 (by omega)]; exact h3.1, h3.2.congr (fun j _ _ => h.1 j (by omega)) (fun x a b => by funext j; exact h.2 x j (by omega))⟩
theorem MF.row {x b : Nat} {P : Pos} {I J : Nat → Nat → Int32} (h : MF x b P I) (e : J x = I x) : MF x b P J := ⟨h.1.congr e, by rw [e]; exact h.2⟩
theorem MI.kp {S : AS} {I J : Nat → Nat → Int32} (h : MI S I) (hk : MKp I J) (hP : ∀ P, S.2.2.1 = some P → MF 549 0 P J) : MI S J := by
  obtain ⟨h1, ⟨W, h2⟩, h3, h4, h5, h6, h7, h8⟩ := h
  refine ⟨⟨by rw [hk.1 1 (by omega)]; exact h1.1, fun i hi => by rw [hk.2 _ _ (by omega)]; exact h1.2 i hi⟩, ⟨W, h2.cg (hk.1 8 (by omega)) (by funext j; exact hk.2 _ _ (by omega))⟩, h3.kp hk, by rw [hk.1 24 (by omega)]; exact h4, by rw [hk.1 26 (by omega)]; exact h5, hP, fun h hh => (h7 h hh).row (by funext j; exact hk.2 _ _ (by omega)), by rw [hk.1 37 (by omega)]; exact h8⟩
section MOS
variable {d k : Nat} {o : Int64} {S : AS} {I : Nat → Nat → Int32}
def t_comp (r : Int32 ⊕ Nat) : Int32 := match r with
  | .inl _ => 0
  | .inr 0 => 1
  | .inr _ => 2
theorem m45 (hA : AOK S) (h : MI S I) : MOK (o_comp S).1 (t_comp (o_comp S).2) (m_val (o_comp S).2) I k o (fun M q => pm_C (d + 9) 45 [.ref 538] M q) := by
  have hc := c45 (d := d) (k := k) (o := o) hA.1 h.1 h.2.1
  have hsame : ∀ J t, m_fail t I J → MI S J ∧ LO I J := by
    intro J t hf
    obtain ⟨h1, ⟨W, h2⟩, h3, h4, h5, h6, h7, h8⟩ := h
    obtain ⟨-, hW, hz⟩ := hf
    have e : ∀ x j, ¬ (x = 538 ∧ (j = 0 ∨ j = 3 ∨ j = 4 ∨ j = 5 ∨ j = 8 ∨ j = 10 ∨ j = 13)) → ¬ (540 ≤ x ∧ x ≤ 544) → J x j = I x j := hz
    refine ⟨⟨⟨by rw [e _ _ (by omega) (by omega)]; exact h1.1, fun i hi => by rw [e _ _ (by omega) (by omega)]; exact h1.2 i hi⟩, hW, ?_, by rw [e _ _ (by omega) (by omega)]; exact h4, by rw [e _ _ (by omega) (by omega)]; exact h5, fun P hP => (h6 P hP).row (by funext j; exact e _ _ (by omega) (by omega)), fun h hh => (h7 h hh).row (by funext j; exact e _ _ (by omega) (by omega)), by rw [e _ _ (by omega) (by omega)]; exact h8⟩, fun x hx => by funext j; exact e _ _ (by omega) (by omega)⟩
    cases hG : S.2.1 with
    | none =>
      rw [hG] at h3
      unfold MG at h3 ⊢
      rw [e _ _ (by omega) (by omega), e _ _ (by omega) (by omega), e _ _ (by omega) (by omega), e _ _ (by omega) (by omega), e _ _ (by omega) (by omega)]; exact h3
    | some G =>
      rw [hG] at h3
      unfold MG at h3 ⊢
      exact ⟨by rw [e _ _ (by omega) (by omega)]; exact h3.1, h3.2.congr (fun j _ _ => e _ _ (by omega) (by omega)) (fun x a b => by funext j; exact e _ _ (by omega) (by omega))⟩
  unfold o_comp
  cases e : e_game S.1 with
  | none =>
    obtain ⟨J, g1, g2⟩ := hc.1 e
    have hs := hsame J 1 g1
    exact ⟨J, hs.1, hs.2, g1.1, g2⟩
  | some G =>
    simp only []
    by_cases hbig : 160 < G.1.length
    · rw [if_pos hbig]
      obtain ⟨J, g1, g2⟩ := (hc.2 G e).1 hbig
      have hs := hsame J 2 g1
      exact ⟨J, hs.1, hs.2, g1.1, g2⟩
    · rw [if_neg hbig]
      obtain ⟨J, ⟨g1, g2, g3, g4⟩, g5⟩ := (hc.2 G e).2 (by omega)
      refine ⟨J, ⟨⟨by rw [g2.2.1]; rfl, fun i hi => (by simp at hi)⟩, g3, ⟨g2.2.2.1, g1⟩, by rw [g2.2.2.2.1]; rfl, by rw [g2.2.2.2.2.1]; rfl, fun P hP => (by cases hP), fun h hh => (by simp at hh), g2.2.2.2.2.2⟩, fun x hx => by funext j; exact g4 x j (by omega) (by omega), g2.1, g5⟩
/-- the moves listed -/
theorem m64 (hA : AOK S) (h : MI S I) : ∃ J, MI S J ∧ MKp I J ∧ J 538 0 = I 538 0 ∧ (∀ P, S.2.2.1 = some P → LM 0 (o_mv S) J) ∧ (o_mv S).length ≤ 192 ∧ ∀ q, (pm_C (d + 8) 64 [.ref 538] (Wm I k o) q ↔ q = (.inl (some (.int (nI (o_mv S).length))), Wm J k o)) := by
  have h4 := h.2.2.2.1
  cases hD : S.2.2.1 with
  | none =>
    rw [hD] at h4
    have h4 : I 538 24 = 0 := h4
    have hm : o_mv S = [] := by unfold o_mv; rw [hD]; cases S.2.1 <;> rfl
    rw [hm]
    refine ⟨I, h, ⟨fun _ _ => rfl, fun _ _ _ => rfl⟩, rfl, fun P hP => (by cases hP), by simp, fun q => ?_⟩
    rw [n64]
    simp (decide := true) only [q64_0, q64_1, q64_4, q64_7, q64_8, q64_9, q64_10, q64_11, q64_14, q64_15, q64_18, q64_19, q64_20, W_1, W_I, W_mk, W_tk, pm_rv, rf_0_0, rf_0_1, rf_0_2, rf_0_3, rf_0_4, rf_0_7, rf_0_8, rf_1_0, rf_1_2, rf_3_0, rf_3_1, rf_3_6, rf_3_7, rf_3_8, rf_9_0, rf_9_1, rf_10_0, rf_10_1, rf_10_6, rf_10_7, rf_10_8, rf_17_0, rf_17_1, rf_538_2, rf_538_6, rf_538_7, rf_538_9, rf_538_11, rf_538_12, rf_538_18, rf_538_19, rf_538_22, rf_538_23, rf_538_25, rf_538_27, rf_538_28, rf_538_30, rf_538_31, rf_538_32, rf_538_33, rf_538_34, rf_538_35, rf_538_36, ob_0, ob_1, ob_3, ob_9, ob_10, ob_17, ob_538, ar_2, ar_4, ar_5, ar_6, ar_7, ar_8, ar_11, ar_12, ar_13, ar_14, ar_15, ar_16, ar_116, ar_117, ar_539, ar_540, ar_541, ar_542, ar_543, ar_544, ar_545, ar_546, ar_547, ar_548, ar_549, ar_550, ar_551, ar_552, ar_553, ar_554, ar_555, ar_556, ar_557, ar_558, ex_eq, ex_ite, pm_bk_r, pm_bk_t, ol_nil, ol_one, true_and, and_true, false_and, and_false, reduceIte, Nat.reduceEqDiff, up_at, Nat.add_left_cancel_iff, h4]
    exact Iff.rfl
  | some P =>
    rw [hD] at h4
    have h4 : I 538 24 = 1 := h4
    obtain ⟨G, hG, hok, hPA⟩ := hA.g hD
    have hm : o_mv S = a_list G P := by unfold o_mv; rw [hG, hD]
    have hgm : GM G I := by have := h.2.2.1; rw [hG] at this; exact this.2
    have hMF := h.2.2.2.2.2.1 P hD
    obtain ⟨J, g1, g2, g3⟩ := c59 (d := d) (k := k) (o := o) (e := 0) hok hPA (by omega) hgm hMF.1 hMF.2
    have hl := a_list_len hok (P := P)
    rw [hm]
    have g3' : ∀ q, (pm_C (d + 7) 59 [.ref 538, .int 0] (Wm I k o) q ↔ q = (.inl none, Wm J k o)) := g3
    refine ⟨J, h.kp g2.kp (fun P' hP' => ?_), g2.kp, g2 _ _ (by omega) (by omega) (by omega) (by omega) (by omega), fun P' hP' => g1.2.2.2, hl, fun q => ?_⟩
    · rw [hD] at hP'
      injection hP' with hP'
      rw [← hP']
      exact ⟨g1.2.1, g1.2.2.1⟩
    · have h0 : J 552 0 = nI (a_list G P).length := g1.2.2.2.1
      rw [n64]
      simp (decide := true) only [q64_0, q64_1, q64_4, q64_7, q64_8, q64_9, q64_10, q64_11, q64_14, q64_15, q64_18, q64_19, q64_20, W_1, W_I, W_mk, W_tk, pm_rv, rf_0_0, rf_0_1, rf_0_2, rf_0_3, rf_0_4, rf_0_7, rf_0_8, rf_1_0, rf_1_2, rf_3_0, rf_3_1, rf_3_6, rf_3_7, rf_3_8, rf_9_0, rf_9_1, rf_10_0, rf_10_1, rf_10_6, rf_10_7, rf_10_8, rf_17_0, rf_17_1, rf_538_2, rf_538_6, rf_538_7, rf_538_9, rf_538_11, rf_538_12, rf_538_18, rf_538_19, rf_538_22, rf_538_23, rf_538_25, rf_538_27, rf_538_28, rf_538_30, rf_538_31, rf_538_32, rf_538_33, rf_538_34, rf_538_35, rf_538_36, ob_0, ob_1, ob_3, ob_9, ob_10, ob_17, ob_538, ar_2, ar_4, ar_5, ar_6, ar_7, ar_8, ar_11, ar_12, ar_13, ar_14, ar_15, ar_16, ar_116, ar_117, ar_539, ar_540, ar_541, ar_542, ar_543, ar_544, ar_545, ar_546, ar_547, ar_548, ar_549, ar_550, ar_551, ar_552, ar_553, ar_554, ar_555, ar_556, ar_557, ar_558, ex_eq, ex_ite, pm_bk_r, pm_bk_t, ol_nil, ol_one, true_and, and_true, false_and, and_false, reduceIte, Nat.reduceEqDiff, up_at, Nat.add_left_cancel_iff, h4, g3', vp_0, kc0, h0]
theorem m65 (hA : AOK S) (h : MI S I) : MOK S 0 (nI (o_mv S).length) I k o (fun M q => pm_C (d + 9) 65 [.ref 538] M q) := by
  have ht := h.th 0
  obtain ⟨J, g1, g2, g3, g4, g5, g6⟩ := m64 (d := d) (k := k) (o := o) hA ht.1
  refine ⟨J, g1, fun x hx => by rw [g2.lo x hx, ht.2 x hx], by rw [g3, up_eq], fun q => ?_⟩
  show pm_C (d + 9) 65 _ _ q ↔ _
  rw [n65]
  simp (decide := true) only [q65_0, q65_1, q65_2, q65_5, q65_6, q65_9, W_1, W_I, W_mk, W_tk, pm_rv, rf_0_0, rf_0_1, rf_0_2, rf_0_3, rf_0_4, rf_0_7, rf_0_8, rf_1_0, rf_1_2, rf_3_0, rf_3_1, rf_3_6, rf_3_7, rf_3_8, rf_9_0, rf_9_1, rf_10_0, rf_10_1, rf_10_6, rf_10_7, rf_10_8, rf_17_0, rf_17_1, rf_538_2, rf_538_6, rf_538_7, rf_538_9, rf_538_11, rf_538_12, rf_538_18, rf_538_19, rf_538_22, rf_538_23, rf_538_25, rf_538_27, rf_538_28, rf_538_30, rf_538_31, rf_538_32, rf_538_33, rf_538_34, rf_538_35, rf_538_36, ob_0, ob_1, ob_3, ob_9, ob_10, ob_17, ob_538, ar_2, ar_4, ar_5, ar_6, ar_7, ar_8, ar_11, ar_12, ar_13, ar_14, ar_15, ar_16, ar_116, ar_117, ar_539, ar_540, ar_541, ar_542, ar_543, ar_544, ar_545, ar_546, ar_547, ar_548, ar_549, ar_550, ar_551, ar_552, ar_553, ar_554, ar_555, ar_556, ar_557, ar_558, ex_eq, ex_ite, pm_bk_r, pm_bk_t, ol_nil, ol_one, true_and, and_true, false_and, and_false, reduceIte, Nat.reduceEqDiff, up_at, Nat.add_left_cancel_iff, g6]
theorem in_none {i : Int32} {L : List (Nat × Nat)} (h : o_in i L = none) : i < 0 ∨ ¬ i < nI L.length := by
  by_cases i0 : i < 0
  · exact Or.inl i0
  · refine Or.inr (fun q => ?_)
    unfold o_in at h
    rw [if_pos ⟨i0, q⟩] at h
    cases h
theorem LM.at {L : List (Nat × Nat)} {J : Nat → Nat → Int32} (h : LM 0 L J) {n : Nat} (hn : n < L.length) : J 553 n = nI (L.getD n (0, 0)).1 ∧ J 554 n = a_ch (L.getD n (0, 0)).2 := by
  have := h.2 n hn
  rwa [Nat.mul_zero, Nat.zero_add] at this
theorem m66 (hA : AOK S) (h : MI S I) {i : Int32} {c : Bool} : MOK S (m_thr (o_move S i c)) (m_val (o_move S i c)) I k o (fun M q => pm_C (d + 9) 66 [.ref 538, .int i, .int (bI c)] M q) := by
  obtain ⟨J, g1, g2, g3, g4, g5, g6⟩ := m64 (d := d) (k := k) (o := o) hA h
  have ht := g1.th (m_thr (o_move S i c))
  refine ⟨_, ht.1, fun x hx => by rw [ht.2 x hx, g2.lo x hx], up_eq, fun q => ?_⟩
  show pm_C (d + 9) 66 _ _ q ↔ _
  unfold o_move
  rw [n66]
  cases e : o_in i (o_mv S) with
  | none =>
    rcases in_none e with i0 | i0
    · simp (decide := true) only [q66_0, q66_1, q66_4, q66_5, q66_6, q66_7, q66_10, q66_11, q66_12, q66_15, q66_16, q66_19, q66_20, q66_23, q66_24, q66_27, q66_30, q66_31, q66_34, q66_35, q66_38, q66_39, q66_42, q66_43, q66_44, q66_47, q66_48, q66_51, q66_52, q66_53, W_1, W_I, W_mk, W_tk, pm_rv, rf_0_0, rf_0_1, rf_0_2, rf_0_3, rf_0_4, rf_0_7, rf_0_8, rf_1_0, rf_1_2, rf_3_0, rf_3_1, rf_3_6, rf_3_7, rf_3_8, rf_9_0, rf_9_1, rf_10_0, rf_10_1, rf_10_6, rf_10_7, rf_10_8, rf_17_0, rf_17_1, rf_538_2, rf_538_6, rf_538_7, rf_538_9, rf_538_11, rf_538_12, rf_538_18, rf_538_19, rf_538_22, rf_538_23, rf_538_25, rf_538_27, rf_538_28, rf_538_30, rf_538_31, rf_538_32, rf_538_33, rf_538_34, rf_538_35, rf_538_36, ob_0, ob_1, ob_3, ob_9, ob_10, ob_17, ob_538, ar_2, ar_4, ar_5, ar_6, ar_7, ar_8, ar_11, ar_12, ar_13, ar_14, ar_15, ar_16, ar_116, ar_117, ar_539, ar_540, ar_541, ar_542, ar_543, ar_544, ar_545, ar_546, ar_547, ar_548, ar_549, ar_550, ar_551, ar_552, ar_553, ar_554, ar_555, ar_556, ar_557, ar_558, ex_eq, ex_ite, pm_bk_r, pm_bk_t, ol_nil, ol_one, true_and, and_true, false_and, and_false, reduceIte, Nat.reduceEqDiff, up_at, Nat.add_left_cancel_iff, g6, i0, m_thr, m_val]
    · by_cases i1 : i < 0
      · simp (decide := true) only [q66_0, q66_1, q66_4, q66_5, q66_6, q66_7, q66_10, q66_11, q66_12, q66_15, q66_16, q66_19, q66_20, q66_23, q66_24, q66_27, q66_30, q66_31, q66_34, q66_35, q66_38, q66_39, q66_42, q66_43, q66_44, q66_47, q66_48, q66_51, q66_52, q66_53, W_1, W_I, W_mk, W_tk, pm_rv, rf_0_0, rf_0_1, rf_0_2, rf_0_3, rf_0_4, rf_0_7, rf_0_8, rf_1_0, rf_1_2, rf_3_0, rf_3_1, rf_3_6, rf_3_7, rf_3_8, rf_9_0, rf_9_1, rf_10_0, rf_10_1, rf_10_6, rf_10_7, rf_10_8, rf_17_0, rf_17_1, rf_538_2, rf_538_6, rf_538_7, rf_538_9, rf_538_11, rf_538_12, rf_538_18, rf_538_19, rf_538_22, rf_538_23, rf_538_25, rf_538_27, rf_538_28, rf_538_30, rf_538_31, rf_538_32, rf_538_33, rf_538_34, rf_538_35, rf_538_36, ob_0, ob_1, ob_3, ob_9, ob_10, ob_17, ob_538, ar_2, ar_4, ar_5, ar_6, ar_7, ar_8, ar_11, ar_12, ar_13, ar_14, ar_15, ar_16, ar_116, ar_117, ar_539, ar_540, ar_541, ar_542, ar_543, ar_544, ar_545, ar_546, ar_547, ar_548, ar_549, ar_550, ar_551, ar_552, ar_553, ar_554, ar_555, ar_556, ar_557, ar_558, ex_eq, ex_ite, pm_bk_r, pm_bk_t, ol_nil, ol_one, true_and, and_true, false_and, and_false, reduceIte, Nat.reduceEqDiff, up_at, Nat.add_left_cancel_iff, g6, i1, m_thr, m_val]
      · simp (decide := true) only [q66_0, q66_1, q66_4, q66_5, q66_6, q66_7, q66_10, q66_11, q66_12, q66_15, q66_16, q66_19, q66_20, q66_23, q66_24, q66_27, q66_30, q66_31, q66_34, q66_35, q66_38, q66_39, q66_42, q66_43, q66_44, q66_47, q66_48, q66_51, q66_52, q66_53, W_1, W_I, W_mk, W_tk, pm_rv, rf_0_0, rf_0_1, rf_0_2, rf_0_3, rf_0_4, rf_0_7, rf_0_8, rf_1_0, rf_1_2, rf_3_0, rf_3_1, rf_3_6, rf_3_7, rf_3_8, rf_9_0, rf_9_1, rf_10_0, rf_10_1, rf_10_6, rf_10_7, rf_10_8, rf_17_0, rf_17_1, rf_538_2, rf_538_6, rf_538_7, rf_538_9, rf_538_11, rf_538_12, rf_538_18, rf_538_19, rf_538_22, rf_538_23, rf_538_25, rf_538_27, rf_538_28, rf_538_30, rf_538_31, rf_538_32, rf_538_33, rf_538_34, rf_538_35, rf_538_36, ob_0, ob_1, ob_3, ob_9, ob_10, ob_17, ob_538, ar_2, ar_4, ar_5, ar_6, ar_7, ar_8, ar_11, ar_12, ar_13, ar_14, ar_15, ar_16, ar_116, ar_117, ar_539, ar_540, ar_541, ar_542, ar_543, ar_544, ar_545, ar_546, ar_547, ar_548, ar_549, ar_550, ar_551, ar_552, ar_553, ar_554, ar_555, ar_556, ar_557, ar_558, ex_eq, ex_ite, pm_bk_r, pm_bk_t, ol_nil, ol_one, true_and, and_true, false_and, and_false, reduceIte, Nat.reduceEqDiff, up_at, Nat.add_left_cancel_iff, g6, i0, i1, m_thr, m_val]
  | some m =>
    have hs := in_some g5 e
    obtain ⟨G, P, hG, hD, hin⟩ := mv_mem hs.2.2.2.2.1
    have hat := (g4 P hD).at hs.2.2.1
    rw [← hs.2.2.2.1] at hat
    have hn := nn_nI hs.1
    have hv : vp_in i 2200 ↔ True := iff_true_intro (by rw [hn.1]; exact (sm_in hn.2).mpr (by have := hs.2.2.1; omega))
    cases c <;> simp (decide := true) only [q66_0, q66_1, q66_4, q66_5, q66_6, q66_7, q66_10, q66_11, q66_12, q66_15, q66_16, q66_19, q66_20, q66_23, q66_24, q66_27, q66_30, q66_31, q66_34, q66_35, q66_38, q66_39, q66_42, q66_43, q66_44, q66_47, q66_48, q66_51, q66_52, q66_53, W_1, W_I, W_mk, W_tk, pm_rv, rf_0_0, rf_0_1, rf_0_2, rf_0_3, rf_0_4, rf_0_7, rf_0_8, rf_1_0, rf_1_2, rf_3_0, rf_3_1, rf_3_6, rf_3_7, rf_3_8, rf_9_0, rf_9_1, rf_10_0, rf_10_1, rf_10_6, rf_10_7, rf_10_8, rf_17_0, rf_17_1, rf_538_2, rf_538_6, rf_538_7, rf_538_9, rf_538_11, rf_538_12, rf_538_18, rf_538_19, rf_538_22, rf_538_23, rf_538_25, rf_538_27, rf_538_28, rf_538_30, rf_538_31, rf_538_32, rf_538_33, rf_538_34, rf_538_35, rf_538_36, ob_0, ob_1, ob_3, ob_9, ob_10, ob_17, ob_538, ar_2, ar_4, ar_5, ar_6, ar_7, ar_8, ar_11, ar_12, ar_13, ar_14, ar_15, ar_16, ar_116, ar_117, ar_539, ar_540, ar_541, ar_542, ar_543, ar_544, ar_545, ar_546, ar_547, ar_548, ar_549, ar_550, ar_551, ar_552, ar_553, ar_554, ar_555, ar_556, ar_557, ar_558, ex_eq, ex_ite, pm_bk_r, pm_bk_t, ol_nil, ol_one, true_and, and_true, false_and, and_false, reduceIte, Nat.reduceEqDiff, up_at, Nat.add_left_cancel_iff, g6, hs.1, hs.2.1, hv, hat.1, hat.2, bI, m_thr, m_val]
def t_act (r : Int32 ⊕ Nat) : Int32 := match r with
  | .inl _ => 0
  | .inr 2 => 1
  | .inr _ => 2
theorem c67_l {y1 y2 : Option Value} {n : Nat} (hn : n < 60) (h26 : I 538 26 = nI n) {q : pm_Res} : ∀ m i, i + m = 157 → (pm_R (d + 7) 67 47 [some (.ref 538), y1, y2, some (.int (nI i))] [] (Wm (pm_cpy I 549 0 550 (157 * n) i) k o) q ↔ pm_R (d + 7) 67 81 [some (.ref 538), y1, y2, some (.int 157)] [] (Wm (pm_cpy I 549 0 550 (157 * n) 157) k o) q) := by
  intro m
  induction m with
  | zero =>
    intro i hi
    obtain rfl : i = 157 := by omega
    rw [q67_47]
    simp (decide := true) only [q67_48, q67_51, ex_eq, ex_ite, pm_bk_r, pm_bk_t, ol_nil, ol_one, true_and, and_true, false_and, and_false, reduceIte, Nat.reduceEqDiff, up_at, Nat.add_left_cancel_iff]
    exact Iff.rfl
  | succ m ih =>
    intro i hi
    have h1 : pm_cpy I 549 0 550 (157 * n) i 549 i = I 549 i := cp_ne (by decide)
    have h3 : pm_cpy I 549 0 550 (157 * n) i 538 26 = nI n := by rw [cp_ne (by decide)]; exact h26
    have h2 := cp_succ (I := I) (a := 549) (sp := 0) (b := 550) (dp := 157 * n) (n := i)
    rw [Nat.zero_add] at h2
    rw [q67_47]
    simp (decide := true) only [q67_48, q67_51, q67_54, q67_55, q67_58, q67_61, q67_62, q67_65, q67_66, q67_67, q67_68, q67_69, q67_72, q67_73, q67_74, q67_75, q67_78, W_1, W_I, W_mk, W_tk, pm_rv, rf_0_0, rf_0_1, rf_0_2, rf_0_3, rf_0_4, rf_0_7, rf_0_8, rf_1_0, rf_1_2, rf_3_0, rf_3_1, rf_3_6, rf_3_7, rf_3_8, rf_9_0, rf_9_1, rf_10_0, rf_10_1, rf_10_6, rf_10_7, rf_10_8, rf_17_0, rf_17_1, rf_538_2, rf_538_6, rf_538_7, rf_538_9, rf_538_11, rf_538_12, rf_538_18, rf_538_19, rf_538_22, rf_538_23, rf_538_25, rf_538_27, rf_538_28, rf_538_30, rf_538_31, rf_538_32, rf_538_33, rf_538_34, rf_538_35, rf_538_36, ob_0, ob_1, ob_3, ob_9, ob_10, ob_17, ob_538, ar_2, ar_4, ar_5, ar_6, ar_7, ar_8, ar_11, ar_12, ar_13, ar_14, ar_15, ar_16, ar_116, ar_117, ar_539, ar_540, ar_541, ar_542, ar_543, ar_544, ar_545, ar_546, ar_547, ar_548, ar_549, ar_550, ar_551, ar_552, ar_553, ar_554, ar_555, ar_556, ar_557, ar_558, ex_eq, ex_ite, pm_bk_r, pm_bk_t, ol_nil, ol_one, true_and, and_true, false_and, and_false, reduceIte, Nat.reduceEqDiff, up_at, Nat.add_left_cancel_iff, show (nI i < 157) ↔ True from iff_true_intro (by rw [show (157 : Int32) = nI 157 from rfl, sm_lt (by omega) (by omega)]; omega), h3, k157, sm_in (show i < 2147483648 by omega), show i < 157 by omega, sm_cl (show i < 2147483648 by omega), sm_in (show 157 * n + i < 2147483648 by omega), show 157 * n + i < 9420 by omega, sm_cl (show 157 * n + i < 2147483648 by omega), h1, h2, sm_s, ih (i + 1) (by omega)]
theorem m67 (hA : AOK S) (h : MI S I) {i : Int32} : MOK (o_act S i).1 (t_act (o_act S i).2) (m_val (o_act S i).2) I k o (fun M q => pm_C (d + 9) 67 [.ref 538, .int i] M q) := by
  have h60 := hA.2.2.1
  obtain ⟨J, g1, g2, g3, g4, g5, g6⟩ := m64 (d := d) (k := k) (o := o) hA h
  unfold o_act
  cases e : o_in i (o_mv S) with
  | none =>
    have ht := g1.th 1
    refine ⟨_, ht.1, fun x hx => by rw [ht.2 x hx, g2.lo x hx], up_eq, fun q => ?_⟩
    show pm_C (d + 9) 67 _ _ q ↔ _
    rw [n67]
    rcases in_none e with i0 | i0
    · simp (decide := true) only [q67_0, q67_1, q67_4, q67_5, q67_6, q67_7, q67_10, q67_11, q67_12, q67_15, q67_16, q67_19, q67_20, q67_23, q67_25, q67_28, q67_29, q67_32, q67_33, q67_36, q67_37, q67_40, q67_43, q67_44, W_1, W_I, W_mk, W_tk, pm_rv, rf_0_0, rf_0_1, rf_0_2, rf_0_3, rf_0_4, rf_0_7, rf_0_8, rf_1_0, rf_1_2, rf_3_0, rf_3_1, rf_3_6, rf_3_7, rf_3_8, rf_9_0, rf_9_1, rf_10_0, rf_10_1, rf_10_6, rf_10_7, rf_10_8, rf_17_0, rf_17_1, rf_538_2, rf_538_6, rf_538_7, rf_538_9, rf_538_11, rf_538_12, rf_538_18, rf_538_19, rf_538_22, rf_538_23, rf_538_25, rf_538_27, rf_538_28, rf_538_30, rf_538_31, rf_538_32, rf_538_33, rf_538_34, rf_538_35, rf_538_36, ob_0, ob_1, ob_3, ob_9, ob_10, ob_17, ob_538, ar_2, ar_4, ar_5, ar_6, ar_7, ar_8, ar_11, ar_12, ar_13, ar_14, ar_15, ar_16, ar_116, ar_117, ar_539, ar_540, ar_541, ar_542, ar_543, ar_544, ar_545, ar_546, ar_547, ar_548, ar_549, ar_550, ar_551, ar_552, ar_553, ar_554, ar_555, ar_556, ar_557, ar_558, ex_eq, ex_ite, pm_bk_r, pm_bk_t, ol_nil, ol_one, true_and, and_true, false_and, and_false, reduceIte, Nat.reduceEqDiff, up_at, Nat.add_left_cancel_iff, g6, i0, m_val]
    · by_cases i1 : i < 0
      · simp (decide := true) only [q67_0, q67_1, q67_4, q67_5, q67_6, q67_7, q67_10, q67_11, q67_12, q67_15, q67_16, q67_19, q67_20, q67_23, q67_25, q67_28, q67_29, q67_32, q67_33, q67_36, q67_37, q67_40, q67_43, q67_44, W_1, W_I, W_mk, W_tk, pm_rv, rf_0_0, rf_0_1, rf_0_2, rf_0_3, rf_0_4, rf_0_7, rf_0_8, rf_1_0, rf_1_2, rf_3_0, rf_3_1, rf_3_6, rf_3_7, rf_3_8, rf_9_0, rf_9_1, rf_10_0, rf_10_1, rf_10_6, rf_10_7, rf_10_8, rf_17_0, rf_17_1, rf_538_2, rf_538_6, rf_538_7, rf_538_9, rf_538_11, rf_538_12, rf_538_18, rf_538_19, rf_538_22, rf_538_23, rf_538_25, rf_538_27, rf_538_28, rf_538_30, rf_538_31, rf_538_32, rf_538_33, rf_538_34, rf_538_35, rf_538_36, ob_0, ob_1, ob_3, ob_9, ob_10, ob_17, ob_538, ar_2, ar_4, ar_5, ar_6, ar_7, ar_8, ar_11, ar_12, ar_13, ar_14, ar_15, ar_16, ar_116, ar_117, ar_539, ar_540, ar_541, ar_542, ar_543, ar_544, ar_545, ar_546, ar_547, ar_548, ar_549, ar_550, ar_551, ar_552, ar_553, ar_554, ar_555, ar_556, ar_557, ar_558, ex_eq, ex_ite, pm_bk_r, pm_bk_t, ol_nil, ol_one, true_and, and_true, false_and, and_false, reduceIte, Nat.reduceEqDiff, up_at, Nat.add_left_cancel_iff, g6, i1, m_val]
      · simp (decide := true) only [q67_0, q67_1, q67_4, q67_5, q67_6, q67_7, q67_10, q67_11, q67_12, q67_15, q67_16, q67_19, q67_20, q67_23, q67_25, q67_28, q67_29, q67_32, q67_33, q67_36, q67_37, q67_40, q67_43, q67_44, W_1, W_I, W_mk, W_tk, pm_rv, rf_0_0, rf_0_1, rf_0_2, rf_0_3, rf_0_4, rf_0_7, rf_0_8, rf_1_0, rf_1_2, rf_3_0, rf_3_1, rf_3_6, rf_3_7, rf_3_8, rf_9_0, rf_9_1, rf_10_0, rf_10_1, rf_10_6, rf_10_7, rf_10_8, rf_17_0, rf_17_1, rf_538_2, rf_538_6, rf_538_7, rf_538_9, rf_538_11, rf_538_12, rf_538_18, rf_538_19, rf_538_22, rf_538_23, rf_538_25, rf_538_27, rf_538_28, rf_538_30, rf_538_31, rf_538_32, rf_538_33, rf_538_34, rf_538_35, rf_538_36, ob_0, ob_1, ob_3, ob_9, ob_10, ob_17, ob_538, ar_2, ar_4, ar_5, ar_6, ar_7, ar_8, ar_11, ar_12, ar_13, ar_14, ar_15, ar_16, ar_116, ar_117, ar_539, ar_540, ar_541, ar_542, ar_543, ar_544, ar_545, ar_546, ar_547, ar_548, ar_549, ar_550, ar_551, ar_552, ar_553, ar_554, ar_555, ar_556, ar_557, ar_558, ex_eq, ex_ite, pm_bk_r, pm_bk_t, ol_nil, ol_one, true_and, and_true, false_and, and_false, reduceIte, Nat.reduceEqDiff, up_at, Nat.add_left_cancel_iff, g6, i0, i1, m_val]
  | some m =>
    have hs := in_some g5 e
    obtain ⟨G, P, hG, hD, hin⟩ := mv_mem hs.2.2.2.2.1
    have hmb := a_list_mem hin
    obtain ⟨G', hG', hok, hPA⟩ := hA.g hD
    rw [hG] at hG'
    injection hG' with hG'
    subst hG'
    rw [hG, hD]
    simp only []
    have h26 : J 538 26 = nI S.2.2.2.1.length := g1.2.2.2.2.1
    have e60 : (nI S.2.2.2.1.length = 60) ↔ S.2.2.2.1.length = 60 := sm_inj (b := 60) (by omega) (by omega)
    by_cases hfull : 60 ≤ S.2.2.2.1.length
    · rw [if_pos hfull]
      have ht := g1.th 2
      refine ⟨_, ht.1, fun x hx => by rw [ht.2 x hx, g2.lo x hx], up_eq, fun q => ?_⟩
      show pm_C (d + 9) 67 _ _ q ↔ _
      rw [n67]
      simp (decide := true) only [q67_0, q67_1, q67_4, q67_5, q67_6, q67_7, q67_10, q67_11, q67_12, q67_15, q67_16, q67_19, q67_20, q67_23, q67_25, q67_28, q67_29, q67_32, q67_33, q67_36, q67_37, q67_40, q67_43, q67_44, W_1, W_I, W_mk, W_tk, pm_rv, rf_0_0, rf_0_1, rf_0_2, rf_0_3, rf_0_4, rf_0_7, rf_0_8, rf_1_0, rf_1_2, rf_3_0, rf_3_1, rf_3_6, rf_3_7, rf_3_8, rf_9_0, rf_9_1, rf_10_0, rf_10_1, rf_10_6, rf_10_7, rf_10_8, rf_17_0, rf_17_1, rf_538_2, rf_538_6, rf_538_7, rf_538_9, rf_538_11, rf_538_12, rf_538_18, rf_538_19, rf_538_22, rf_538_23, rf_538_25, rf_538_27, rf_538_28, rf_538_30, rf_538_31, rf_538_32, rf_538_33, rf_538_34, rf_538_35, rf_538_36, ob_0, ob_1, ob_3, ob_9, ob_10, ob_17, ob_538, ar_2, ar_4, ar_5, ar_6, ar_7, ar_8, ar_11, ar_12, ar_13, ar_14, ar_15, ar_16, ar_116, ar_117, ar_539, ar_540, ar_541, ar_542, ar_543, ar_544, ar_545, ar_546, ar_547, ar_548, ar_549, ar_550, ar_551, ar_552, ar_553, ar_554, ar_555, ar_556, ar_557, ar_558, ex_eq, ex_ite, pm_bk_r, pm_bk_t, ol_nil, ol_one, true_and, and_true, false_and, and_false, reduceIte, Nat.reduceEqDiff, up_at, Nat.add_left_cancel_iff, g6, hs.1, hs.2.1, h26, e60, show (S.2.2.2.1.length = 60) ↔ True from iff_true_intro (by omega), m_val]
    · rw [if_neg hfull]
      obtain ⟨n, hn⟩ : ∃ n, n = S.2.2.2.1.length := ⟨_, rfl⟩
      have hn60 : n < 60 := by omega
      rw [← hn] at h26 e60 ⊢
      have hMF := g1.2.2.2.2.2.1 P hD
      have hPL := hPA.1.pl
      obtain ⟨J1, hJ1⟩ : ∃ J1, J1 = pm_up J 538 0 0 := ⟨_, rfl⟩
      have s1 : ∀ x j, ¬ (x = 538 ∧ j = 0) → J1 x j = J x j := fun x j a => by rw [hJ1, up_ne a]
      have h261 : J1 538 26 = nI n := by rw [s1 _ _ (by omega)]; exact h26
      have hMF1 : MF 549 0 P J1 := hMF.row (by funext j; exact s1 _ _ (by omega))
      obtain ⟨J2, hJ2⟩ : ∃ J2, J2 = pm_cpy J1 549 0 550 (157 * n) 157 := ⟨_, rfl⟩
      have s2 : ∀ x j, x ≠ 550 → J2 x j = J1 x j := fun x j a => by rw [hJ2, cp_ne a]
      have hMF2 : MF 549 0 P J2 := hMF1.row (by funext j; exact s2 _ _ (by omega))
      have hgm : GM G J2 := by
        have := g1.2.2.1
        rw [hG] at this
        exact this.2.congr (fun j a b => by rw [s2 _ _ (by omega), s1 _ _ (by omega)]) (fun x a b => by funext j; rw [s2 _ _ (by omega), s1 _ _ (by omega)])
      obtain ⟨J3, a1, a2, a3, a4, a5⟩ := c61 (d := d + 1) (k := k) (o := o) hok hmb.1 hmb.2 hgm hMF2.1 hMF2.2 hPA
      obtain ⟨J4, hJ4⟩ : ∃ J4, J4 = pm_up (pm_up J3 538 26 (nI (n + 1))) 538 37 (-1) := ⟨_, rfl⟩
      have s4 : ∀ x j, ¬ (x = 538 ∧ (j = 26 ∨ j = 37)) → J4 x j = J3 x j := fun x j a => by rw [hJ4, up_ne (by omega), up_ne (by omega)]
      have st : ∀ x j, x ≠ 549 → x ≠ 551 → x ≠ 550 → ¬ (x = 538 ∧ (j = 26 ∨ j = 37 ∨ j = 29 ∨ j = 0)) → J4 x j = J x j := fun x j a b c e => by rw [s4 _ _ (by omega), a4 _ _ a b (by omega), s2 _ _ c, s1 _ _ (by omega)]
      have h263 : J3 538 26 = nI n := by rw [a4 _ _ (by omega) (by omega) (by omega), s2 _ _ (by omega)]; exact h261
      have s5 : ∀ j, J4 550 j = J2 550 j := fun j => by rw [s4 _ _ (by omega), a4 _ _ (by omega) (by omega) (by omega)]
      obtain ⟨x1, ⟨W, x2⟩, x3, x4, x5, x6, x7, x8⟩ := g1
      refine ⟨J4, ⟨⟨by rw [st _ _ (by omega) (by omega) (by omega) (by omega)]; exact x1.1, fun i hi => by rw [st _ _ (by omega) (by omega) (by omega) (by omega)]; exact x1.2 i hi⟩, ⟨W, x2.cg (st _ _ (by omega) (by omega) (by omega) (by omega)) (by funext j; exact st _ _ (by omega) (by omega) (by omega) (by omega))⟩, ?_, ?_, ?_, fun P' hP' => ?_, fun h' hh' => ?_, ?_⟩, fun x hx => ?_, ?_, fun q => ?_⟩
      · rw [hG] at x3
        exact ⟨by rw [st _ _ (by omega) (by omega) (by omega) (by omega)]; exact x3.1, x3.2.congr (fun j _ _ => st _ _ (by omega) (by omega) (by omega) (by omega)) (fun x a b => by funext j; exact st _ _ (by omega) (by omega) (by omega) (by omega))⟩
      · rw [st _ _ (by omega) (by omega) (by omega) (by omega), x4, hD]; rfl
      · show J4 538 26 = nI (S.2.2.2.1 ++ [P]).length
        rw [hJ4, up_ne (by omega), up_eq, List.length_append, ← hn]; rfl
      · injection hP' with hP'
        rw [← hP']
        exact MF.row ⟨a1, a2⟩ (by funext j; exact s4 _ _ (by omega))
      · have hh' : h' < (S.2.2.2.1 ++ [P]).length := hh'
        show MF 550 (157 * h') ((S.2.2.2.1 ++ [P]).getD h' a_nil) J4
        by_cases eh : h' = n
        · have eg : (S.2.2.2.1 ++ [P]).getD h' a_nil = P := by
            rw [eh, hn, List.getD_eq_getElem?_getD, List.getElem?_append_right (by omega)]
            simp
          rw [eg, eh]
          have : MF 550 (157 * n) P J2 := by rw [hJ2]; exact hMF1.cp hPL
          exact this.row (by funext j; exact s5 j)
        · have hlt : h' < S.2.2.2.1.length := by simp at hh'; omega
          have eg : (S.2.2.2.1 ++ [P]).getD h' a_nil = S.2.2.2.1.getD h' a_nil := by
            rw [List.getD_eq_getElem?_getD, List.getElem?_append_left hlt, ← List.getD_eq_getElem?_getD]
          rw [eg]
          obtain ⟨G2, -, -, hpa⟩ := hA.2.2.2.2 P hD
          refine (x7 h' hlt).tr (hpa h' hlt).1.pl (fun j hj => ?_)
          rw [s5, hJ2, cp_at, if_neg (fun q => by omega), s1 _ _ (by omega)]
      · show J4 538 37 = -1
        rw [hJ4, up_eq]
      · funext j
        rw [st _ _ (by omega) (by omega) (by omega) (by omega), g2.lo x hx]
      · show J4 538 0 = 0
        rw [s4 _ _ (by omega), a4 _ _ (by omega) (by omega) (by omega), s2 _ _ (by omega), hJ1, up_eq]
      · show pm_C (d + 9) 67 _ _ q ↔ _
        have hat := (g4 P hD).at hs.2.2.1
        rw [← hs.2.2.2.1] at hat
        have hb1 : J2 553 i.toNatClampNeg = nI m.1 := by rw [s2 _ _ (by omega), s1 _ _ (by omega)]; exact hat.1
        have hb2 : J2 554 i.toNatClampNeg = a_ch m.2 := by rw [s2 _ _ (by omega), s1 _ _ (by omega)]; exact hat.2
        have hnn := nn_nI hs.1
        have hv : vp_in i 2200 ↔ True := iff_true_intro (by rw [hnn.1]; exact (sm_in hnn.2).mpr (by have := hs.2.2.1; omega))
        have hloop := c67_l (d := d + 1) (k := k) (o := o) (q := q) (y1 := some (.int i)) (y2 := some (.int (nI (o_mv S).length))) hn60 h261 157 0 rfl
        rw [cp_zero, ← hJ2, show nI 0 = (0 : Int32) from rfl] at hloop
        have h10 : J1 538 0 = 0 := by rw [hJ1, up_eq]
        rw [n67]
        simp (decide := true) only [q67_0, q67_1, q67_4, q67_5, q67_6, q67_7, q67_10, q67_11, q67_12, q67_15, q67_16, q67_19, q67_20, q67_23, q67_25, q67_28, q67_29, q67_32, q67_33, q67_36, q67_37, q67_40, q67_43, q67_44, q67_45, q67_46, W_1, W_I, W_mk, W_tk, pm_rv, rf_0_0, rf_0_1, rf_0_2, rf_0_3, rf_0_4, rf_0_7, rf_0_8, rf_1_0, rf_1_2, rf_3_0, rf_3_1, rf_3_6, rf_3_7, rf_3_8, rf_9_0, rf_9_1, rf_10_0, rf_10_1, rf_10_6, rf_10_7, rf_10_8, rf_17_0, rf_17_1, rf_538_2, rf_538_6, rf_538_7, rf_538_9, rf_538_11, rf_538_12, rf_538_18, rf_538_19, rf_538_22, rf_538_23, rf_538_25, rf_538_27, rf_538_28, rf_538_30, rf_538_31, rf_538_32, rf_538_33, rf_538_34, rf_538_35, rf_538_36, ob_0, ob_1, ob_3, ob_9, ob_10, ob_17, ob_538, ar_2, ar_4, ar_5, ar_6, ar_7, ar_8, ar_11, ar_12, ar_13, ar_14, ar_15, ar_16, ar_116, ar_117, ar_539, ar_540, ar_541, ar_542, ar_543, ar_544, ar_545, ar_546, ar_547, ar_548, ar_549, ar_550, ar_551, ar_552, ar_553, ar_554, ar_555, ar_556, ar_557, ar_558, ex_eq, ex_ite, pm_bk_r, pm_bk_t, ol_nil, ol_one, true_and, and_true, false_and, and_false, reduceIte, Nat.reduceEqDiff, up_at, Nat.add_left_cancel_iff, g6, hs.1, hs.2.1, h26, e60, show (n = 60) ↔ False from iff_false_intro (by omega), hJ1.symm, h10, hloop, m_val]
        simp (decide := true) only [q67_81, q67_82, q67_83, q67_86, q67_87, q67_88, q67_89, q67_92, q67_93, q67_94, q67_97, q67_98, q67_99, q67_102, q67_103, q67_104, q67_107, q67_108, q67_109, q67_112, q67_113, q67_116, W_1, W_I, W_mk, W_tk, pm_rv, rf_0_0, rf_0_1, rf_0_2, rf_0_3, rf_0_4, rf_0_7, rf_0_8, rf_1_0, rf_1_2, rf_3_0, rf_3_1, rf_3_6, rf_3_7, rf_3_8, rf_9_0, rf_9_1, rf_10_0, rf_10_1, rf_10_6, rf_10_7, rf_10_8, rf_17_0, rf_17_1, rf_538_2, rf_538_6, rf_538_7, rf_538_9, rf_538_11, rf_538_12, rf_538_18, rf_538_19, rf_538_22, rf_538_23, rf_538_25, rf_538_27, rf_538_28, rf_538_30, rf_538_31, rf_538_32, rf_538_33, rf_538_34, rf_538_35, rf_538_36, ob_0, ob_1, ob_3, ob_9, ob_10, ob_17, ob_538, ar_2, ar_4, ar_5, ar_6, ar_7, ar_8, ar_11, ar_12, ar_13, ar_14, ar_15, ar_16, ar_116, ar_117, ar_539, ar_540, ar_541, ar_542, ar_543, ar_544, ar_545, ar_546, ar_547, ar_548, ar_549, ar_550, ar_551, ar_552, ar_553, ar_554, ar_555, ar_556, ar_557, ar_558, ex_eq, ex_ite, pm_bk_r, pm_bk_t, ol_nil, ol_one, true_and, and_true, false_and, and_false, reduceIte, Nat.reduceEqDiff, up_at, Nat.add_left_cancel_iff, hv, hb1, hb2, a5, h263, sm_s]
        rw [hJ4]
theorem c68_l {n : Nat} (hn : n < 60) (h26 : I 538 26 = nI n) {q : pm_Res} : ∀ m i, i + m = 157 → (pm_R d 68 33 [some (.ref 538), some (.int (nI i))] [] (Wm (pm_cpy I 550 (157 * n) 549 0 i) k o) q ↔ pm_R d 68 67 [some (.ref 538), some (.int 157)] [] (Wm (pm_cpy I 550 (157 * n) 549 0 157) k o) q) := by
  intro m
  induction m with
  | zero =>
    intro i hi
    obtain rfl : i = 157 := by omega
    rw [q68_33]
    simp (decide := true) only [q68_34, q68_37, ex_eq, ex_ite, pm_bk_r, pm_bk_t, ol_nil, ol_one, true_and, and_true, false_and, and_false, reduceIte, Nat.reduceEqDiff, up_at, Nat.add_left_cancel_iff]
    exact Iff.rfl
  | succ m ih =>
    intro i hi
    have h1 : pm_cpy I 550 (157 * n) 549 0 i 550 (157 * n + i) = I 550 (157 * n + i) := cp_ne (by decide)
    have h3 : pm_cpy I 550 (157 * n) 549 0 i 538 26 = nI n := by rw [cp_ne (by decide)]; exact h26
    have h2 := cp_succ (I := I) (a := 550) (sp := 157 * n) (b := 549) (dp := 0) (n := i)
    rw [Nat.zero_add] at h2
    rw [q68_33]
    simp (decide := true) only [q68_34, q68_37, q68_40, q68_41, q68_44, q68_45, q68_46, q68_49, q68_52, q68_53, q68_56, q68_57, q68_58, q68_59, q68_60, q68_61, q68_64, W_1, W_I, W_mk, W_tk, pm_rv, rf_0_0, rf_0_1, rf_0_2, rf_0_3, rf_0_4, rf_0_7, rf_0_8, rf_1_0, rf_1_2, rf_3_0, rf_3_1, rf_3_6, rf_3_7, rf_3_8, rf_9_0, rf_9_1, rf_10_0, rf_10_1, rf_10_6, rf_10_7, rf_10_8, rf_17_0, rf_17_1, rf_538_2, rf_538_6, rf_538_7, rf_538_9, rf_538_11, rf_538_12, rf_538_18, rf_538_19, rf_538_22, rf_538_23, rf_538_25, rf_538_27, rf_538_28, rf_538_30, rf_538_31, rf_538_32, rf_538_33, rf_538_34, rf_538_35, rf_538_36, ob_0, ob_1, ob_3, ob_9, ob_10, ob_17, ob_538, ar_2, ar_4, ar_5, ar_6, ar_7, ar_8, ar_11, ar_12, ar_13, ar_14, ar_15, ar_16, ar_116, ar_117, ar_539, ar_540, ar_541, ar_542, ar_543, ar_544, ar_545, ar_546, ar_547, ar_548, ar_549, ar_550, ar_551, ar_552, ar_553, ar_554, ar_555, ar_556, ar_557, ar_558, ex_eq, ex_ite, pm_bk_r, pm_bk_t, ol_nil, ol_one, true_and, and_true, false_and, and_false, reduceIte, Nat.reduceEqDiff, up_at, Nat.add_left_cancel_iff, show (nI i < 157) ↔ True from iff_true_intro (by rw [show (157 : Int32) = nI 157 from rfl, sm_lt (by omega) (by omega)]; omega), h3, k157, sm_in (show i < 2147483648 by omega), show i < 157 by omega, sm_cl (show i < 2147483648 by omega), sm_in (show 157 * n + i < 2147483648 by omega), show 157 * n + i < 9420 by omega, sm_cl (show 157 * n + i < 2147483648 by omega), h1, h2, sm_s, ih (i + 1) (by omega)]
theorem m68 (hA : AOK S) (h : MI S I) : MOK (o_undo S) 0 (bI (decide (¬ S.2.2.2.1.length = 0))) I k o (fun M q => pm_C (d + 1) 68 [.ref 538] M q) := by
  have h60 := hA.2.2.1
  have h26 := h.2.2.2.2.1
  have h24 := h.2.2.2.1
  unfold o_undo
  by_cases h0 : S.2.2.2.1.length = 0
  · rw [if_pos h0]
    have ht := h.th 0
    refine ⟨_, ht.1, ht.2, up_eq, fun q => ?_⟩
    show pm_C (d + 1) 68 _ _ q ↔ _
    have e26 : I 538 26 = 0 := by rw [h26, h0]; rfl
    rw [n68, decide_eq_false (by simpa using h0)]
    cases hD : S.2.2.1.isSome with
    | false =>
      rw [hD] at h24
      have h24 : I 538 24 = 0 := h24
      simp (decide := true) only [q68_0, q68_1, q68_2, q68_5, q68_6, q68_9, q68_12, q68_13, q68_16, q68_19, q68_20, W_1, W_I, W_mk, W_tk, pm_rv, rf_0_0, rf_0_1, rf_0_2, rf_0_3, rf_0_4, rf_0_7, rf_0_8, rf_1_0, rf_1_2, rf_3_0, rf_3_1, rf_3_6, rf_3_7, rf_3_8, rf_9_0, rf_9_1, rf_10_0, rf_10_1, rf_10_6, rf_10_7, rf_10_8, rf_17_0, rf_17_1, rf_538_2, rf_538_6, rf_538_7, rf_538_9, rf_538_11, rf_538_12, rf_538_18, rf_538_19, rf_538_22, rf_538_23, rf_538_25, rf_538_27, rf_538_28, rf_538_30, rf_538_31, rf_538_32, rf_538_33, rf_538_34, rf_538_35, rf_538_36, ob_0, ob_1, ob_3, ob_9, ob_10, ob_17, ob_538, ar_2, ar_4, ar_5, ar_6, ar_7, ar_8, ar_11, ar_12, ar_13, ar_14, ar_15, ar_16, ar_116, ar_117, ar_539, ar_540, ar_541, ar_542, ar_543, ar_544, ar_545, ar_546, ar_547, ar_548, ar_549, ar_550, ar_551, ar_552, ar_553, ar_554, ar_555, ar_556, ar_557, ar_558, ex_eq, ex_ite, pm_bk_r, pm_bk_t, ol_nil, ol_one, true_and, and_true, false_and, and_false, reduceIte, Nat.reduceEqDiff, up_at, Nat.add_left_cancel_iff, h24, bI]
    | true =>
      rw [hD] at h24
      have h24 : I 538 24 = 1 := h24
      simp (decide := true) only [q68_0, q68_1, q68_2, q68_5, q68_6, q68_9, q68_12, q68_13, q68_16, q68_19, q68_20, W_1, W_I, W_mk, W_tk, pm_rv, rf_0_0, rf_0_1, rf_0_2, rf_0_3, rf_0_4, rf_0_7, rf_0_8, rf_1_0, rf_1_2, rf_3_0, rf_3_1, rf_3_6, rf_3_7, rf_3_8, rf_9_0, rf_9_1, rf_10_0, rf_10_1, rf_10_6, rf_10_7, rf_10_8, rf_17_0, rf_17_1, rf_538_2, rf_538_6, rf_538_7, rf_538_9, rf_538_11, rf_538_12, rf_538_18, rf_538_19, rf_538_22, rf_538_23, rf_538_25, rf_538_27, rf_538_28, rf_538_30, rf_538_31, rf_538_32, rf_538_33, rf_538_34, rf_538_35, rf_538_36, ob_0, ob_1, ob_3, ob_9, ob_10, ob_17, ob_538, ar_2, ar_4, ar_5, ar_6, ar_7, ar_8, ar_11, ar_12, ar_13, ar_14, ar_15, ar_16, ar_116, ar_117, ar_539, ar_540, ar_541, ar_542, ar_543, ar_544, ar_545, ar_546, ar_547, ar_548, ar_549, ar_550, ar_551, ar_552, ar_553, ar_554, ar_555, ar_556, ar_557, ar_558, ex_eq, ex_ite, pm_bk_r, pm_bk_t, ol_nil, ol_one, true_and, and_true, false_and, and_false, reduceIte, Nat.reduceEqDiff, up_at, Nat.add_left_cancel_iff, h24, e26, bI]
  · rw [if_neg h0]
    obtain ⟨n, hn⟩ : ∃ n, n = S.2.2.2.1.length - 1 := ⟨_, rfl⟩
    have hlen : S.2.2.2.1.length = n + 1 := by omega
    rw [← hn]
    have hsome : S.2.2.1.isSome = true := by
      cases hD : S.2.2.1 with
      | none =>
        have := hA.2.2.2.1 hD
        rw [this] at h0
        exact absurd rfl h0
      | some P => rfl
    have hPD : PD (S.2.2.2.1.getD n a_nil) := by
      cases hD : S.2.2.1 with
      | none => rw [hD] at hsome; cases hsome
      | some P =>
        obtain ⟨G, -, -, h3⟩ := hA.2.2.2.2 P hD
        exact (h3 n (by omega)).1
    rw [hsome] at h24
    have h24 : I 538 24 = 1 := h24
    obtain ⟨J1, hJ1⟩ : ∃ J1, J1 = pm_up (pm_up I 538 0 0) 538 26 (nI n) := ⟨_, rfl⟩
    have s1 : ∀ x j, ¬ (x = 538 ∧ (j = 0 ∨ j = 26)) → J1 x j = I x j := fun x j a => by rw [hJ1, up_ne (by omega), up_ne (by omega)]
    have h261 : J1 538 26 = nI n := by rw [hJ1, up_eq]
    obtain ⟨J2, hJ2⟩ : ∃ J2, J2 = pm_cpy J1 550 (157 * n) 549 0 157 := ⟨_, rfl⟩
    have s2 : ∀ x j, x ≠ 549 → J2 x j = J1 x j := fun x j a => by rw [hJ2, cp_ne a]
    obtain ⟨J3, hJ3⟩ : ∃ J3, J3 = pm_up J2 538 37 (-1) := ⟨_, rfl⟩
    have s3 : ∀ x j, ¬ (x = 538 ∧ j = 37) → J3 x j = J2 x j := fun x j a => by rw [hJ3, up_ne a]
    have st : ∀ x j, x ≠ 549 → ¬ (x = 538 ∧ (j = 0 ∨ j = 26 ∨ j = 37)) → J3 x j = I x j := fun x j a b => by rw [s3 _ _ (by omega), s2 _ _ a, s1 _ _ (by omega)]
    have hTt : ∀ h', h' < n → (S.2.2.2.1.take n).getD h' a_nil = S.2.2.2.1.getD h' a_nil := fun h' hh' => by
      rw [List.getD_eq_getElem?_getD, List.getElem?_take_of_lt hh', ← List.getD_eq_getElem?_getD]
    have hlt : (S.2.2.2.1.take n).length = n := by rw [List.length_take]; omega
    obtain ⟨x1, ⟨W, x2⟩, x3, x4, x5, x6, x7, x8⟩ := h
    refine ⟨J3, ⟨⟨by rw [st _ _ (by omega) (by omega)]; exact x1.1, fun i hi => by rw [st _ _ (by omega) (by omega)]; exact x1.2 i hi⟩, ⟨W, x2.cg (st _ _ (by omega) (by omega)) (by funext j; exact st _ _ (by omega) (by omega))⟩, ?_, ?_, ?_, fun P' hP' => ?_, fun h' hh' => ?_, ?_⟩, fun x hx => by funext j; exact st _ _ (by omega) (by omega), ?_, fun q => ?_⟩
    · show MG S.2.1 J3
      cases hG : S.2.1 with
      | none =>
        rw [hG] at x3
        unfold MG at x3 ⊢
        rw [st _ _ (by omega) (by omega), st _ _ (by omega) (by omega), st _ _ (by omega) (by omega), st _ _ (by omega) (by omega), st _ _ (by omega) (by omega)]; exact x3
      | some G =>
        rw [hG] at x3
        unfold MG at x3 ⊢
        exact ⟨by rw [st _ _ (by omega) (by omega)]; exact x3.1, x3.2.congr (fun j _ _ => st _ _ (by omega) (by omega)) (fun x a b => by funext j; exact st _ _ (by omega) (by omega))⟩
    · show J3 538 24 = bI true
      rw [st _ _ (by omega) (by omega)]; exact h24
    · show J3 538 26 = nI (S.2.2.2.1.take n).length
      rw [hlt, s3 _ _ (by omega), s2 _ _ (by omega)]; exact h261
    · injection hP' with hP'
      rw [← hP']
      have hx7 := x7 n (by omega)
      have hx71 : MF 550 (157 * n) (S.2.2.2.1.getD n a_nil) J1 := hx7.row (by funext j; exact s1 _ _ (by omega))
      have : MF 549 0 (S.2.2.2.1.getD n a_nil) J2 := by rw [hJ2]; exact hx71.cp hPD.pl
      exact this.row (by funext j; exact s3 _ _ (by omega))
    · have hh' : h' < (S.2.2.2.1.take n).length := hh'
      rw [hlt] at hh'
      show MF 550 (157 * h') ((S.2.2.2.1.take n).getD h' a_nil) J3
      rw [hTt h' hh']
      exact (x7 h' (by omega)).row (by funext j; exact st _ _ (by omega) (by omega))
    · show J3 538 37 = -1
      rw [hJ3, up_eq]
    · rw [s3 _ _ (by omega), s2 _ _ (by omega), hJ1, up_ne (by omega), up_eq]
    · show pm_C (d + 1) 68 _ _ q ↔ _
      have e5 : I 538 26 = nI (n + 1) := by rw [h26, hlen]
      have e0 : (nI (n + 1) = 0) ↔ False := iff_false_intro (by rw [nI_eq0 (by omega)]; omega)
      have em : nI (n + 1) - 1 = nI n := by rw [show (1 : Int32) = nI 1 from rfl, sm_sub (by omega)]; rfl
      have hloop := c68_l (d := d) (k := k) (o := o) (q := q) (n := n) (by omega) h261 157 0 rfl
      rw [cp_zero, ← hJ2, show nI 0 = (0 : Int32) from rfl] at hloop
      rw [n68, decide_eq_true (by simpa using h0)]
      simp (decide := true) only [q68_0, q68_1, q68_2, q68_5, q68_6, q68_9, q68_12, q68_13, q68_16, q68_19, q68_20, q68_21, q68_22, q68_23, q68_26, q68_27, q68_28, q68_31, q68_32, W_1, W_I, W_mk, W_tk, pm_rv, rf_0_0, rf_0_1, rf_0_2, rf_0_3, rf_0_4, rf_0_7, rf_0_8, rf_1_0, rf_1_2, rf_3_0, rf_3_1, rf_3_6, rf_3_7, rf_3_8, rf_9_0, rf_9_1, rf_10_0, rf_10_1, rf_10_6, rf_10_7, rf_10_8, rf_17_0, rf_17_1, rf_538_2, rf_538_6, rf_538_7, rf_538_9, rf_538_11, rf_538_12, rf_538_18, rf_538_19, rf_538_22, rf_538_23, rf_538_25, rf_538_27, rf_538_28, rf_538_30, rf_538_31, rf_538_32, rf_538_33, rf_538_34, rf_538_35, rf_538_36, ob_0, ob_1, ob_3, ob_9, ob_10, ob_17, ob_538, ar_2, ar_4, ar_5, ar_6, ar_7, ar_8, ar_11, ar_12, ar_13, ar_14, ar_15, ar_16, ar_116, ar_117, ar_539, ar_540, ar_541, ar_542, ar_543, ar_544, ar_545, ar_546, ar_547, ar_548, ar_549, ar_550, ar_551, ar_552, ar_553, ar_554, ar_555, ar_556, ar_557, ar_558, ex_eq, ex_ite, pm_bk_r, pm_bk_t, ol_nil, ol_one, true_and, and_true, false_and, and_false, reduceIte, Nat.reduceEqDiff, up_at, Nat.add_left_cancel_iff, h24, e5, e0, em]
      rw [← hJ1, hloop]
      simp (decide := true) only [q68_67, q68_68, q68_69, q68_72, q68_73, W_1, W_I, W_mk, W_tk, pm_rv, rf_0_0, rf_0_1, rf_0_2, rf_0_3, rf_0_4, rf_0_7, rf_0_8, rf_1_0, rf_1_2, rf_3_0, rf_3_1, rf_3_6, rf_3_7, rf_3_8, rf_9_0, rf_9_1, rf_10_0, rf_10_1, rf_10_6, rf_10_7, rf_10_8, rf_17_0, rf_17_1, rf_538_2, rf_538_6, rf_538_7, rf_538_9, rf_538_11, rf_538_12, rf_538_18, rf_538_19, rf_538_22, rf_538_23, rf_538_25, rf_538_27, rf_538_28, rf_538_30, rf_538_31, rf_538_32, rf_538_33, rf_538_34, rf_538_35, rf_538_36, ob_0, ob_1, ob_3, ob_9, ob_10, ob_17, ob_538, ar_2, ar_4, ar_5, ar_6, ar_7, ar_8, ar_11, ar_12, ar_13, ar_14, ar_15, ar_16, ar_116, ar_117, ar_539, ar_540, ar_541, ar_542, ar_543, ar_544, ar_545, ar_546, ar_547, ar_548, ar_549, ar_550, ar_551, ar_552, ar_553, ar_554, ar_555, ar_556, ar_557, ar_558, ex_eq, ex_ite, pm_bk_r, pm_bk_t, ol_nil, ol_one, true_and, and_true, false_and, and_false, reduceIte, Nat.reduceEqDiff, up_at, Nat.add_left_cancel_iff, bI]
      rw [hJ3]
end MOS
