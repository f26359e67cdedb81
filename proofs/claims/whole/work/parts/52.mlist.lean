/-! THE REFERENCE: list -/
def FQ (e : Nat) (I J : Nat → Nat → Int32) : Prop := ∀ x j, x ≠ 549 → x ≠ 551 → ¬ (x = 538 ∧ j = 29) → ¬ (x = 552 ∧ j = e) → ¬ ((x = 553 ∨ x = 554) ∧ 200 * e ≤ j ∧ j < 200 * e + 200) → J x j = I x j
theorem FQ.refl {e : Nat} {I : Nat → Nat → Int32} : FQ e I I := fun _ _ _ _ _ _ _ => rfl
theorem FQ.trans {e : Nat} {I J K : Nat → Nat → Int32} (h1 : FQ e I J) (h2 : FQ e J K) : FQ e I K := fun x j a b c f g => (h2 x j a b c f g).trans (h1 x j a b c f g)
theorem FM.fq {e : Nat} {I J : Nat → Nat → Int32} (h : FM I J) : FQ e I J := fun x j a b c _ _ => h x j a b c
theorem GM.congr {G : Gm} {I J : Nat → Nat → Int32} (h : GM G I) (h1 : ∀ j, 15 ≤ j → j ≤ 21 → J 538 j = I 538 j) (h2 : ∀ x, 545 ≤ x → x ≤ 548 → J x = I x) : GM G J := by
  obtain ⟨a1, a2, a3, a4, a5, a6, a7⟩ := h
  refine ⟨⟨a1.1, fun j hj => ?_⟩, ?_, ?_, ?_, ?_, ?_, fun r hr => ?_⟩
  · rw [h2 547 (by omega) (by omega), h2 548 (by omega) (by omega)]; exact a1.2 j hj
  · rw [h1 _ (by omega) (by omega)]; exact a2
  · rw [h1 _ (by omega) (by omega)]; exact a3
  · rw [h1 _ (by omega) (by omega)]; exact a4
  · rw [h1 _ (by omega) (by omega)]; exact a5
  · rw [h1 _ (by omega) (by omega)]; exact a6
  · rw [h2 545 (by omega) (by omega), h2 546 (by omega) (by omega)]; exact a7 r hr
theorem GM.fq {e : Nat} {G : Gm} {I J : Nat → Nat → Int32} (h : GM G I) (hf : FQ e I J) : GM G J := h.congr (fun j h1 h2 => hf _ _ (by decide) (by decide) (by omega) (by omega) (by omega)) (fun x h1 h2 => by funext j; exact hf _ _ (by omega) (by omega) (by omega) (by omega) (by omega))
def LM (e : Nat) (L : List (Nat × Nat)) (I : Nat → Nat → Int32) : Prop := I 552 e = nI L.length ∧ ∀ i, i < L.length → I 553 (200 * e + i) = nI (L.getD i (0, 0)).1 ∧ I 554 (200 * e + i) = a_ch (L.getD i (0, 0)).2
theorem LM.fm {e : Nat} {L : List (Nat × Nat)} {I J : Nat → Nat → Int32} (h : LM e L I) (hf : FM I J) : LM e L J := ⟨by rw [hf _ _ (by decide) (by decide) (by omega)]; exact h.1, fun i hi => by rw [hf _ _ (by decide) (by decide) (by omega), hf _ _ (by decide) (by decide) (by omega)]; exact h.2 i hi⟩
def noI (e m : Nat) (x y : Int32) (I : Nat → Nat → Int32) : Nat → Nat → Int32 := pm_up (pm_up (pm_up I 553 (200 * e + m) x) 554 (200 * e + m) y) 552 e (nI (m + 1))
theorem LM.snoc {e : Nat} {L : List (Nat × Nat)} {I : Nat → Nat → Int32} {m : Nat × Nat} (h : LM e L I) : LM e (L ++ [m]) (noI e L.length (nI m.1) (a_ch m.2) I) := by
  unfold noI
  refine ⟨by rw [up_eq]; simp, fun i hi => ?_⟩
  by_cases ei : i = L.length
  · subst ei
    rw [up_ne (by omega), up_ne (by omega), up_eq, up_ne (by omega), up_eq, List.getD_eq_getElem?_getD, List.getElem?_append_right (by omega)]
    simp
  · have hi' : i < L.length := by simp at hi; omega
    rw [up_ne (by omega), up_ne (by omega), up_ne (by omega), up_ne (by omega), up_ne (by omega), up_ne (by omega), List.getD_eq_getElem?_getD, List.getElem?_append_left hi', ← List.getD_eq_getElem?_getD]
    exact h.2 i hi'
theorem FQ.no {e m : Nat} (hm : m < 200) {x y : Int32} {I : Nat → Nat → Int32} : FQ e I (noI e m x y I) := fun z j a b c f g => by
  unfold noI
  rw [up_ne (fun q => f q), up_ne (fun q => g ⟨Or.inr q.1, by omega, by omega⟩), up_ne (fun q => g ⟨Or.inl q.1, by omega, by omega⟩)]
section MLS
variable {d k : Nat} {o : Int64}
theorem c58 {I : Nat → Nat → Int32} {e m : Nat} {x y : Int32} (he : e < 11) (hm : m < 200) (h : I 552 e = nI m) {q : pm_Res} : pm_C (d + 1) 58 [.ref 538, .int (nI e), .int x, .int y] (Wm I k o) q ↔ q = (.inl none, Wm (noI e m x y I) k o) := by
  have e2 : (200 : Int32) * nI e + nI m = nI (200 * e + m) := by rw [show (200 : Int32) = nI 200 from rfl, sm_mul, sm_add]
  rw [n58]
  simp (decide := true) only [q58_0, q58_1, q58_4, q58_7, q58_8, q58_9, q58_10, q58_13, q58_14, q58_15, q58_16, q58_17, q58_18, q58_19, q58_22, q58_25, q58_26, q58_27, q58_28, q58_31, q58_32, q58_33, q58_34, q58_35, q58_36, q58_37, q58_40, q58_41, q58_42, q58_43, q58_44, q58_45, q58_46, W_1, W_I, W_mk, W_tk, pm_rv, rf_0_0, rf_0_1, rf_0_2, rf_0_3, rf_0_4, rf_0_7, rf_0_8, rf_1_0, rf_1_2, rf_3_0, rf_3_1, rf_3_6, rf_3_7, rf_3_8, rf_9_0, rf_9_1, rf_10_0, rf_10_1, rf_10_6, rf_10_7, rf_10_8, rf_17_0, rf_17_1, rf_538_2, rf_538_6, rf_538_7, rf_538_9, rf_538_11, rf_538_12, rf_538_18, rf_538_19, rf_538_22, rf_538_23, rf_538_25, rf_538_27, rf_538_28, rf_538_30, rf_538_31, rf_538_32, rf_538_33, rf_538_34, rf_538_35, rf_538_36, ob_0, ob_1, ob_3, ob_9, ob_10, ob_17, ob_538, ar_2, ar_4, ar_5, ar_6, ar_7, ar_8, ar_11, ar_12, ar_13, ar_14, ar_15, ar_16, ar_116, ar_117, ar_539, ar_540, ar_541, ar_542, ar_543, ar_544, ar_545, ar_546, ar_547, ar_548, ar_549, ar_550, ar_551, ar_552, ar_553, ar_554, ar_555, ar_556, ar_557, ar_558, ex_eq, ex_ite, pm_bk_r, pm_bk_t, ol_nil, ol_one, true_and, and_true, false_and, and_false, reduceIte, Nat.reduceEqDiff, up_at, Nat.add_left_cancel_iff, sm_in (show e < 2147483648 by omega), he, sm_cl (show e < 2147483648 by omega), h, e2, sm_in (show 200 * e + m < 2147483648 by omega), show 200 * e + m < 2200 by omega, sm_cl (show 200 * e + m < 2147483648 by omega), sm_s]
  exact Iff.rfl
/-- what holds while the reference lists -/
def LZ (G : Gm) (P : Pos) (e : Nat) (L : List (Nat × Nat)) (I : Nat → Nat → Int32) : Prop := GM G I ∧ MP 549 0 P I ∧ I 549 12 = nI P.2.2.2 ∧ LM e L I
theorem LZ.no {G : Gm} {P : Pos} {e : Nat} {L : List (Nat × Nat)} {m : Nat × Nat} {I : Nat → Nat → Int32} (h : LZ G P e L I) (hl : L.length < 200) : LZ G P e (L ++ [m]) (noI e L.length (nI m.1) (a_ch m.2) I) := by
  have e1 : noI e L.length (nI m.1) (a_ch m.2) I 549 = I 549 := by
    unfold noI
    rw [up_row (by decide), up_row (by decide), up_row (by decide)]
  exact ⟨h.1.fq (FQ.no hl), h.2.1.congr e1, by rw [e1]; exact h.2.2.1, h.2.2.2.snoc⟩
theorem LZ.val {G : Gm} (hG : g_ok G) {P : Pos} {I : Nat → Nat → Int32} {kk e : Nat} {L : List (Nat × Nat)} {c : Int32} (hc : CH (g_n G) c) (hk : g_sg G.1 kk 1 true) (h : LZ G P e L I) (hP : PA (g_n G) P) :
    ∃ J, LZ G P e L J ∧ FM I J ∧ ∀ q, (pm_C (d + 6) 56 [.ref 538, .int (nI kk), .int (nI P.2.2.2), .int c] (Wm I k o) q ↔ q = (.inl (some (.int (a_val G P c kk))), Wm J k o)) := by
  obtain ⟨J, g1, g2, g3, g4, g5⟩ := c56v (d := d) (k := k) (o := o) hG hc hk h.1 h.2.1 hP
  exact ⟨J, ⟨h.1.fm g2, g1, by rw [g3]; exact h.2.2.1, h.2.2.2.fm g2⟩, g2, g5⟩
theorem c59_i {G : Gm} (hG : g_ok G) {P : Pos} (hP : PA (g_n G) P) {e r c : Nat} (he : e < 11) (hr : r < G.2.2.2.1.length) (hM : (g_r G r).1 = true) (hc : c < g_n G) {L : List (Nat × Nat)} (hL : L.length < 200) {I : Nat → Nat → Int32} (h : LZ G P e L I) :
    ∃ J, LZ G P e (L ++ (if a_mayb G P r (c + 1) = true then [(r, c + 1)] else [])) J ∧ FQ e I J ∧ ∀ q, (pm_R (d + 6) 59 73 [some (.ref 538), some (.int (nI e)), some (.int (nI P.2.2.2)), some (.int (nI r)), some (.int (nI c))] [] (Wm I k o) q ↔ pm_R (d + 6) 59 73 [some (.ref 538), some (.int (nI e)), some (.int (nI P.2.2.2)), some (.int (nI r)), some (.int (nI (c + 1)))] [] (Wm J k o) q) := by
  have h8 : G.2.2.2.1.length ≤ 8 := hG.2.2.2.1
  have hn := g_n24 hG
  have hg := h.1.2.2.2.2.2.2 r hr
  rw [if_pos hM] at hg
  have hsr : nI G.2.1 * nI G.2.2.1 = nI (g_n G) := sm_mul _ _
  have e8 : a_ch (c + 1) = nI c := if_neg (by omega)
  have hs := hP.2.2.2
  by_cases hm : c ∈ P.1 P.2.2.2
  · obtain ⟨J, g1, g2, g3⟩ := h.val (d := d) (k := k) (o := o) hG (a_ch_CH (show c + 1 ≤ g_n G by omega)) (hG.2.2.2.2.1 r hr).1 hP
    rw [e8] at g3
    by_cases hv : a_val G P (nI c) (g_r G r).2.1 = 0
    · have e0 : a_mayb G P r (c + 1) = false := by simp [a_mayb, e8, hv]
      rw [e0]
      refine ⟨J, ?_, g2.fq, fun q => ?_⟩
      · rw [if_neg (by decide), List.append_nil]; exact g1
      · rw [q59_73]
        simp (decide := true) only [q59_75, q59_76, q59_79, q59_80, q59_83, q59_84, q59_87, q59_88, q59_91, q59_92, q59_93, q59_96, q59_97, q59_99, q59_100, q59_103, q59_106, q59_107, q59_108, q59_111, q59_112, q59_113, q59_114, q59_116, q59_119, q59_130, q59_133, W_1, W_I, W_mk, W_tk, pm_rv, rf_0_0, rf_0_1, rf_0_2, rf_0_3, rf_0_4, rf_0_7, rf_0_8, rf_1_0, rf_1_2, rf_3_0, rf_3_1, rf_3_6, rf_3_7, rf_3_8, rf_9_0, rf_9_1, rf_10_0, rf_10_1, rf_10_6, rf_10_7, rf_10_8, rf_17_0, rf_17_1, rf_538_2, rf_538_6, rf_538_7, rf_538_9, rf_538_11, rf_538_12, rf_538_18, rf_538_19, rf_538_22, rf_538_23, rf_538_25, rf_538_27, rf_538_28, rf_538_30, rf_538_31, rf_538_32, rf_538_33, rf_538_34, rf_538_35, rf_538_36, ob_0, ob_1, ob_3, ob_9, ob_10, ob_17, ob_538, ar_2, ar_4, ar_5, ar_6, ar_7, ar_8, ar_11, ar_12, ar_13, ar_14, ar_15, ar_16, ar_116, ar_117, ar_539, ar_540, ar_541, ar_542, ar_543, ar_544, ar_545, ar_546, ar_547, ar_548, ar_549, ar_550, ar_551, ar_552, ar_553, ar_554, ar_555, ar_556, ar_557, ar_558, ex_eq, ex_ite, pm_bk_r, pm_bk_t, ol_nil, ol_one, true_and, and_true, false_and, and_false, reduceIte, Nat.reduceEqDiff, up_at, Nat.add_left_cancel_iff, h.1.2.1, h.1.2.2.1, hsr, show (nI c < nI (g_n G)) ↔ True from iff_true_intro (by rw [sm_lt (by omega) (by omega)]; omega), sm_in (show r < 2147483648 by omega), show r < 8 by omega, sm_cl (show r < 2147483648 by omega), hg.1, hg.2, c60 (d := d + 4) h.2.1 hP.1 (show c < 24 by omega) (show P.2.2.2 < 6 by omega), hm, g3, hv, sm_s]
    · have e0 : a_mayb G P r (c + 1) = true := by simp [a_mayb, e8, hv, hm]
      rw [e0]
      have g4 := g1.no (m := (r, c + 1)) hL
      refine ⟨_, g4, g2.fq.trans (FQ.no hL), fun q => ?_⟩
      rw [q59_73]
      simp (decide := true) only [q59_75, q59_76, q59_79, q59_80, q59_83, q59_84, q59_87, q59_88, q59_91, q59_92, q59_93, q59_96, q59_97, q59_99, q59_100, q59_103, q59_106, q59_107, q59_108, q59_111, q59_112, q59_113, q59_114, q59_116, q59_119, q59_122, q59_123, q59_124, q59_125, q59_127, q59_130, q59_133, W_1, W_I, W_mk, W_tk, pm_rv, rf_0_0, rf_0_1, rf_0_2, rf_0_3, rf_0_4, rf_0_7, rf_0_8, rf_1_0, rf_1_2, rf_3_0, rf_3_1, rf_3_6, rf_3_7, rf_3_8, rf_9_0, rf_9_1, rf_10_0, rf_10_1, rf_10_6, rf_10_7, rf_10_8, rf_17_0, rf_17_1, rf_538_2, rf_538_6, rf_538_7, rf_538_9, rf_538_11, rf_538_12, rf_538_18, rf_538_19, rf_538_22, rf_538_23, rf_538_25, rf_538_27, rf_538_28, rf_538_30, rf_538_31, rf_538_32, rf_538_33, rf_538_34, rf_538_35, rf_538_36, ob_0, ob_1, ob_3, ob_9, ob_10, ob_17, ob_538, ar_2, ar_4, ar_5, ar_6, ar_7, ar_8, ar_11, ar_12, ar_13, ar_14, ar_15, ar_16, ar_116, ar_117, ar_539, ar_540, ar_541, ar_542, ar_543, ar_544, ar_545, ar_546, ar_547, ar_548, ar_549, ar_550, ar_551, ar_552, ar_553, ar_554, ar_555, ar_556, ar_557, ar_558, ex_eq, ex_ite, pm_bk_r, pm_bk_t, ol_nil, ol_one, true_and, and_true, false_and, and_false, reduceIte, Nat.reduceEqDiff, up_at, Nat.add_left_cancel_iff, h.1.2.1, h.1.2.2.1, hsr, show (nI c < nI (g_n G)) ↔ True from iff_true_intro (by rw [sm_lt (by omega) (by omega)]; omega), sm_in (show r < 2147483648 by omega), show r < 8 by omega, sm_cl (show r < 2147483648 by omega), hg.1, hg.2, c60 (d := d + 4) h.2.1 hP.1 (show c < 24 by omega) (show P.2.2.2 < 6 by omega), hm, g3, hv, sm_s, c58 (d := d + 5) he hL g1.2.2.2.1, e8]
  · have e0 : a_mayb G P r (c + 1) = false := by simp [a_mayb, hm]
    rw [e0]
    refine ⟨I, ?_, FQ.refl, fun q => ?_⟩
    · rw [if_neg (by decide), List.append_nil]; exact h
    · rw [q59_73]
      simp (decide := true) only [q59_75, q59_76, q59_79, q59_80, q59_83, q59_84, q59_87, q59_88, q59_91, q59_92, q59_93, q59_96, q59_97, q59_99, q59_100, q59_103, q59_130, q59_133, W_1, W_I, W_mk, W_tk, pm_rv, rf_0_0, rf_0_1, rf_0_2, rf_0_3, rf_0_4, rf_0_7, rf_0_8, rf_1_0, rf_1_2, rf_3_0, rf_3_1, rf_3_6, rf_3_7, rf_3_8, rf_9_0, rf_9_1, rf_10_0, rf_10_1, rf_10_6, rf_10_7, rf_10_8, rf_17_0, rf_17_1, rf_538_2, rf_538_6, rf_538_7, rf_538_9, rf_538_11, rf_538_12, rf_538_18, rf_538_19, rf_538_22, rf_538_23, rf_538_25, rf_538_27, rf_538_28, rf_538_30, rf_538_31, rf_538_32, rf_538_33, rf_538_34, rf_538_35, rf_538_36, ob_0, ob_1, ob_3, ob_9, ob_10, ob_17, ob_538, ar_2, ar_4, ar_5, ar_6, ar_7, ar_8, ar_11, ar_12, ar_13, ar_14, ar_15, ar_16, ar_116, ar_117, ar_539, ar_540, ar_541, ar_542, ar_543, ar_544, ar_545, ar_546, ar_547, ar_548, ar_549, ar_550, ar_551, ar_552, ar_553, ar_554, ar_555, ar_556, ar_557, ar_558, ex_eq, ex_ite, pm_bk_r, pm_bk_t, ol_nil, ol_one, true_and, and_true, false_and, and_false, reduceIte, Nat.reduceEqDiff, up_at, Nat.add_left_cancel_iff, h.1.2.1, h.1.2.2.1, hsr, show (nI c < nI (g_n G)) ↔ True from iff_true_intro (by rw [sm_lt (by omega) (by omega)]; omega), sm_in (show r < 2147483648 by omega), show r < 8 by omega, sm_cl (show r < 2147483648 by omega), hg.1, hg.2, c60 (d := d + 4) h.2.1 hP.1 (show c < 24 by omega) (show P.2.2.2 < 6 by omega), hm, sm_s]
theorem c59_m {G : Gm} (hG : g_ok G) {P : Pos} (hP : PA (g_n G) P) {e r : Nat} (he : e < 11) (hr : r < G.2.2.2.1.length) (hM : (g_r G r).1 = true) : ∀ (n c : Nat) (L : List (Nat × Nat)) (I : Nat → Nat → Int32), c + n = g_n G → L.length + n ≤ 192 → LZ G P e L I →
    ∃ J z4, LZ G P e (L ++ a_one G P r ((List.range' c n).map (· + 1))) J ∧ FQ e I J ∧ ∀ q, (pm_R (d + 6) 59 73 [some (.ref 538), some (.int (nI e)), some (.int (nI P.2.2.2)), some (.int (nI r)), some (.int (nI c))] [] (Wm I k o) q ↔ pm_R (d + 6) 59 31 [some (.ref 538), some (.int (nI e)), some (.int (nI P.2.2.2)), some (.int (nI (r + 1))), z4] [] (Wm J k o) q) := by
  have hn := g_n24 hG
  have hsr : nI G.2.1 * nI G.2.2.1 = nI (g_n G) := sm_mul _ _
  intro n
  induction n with
  | zero =>
    intro c L I hc hl h
    refine ⟨I, some (.int (nI c)), ?_, FQ.refl, fun q => ?_⟩
    · show LZ G P e (L ++ []) I
      rw [List.append_nil]; exact h
    · rw [q59_73]
      simp only [q59_75, q59_76, q59_79, q59_80, q59_83, q59_84, q59_136, q59_139, W_1, W_I, W_mk, W_tk, pm_rv, rf_0_0, rf_0_1, rf_0_2, rf_0_3, rf_0_4, rf_0_7, rf_0_8, rf_1_0, rf_1_2, rf_3_0, rf_3_1, rf_3_6, rf_3_7, rf_3_8, rf_9_0, rf_9_1, rf_10_0, rf_10_1, rf_10_6, rf_10_7, rf_10_8, rf_17_0, rf_17_1, rf_538_2, rf_538_6, rf_538_7, rf_538_9, rf_538_11, rf_538_12, rf_538_18, rf_538_19, rf_538_22, rf_538_23, rf_538_25, rf_538_27, rf_538_28, rf_538_30, rf_538_31, rf_538_32, rf_538_33, rf_538_34, rf_538_35, rf_538_36, ob_0, ob_1, ob_3, ob_9, ob_10, ob_17, ob_538, ar_2, ar_4, ar_5, ar_6, ar_7, ar_8, ar_11, ar_12, ar_13, ar_14, ar_15, ar_16, ar_116, ar_117, ar_539, ar_540, ar_541, ar_542, ar_543, ar_544, ar_545, ar_546, ar_547, ar_548, ar_549, ar_550, ar_551, ar_552, ar_553, ar_554, ar_555, ar_556, ar_557, ar_558, ex_eq, ex_ite, pm_bk_r, pm_bk_t, ol_nil, ol_one, true_and, and_true, false_and, and_false, reduceIte, Nat.reduceEqDiff, up_at, Nat.add_left_cancel_iff, h.1.2.1, h.1.2.2.1, hsr, show (nI c < nI (g_n G)) ↔ False from iff_false_intro (by rw [sm_lt (by omega) (by omega)]; omega), sm_s]
  | succ n ih =>
    intro c L I hc hl h
    obtain ⟨J, g1, g2, g3⟩ := c59_i (d := d) (k := k) (o := o) hG hP he hr hM (c := c) (by omega) (by omega) h
    obtain ⟨J', z4, f1, f2, f3⟩ := ih (c + 1) _ J (by omega) (by
      rw [List.length_append]
      split <;> simp <;> omega) g1
    have el : L ++ a_one G P r ((List.range' c (n + 1)).map (· + 1)) = (L ++ (if a_mayb G P r (c + 1) = true then [(r, c + 1)] else [])) ++ a_one G P r ((List.range' (c + 1) n).map (· + 1)) := by
      rw [show (List.range' c (n + 1)).map (· + 1) = (c + 1) :: (List.range' (c + 1) n).map (· + 1) from rfl, a_one_cons, List.append_assoc]
    rw [el]
    exact ⟨J', z4, f1, g2.trans f2, fun q => (g3 q).trans (f3 q)⟩
theorem c59_o {G : Gm} (hG : g_ok G) {P : Pos} (hP : PA (g_n G) P) {e : Nat} (he : e < 11) : ∀ (n r : Nat) (L : List (Nat × Nat)) (I : Nat → Nat → Int32) (y4 : Option Value), r + n = G.2.2.2.1.length → L.length + 24 * n ≤ 192 → LZ G P e L I →
    ∃ J, LZ G P e (L ++ (List.range' r n).flatMap (a_rule G P)) J ∧ FQ e I J ∧ ∀ q, (pm_R (d + 6) 59 31 [some (.ref 538), some (.int (nI e)), some (.int (nI P.2.2.2)), some (.int (nI r)), y4] [] (Wm I k o) q ↔ q = (.inl none, Wm J k o)) := by
  have hn := g_n24 hG
  have h8 : G.2.2.2.1.length ≤ 8 := hG.2.2.2.1
  have hsr : nI G.2.1 * nI G.2.2.1 = nI (g_n G) := sm_mul _ _
  intro n
  induction n with
  | zero =>
    intro r L I y4 hc hl h
    refine ⟨I, ?_, FQ.refl, fun q => ?_⟩
    · show LZ G P e (L ++ []) I
      rw [List.append_nil]; exact h
    · rw [q59_31]
      simp only [q59_32, q59_33, q59_36, q59_142, W_1, W_I, W_mk, W_tk, pm_rv, rf_0_0, rf_0_1, rf_0_2, rf_0_3, rf_0_4, rf_0_7, rf_0_8, rf_1_0, rf_1_2, rf_3_0, rf_3_1, rf_3_6, rf_3_7, rf_3_8, rf_9_0, rf_9_1, rf_10_0, rf_10_1, rf_10_6, rf_10_7, rf_10_8, rf_17_0, rf_17_1, rf_538_2, rf_538_6, rf_538_7, rf_538_9, rf_538_11, rf_538_12, rf_538_18, rf_538_19, rf_538_22, rf_538_23, rf_538_25, rf_538_27, rf_538_28, rf_538_30, rf_538_31, rf_538_32, rf_538_33, rf_538_34, rf_538_35, rf_538_36, ob_0, ob_1, ob_3, ob_9, ob_10, ob_17, ob_538, ar_2, ar_4, ar_5, ar_6, ar_7, ar_8, ar_11, ar_12, ar_13, ar_14, ar_15, ar_16, ar_116, ar_117, ar_539, ar_540, ar_541, ar_542, ar_543, ar_544, ar_545, ar_546, ar_547, ar_548, ar_549, ar_550, ar_551, ar_552, ar_553, ar_554, ar_555, ar_556, ar_557, ar_558, ex_eq, ex_ite, pm_bk_r, pm_bk_t, ol_nil, ol_one, true_and, and_true, false_and, and_false, reduceIte, Nat.reduceEqDiff, up_at, Nat.add_left_cancel_iff, h.1.2.2.2.1, show (nI r < nI G.2.2.2.1.length) ↔ False from iff_false_intro (by rw [sm_lt (by omega) (by omega)]; omega)]
  | succ n ih =>
    intro r L I y4 hc hl h
    have hr : r < G.2.2.2.1.length := by omega
    have hg := h.1.2.2.2.2.2.2 r hr
    have elt : (nI r < nI G.2.2.2.1.length) ↔ True := iff_true_intro (by rw [sm_lt (by omega) (by omega)]; omega)
    have el : L ++ (List.range' r (n + 1)).flatMap (a_rule G P) = (L ++ a_rule G P r) ++ (List.range' (r + 1) n).flatMap (a_rule G P) := by
      rw [show List.range' r (n + 1) = r :: List.range' (r + 1) n from rfl, List.flatMap_cons, List.append_assoc]
    rw [el]
    by_cases hM : (g_r G r).1 = true
    · rw [if_pos hM] at hg
      have er : a_rule G P r = a_one G P r ((List.range' 0 (g_n G)).map (· + 1)) := by rw [a_rule_one, if_pos hM]
      have hlen : (a_rule G P r).length ≤ 24 := by
        rw [er]
        refine Nat.le_trans a_one_len ?_
        rw [List.length_map, List.length_range']
        exact hn.2
      obtain ⟨J, z4, g1, g2, g3⟩ := c59_m (d := d) (k := k) (o := o) hG hP he hr hM (g_n G) 0 L I (by omega) (by omega) h
      rw [← er] at g1
      obtain ⟨J', f1, f2, f3⟩ := ih (r + 1) _ J z4 (by omega) (by rw [List.length_append]; omega) g1
      refine ⟨J', f1, g2.trans f2, fun q => ?_⟩
      have g3' := g3 q
      rw [show nI 0 = (0 : Int32) from rfl] at g3'
      rw [q59_31]
      simp (decide := true) only [q59_32, q59_33, q59_36, q59_39, q59_40, q59_43, q59_44, q59_45, q59_70, q59_71, W_1, W_I, W_mk, W_tk, pm_rv, rf_0_0, rf_0_1, rf_0_2, rf_0_3, rf_0_4, rf_0_7, rf_0_8, rf_1_0, rf_1_2, rf_3_0, rf_3_1, rf_3_6, rf_3_7, rf_3_8, rf_9_0, rf_9_1, rf_10_0, rf_10_1, rf_10_6, rf_10_7, rf_10_8, rf_17_0, rf_17_1, rf_538_2, rf_538_6, rf_538_7, rf_538_9, rf_538_11, rf_538_12, rf_538_18, rf_538_19, rf_538_22, rf_538_23, rf_538_25, rf_538_27, rf_538_28, rf_538_30, rf_538_31, rf_538_32, rf_538_33, rf_538_34, rf_538_35, rf_538_36, ob_0, ob_1, ob_3, ob_9, ob_10, ob_17, ob_538, ar_2, ar_4, ar_5, ar_6, ar_7, ar_8, ar_11, ar_12, ar_13, ar_14, ar_15, ar_16, ar_116, ar_117, ar_539, ar_540, ar_541, ar_542, ar_543, ar_544, ar_545, ar_546, ar_547, ar_548, ar_549, ar_550, ar_551, ar_552, ar_553, ar_554, ar_555, ar_556, ar_557, ar_558, ex_eq, ex_ite, pm_bk_r, pm_bk_t, ol_nil, ol_one, true_and, and_true, false_and, and_false, reduceIte, Nat.reduceEqDiff, up_at, Nat.add_left_cancel_iff, h.1.2.2.2.1, elt, sm_in (show r < 2147483648 by omega), show r < 8 by omega, sm_cl (show r < 2147483648 by omega), hg.1, g3', f3]
    · rw [if_neg hM] at hg
      have er : a_rule G P r = (if a_mayb G P r 0 = true then [(r, 0)] else []) := by
        rw [a_rule_one, if_neg hM]
        show a_one G P r (0 :: []) = _
        rw [a_one_cons]
        exact List.append_nil _
      have hlen : (a_rule G P r).length ≤ 1 := by rw [er]; split <;> simp
      obtain ⟨J, g1, g2, g3⟩ := h.val (d := d) (k := k) (o := o) hG (Or.inl rfl) (hG.2.2.2.2.1 r hr).1 hP
      have hgJ := g1.1.2.2.2.2.2.2 r hr
      rw [if_neg hM] at hgJ
      by_cases hv : a_val G P (-1) (g_r G r).2.1 = 0
      · have e0 : a_mayb G P r 0 = false := by
          have : a_ch 0 = -1 := rfl
          simp [a_mayb, this, hv]
        rw [e0, if_neg (by decide)] at er
        rw [er, List.append_nil]
        obtain ⟨J', f1, f2, f3⟩ := ih (r + 1) L J (some (.int 0)) (by omega) (by omega) g1
        refine ⟨J', f1, g2.fq.trans f2, fun q => ?_⟩
        rw [q59_31]
        simp (decide := true) only [q59_32, q59_33, q59_36, q59_39, q59_40, q59_43, q59_44, q59_45, q59_48, q59_49, q59_50, q59_53, q59_54, q59_55, q59_56, q59_57, q59_60, q59_70, q59_71, W_1, W_I, W_mk, W_tk, pm_rv, rf_0_0, rf_0_1, rf_0_2, rf_0_3, rf_0_4, rf_0_7, rf_0_8, rf_1_0, rf_1_2, rf_3_0, rf_3_1, rf_3_6, rf_3_7, rf_3_8, rf_9_0, rf_9_1, rf_10_0, rf_10_1, rf_10_6, rf_10_7, rf_10_8, rf_17_0, rf_17_1, rf_538_2, rf_538_6, rf_538_7, rf_538_9, rf_538_11, rf_538_12, rf_538_18, rf_538_19, rf_538_22, rf_538_23, rf_538_25, rf_538_27, rf_538_28, rf_538_30, rf_538_31, rf_538_32, rf_538_33, rf_538_34, rf_538_35, rf_538_36, ob_0, ob_1, ob_3, ob_9, ob_10, ob_17, ob_538, ar_2, ar_4, ar_5, ar_6, ar_7, ar_8, ar_11, ar_12, ar_13, ar_14, ar_15, ar_16, ar_116, ar_117, ar_539, ar_540, ar_541, ar_542, ar_543, ar_544, ar_545, ar_546, ar_547, ar_548, ar_549, ar_550, ar_551, ar_552, ar_553, ar_554, ar_555, ar_556, ar_557, ar_558, ex_eq, ex_ite, pm_bk_r, pm_bk_t, ol_nil, ol_one, true_and, and_true, false_and, and_false, reduceIte, Nat.reduceEqDiff, up_at, Nat.add_left_cancel_iff, h.1.2.2.2.1, elt, sm_in (show r < 2147483648 by omega), show r < 8 by omega, sm_cl (show r < 2147483648 by omega), hg.1, hg.2, g3, hv]
        rw [q59_73]
        simp (decide := true) only [q59_75, q59_76, q59_79, q59_80, q59_83, q59_84, q59_87, q59_88, q59_91, q59_92, q59_93, q59_136, q59_139, W_1, W_I, W_mk, W_tk, pm_rv, rf_0_0, rf_0_1, rf_0_2, rf_0_3, rf_0_4, rf_0_7, rf_0_8, rf_1_0, rf_1_2, rf_3_0, rf_3_1, rf_3_6, rf_3_7, rf_3_8, rf_9_0, rf_9_1, rf_10_0, rf_10_1, rf_10_6, rf_10_7, rf_10_8, rf_17_0, rf_17_1, rf_538_2, rf_538_6, rf_538_7, rf_538_9, rf_538_11, rf_538_12, rf_538_18, rf_538_19, rf_538_22, rf_538_23, rf_538_25, rf_538_27, rf_538_28, rf_538_30, rf_538_31, rf_538_32, rf_538_33, rf_538_34, rf_538_35, rf_538_36, ob_0, ob_1, ob_3, ob_9, ob_10, ob_17, ob_538, ar_2, ar_4, ar_5, ar_6, ar_7, ar_8, ar_11, ar_12, ar_13, ar_14, ar_15, ar_16, ar_116, ar_117, ar_539, ar_540, ar_541, ar_542, ar_543, ar_544, ar_545, ar_546, ar_547, ar_548, ar_549, ar_550, ar_551, ar_552, ar_553, ar_554, ar_555, ar_556, ar_557, ar_558, ex_eq, ex_ite, pm_bk_r, pm_bk_t, ol_nil, ol_one, true_and, and_true, false_and, and_false, reduceIte, Nat.reduceEqDiff, up_at, Nat.add_left_cancel_iff, g1.1.2.1, g1.1.2.2.1, hsr, show (0 < nI (g_n G)) ↔ True from iff_true_intro (by rw [show (0 : Int32) = nI 0 from rfl, sm_lt (by omega) (by omega)]; omega), sm_in (show r < 2147483648 by omega), show r < 8 by omega, sm_cl (show r < 2147483648 by omega), hgJ.1, sm_s, f3]
      · have e0 : a_mayb G P r 0 = true := by
          have : a_ch 0 = -1 := rfl
          simp [a_mayb, this, hv]
        rw [e0, if_pos rfl] at er
        rw [er]
        have g4 := g1.no (m := (r, 0)) (show L.length < 200 by omega)
        have hgK := g4.1.2.2.2.2.2.2 r hr
        rw [if_neg hM] at hgK
        obtain ⟨J', f1, f2, f3⟩ := ih (r + 1) (L ++ [(r, 0)]) _ (some (.int 0)) (by omega) (by simp; omega) g4
        refine ⟨J', f1, (g2.fq.trans (FQ.no (by omega))).trans f2, fun q => ?_⟩
        have f3' := f3 q
        rw [show a_ch (r, 0).2 = (-1 : Int32) from rfl] at f3' hgK g4
        rw [q59_31]
        simp (decide := true) only [q59_32, q59_33, q59_36, q59_39, q59_40, q59_43, q59_44, q59_45, q59_48, q59_49, q59_50, q59_53, q59_54, q59_55, q59_56, q59_57, q59_60, q59_63, q59_64, q59_65, q59_66, q59_67, q59_70, q59_71, W_1, W_I, W_mk, W_tk, pm_rv, rf_0_0, rf_0_1, rf_0_2, rf_0_3, rf_0_4, rf_0_7, rf_0_8, rf_1_0, rf_1_2, rf_3_0, rf_3_1, rf_3_6, rf_3_7, rf_3_8, rf_9_0, rf_9_1, rf_10_0, rf_10_1, rf_10_6, rf_10_7, rf_10_8, rf_17_0, rf_17_1, rf_538_2, rf_538_6, rf_538_7, rf_538_9, rf_538_11, rf_538_12, rf_538_18, rf_538_19, rf_538_22, rf_538_23, rf_538_25, rf_538_27, rf_538_28, rf_538_30, rf_538_31, rf_538_32, rf_538_33, rf_538_34, rf_538_35, rf_538_36, ob_0, ob_1, ob_3, ob_9, ob_10, ob_17, ob_538, ar_2, ar_4, ar_5, ar_6, ar_7, ar_8, ar_11, ar_12, ar_13, ar_14, ar_15, ar_16, ar_116, ar_117, ar_539, ar_540, ar_541, ar_542, ar_543, ar_544, ar_545, ar_546, ar_547, ar_548, ar_549, ar_550, ar_551, ar_552, ar_553, ar_554, ar_555, ar_556, ar_557, ar_558, ex_eq, ex_ite, pm_bk_r, pm_bk_t, ol_nil, ol_one, true_and, and_true, false_and, and_false, reduceIte, Nat.reduceEqDiff, up_at, Nat.add_left_cancel_iff, h.1.2.2.2.1, elt, sm_in (show r < 2147483648 by omega), show r < 8 by omega, sm_cl (show r < 2147483648 by omega), hg.1, hg.2, g3, hv, c58 (d := d + 5) he (show L.length < 200 by omega) g1.2.2.2.1]
        rw [q59_73]
        simp (decide := true) only [q59_75, q59_76, q59_79, q59_80, q59_83, q59_84, q59_87, q59_88, q59_91, q59_92, q59_93, q59_136, q59_139, W_1, W_I, W_mk, W_tk, pm_rv, rf_0_0, rf_0_1, rf_0_2, rf_0_3, rf_0_4, rf_0_7, rf_0_8, rf_1_0, rf_1_2, rf_3_0, rf_3_1, rf_3_6, rf_3_7, rf_3_8, rf_9_0, rf_9_1, rf_10_0, rf_10_1, rf_10_6, rf_10_7, rf_10_8, rf_17_0, rf_17_1, rf_538_2, rf_538_6, rf_538_7, rf_538_9, rf_538_11, rf_538_12, rf_538_18, rf_538_19, rf_538_22, rf_538_23, rf_538_25, rf_538_27, rf_538_28, rf_538_30, rf_538_31, rf_538_32, rf_538_33, rf_538_34, rf_538_35, rf_538_36, ob_0, ob_1, ob_3, ob_9, ob_10, ob_17, ob_538, ar_2, ar_4, ar_5, ar_6, ar_7, ar_8, ar_11, ar_12, ar_13, ar_14, ar_15, ar_16, ar_116, ar_117, ar_539, ar_540, ar_541, ar_542, ar_543, ar_544, ar_545, ar_546, ar_547, ar_548, ar_549, ar_550, ar_551, ar_552, ar_553, ar_554, ar_555, ar_556, ar_557, ar_558, ex_eq, ex_ite, pm_bk_r, pm_bk_t, ol_nil, ol_one, true_and, and_true, false_and, and_false, reduceIte, Nat.reduceEqDiff, up_at, Nat.add_left_cancel_iff, g4.1.2.1, g4.1.2.2.1, hsr, show (0 < nI (g_n G)) ↔ True from iff_true_intro (by rw [show (0 : Int32) = nI 0 from rfl, sm_lt (by omega) (by omega)]; omega), sm_in (show r < 2147483648 by omega), show r < 8 by omega, sm_cl (show r < 2147483648 by omega), hgK.1, sm_s, f3']
/-- the moves listed: now and its turn stay, row e holds them -/
theorem c59 {G : Gm} (hG : g_ok G) {P : Pos} (hP : PA (g_n G) P) {e : Nat} (he : e < 11) {I : Nat → Nat → Int32} (hR : GM G I) (h : MP 549 0 P I) (ht : I 549 12 = nI P.2.2.2) :
    ∃ J, LZ G P e (a_list G P) J ∧ FQ e I J ∧ ∀ q, (pm_C (d + 7) 59 [.ref 538, .int (nI e)] (Wm I k o) q ↔ q = (.inl none, Wm J k o)) := by
  have h8 : G.2.2.2.1.length ≤ 8 := hG.2.2.2.1
  have f0 : FQ e I (pm_up I 552 e 0) := fun x j _ _ _ h _ => up_ne h
  have h0 : LZ G P e [] (pm_up I 552 e 0) := ⟨hR.fq f0, h.congr (up_row (by decide)), by rw [up_ne (by omega)]; exact ht, up_eq, fun i hi => by simp at hi⟩
  obtain ⟨J, g1, g2, g3⟩ := h0.val (d := d) (k := k) (o := o) hG (Or.inl rfl) hG.2.2.2.2.2 hP
  have h12 : vp_in (12 : Int32) 157 ↔ True := iff_true_intro ((sm_in (a := 12) (by omega)).mpr (by omega))
  have hopen : ∀ q, (pm_C (d + 7) 59 [.ref 538, .int (nI e)] (Wm I k o) q ↔ pm_R (d + 6) 59 25 [some (.ref 538), some (.int (nI e)), some (.int (nI P.2.2.2)), none, none] [.int (a_val G P (-1) G.2.2.2.2)] (Wm J k o) q) := by
    intro q
    rw [n59]
    simp (decide := true) only [q59_0, q59_1, q59_4, q59_6, q59_7, q59_8, q59_9, q59_12, q59_13, q59_14, q59_15, q59_16, q59_17, q59_20, q59_21, q59_22, W_1, W_I, W_mk, W_tk, pm_rv, rf_0_0, rf_0_1, rf_0_2, rf_0_3, rf_0_4, rf_0_7, rf_0_8, rf_1_0, rf_1_2, rf_3_0, rf_3_1, rf_3_6, rf_3_7, rf_3_8, rf_9_0, rf_9_1, rf_10_0, rf_10_1, rf_10_6, rf_10_7, rf_10_8, rf_17_0, rf_17_1, rf_538_2, rf_538_6, rf_538_7, rf_538_9, rf_538_11, rf_538_12, rf_538_18, rf_538_19, rf_538_22, rf_538_23, rf_538_25, rf_538_27, rf_538_28, rf_538_30, rf_538_31, rf_538_32, rf_538_33, rf_538_34, rf_538_35, rf_538_36, ob_0, ob_1, ob_3, ob_9, ob_10, ob_17, ob_538, ar_2, ar_4, ar_5, ar_6, ar_7, ar_8, ar_11, ar_12, ar_13, ar_14, ar_15, ar_16, ar_116, ar_117, ar_539, ar_540, ar_541, ar_542, ar_543, ar_544, ar_545, ar_546, ar_547, ar_548, ar_549, ar_550, ar_551, ar_552, ar_553, ar_554, ar_555, ar_556, ar_557, ar_558, ex_eq, ex_ite, pm_bk_r, pm_bk_t, ol_nil, ol_one, true_and, and_true, false_and, and_false, reduceIte, Nat.reduceEqDiff, up_at, Nat.add_left_cancel_iff, h12, show (12 : Int32).toNatClampNeg = 12 from by decide, ht, sm_in (show e < 2147483648 by omega), he, sm_cl (show e < 2147483648 by omega), h0.1.2.2.2.2.1, hR.2.2.2.2.1, g3]
  by_cases hv : a_val G P (-1) G.2.2.2.2 = 0
  · obtain ⟨J', f1, f2, f3⟩ := c59_o (d := d) (k := k) (o := o) hG hP he G.2.2.2.1.length 0 [] J none (by omega) (by simp; omega) g1
    have el : [] ++ (List.range' 0 G.2.2.2.1.length).flatMap (a_rule G P) = a_list G P := by
      unfold a_list
      rw [if_pos hv]
      rfl
    rw [el] at f1
    refine ⟨J', f1, (f0.trans g2.fq).trans f2, fun q => ?_⟩
    have f3' := f3 q
    rw [show nI 0 = (0 : Int32) from rfl] at f3'
    rw [hopen]
    simp only [q59_25, hv, reduceIte, q59_29, q59_30, f3']
  · have el : a_list G P = [] := by
      unfold a_list
      rw [if_neg hv]
    rw [el]
    refine ⟨J, g1, f0.trans g2.fq, fun q => ?_⟩
    rw [hopen]
    simp only [q59_25, hv, reduceIte, q59_28]
end MLS
