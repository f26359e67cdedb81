/-! THE CLASS: Table -/
section TBL
variable {d k t : Nat} {o : Int64} {I : Nat → Nat → Int32} {q : pm_Res}
def layI (t c p : Nat) (I : Nat → Nat → Int32) : Nat → Nat → Int32 := pm_up (pm_up (pm_up (pm_up I (t + 1) c (nI p)) (t + 2) c (I (t + 3) p)) (t + 3) p (nI c)) (t + 4) p (I (t + 4) p + 1)
theorem sm_n {a : Nat} (h : a < 2147483648) : (nI a < 0) ↔ False := iff_false_intro (sm_neg h)
theorem sm_b {a : Nat} (b : Nat) (hb : b < 2147483648) (h : a < b) : (nI a < nI b) ↔ True := iff_true_intro ((sm_lt (by omega) hb).mpr h)
theorem sm_24 {a : Nat} (h : a < 24) : (nI a < 24) ↔ True := sm_b 24 (by decide) h
theorem sm_6 {a : Nat} (h : a < 6) : (nI a < 6) ↔ True := sm_b 6 (by decide) h
theorem sm_4 {a : Nat} (h : a < 4) : (nI a < 4) ↔ True := sm_b 4 (by decide) h
theorem sm_2 {a : Nat} (h : a < 2) : (nI a < 2) ↔ True := sm_b 2 (by decide) h
/-! sizeOf, topOf, counterAt, setCounter, addScore -/
theorem c134 (ht : tb t) {p : Nat} (hp : p < 6) : pm_C (d + 1) 134 [.ref t, .int (nI p)] (Wm I k o) q ↔ q = (.inl (some (.int (I (t + 4) p))), Wm I k o) := by
  rw [n134]
  simp only [q134_0, q134_1, q134_4, q134_5, q134_7, q134_10, q134_11, q134_14, q134_15, q134_18, q134_19, q134_20, W_1, W_I, W_mk, W_tk, pm_rv, rf_0_0, rf_0_1, rf_0_2, rf_0_3, rf_0_4, rf_0_7, rf_0_8, rf_1_0, rf_1_2, rf_3_0, rf_3_1, rf_3_6, rf_3_7, rf_3_8, rf_9_0, rf_9_1, rf_10_0, rf_10_1, rf_10_6, rf_10_7, rf_10_8, rf_17_0, rf_17_1, rf_538_2, rf_538_6, rf_538_7, rf_538_9, rf_538_11, rf_538_12, rf_538_18, rf_538_19, rf_538_22, rf_538_23, rf_538_25, rf_538_27, rf_538_28, rf_538_30, rf_538_31, rf_538_32, rf_538_33, rf_538_34, rf_538_35, rf_538_36, ob_0, ob_1, ob_3, ob_9, ob_10, ob_17, ob_538, ar_2, ar_4, ar_5, ar_6, ar_7, ar_8, ar_11, ar_12, ar_13, ar_14, ar_15, ar_16, ar_116, ar_117, ar_539, ar_540, ar_541, ar_542, ar_543, ar_544, ar_545, ar_546, ar_547, ar_548, ar_549, ar_550, ar_551, ar_552, ar_553, ar_554, ar_555, ar_556, ar_557, ar_558, ob_t ht, rt_0 ht, at_0 ht, rt_1 ht, at_1 ht, rt_2 ht, at_2 ht, rt_3 ht, at_3 ht, rt_4 ht, at_4 ht, rt_5 ht, at_5 ht, ex_eq, ex_ite, pm_bk_r, pm_bk_t, ol_nil, ol_one, true_and, and_true, false_and, and_false, reduceIte, Nat.reduceEqDiff, up_at, Nat.add_left_cancel_iff, sm_n (show p < 2147483648 by omega), sm_6 hp, sm_in (show p < 2147483648 by omega), hp, sm_cl (show p < 2147483648 by omega)]
theorem c135 (ht : tb t) {p : Nat} (hp : p < 6) : pm_C (d + 1) 135 [.ref t, .int (nI p)] (Wm I k o) q ↔ q = (.inl (some (.int (I (t + 3) p))), Wm I k o) := by
  rw [n135]
  simp only [q135_0, q135_1, q135_4, q135_5, q135_7, q135_10, q135_11, q135_14, q135_15, q135_18, q135_19, q135_20, W_1, W_I, W_mk, W_tk, pm_rv, rf_0_0, rf_0_1, rf_0_2, rf_0_3, rf_0_4, rf_0_7, rf_0_8, rf_1_0, rf_1_2, rf_3_0, rf_3_1, rf_3_6, rf_3_7, rf_3_8, rf_9_0, rf_9_1, rf_10_0, rf_10_1, rf_10_6, rf_10_7, rf_10_8, rf_17_0, rf_17_1, rf_538_2, rf_538_6, rf_538_7, rf_538_9, rf_538_11, rf_538_12, rf_538_18, rf_538_19, rf_538_22, rf_538_23, rf_538_25, rf_538_27, rf_538_28, rf_538_30, rf_538_31, rf_538_32, rf_538_33, rf_538_34, rf_538_35, rf_538_36, ob_0, ob_1, ob_3, ob_9, ob_10, ob_17, ob_538, ar_2, ar_4, ar_5, ar_6, ar_7, ar_8, ar_11, ar_12, ar_13, ar_14, ar_15, ar_16, ar_116, ar_117, ar_539, ar_540, ar_541, ar_542, ar_543, ar_544, ar_545, ar_546, ar_547, ar_548, ar_549, ar_550, ar_551, ar_552, ar_553, ar_554, ar_555, ar_556, ar_557, ar_558, ob_t ht, rt_0 ht, at_0 ht, rt_1 ht, at_1 ht, rt_2 ht, at_2 ht, rt_3 ht, at_3 ht, rt_4 ht, at_4 ht, rt_5 ht, at_5 ht, ex_eq, ex_ite, pm_bk_r, pm_bk_t, ol_nil, ol_one, true_and, and_true, false_and, and_false, reduceIte, Nat.reduceEqDiff, up_at, Nat.add_left_cancel_iff, sm_n (show p < 2147483648 by omega), sm_6 hp, sm_in (show p < 2147483648 by omega), hp, sm_cl (show p < 2147483648 by omega)]
theorem c136 (ht : tb t) {p : Nat} (hp : p < 4) : pm_C (d + 1) 136 [.ref t, .int (nI p)] (Wm I k o) q ↔ q = (.inl (some (.int (I (t + 5) p))), Wm I k o) := by
  rw [n136]
  simp only [q136_0, q136_1, q136_4, q136_5, q136_6, q136_9, q136_10, q136_13, q136_14, q136_17, q136_18, q136_19, W_1, W_I, W_mk, W_tk, pm_rv, rf_0_0, rf_0_1, rf_0_2, rf_0_3, rf_0_4, rf_0_7, rf_0_8, rf_1_0, rf_1_2, rf_3_0, rf_3_1, rf_3_6, rf_3_7, rf_3_8, rf_9_0, rf_9_1, rf_10_0, rf_10_1, rf_10_6, rf_10_7, rf_10_8, rf_17_0, rf_17_1, rf_538_2, rf_538_6, rf_538_7, rf_538_9, rf_538_11, rf_538_12, rf_538_18, rf_538_19, rf_538_22, rf_538_23, rf_538_25, rf_538_27, rf_538_28, rf_538_30, rf_538_31, rf_538_32, rf_538_33, rf_538_34, rf_538_35, rf_538_36, ob_0, ob_1, ob_3, ob_9, ob_10, ob_17, ob_538, ar_2, ar_4, ar_5, ar_6, ar_7, ar_8, ar_11, ar_12, ar_13, ar_14, ar_15, ar_16, ar_116, ar_117, ar_539, ar_540, ar_541, ar_542, ar_543, ar_544, ar_545, ar_546, ar_547, ar_548, ar_549, ar_550, ar_551, ar_552, ar_553, ar_554, ar_555, ar_556, ar_557, ar_558, ob_t ht, rt_0 ht, at_0 ht, rt_1 ht, at_1 ht, rt_2 ht, at_2 ht, rt_3 ht, at_3 ht, rt_4 ht, at_4 ht, rt_5 ht, at_5 ht, ex_eq, ex_ite, pm_bk_r, pm_bk_t, ol_nil, ol_one, true_and, and_true, false_and, and_false, reduceIte, Nat.reduceEqDiff, up_at, Nat.add_left_cancel_iff, sm_n (show p < 2147483648 by omega), sm_4 hp, sm_in (show p < 2147483648 by omega), hp, sm_cl (show p < 2147483648 by omega)]
theorem c137 (ht : tb t) {p : Nat} {x : Int32} (hp : p < 4) : pm_C (d + 1) 137 [.ref t, .int (nI p), .int x] (Wm I k o) q ↔ q = (.inl none, Wm (pm_up I (t + 5) p x) k o) := by
  rw [n137]
  simp only [q137_0, q137_1, q137_4, q137_5, q137_6, q137_9, q137_10, q137_13, q137_14, q137_15, q137_16, W_1, W_I, W_mk, W_tk, pm_rv, rf_0_0, rf_0_1, rf_0_2, rf_0_3, rf_0_4, rf_0_7, rf_0_8, rf_1_0, rf_1_2, rf_3_0, rf_3_1, rf_3_6, rf_3_7, rf_3_8, rf_9_0, rf_9_1, rf_10_0, rf_10_1, rf_10_6, rf_10_7, rf_10_8, rf_17_0, rf_17_1, rf_538_2, rf_538_6, rf_538_7, rf_538_9, rf_538_11, rf_538_12, rf_538_18, rf_538_19, rf_538_22, rf_538_23, rf_538_25, rf_538_27, rf_538_28, rf_538_30, rf_538_31, rf_538_32, rf_538_33, rf_538_34, rf_538_35, rf_538_36, ob_0, ob_1, ob_3, ob_9, ob_10, ob_17, ob_538, ar_2, ar_4, ar_5, ar_6, ar_7, ar_8, ar_11, ar_12, ar_13, ar_14, ar_15, ar_16, ar_116, ar_117, ar_539, ar_540, ar_541, ar_542, ar_543, ar_544, ar_545, ar_546, ar_547, ar_548, ar_549, ar_550, ar_551, ar_552, ar_553, ar_554, ar_555, ar_556, ar_557, ar_558, ob_t ht, rt_0 ht, at_0 ht, rt_1 ht, at_1 ht, rt_2 ht, at_2 ht, rt_3 ht, at_3 ht, rt_4 ht, at_4 ht, rt_5 ht, at_5 ht, ex_eq, ex_ite, pm_bk_r, pm_bk_t, ol_nil, ol_one, true_and, and_true, false_and, and_false, reduceIte, Nat.reduceEqDiff, up_at, Nat.add_left_cancel_iff, sm_n (show p < 2147483648 by omega), sm_4 hp, sm_in (show p < 2147483648 by omega), hp, sm_cl (show p < 2147483648 by omega)]
theorem c138 (ht : tb t) {p : Nat} {x : Int32} (hp : p < 2) : pm_C (d + 1) 138 [.ref t, .int (nI p), .int x] (Wm I k o) q ↔ q = (.inl none, Wm (pm_up I (t + 6) p (I (t + 6) p + x)) k o) := by
  rw [n138]
  simp only [q138_0, q138_1, q138_4, q138_5, q138_6, q138_9, q138_10, q138_13, q138_14, q138_15, q138_16, q138_17, q138_18, q138_19, W_1, W_I, W_mk, W_tk, pm_rv, rf_0_0, rf_0_1, rf_0_2, rf_0_3, rf_0_4, rf_0_7, rf_0_8, rf_1_0, rf_1_2, rf_3_0, rf_3_1, rf_3_6, rf_3_7, rf_3_8, rf_9_0, rf_9_1, rf_10_0, rf_10_1, rf_10_6, rf_10_7, rf_10_8, rf_17_0, rf_17_1, rf_538_2, rf_538_6, rf_538_7, rf_538_9, rf_538_11, rf_538_12, rf_538_18, rf_538_19, rf_538_22, rf_538_23, rf_538_25, rf_538_27, rf_538_28, rf_538_30, rf_538_31, rf_538_32, rf_538_33, rf_538_34, rf_538_35, rf_538_36, ob_0, ob_1, ob_3, ob_9, ob_10, ob_17, ob_538, ar_2, ar_4, ar_5, ar_6, ar_7, ar_8, ar_11, ar_12, ar_13, ar_14, ar_15, ar_16, ar_116, ar_117, ar_539, ar_540, ar_541, ar_542, ar_543, ar_544, ar_545, ar_546, ar_547, ar_548, ar_549, ar_550, ar_551, ar_552, ar_553, ar_554, ar_555, ar_556, ar_557, ar_558, ob_t ht, rt_0 ht, at_0 ht, rt_1 ht, at_1 ht, rt_2 ht, at_2 ht, rt_3 ht, at_3 ht, rt_4 ht, at_4 ht, rt_5 ht, at_5 ht, ex_eq, ex_ite, pm_bk_r, pm_bk_t, ol_nil, ol_one, true_and, and_true, false_and, and_false, reduceIte, Nat.reduceEqDiff, up_at, Nat.add_left_cancel_iff, sm_n (show p < 2147483648 by omega), sm_2 hp, sm_in (show p < 2147483648 by omega), hp, sm_cl (show p < 2147483648 by omega)]
/-! lay -/
theorem c111 (ht : tb t) {c p : Nat} (hc : c < 24) (hp : p < 6) : pm_C (d + 1) 111 [.ref t, .int (nI c), .int (nI p)] (Wm I k o) q ↔ q = (.inl none, Wm (layI t c p I) k o) := by
  rw [n111]
  simp only [q111_0, q111_1, q111_4, q111_5, q111_7, q111_10, q111_11, q111_14, q111_15, q111_17, q111_20, q111_21, q111_22, q111_25, q111_26, q111_27, q111_28, q111_29, q111_32, q111_33, q111_34, q111_37, q111_38, q111_39, q111_40, q111_41, q111_44, q111_45, q111_46, q111_47, q111_48, q111_51, q111_52, q111_53, q111_54, q111_55, q111_56, q111_57, W_1, W_I, W_mk, W_tk, pm_rv, rf_0_0, rf_0_1, rf_0_2, rf_0_3, rf_0_4, rf_0_7, rf_0_8, rf_1_0, rf_1_2, rf_3_0, rf_3_1, rf_3_6, rf_3_7, rf_3_8, rf_9_0, rf_9_1, rf_10_0, rf_10_1, rf_10_6, rf_10_7, rf_10_8, rf_17_0, rf_17_1, rf_538_2, rf_538_6, rf_538_7, rf_538_9, rf_538_11, rf_538_12, rf_538_18, rf_538_19, rf_538_22, rf_538_23, rf_538_25, rf_538_27, rf_538_28, rf_538_30, rf_538_31, rf_538_32, rf_538_33, rf_538_34, rf_538_35, rf_538_36, ob_0, ob_1, ob_3, ob_9, ob_10, ob_17, ob_538, ar_2, ar_4, ar_5, ar_6, ar_7, ar_8, ar_11, ar_12, ar_13, ar_14, ar_15, ar_16, ar_116, ar_117, ar_539, ar_540, ar_541, ar_542, ar_543, ar_544, ar_545, ar_546, ar_547, ar_548, ar_549, ar_550, ar_551, ar_552, ar_553, ar_554, ar_555, ar_556, ar_557, ar_558, ob_t ht, rt_0 ht, at_0 ht, rt_1 ht, at_1 ht, rt_2 ht, at_2 ht, rt_3 ht, at_3 ht, rt_4 ht, at_4 ht, rt_5 ht, at_5 ht, ex_eq, ex_ite, pm_bk_r, pm_bk_t, ol_nil, ol_one, true_and, and_true, false_and, and_false, reduceIte, Nat.reduceEqDiff, up_at, Nat.add_left_cancel_iff, sm_n (show c < 2147483648 by omega), sm_n (show p < 2147483648 by omega), sm_24 hc, sm_6 hp, sm_in (show c < 2147483648 by omega), sm_in (show p < 2147483648 by omega), hc, hp, sm_cl (show c < 2147483648 by omega), sm_cl (show p < 2147483648 by omega), layI]
/-- .. but for what stands of the card c -/
def TRx (t c : Nat) (P : Pos) (I : Nat → Nat → Int32) : Prop :=
  (∀ p, p < 6 → ch (I (t + 2)) (P.1 p).reverse (I (t + 3) p) ∧ I (t + 4) p = nI (P.1 p).length) ∧
  (∀ p, p < 6 → ∀ c ∈ P.1 p, I (t + 1) c = nI p) ∧ (∀ x, x < 24 → x ≠ c → (∀ p, p < 6 → x ∉ P.1 p) → I (t + 1) x = -1 ∧ I (t + 2) x = -1) ∧
  (∀ j, j < 4 → I (t + 5) j = P.2.1 j) ∧ (∀ j, j < 2 → I (t + 6) j = P.2.2.1 j) ∧ I t 6 = nI P.2.2.2
theorem TR.x {P : Pos} {c : Nat} (h : TR t P I) : TRx t c P I := ⟨h.1, h.2.1, fun x h1 _ h2 => h.2.2.1 x h1 h2, h.2.2.2⟩
/-- a card that lies nowhere, laid on top of a place -/
theorem TRx.lay {P : Pos} {c p : Nat} (h : TRx t c P I) (hc : c < 24) (hp : p < 6) (hno : ∀ r, r < 6 → c ∉ P.1 r) : TR t (a_go P c p) (layI t c p I) := by
  obtain ⟨h1, h2, h3, h4, h5, h6⟩ := h
  have e1 : ∀ r, r < 6 → (a_go P c p).1 r = if r = p then P.1 r ++ [c] else P.1 r := fun r hr => by
    show (if r = p then a_fil c (P.1 r) ++ [c] else a_fil c (P.1 r)) = _
    rw [a_fil_no (hno r hr)]
  refine ⟨fun r hr => ?_, fun r hr x hx => ?_, fun x hx hxn => ?_, fun j hj => ?_, fun j hj => ?_, ?_⟩
  · have hb : ∀ x, layI t c p I (t + 2) x = if x = c then I (t + 3) p else I (t + 2) x := fun x => by
      simp [layI, up_at]
    have ht3 : layI t c p I (t + 3) r = if r = p then nI c else I (t + 3) r := by simp [layI, up_at]
    have ht4 : layI t c p I (t + 4) r = if r = p then I (t + 4) p + 1 else I (t + 4) r := by simp [layI, up_at]
    rw [ht3, ht4, e1 r hr]
    by_cases e : r = p
    · subst e
      rw [if_pos rfl, if_pos rfl, if_pos rfl]
      constructor
      · rw [List.reverse_append]
        refine ⟨rfl, ?_⟩
        rw [hb c, if_pos rfl]
        refine ch_congr (fun a ha => ?_) (h1 r hr).1
        rw [hb a, if_neg]
        rintro rfl
        exact hno r hr (by simpa using ha)
      · rw [(h1 r hr).2, sm_s, List.length_append]
        rfl
    · rw [if_neg e, if_neg e, if_neg e]
      refine ⟨ch_congr (fun a ha => ?_) (h1 r hr).1, (h1 r hr).2⟩
      rw [hb a, if_neg]
      rintro rfl
      exact hno r hr (by simpa using ha)
  · have ht1 : layI t c p I (t + 1) x = if x = c then nI p else I (t + 1) x := by simp [layI, up_at]
    rw [e1 r hr] at hx
    rw [ht1]
    split at hx
    · rename_i e
      subst e
      rcases List.mem_append.mp hx with hx | hx
      · rw [if_neg (fun e : x = c => hno r hr (e ▸ hx))]
        exact h2 r hr x hx
      · rw [if_pos (List.mem_singleton.mp hx)]
    · rw [if_neg (fun e : x = c => hno r hr (e ▸ hx))]
      exact h2 r hr x hx
  · have hxc : x ≠ c := by
      rintro rfl
      refine hxn p hp ?_
      rw [e1 p hp, if_pos rfl]
      simp
    have hxo : ∀ r, r < 6 → x ∉ P.1 r := fun r hr hm => by
      refine hxn r hr ?_
      rw [e1 r hr]
      split
      · exact List.mem_append_left _ hm
      · exact hm
    have := h3 x hx hxc hxo
    have ht1 : layI t c p I (t + 1) x = if x = c then nI p else I (t + 1) x := by simp [layI, up_at]
    have hb : layI t c p I (t + 2) x = if x = c then I (t + 3) p else I (t + 2) x := by simp [layI, up_at]
    rw [ht1, hb, if_neg hxc, if_neg hxc]
    exact this
  · have : layI t c p I (t + 5) j = I (t + 5) j := by simp [layI, up_at]
    rw [this]; exact h4 j hj
  · have : layI t c p I (t + 6) j = I (t + 6) j := by simp [layI, up_at]
    rw [this]; exact h5 j hj
  · have : layI t c p I t 6 = I t 6 := by simp [layI, up_at]
    rw [this]; exact h6
/-! raise -/
def unlI (t c a : Nat) (I : Nat → Nat → Int32) : Nat → Nat → Int32 := fun x j => if (x = t + 2 ∧ a ≤ j) ∧ (j < 24 ∧ I (t + 2) j = nI c) then I (t + 2) c else I x j
theorem c133_l (ht : tb t) {c : Nat} (hc : c < 24) {x2 : Option Value} {r : pm_Res} : ∀ n a (I : Nat → Nat → Int32), a + n = 24 → I (t + 2) c ≠ nI c →
    (pm_R d 133 66 [some (.ref t), some (.int (nI c)), x2, some (.int (nI a))] [] (Wm I k o) r ↔ r = (.inl none, Wm (unlI t c a I) k o)) := by
  intro n
  induction n with
  | zero =>
    intro a I ha hne
    obtain rfl : a = 24 := by omega
    have e : unlI t c 24 I = I := by
      funext x j
      exact if_neg (fun h => by omega)
    rw [q133_66, e]
    simp only [q133_67, q133_69, q133_100, show (nI 24 < (24 : Int32)) ↔ False from by decide, reduceIte]
  | succ n ih =>
    intro a I ha hne
    have h24 : nI a < 24 := (sm_lt (b := 24) (by omega) (by omega)).mpr (by omega)
    rw [q133_66]
    simp only [q133_67, q133_69, q133_72, q133_73, q133_76, q133_77, q133_78, q133_79, q133_82, q133_83, q133_86, q133_87, q133_88, q133_91, q133_92, q133_93, q133_94, q133_97, W_1, W_I, W_mk, W_tk, pm_rv, rf_0_0, rf_0_1, rf_0_2, rf_0_3, rf_0_4, rf_0_7, rf_0_8, rf_1_0, rf_1_2, rf_3_0, rf_3_1, rf_3_6, rf_3_7, rf_3_8, rf_9_0, rf_9_1, rf_10_0, rf_10_1, rf_10_6, rf_10_7, rf_10_8, rf_17_0, rf_17_1, rf_538_2, rf_538_6, rf_538_7, rf_538_9, rf_538_11, rf_538_12, rf_538_18, rf_538_19, rf_538_22, rf_538_23, rf_538_25, rf_538_27, rf_538_28, rf_538_30, rf_538_31, rf_538_32, rf_538_33, rf_538_34, rf_538_35, rf_538_36, ob_0, ob_1, ob_3, ob_9, ob_10, ob_17, ob_538, ar_2, ar_4, ar_5, ar_6, ar_7, ar_8, ar_11, ar_12, ar_13, ar_14, ar_15, ar_16, ar_116, ar_117, ar_539, ar_540, ar_541, ar_542, ar_543, ar_544, ar_545, ar_546, ar_547, ar_548, ar_549, ar_550, ar_551, ar_552, ar_553, ar_554, ar_555, ar_556, ar_557, ar_558, ob_t ht, rt_0 ht, at_0 ht, rt_1 ht, at_1 ht, rt_2 ht, at_2 ht, rt_3 ht, at_3 ht, rt_4 ht, at_4 ht, rt_5 ht, at_5 ht, ex_eq, ex_ite, pm_bk_r, pm_bk_t, ol_nil, ol_one, true_and, and_true, false_and, and_false, reduceIte, Nat.reduceEqDiff, up_at, Nat.add_left_cancel_iff, sm_in (show a < 2147483648 by omega), sm_in (show c < 2147483648 by omega), hc, show a < 24 by omega, sm_cl (show a < 2147483648 by omega), sm_cl (show c < 2147483648 by omega), h24, sm_s]
    split
    · rename_i hv
      have hac : a ≠ c := by
        rintro rfl
        exact hne hv
      have e1 : pm_up I (t + 2) a (I (t + 2) c) (t + 2) c = I (t + 2) c := up_ne (fun h => hac h.2.symm)
      rw [ih (a + 1) _ (by omega) (by rw [e1]; exact hne)]
      have e2 : unlI t c (a + 1) (pm_up I (t + 2) a (I (t + 2) c)) = unlI t c a I := by
        funext x j
        unfold unlI
        rw [e1]
        by_cases hx : x = t + 2
        · subst hx
          by_cases hj : j = a
          · subst hj
            rw [if_neg (fun h => by omega), if_pos ⟨⟨rfl, Nat.le_refl _⟩, by omega, hv⟩, up_eq]
          · rw [up_ne (fun h => hj h.2)]
            by_cases hh : (t + 2 = t + 2 ∧ a + 1 ≤ j) ∧ j < 24 ∧ I (t + 2) j = nI c
            · rw [if_pos hh, if_pos ⟨⟨rfl, by omega⟩, hh.2⟩]
            · rw [if_neg hh, if_neg (fun h => hh ⟨⟨rfl, by omega⟩, h.2⟩)]
        · rw [if_neg (fun h => hx h.1.1), if_neg (fun h => hx h.1.1), up_ne (fun h => hx h.1)]
      rw [e2]
    · rename_i hv
      rw [ih (a + 1) I (by omega) hne]
      have e2 : unlI t c (a + 1) I = unlI t c a I := by
        funext x j
        unfold unlI
        by_cases hh : (x = t + 2 ∧ a + 1 ≤ j) ∧ j < 24 ∧ I (t + 2) j = nI c
        · rw [if_pos hh, if_pos ⟨⟨hh.1.1, by omega⟩, hh.2⟩]
        · rw [if_neg hh, if_neg]
          intro h
          by_cases hj : j = a
          · subst hj; exact hv h.2.2
          · exact hh ⟨⟨h.1.1, by omega⟩, h.2⟩
      rw [e2]
/-- what raise leaves, ahead of lay -/
def rsI (t c f : Nat) (I : Nat → Nat → Int32) : Nat → Nat → Int32 := if I (t + 3) f = nI c then pm_up (pm_up I (t + 4) f (I (t + 4) f - 1)) (t + 3) f (I (t + 2) c) else pm_up I (t + 4) f (I (t + 4) f - 1)
theorem rs_2 {c f j : Nat} : rsI t c f I (t + 2) j = I (t + 2) j := by
  unfold rsI
  split <;> simp [up_at]
theorem c133 (ht : tb t) {c f : Nat} (hc : c < 24) (hf : f < 6) (hw : I (t + 1) c = nI f) (hne : I (t + 2) c ≠ nI c) : pm_C (d + 1) 133 [.ref t, .int (nI c)] (Wm I k o) q ↔ q = (.inl none, Wm (unlI t c 0 (rsI t c f I)) k o) := by
  rw [n133]
  simp only [q133_0, q133_1, q133_4, q133_5, q133_7, q133_10, q133_11, q133_14, q133_15, q133_18, q133_19, q133_20, q133_21, q133_22, q133_25, q133_26, q133_28, q133_31, q133_32, q133_33, q133_36, q133_37, q133_38, q133_39, q133_40, q133_41, q133_42, q133_43, q133_46, q133_47, q133_48, q133_49, q133_52, q133_53, q133_56, q133_57, q133_58, q133_61, q133_62, q133_63, W_1, W_I, W_mk, W_tk, pm_rv, rf_0_0, rf_0_1, rf_0_2, rf_0_3, rf_0_4, rf_0_7, rf_0_8, rf_1_0, rf_1_2, rf_3_0, rf_3_1, rf_3_6, rf_3_7, rf_3_8, rf_9_0, rf_9_1, rf_10_0, rf_10_1, rf_10_6, rf_10_7, rf_10_8, rf_17_0, rf_17_1, rf_538_2, rf_538_6, rf_538_7, rf_538_9, rf_538_11, rf_538_12, rf_538_18, rf_538_19, rf_538_22, rf_538_23, rf_538_25, rf_538_27, rf_538_28, rf_538_30, rf_538_31, rf_538_32, rf_538_33, rf_538_34, rf_538_35, rf_538_36, ob_0, ob_1, ob_3, ob_9, ob_10, ob_17, ob_538, ar_2, ar_4, ar_5, ar_6, ar_7, ar_8, ar_11, ar_12, ar_13, ar_14, ar_15, ar_16, ar_116, ar_117, ar_539, ar_540, ar_541, ar_542, ar_543, ar_544, ar_545, ar_546, ar_547, ar_548, ar_549, ar_550, ar_551, ar_552, ar_553, ar_554, ar_555, ar_556, ar_557, ar_558, ob_t ht, rt_0 ht, at_0 ht, rt_1 ht, at_1 ht, rt_2 ht, at_2 ht, rt_3 ht, at_3 ht, rt_4 ht, at_4 ht, rt_5 ht, at_5 ht, ex_eq, ex_ite, pm_bk_r, pm_bk_t, ol_nil, ol_one, true_and, and_true, false_and, and_false, reduceIte, Nat.reduceEqDiff, up_at, Nat.add_left_cancel_iff, sm_n (show c < 2147483648 by omega), sm_24 hc, sm_in (show c < 2147483648 by omega), hc, sm_cl (show c < 2147483648 by omega), hw, sm_n (show f < 2147483648 by omega), sm_6 hf, sm_in (show f < 2147483648 by omega), hf, sm_cl (show f < 2147483648 by omega)]
  simp only [q133_64, q133_65]
  rw [show ((0 : Int32)) = nI 0 from rfl, c133_l ht hc 24 0 _ rfl (by simp only [up_at, Nat.add_left_cancel_iff, Nat.reduceEqDiff, false_and, reduceIte]; exact hne), c133_l ht hc 24 0 _ rfl (by simp only [up_at, Nat.add_left_cancel_iff, Nat.reduceEqDiff, false_and, reduceIte]; exact hne)]
  unfold rsI
  split <;> exact Iff.rfl
theorem c112 (ht : tb t) {c p f : Nat} (hc : c < 24) (hp : p < 6) (hf : f < 6) (hw : I (t + 1) c = nI f) (hne : I (t + 2) c ≠ nI c) : pm_C (d + 2) 112 [.ref t, .int (nI c), .int (nI p)] (Wm I k o) q ↔ q = (.inl none, Wm (layI t c p (unlI t c 0 (rsI t c f I))) k o) := by
  rw [n112]
  simp only [q112_0, q112_1, q112_2, q112_5, q112_6, q112_7, q112_8, q112_11, ex_eq, ex_ite, pm_bk_r, pm_bk_t, ol_nil, ol_one, true_and, and_true, false_and, and_false, reduceIte, Nat.reduceEqDiff, up_at, Nat.add_left_cancel_iff, ob_t ht, c133 ht hc hf hw hne, c111 ht hc hp]
theorem nd_rev {l : List Nat} (h : l.Nodup) : l.reverse.Nodup := List.pairwise_reverse.mpr (List.Pairwise.imp (fun h => h.symm) h)
theorem a_fil2 {c : Nat} {l : List Nat} : a_fil c (a_fil c l) = a_fil c l := a_fil_no (fun h => (a_fil_mem.mp h).2 rfl)
/-- a card taken out of its place -/
theorem TR.out {P : Pos} {c f : Nat} (h : TR t P I) (hP : PD P) (hc : c < 24) (hf : f < 6) (hm : c ∈ P.1 f) : TRx t c (fun q => a_fil c (P.1 q), P.2) (unlI t c 0 (rsI t c f I)) := by
  obtain ⟨h1, h2, h3, h4, h5, h6⟩ := h
  have hlt : ∀ r, r < 6 → ∀ a ∈ (P.1 r).reverse, a < 24 := fun r hr a ha => (hP.1 r hr).2 a (by simpa using ha)
  have hnd : ∀ r, r < 6 → (P.1 r).reverse.Nodup := fun r hr => nd_rev (hP.1 r hr).1
  have hg : ∀ a, a < 24 → unlI t c 0 (rsI t c f I) (t + 2) a = if I (t + 2) a = nI c then I (t + 2) c else I (t + 2) a := fun a ha => by
    unfold unlI
    rw [rs_2, rs_2]
    by_cases e : I (t + 2) a = nI c
    · rw [if_pos e, if_pos ⟨⟨rfl, Nat.zero_le _⟩, ha, e⟩]
    · rw [if_neg e, if_neg (fun q => e q.2.2)]
  have hot : ∀ x j, x ≠ t + 2 → unlI t c 0 (rsI t c f I) x j = rsI t c f I x j := fun x j hx => if_neg (fun q => hx q.1.1)
  refine ⟨fun r hr => ?_, fun r hr x hx => ?_, fun x hx hxc hxn => ?_, fun j hj => ?_, fun j hj => ?_, ?_⟩
  · have ht3 : unlI t c 0 (rsI t c f I) (t + 3) r = if I (t + 3) r = nI c then I (t + 2) c else I (t + 3) r := by
      rw [hot _ _ (by omega)]
      unfold rsI
      by_cases e : r = f
      · subst e
        by_cases e2 : I (t + 3) r = nI c
        · rw [if_pos e2, if_pos e2, up_eq]
        · rw [if_neg e2, if_neg e2, up_ne (fun q => by omega)]
      · have hx : I (t + 3) r ≠ nI c := ch_hd hc (hlt r hr) (h1 r hr).1 (fun q => e (hP.2 r f c hr hf (by simpa using q) hm))
        rw [if_neg hx]
        split
        · rw [up_ne (fun q => e q.2), up_ne (fun q => by omega)]
        · rw [up_ne (fun q => by omega)]
    have ht4 : unlI t c 0 (rsI t c f I) (t + 4) r = if r = f then I (t + 4) f - 1 else I (t + 4) r := by
      rw [hot _ _ (by omega)]
      unfold rsI
      split <;> simp [up_at]
    rw [ht3, ht4]
    constructor
    · show ch _ (a_fil c (P.1 r)).reverse _
      rw [← a_fil_rev]
      exact ch_out hc hg (hlt r hr) (hnd r hr) (h1 r hr).1
    · show _ = nI (a_fil c (P.1 r)).length
      by_cases e : r = f
      · subst e
        have hl := a_fil_len (hP.1 r hr).1 hm
        rw [if_pos rfl, (h1 r hr).2, ← hl, show (1 : Int32) = nI 1 from rfl, sm_sub (by omega)]
        rfl
      · rw [if_neg e, a_fil_no (fun q => e (hP.2 r f c hr hf q hm))]
        exact (h1 r hr).2
  · rw [hot _ _ (by omega)]
    have e : rsI t c f I (t + 1) x = I (t + 1) x := by unfold rsI; split <;> simp [up_at]
    rw [e]
    exact h2 r hr x (a_fil_mem.mp hx).1
  · have e : rsI t c f I (t + 1) x = I (t + 1) x := by unfold rsI; split <;> simp [up_at]
    have := h3 x hx (fun r hr hm => hxn r hr (a_fil_mem.mpr ⟨hm, hxc⟩))
    rw [hot _ _ (by omega), e, hg x hx, this.2, if_neg (fun q => nI_m1 (by omega) q.symm)]
    exact ⟨this.1, rfl⟩
  · have e : rsI t c f I (t + 5) j = I (t + 5) j := by unfold rsI; split <;> simp [up_at]
    rw [hot _ _ (by omega), e]; exact h4 j hj
  · have e : rsI t c f I (t + 6) j = I (t + 6) j := by unfold rsI; split <;> simp [up_at]
    rw [hot _ _ (by omega), e]; exact h5 j hj
  · have e : rsI t c f I t 6 = I t 6 := by unfold rsI; split <;> simp [up_at]
    rw [hot _ _ (by omega), e]; exact h6
/-- raise, whole -/
def rzI (t c p f : Nat) (I : Nat → Nat → Int32) : Nat → Nat → Int32 := layI t c p (unlI t c 0 (rsI t c f I))
theorem rz_fr {c p f x j : Nat} (h : x ≤ t ∨ t + 4 < x) : rzI t c p f I x j = I x j := by
  unfold rzI layI
  rw [up_ne (fun q => by omega), up_ne (fun q => by omega), up_ne (fun q => by omega), up_ne (fun q => by omega)]
  unfold unlI
  rw [if_neg (fun q => by omega)]
  unfold rsI
  split
  · rw [up_ne (fun q => by omega), up_ne (fun q => by omega)]
  · rw [up_ne (fun q => by omega)]
theorem TR.raise {P : Pos} {c p f : Nat} (h : TR t P I) (hP : PD P) (hc : c < 24) (hp : p < 6) (hf : f < 6) (hm : c ∈ P.1 f) : TR t (a_go P c p) (rzI t c p f I) := by
  have h1 := (h.out hP hc hf hm).lay (p := p) hc hp (fun r hr q => (a_fil_mem.mp q).2 rfl)
  have e : a_go (fun q => a_fil c (P.1 q), P.2) c p = a_go P c p := by
    unfold a_go
    simp only [a_fil2]
    rfl
  rw [e] at h1
  exact h1
theorem c112R (ht : tb t) {P : Pos} {c p f : Nat} (h : TR t P I) (hP : PD P) (hc : c < 24) (hp : p < 6) (hf : f < 6) (hm : c ∈ P.1 f) : pm_C (d + 2) 112 [.ref t, .int (nI c), .int (nI p)] (Wm I k o) q ↔ q = (.inl none, Wm (rzI t c p f I) k o) :=
  c112 ht hc hp hf (h.2.1 f hf c hm) (ch_ne hc (fun a ha => (hP.1 f hf).2 a (by simpa using ha)) (nd_rev (hP.1 f hf).1) (h.1 f hf).1 (by simpa using hm))
/-! cardAt -/
theorem c113_l (ht : tb t) {i : Nat} {x1 x3 : Option Value} {r : pm_Res} : ∀ (n : Nat) (l : List Nat) (x : Int32), l.length = i + n + 1 → l.length ≤ 24 → (∀ a ∈ l, a < 24) → ch (I (t + 2)) l x →
    (pm_R d 113 29 [some (.ref t), x1, some (.int (nI i)), x3, some (.int x), some (.int (nI (i + n)))] [] (Wm I k o) r ↔ r = (.inl (some (.int (nI (l.getD n 0)))), Wm I k o)) := by
  intro n
  induction n with
  | zero =>
    intro l x hl h24 hlt hch
    cases l with
    | nil => simp at hl
    | cons a l =>
      rw [q113_29]
      simp only [q113_31, q113_32, q113_62, q113_64, Nat.add_zero, show (nI i < nI i) ↔ False from iff_false_intro (by rw [sm_lt (by omega) (by omega)]; omega), reduceIte, hch.1, List.getD_cons_zero]
  | succ n ih =>
    intro l x hl h24 hlt hch
    cases l with
    | nil => simp at hl
    | cons a l =>
      have ha : a < 24 := hlt a List.mem_cons_self
      have hl1 : l.length = i + n + 1 := by have := hl; simp at this; omega
      have hl2 : l.length + 1 ≤ 24 := by simpa using h24
      rw [q113_29]
      simp only [q113_31, q113_32, q113_35, q113_37, q113_40, q113_42, q113_44, q113_47, q113_48, q113_51, q113_53, q113_54, q113_56, q113_59, W_1, W_I, W_mk, W_tk, pm_rv, rf_0_0, rf_0_1, rf_0_2, rf_0_3, rf_0_4, rf_0_7, rf_0_8, rf_1_0, rf_1_2, rf_3_0, rf_3_1, rf_3_6, rf_3_7, rf_3_8, rf_9_0, rf_9_1, rf_10_0, rf_10_1, rf_10_6, rf_10_7, rf_10_8, rf_17_0, rf_17_1, rf_538_2, rf_538_6, rf_538_7, rf_538_9, rf_538_11, rf_538_12, rf_538_18, rf_538_19, rf_538_22, rf_538_23, rf_538_25, rf_538_27, rf_538_28, rf_538_30, rf_538_31, rf_538_32, rf_538_33, rf_538_34, rf_538_35, rf_538_36, ob_0, ob_1, ob_3, ob_9, ob_10, ob_17, ob_538, ar_2, ar_4, ar_5, ar_6, ar_7, ar_8, ar_11, ar_12, ar_13, ar_14, ar_15, ar_16, ar_116, ar_117, ar_539, ar_540, ar_541, ar_542, ar_543, ar_544, ar_545, ar_546, ar_547, ar_548, ar_549, ar_550, ar_551, ar_552, ar_553, ar_554, ar_555, ar_556, ar_557, ar_558, ob_t ht, rt_0 ht, at_0 ht, rt_1 ht, at_1 ht, rt_2 ht, at_2 ht, rt_3 ht, at_3 ht, rt_4 ht, at_4 ht, rt_5 ht, at_5 ht, ex_eq, ex_ite, pm_bk_r, pm_bk_t, ol_nil, ol_one, true_and, and_true, false_and, and_false, reduceIte, Nat.reduceEqDiff, up_at, Nat.add_left_cancel_iff, hch.1, show (nI i < nI (i + (n + 1))) ↔ True from iff_true_intro (by rw [sm_lt (by omega) (by omega)]; omega), sm_n (show a < 2147483648 by omega), sm_24 ha, sm_in (show a < 2147483648 by omega), ha, sm_cl (show a < 2147483648 by omega)]
      have e : nI (i + (n + 1)) + -1 = nI (i + n) := by
        have e1 : nI (i + (n + 1)) = nI (i + n) + 1 := (sm_s _).symm
        rw [e1, Int32.add_assoc]
        exact Int32.add_zero _
      rw [e, ih l (I (t + 2) a) hl1 (by omega) (fun b hb => hlt b (List.mem_cons_of_mem _ hb)) hch.2, List.getD_cons_succ]
def a_at (l : List Nat) (i : Int32) : Int32 := if i < 0 then -1 else if i < nI l.length then nI (l.getD i.toNatClampNeg 0) else -1
theorem c113 (ht : tb t) {P : Pos} (h : TR t P I) (hP : PD P) {p : Nat} (hp : p < 6) (hl : (P.1 p).length ≤ 24) {i : Int32} : pm_C (d + 2) 113 [.ref t, .int (nI p), .int i] (Wm I k o) q ↔ q = (.inl (some (.int (a_at (P.1 p) i))), Wm I k o) := by
  rw [n113]
  unfold a_at
  simp only [q113_0, q113_1, q113_2, q113_5, q113_6, q113_7, q113_10, q113_11, q113_12, q113_15, q113_16, q113_17, q113_18, q113_19, q113_22, q113_24, q113_25, q113_26, q113_27, W_1, W_I, W_mk, W_tk, pm_rv, rf_0_0, rf_0_1, rf_0_2, rf_0_3, rf_0_4, rf_0_7, rf_0_8, rf_1_0, rf_1_2, rf_3_0, rf_3_1, rf_3_6, rf_3_7, rf_3_8, rf_9_0, rf_9_1, rf_10_0, rf_10_1, rf_10_6, rf_10_7, rf_10_8, rf_17_0, rf_17_1, rf_538_2, rf_538_6, rf_538_7, rf_538_9, rf_538_11, rf_538_12, rf_538_18, rf_538_19, rf_538_22, rf_538_23, rf_538_25, rf_538_27, rf_538_28, rf_538_30, rf_538_31, rf_538_32, rf_538_33, rf_538_34, rf_538_35, rf_538_36, ob_0, ob_1, ob_3, ob_9, ob_10, ob_17, ob_538, ar_2, ar_4, ar_5, ar_6, ar_7, ar_8, ar_11, ar_12, ar_13, ar_14, ar_15, ar_16, ar_116, ar_117, ar_539, ar_540, ar_541, ar_542, ar_543, ar_544, ar_545, ar_546, ar_547, ar_548, ar_549, ar_550, ar_551, ar_552, ar_553, ar_554, ar_555, ar_556, ar_557, ar_558, ex_eq, ex_ite, pm_bk_r, pm_bk_t, ol_nil, ol_one, true_and, and_true, false_and, and_false, reduceIte, Nat.reduceEqDiff, up_at, Nat.add_left_cancel_iff, ob_t ht, c134 ht hp, c135 ht hp, (h.1 p hp).2]
  by_cases h0 : i < 0
  · simp only [h0, reduceIte]
  · obtain ⟨e1, e2⟩ := nn_nI h0
    generalize i.toNatClampNeg = n at e1 e2
    subst e1
    simp only [h0, reduceIte]
    split
    · rename_i h1
      rw [sm_lt e2 (by omega)] at h1
      have e : nI (P.1 p).length - 1 = nI (n + ((P.1 p).length - 1 - n)) := by
        rw [show (1 : Int32) = nI 1 from rfl, sm_sub (by omega)]
        congr 1; omega
      rw [e, c113_l ht ((P.1 p).length - 1 - n) (P.1 p).reverse _ (by simp; omega) (by simpa using hl) (fun a ha => (hP.1 p hp).2 a (by simpa using ha)) (h.1 p hp).1]
      have e3 : (P.1 p).reverse.getD ((P.1 p).length - 1 - n) 0 = (P.1 p).getD n 0 := by
        rw [List.getD_eq_getElem?_getD, List.getD_eq_getElem?_getD, List.getElem?_reverse (by omega)]
        congr 2; omega
      rw [e3]
    · rfl
end TBL
