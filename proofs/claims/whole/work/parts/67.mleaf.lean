/-! THE REFERENCE: its reader's small parts -/
def MX (T : List Nat) (I : Nat → Nat → Int32) : Prop := I 538 1 = nI T.length ∧ ∀ i, i < T.length → I 539 i = nI (T.getD i 0)
def cK (K : List (Nat × Nat)) : List (Int32 × Int32) := K.map (fun x => (nI x.1, nI x.2))
def KM (K : List (Int32 × Int32)) (I : Nat → Nat → Int32) : Prop := I 538 5 = nI K.length ∧ ∀ j, j < K.length → I 540 j = (K.getD j (0, 0)).1 ∧ I 541 j = (K.getD j (0, 0)).2
def WM (W : List Nat) (I : Nat → Nat → Int32) : Prop := I 538 8 = nI W.length ∧ (∀ j, j < W.length → I 542 j = nI (W.reverse.getD j 0)) ∧ ∀ w ∈ W, w ≤ 99
def bI (b : Bool) : Int32 := if b = true then 1 else 0
def MT (T : List Nat) (p : Nat) (wr : Bool) (K : List (Int32 × Int32)) (W : List Nat) (I : Nat → Nat → Int32) : Prop := MX T I ∧ I 538 3 = nI p ∧ I 538 4 = bI wr ∧ KM K I ∧ WM W I
def FN (I J : Nat → Nat → Int32) : Prop := ∀ x j, ¬ (x = 538 ∧ (j = 3 ∨ j = 4 ∨ j = 5 ∨ j = 8)) → x ≠ 540 → x ≠ 541 → x ≠ 542 → J x j = I x j
theorem FN.refl {I : Nat → Nat → Int32} : FN I I := fun _ _ _ _ _ _ => rfl
theorem FN.trans {I J K : Nat → Nat → Int32} (h1 : FN I J) (h2 : FN J K) : FN I K := fun x j a b c e => (h2 x j a b c e).trans (h1 x j a b c e)
theorem MX.fn {T : List Nat} {I J : Nat → Nat → Int32} (h : MX T I) (hf : FN I J) : MX T J := ⟨by rw [hf _ _ (by omega) (by omega) (by omega) (by omega)]; exact h.1, fun i hi => by rw [hf _ _ (by omega) (by omega) (by omega) (by omega)]; exact h.2 i hi⟩
def uA (I : Nat → Nat → Int32) (p : Nat) : Nat → Nat → Int32 := pm_up I 538 3 (nI p)
def uW (I : Nat → Nat → Int32) (b : Bool) : Nat → Nat → Int32 := pm_up I 538 4 (bI b)
def uE (I : Nat → Nat → Int32) (n : Nat) (x y : Int32) : Nat → Nat → Int32 := pm_up (pm_up (pm_up I 540 n x) 541 n y) 538 5 (nI (n + 1))
def uP (I : Nat → Nat → Int32) (n w : Nat) : Nat → Nat → Int32 := pm_up (pm_up I 542 n (nI w)) 538 8 (nI (n + 1))
def uN (I : Nat → Nat → Int32) (n : Nat) : Nat → Nat → Int32 := pm_up I 538 8 (nI n)
section MLF
variable {d k : Nat} {o : Int64} {I : Nat → Nat → Int32} {T : List Nat} {p : Nat} {wr : Bool} {K : List (Int32 × Int32)} {W : List Nat}
theorem fA {p' : Nat} : FN I (uA I p') := fun x j a _ _ _ => up_ne (by omega)
theorem fW {b : Bool} : FN I (uW I b) := fun x j a _ _ _ => up_ne (by omega)
theorem fE {n : Nat} {x y : Int32} : FN I (uE I n x y) := fun z j a b c e => by unfold uE; rw [up_ne (by omega), up_ne (by omega), up_ne (by omega)]
theorem fP {n w : Nat} : FN I (uP I n w) := fun z j a b c e => by unfold uP; rw [up_ne (by omega), up_ne (by omega)]
theorem fNn {n : Nat} : FN I (uN I n) := fun z j a b c e => up_ne (by omega)
theorem KM.cg {J : Nat → Nat → Int32} (h : KM K I) (h0 : J 538 5 = I 538 5) (h1 : J 540 = I 540) (h2 : J 541 = I 541) : KM K J := by unfold KM; rw [h0, h1, h2]; exact h
theorem WM.cg {J : Nat → Nat → Int32} (h : WM W I) (h0 : J 538 8 = I 538 8) (h1 : J 542 = I 542) : WM W J := by unfold WM; rw [h0, h1]; exact h
theorem MT.a (h : MT T p wr K W I) {p' : Nat} : MT T p' wr K W (uA I p') := ⟨h.1.fn fA, up_eq, by unfold uA; rw [up_ne (by omega)]; exact h.2.2.1, h.2.2.2.1.cg (up_ne (by omega)) (up_row (by omega)) (up_row (by omega)), h.2.2.2.2.cg (up_ne (by omega)) (up_row (by omega))⟩
theorem MT.w (h : MT T p wr K W I) {b : Bool} : MT T p b K W (uW I b) := ⟨h.1.fn fW, by unfold uW; rw [up_ne (by omega)]; exact h.2.1, up_eq, h.2.2.2.1.cg (up_ne (by omega)) (up_row (by omega)) (up_row (by omega)), h.2.2.2.2.cg (up_ne (by omega)) (up_row (by omega))⟩
theorem MT.e (h : MT T p wr K W I) {x y : Int32} : MT T p wr (K ++ [(x, y)]) W (uE I K.length x y) := by
  refine ⟨h.1.fn fE, ?_, ?_, ⟨?_, fun j hj => ?_⟩, h.2.2.2.2.cg ?_ ?_⟩
  · unfold uE; rw [up_ne (by omega), up_ne (by omega), up_ne (by omega)]; exact h.2.1
  · unfold uE; rw [up_ne (by omega), up_ne (by omega), up_ne (by omega)]; exact h.2.2.1
  · unfold uE; rw [up_eq]; simp
  · unfold uE
    by_cases e : j = K.length
    · subst e
      rw [up_ne (by omega), up_ne (by omega), up_eq, up_ne (by omega), up_eq, List.getD_eq_getElem?_getD, List.getElem?_append_right (by omega)]
      simp
    · have hj' : j < K.length := by simp at hj; omega
      rw [up_ne (by omega), up_ne (by omega), up_ne (by omega), up_ne (by omega), up_ne (by omega), up_ne (by omega), List.getD_eq_getElem?_getD, List.getElem?_append_left hj', ← List.getD_eq_getElem?_getD]
      exact h.2.2.2.1.2 j hj'
  · unfold uE; rw [up_ne (by omega), up_ne (by omega), up_ne (by omega)]
  · unfold uE; rw [up_row (by omega), up_row (by omega), up_row (by omega)]
theorem MT.push (h : MT T p wr K W I) {w : Nat} (hw : w ≤ 99) : MT T p wr K (w :: W) (uP I W.length w) := by
  refine ⟨h.1.fn fP, ?_, ?_, h.2.2.2.1.cg ?_ ?_ ?_, ⟨?_, fun j hj => ?_, fun x hx => ?_⟩⟩
  · unfold uP; rw [up_ne (by omega), up_ne (by omega)]; exact h.2.1
  · unfold uP; rw [up_ne (by omega), up_ne (by omega)]; exact h.2.2.1
  · unfold uP; rw [up_ne (by omega), up_ne (by omega)]
  · unfold uP; rw [up_row (by omega), up_row (by omega)]
  · unfold uP; rw [up_row (by omega), up_row (by omega)]
  · unfold uP; rw [up_eq]; rfl
  · unfold uP
    rw [up_ne (by omega), List.reverse_cons]
    by_cases e : j = W.length
    · subst e
      rw [up_eq, List.getD_eq_getElem?_getD, List.getElem?_append_right (by simp)]
      simp
    · have hj' : j < W.length := by simp at hj; omega
      rw [up_ne (by omega), h.2.2.2.2.2.1 j hj', List.getD_eq_getElem?_getD, List.getD_eq_getElem?_getD, List.getElem?_append_left (by simpa using hj')]
  · rcases List.mem_cons.mp hx with rfl | hx
    · exact hw
    · exact h.2.2.2.2.2.2 x hx
theorem MT.pop {w : Nat} (h : MT T p wr K (w :: W) I) : MT T p wr K W (uN I W.length) ∧ I 542 W.length = nI w := by
  refine ⟨⟨h.1.fn fNn, ?_, ?_, h.2.2.2.1.cg (up_ne (by omega)) (up_row (by omega)) (up_row (by omega)), ⟨up_eq, fun j hj => ?_, fun x hx => h.2.2.2.2.2.2 x (List.mem_cons_of_mem _ hx)⟩⟩, ?_⟩
  · unfold uN; rw [up_ne (by omega)]; exact h.2.1
  · unfold uN; rw [up_ne (by omega)]; exact h.2.2.1
  · unfold uN
    rw [up_ne (by omega), h.2.2.2.2.2.1 j (by simp; omega), List.reverse_cons, List.getD_eq_getElem?_getD, List.getD_eq_getElem?_getD, List.getElem?_append_left (by simpa using hj)]
  · rw [h.2.2.2.2.2.1 W.length (by simp), List.reverse_cons, List.getD_eq_getElem?_getD, List.getElem?_append_right (by simp)]
    simp
theorem MT.zero (h : MT T p wr K W I) : MT T p wr K [] (uN I 0) := by
  refine ⟨h.1.fn fNn, ?_, ?_, h.2.2.2.1.cg (up_ne (by omega)) (up_row (by omega)) (up_row (by omega)), ⟨up_eq, fun j hj => (by simp at hj), fun x hx => (by cases hx)⟩⟩
  · unfold uN; rw [up_ne (by omega)]; exact h.2.1
  · unfold uN; rw [up_ne (by omega)]; exact h.2.2.1
theorem c26 (hT : TX T) (h : MX T I) (hp : I 538 3 = nI p) (hb : p < 100000) {q : pm_Res} : pm_C (d + 1) 26 [.ref 538] (Wm I k o) q ↔ q = (.inl (some (.int (nI (nx T p)))), Wm I k o) := by
  have h240 := hT.1
  rw [n26]
  by_cases e : p < T.length
  · have en : I 539 p = nI (nx T p) := h.2 p e
    simp (decide := true) only [q26_0, q26_1, q26_4, q26_5, q26_8, q26_11, q26_12, q26_15, q26_16, q26_19, q26_20, q26_23, q26_24, W_1, W_I, W_mk, W_tk, pm_rv, rf_0_0, rf_0_1, rf_0_2, rf_0_3, rf_0_4, rf_0_7, rf_0_8, rf_1_0, rf_1_2, rf_3_0, rf_3_1, rf_3_6, rf_3_7, rf_3_8, rf_9_0, rf_9_1, rf_10_0, rf_10_1, rf_10_6, rf_10_7, rf_10_8, rf_17_0, rf_17_1, rf_538_2, rf_538_6, rf_538_7, rf_538_9, rf_538_11, rf_538_12, rf_538_18, rf_538_19, rf_538_22, rf_538_23, rf_538_25, rf_538_27, rf_538_28, rf_538_30, rf_538_31, rf_538_32, rf_538_33, rf_538_34, rf_538_35, rf_538_36, ob_0, ob_1, ob_3, ob_9, ob_10, ob_17, ob_538, ar_2, ar_4, ar_5, ar_6, ar_7, ar_8, ar_11, ar_12, ar_13, ar_14, ar_15, ar_16, ar_116, ar_117, ar_539, ar_540, ar_541, ar_542, ar_543, ar_544, ar_545, ar_546, ar_547, ar_548, ar_549, ar_550, ar_551, ar_552, ar_553, ar_554, ar_555, ar_556, ar_557, ar_558, ex_eq, ex_ite, pm_bk_r, pm_bk_t, ol_nil, ol_one, true_and, and_true, false_and, and_false, reduceIte, Nat.reduceEqDiff, up_at, Nat.add_left_cancel_iff, hp, h.1, show (nI p < nI T.length) ↔ True from iff_true_intro (by rw [sm_lt (by omega) (by omega)]; exact e), sm_in (show p < 2147483648 by omega), show p < 240 by omega, sm_cl (show p < 2147483648 by omega), en]
  · have en : nx T p = 0 := nx_ge (by omega)
    simp (decide := true) only [q26_0, q26_1, q26_4, q26_5, q26_8, q26_11, q26_12, q26_15, q26_16, q26_19, q26_20, q26_23, q26_24, W_1, W_I, W_mk, W_tk, pm_rv, rf_0_0, rf_0_1, rf_0_2, rf_0_3, rf_0_4, rf_0_7, rf_0_8, rf_1_0, rf_1_2, rf_3_0, rf_3_1, rf_3_6, rf_3_7, rf_3_8, rf_9_0, rf_9_1, rf_10_0, rf_10_1, rf_10_6, rf_10_7, rf_10_8, rf_17_0, rf_17_1, rf_538_2, rf_538_6, rf_538_7, rf_538_9, rf_538_11, rf_538_12, rf_538_18, rf_538_19, rf_538_22, rf_538_23, rf_538_25, rf_538_27, rf_538_28, rf_538_30, rf_538_31, rf_538_32, rf_538_33, rf_538_34, rf_538_35, rf_538_36, ob_0, ob_1, ob_3, ob_9, ob_10, ob_17, ob_538, ar_2, ar_4, ar_5, ar_6, ar_7, ar_8, ar_11, ar_12, ar_13, ar_14, ar_15, ar_16, ar_116, ar_117, ar_539, ar_540, ar_541, ar_542, ar_543, ar_544, ar_545, ar_546, ar_547, ar_548, ar_549, ar_550, ar_551, ar_552, ar_553, ar_554, ar_555, ar_556, ar_557, ar_558, ex_eq, ex_ite, pm_bk_r, pm_bk_t, ol_nil, ol_one, true_and, and_true, false_and, and_false, reduceIte, Nat.reduceEqDiff, up_at, Nat.add_left_cancel_iff, hp, h.1, show (nI p < nI T.length) ↔ False from iff_false_intro (by rw [sm_lt (by omega) (by omega)]; exact e), en]
    exact Iff.rfl
theorem c27 (hT : TX T) (h : MT T p wr K W I) (hb : p < 100000) {c : Nat} (hc : c < 100000) : ∃ J, MT T (if nx T p = c then p + 1 else p) wr K W J ∧ FN I J ∧ ∀ q, (pm_C (d + 2) 27 [.ref 538, .int (nI c)] (Wm I k o) q ↔ q = (.inl (some (.int (if nx T p = c then 1 else 0))), Wm J k o)) := by
  refine ⟨uA I (if nx T p = c then p + 1 else p), h.a, fA, fun q => ?_⟩
  have ei : (nI (nx T p) = nI c) ↔ nx T p = c := sm_inj (by have := nx_126 hT p; omega) (by omega)
  rw [n27]
  by_cases e : nx T p = c
  · simp (decide := true) only [q27_0, q27_1, q27_4, q27_5, q27_8, q27_9, q27_12, q27_13, q27_14, q27_15, q27_16, q27_19, q27_20, q27_23, q27_24, q27_27, q27_28, q27_29, q27_32, q27_33, W_1, W_I, W_mk, W_tk, pm_rv, rf_0_0, rf_0_1, rf_0_2, rf_0_3, rf_0_4, rf_0_7, rf_0_8, rf_1_0, rf_1_2, rf_3_0, rf_3_1, rf_3_6, rf_3_7, rf_3_8, rf_9_0, rf_9_1, rf_10_0, rf_10_1, rf_10_6, rf_10_7, rf_10_8, rf_17_0, rf_17_1, rf_538_2, rf_538_6, rf_538_7, rf_538_9, rf_538_11, rf_538_12, rf_538_18, rf_538_19, rf_538_22, rf_538_23, rf_538_25, rf_538_27, rf_538_28, rf_538_30, rf_538_31, rf_538_32, rf_538_33, rf_538_34, rf_538_35, rf_538_36, ob_0, ob_1, ob_3, ob_9, ob_10, ob_17, ob_538, ar_2, ar_4, ar_5, ar_6, ar_7, ar_8, ar_11, ar_12, ar_13, ar_14, ar_15, ar_16, ar_116, ar_117, ar_539, ar_540, ar_541, ar_542, ar_543, ar_544, ar_545, ar_546, ar_547, ar_548, ar_549, ar_550, ar_551, ar_552, ar_553, ar_554, ar_555, ar_556, ar_557, ar_558, ex_eq, ex_ite, pm_bk_r, pm_bk_t, ol_nil, ol_one, true_and, and_true, false_and, and_false, reduceIte, Nat.reduceEqDiff, up_at, Nat.add_left_cancel_iff, c26 hT h.1 h.2.1 hb, ei, e, h.2.1, sm_s]
    exact Iff.rfl
  · simp (decide := true) only [q27_0, q27_1, q27_4, q27_5, q27_8, q27_9, q27_12, q27_13, q27_14, q27_15, q27_16, q27_19, q27_20, q27_23, q27_24, q27_27, q27_28, q27_29, q27_32, q27_33, W_1, W_I, W_mk, W_tk, pm_rv, rf_0_0, rf_0_1, rf_0_2, rf_0_3, rf_0_4, rf_0_7, rf_0_8, rf_1_0, rf_1_2, rf_3_0, rf_3_1, rf_3_6, rf_3_7, rf_3_8, rf_9_0, rf_9_1, rf_10_0, rf_10_1, rf_10_6, rf_10_7, rf_10_8, rf_17_0, rf_17_1, rf_538_2, rf_538_6, rf_538_7, rf_538_9, rf_538_11, rf_538_12, rf_538_18, rf_538_19, rf_538_22, rf_538_23, rf_538_25, rf_538_27, rf_538_28, rf_538_30, rf_538_31, rf_538_32, rf_538_33, rf_538_34, rf_538_35, rf_538_36, ob_0, ob_1, ob_3, ob_9, ob_10, ob_17, ob_538, ar_2, ar_4, ar_5, ar_6, ar_7, ar_8, ar_11, ar_12, ar_13, ar_14, ar_15, ar_16, ar_116, ar_117, ar_539, ar_540, ar_541, ar_542, ar_543, ar_544, ar_545, ar_546, ar_547, ar_548, ar_549, ar_550, ar_551, ar_552, ar_553, ar_554, ar_555, ar_556, ar_557, ar_558, ex_eq, ex_ite, pm_bk_r, pm_bk_t, ol_nil, ol_one, true_and, and_true, false_and, and_false, reduceIte, Nat.reduceEqDiff, up_at, Nat.add_left_cancel_iff, c26 hT h.1 h.2.1 hb, ei, e, h.2.1, Int32.add_zero]
    exact Iff.rfl
theorem c28 (hT : TX T) (h : MT T p wr K W I) (hb : p < 100000) {c : Nat} (hc : c < 100000) : ∃ J, MT T (if nx T p = c then p + 1 else p) (wr || !decide (nx T p = c)) K W J ∧ FN I J ∧ ∀ q, (pm_C (d + 3) 28 [.ref 538, .int (nI c)] (Wm I k o) q ↔ q = (.inl none, Wm J k o)) := by
  obtain ⟨J, g1, g2, g3⟩ := c27 (d := d) (k := k) (o := o) hT h hb hc
  refine ⟨uW J (wr || !decide (nx T p = c)), g1.w, g2.trans fW, fun q => ?_⟩
  have g4 : J 538 4 = bI wr := g1.2.2.1
  rw [n28]
  by_cases e : nx T p = c
  · have ed : (wr || !decide (nx T p = c)) = wr := by simp [e]
    rw [ed]
    cases wr <;> (simp (decide := true) only [q28_0, q28_1, q28_2, q28_3, q28_6, q28_9, q28_10, q28_13, q28_16, q28_17, q28_20, q28_21, q28_24, W_1, W_I, W_mk, W_tk, pm_rv, rf_0_0, rf_0_1, rf_0_2, rf_0_3, rf_0_4, rf_0_7, rf_0_8, rf_1_0, rf_1_2, rf_3_0, rf_3_1, rf_3_6, rf_3_7, rf_3_8, rf_9_0, rf_9_1, rf_10_0, rf_10_1, rf_10_6, rf_10_7, rf_10_8, rf_17_0, rf_17_1, rf_538_2, rf_538_6, rf_538_7, rf_538_9, rf_538_11, rf_538_12, rf_538_18, rf_538_19, rf_538_22, rf_538_23, rf_538_25, rf_538_27, rf_538_28, rf_538_30, rf_538_31, rf_538_32, rf_538_33, rf_538_34, rf_538_35, rf_538_36, ob_0, ob_1, ob_3, ob_9, ob_10, ob_17, ob_538, ar_2, ar_4, ar_5, ar_6, ar_7, ar_8, ar_11, ar_12, ar_13, ar_14, ar_15, ar_16, ar_116, ar_117, ar_539, ar_540, ar_541, ar_542, ar_543, ar_544, ar_545, ar_546, ar_547, ar_548, ar_549, ar_550, ar_551, ar_552, ar_553, ar_554, ar_555, ar_556, ar_557, ar_558, ex_eq, ex_ite, pm_bk_r, pm_bk_t, ol_nil, ol_one, true_and, and_true, false_and, and_false, reduceIte, Nat.reduceEqDiff, up_at, Nat.add_left_cancel_iff, g3, e, g4, bI]; exact Iff.rfl)
  · have ed : (wr || !decide (nx T p = c)) = true := by simp [e]
    rw [ed]
    simp (decide := true) only [q28_0, q28_1, q28_2, q28_3, q28_6, q28_9, q28_10, q28_13, q28_16, q28_17, q28_20, q28_21, q28_24, W_1, W_I, W_mk, W_tk, pm_rv, rf_0_0, rf_0_1, rf_0_2, rf_0_3, rf_0_4, rf_0_7, rf_0_8, rf_1_0, rf_1_2, rf_3_0, rf_3_1, rf_3_6, rf_3_7, rf_3_8, rf_9_0, rf_9_1, rf_10_0, rf_10_1, rf_10_6, rf_10_7, rf_10_8, rf_17_0, rf_17_1, rf_538_2, rf_538_6, rf_538_7, rf_538_9, rf_538_11, rf_538_12, rf_538_18, rf_538_19, rf_538_22, rf_538_23, rf_538_25, rf_538_27, rf_538_28, rf_538_30, rf_538_31, rf_538_32, rf_538_33, rf_538_34, rf_538_35, rf_538_36, ob_0, ob_1, ob_3, ob_9, ob_10, ob_17, ob_538, ar_2, ar_4, ar_5, ar_6, ar_7, ar_8, ar_11, ar_12, ar_13, ar_14, ar_15, ar_16, ar_116, ar_117, ar_539, ar_540, ar_541, ar_542, ar_543, ar_544, ar_545, ar_546, ar_547, ar_548, ar_549, ar_550, ar_551, ar_552, ar_553, ar_554, ar_555, ar_556, ar_557, ar_558, ex_eq, ex_ite, pm_bk_r, pm_bk_t, ol_nil, ol_one, true_and, and_true, false_and, and_false, reduceIte, Nat.reduceEqDiff, up_at, Nat.add_left_cancel_iff, g3, e]
    exact Iff.rfl
theorem c29 (h : MT T p wr K W I) (hK : K.length < 500) {x y : Int32} {q : pm_Res} : pm_C (d + 1) 29 [.ref 538, .int x, .int y] (Wm I k o) q ↔ q = (.inl none, Wm (uE I K.length x y) k o) := by
  rw [n29]
  simp (decide := true) only [q29_0, q29_1, q29_4, q29_5, q29_8, q29_9, q29_10, q29_11, q29_14, q29_15, q29_18, q29_19, q29_20, q29_21, q29_22, q29_25, q29_26, q29_27, q29_30, W_1, W_I, W_mk, W_tk, pm_rv, rf_0_0, rf_0_1, rf_0_2, rf_0_3, rf_0_4, rf_0_7, rf_0_8, rf_1_0, rf_1_2, rf_3_0, rf_3_1, rf_3_6, rf_3_7, rf_3_8, rf_9_0, rf_9_1, rf_10_0, rf_10_1, rf_10_6, rf_10_7, rf_10_8, rf_17_0, rf_17_1, rf_538_2, rf_538_6, rf_538_7, rf_538_9, rf_538_11, rf_538_12, rf_538_18, rf_538_19, rf_538_22, rf_538_23, rf_538_25, rf_538_27, rf_538_28, rf_538_30, rf_538_31, rf_538_32, rf_538_33, rf_538_34, rf_538_35, rf_538_36, ob_0, ob_1, ob_3, ob_9, ob_10, ob_17, ob_538, ar_2, ar_4, ar_5, ar_6, ar_7, ar_8, ar_11, ar_12, ar_13, ar_14, ar_15, ar_16, ar_116, ar_117, ar_539, ar_540, ar_541, ar_542, ar_543, ar_544, ar_545, ar_546, ar_547, ar_548, ar_549, ar_550, ar_551, ar_552, ar_553, ar_554, ar_555, ar_556, ar_557, ar_558, ex_eq, ex_ite, pm_bk_r, pm_bk_t, ol_nil, ol_one, true_and, and_true, false_and, and_false, reduceIte, Nat.reduceEqDiff, up_at, Nat.add_left_cancel_iff, h.2.2.2.1.1, sm_in (show K.length < 2147483648 by omega), hK, sm_cl (show K.length < 2147483648 by omega), sm_s]
  exact Iff.rfl
theorem c30 {c x1 x2 x3 x4 x5 x6 : Int32} {M : pm_Mem} {q : pm_Res} : pm_C (d + 1) 30 [.int c, .int x1, .int x2, .int x3, .int x4, .int x5, .int x6] M q ↔ q = (.inl (some (.int (if c = x1 then 0 else if c = x2 then 1 else if c = x3 then 2 else if c = x4 then 3 else if c = x5 then 4 else if c = x6 then 5 else -1))), M) := by
  rw [n30]
  simp only [q30_0, q30_1, q30_2, q30_5, q30_6, q30_9, q30_10, q30_11, q30_14, q30_15, q30_18, q30_19, q30_20, q30_23, q30_24, q30_27, q30_28, q30_30, q30_33, q30_34, q30_37, q30_38, q30_40, q30_43, q30_44, q30_47, q30_48, q30_50, q30_53, q30_54, q30_57, q30_58]
  repeat' split
  all_goals rfl
theorem amZ : ∀ c, c < 128 → (if nI c = 104 then (0 : Int32) else if nI c = 103 then 1 else if nI c = 115 then 2 else if nI c = 116 then 3 else if nI c = 112 then 4 else if nI c = 113 then 5 else -1) = ixI (e_ix e_Z c) := by decide +kernel
theorem amW : ∀ c, c < 128 → (if nI c = 119 then (0 : Int32) else if nI c = 120 then 1 else if nI c = 121 then 2 else if nI c = 122 then 3 else if nI c = 119 then 4 else if nI c = 119 then 5 else -1) = ixI (e_ix e_W c) := by decide +kernel
theorem c33 {c : Nat} (hc : c < 128) {M : pm_Mem} {q : pm_Res} : pm_C (d + 2) 33 [.int (nI c)] M q ↔ q = (.inl (some (.int (ixI (e_ix e_W c)))), M) := by
  rw [n33]
  simp only [q33_0, q33_1, q33_3, q33_5, q33_7, q33_9, q33_11, q33_13, q33_16, ex_eq, ex_ite, pm_bk_r, pm_bk_t, ol_nil, ol_one, true_and, and_true, false_and, and_false, reduceIte, Nat.reduceEqDiff, up_at, Nat.add_left_cancel_iff, c30, amW c hc]
theorem c31 (hT : TX T) (h : MT T p wr K W I) (hb : p < 100000) : ∃ J, MT T (if e_ix e_Z (nx T p) = none then p else p + 1) (wr || (e_ix e_Z (nx T p)).isNone) K W J ∧ FN I J ∧ ∀ q, (pm_C (d + 2) 31 [.ref 538] (Wm I k o) q ↔ q = (.inl (some (.int (ixI (e_ix e_Z (nx T p))))), Wm J k o)) := by
  have h126 := nx_126 hT p
  refine ⟨uW (uA I (if e_ix e_Z (nx T p) = none then p else p + 1)) (wr || (e_ix e_Z (nx T p)).isNone), h.a.w, fA.trans fW, fun q => ?_⟩
  have h4 : I 538 4 = bI wr := h.2.2.1
  rw [n31]
  cases ez : e_ix e_Z (nx T p) with
  | none =>
    have am := amZ (nx T p) (by omega)
    rw [ez] at am
    have am : _ = (-1 : Int32) := am
    have eb : (wr || (none : Option Nat).isNone) = true := by simp
    rw [eb]
    simp (decide := true) only [q31_0, q31_1, q31_4, q31_6, q31_8, q31_10, q31_12, q31_14, q31_16, q31_19, q31_20, q31_21, q31_22, q31_25, q31_26, q31_29, q31_30, q31_33, q31_34, q31_35, q31_38, q31_39, q31_40, q31_43, q31_46, q31_47, q31_50, q31_51, q31_54, q31_55, q31_58, q31_59, W_1, W_I, W_mk, W_tk, pm_rv, rf_0_0, rf_0_1, rf_0_2, rf_0_3, rf_0_4, rf_0_7, rf_0_8, rf_1_0, rf_1_2, rf_3_0, rf_3_1, rf_3_6, rf_3_7, rf_3_8, rf_9_0, rf_9_1, rf_10_0, rf_10_1, rf_10_6, rf_10_7, rf_10_8, rf_17_0, rf_17_1, rf_538_2, rf_538_6, rf_538_7, rf_538_9, rf_538_11, rf_538_12, rf_538_18, rf_538_19, rf_538_22, rf_538_23, rf_538_25, rf_538_27, rf_538_28, rf_538_30, rf_538_31, rf_538_32, rf_538_33, rf_538_34, rf_538_35, rf_538_36, ob_0, ob_1, ob_3, ob_9, ob_10, ob_17, ob_538, ar_2, ar_4, ar_5, ar_6, ar_7, ar_8, ar_11, ar_12, ar_13, ar_14, ar_15, ar_16, ar_116, ar_117, ar_539, ar_540, ar_541, ar_542, ar_543, ar_544, ar_545, ar_546, ar_547, ar_548, ar_549, ar_550, ar_551, ar_552, ar_553, ar_554, ar_555, ar_556, ar_557, ar_558, ex_eq, ex_ite, pm_bk_r, pm_bk_t, ol_nil, ol_one, true_and, and_true, false_and, and_false, reduceIte, Nat.reduceEqDiff, up_at, Nat.add_left_cancel_iff, c26 hT h.1 h.2.1 hb, c30, am, h.2.1, Int32.add_zero, ite_same, h4]
    cases wr <;> (simp (decide := true) only [bI, reduceIte, ixI]; exact Iff.rfl)
  | some z =>
    have hz : z < 6 := (e_ix_lt ez).1
    have am := amZ (nx T p) (by omega)
    rw [ez] at am
    have am : _ = nI z := am
    have e0 : (nI z < 0) ↔ False := iff_false_intro (sm_neg (by omega))
    have eb : (wr || (some z).isNone) = wr := by simp
    rw [eb]
    cases wr <;> (simp (decide := true) only [q31_0, q31_1, q31_4, q31_6, q31_8, q31_10, q31_12, q31_14, q31_16, q31_19, q31_20, q31_21, q31_22, q31_25, q31_26, q31_29, q31_30, q31_33, q31_34, q31_35, q31_38, q31_39, q31_40, q31_43, q31_46, q31_47, q31_50, q31_51, q31_54, q31_55, q31_58, q31_59, W_1, W_I, W_mk, W_tk, pm_rv, rf_0_0, rf_0_1, rf_0_2, rf_0_3, rf_0_4, rf_0_7, rf_0_8, rf_1_0, rf_1_2, rf_3_0, rf_3_1, rf_3_6, rf_3_7, rf_3_8, rf_9_0, rf_9_1, rf_10_0, rf_10_1, rf_10_6, rf_10_7, rf_10_8, rf_17_0, rf_17_1, rf_538_2, rf_538_6, rf_538_7, rf_538_9, rf_538_11, rf_538_12, rf_538_18, rf_538_19, rf_538_22, rf_538_23, rf_538_25, rf_538_27, rf_538_28, rf_538_30, rf_538_31, rf_538_32, rf_538_33, rf_538_34, rf_538_35, rf_538_36, ob_0, ob_1, ob_3, ob_9, ob_10, ob_17, ob_538, ar_2, ar_4, ar_5, ar_6, ar_7, ar_8, ar_11, ar_12, ar_13, ar_14, ar_15, ar_16, ar_116, ar_117, ar_539, ar_540, ar_541, ar_542, ar_543, ar_544, ar_545, ar_546, ar_547, ar_548, ar_549, ar_550, ar_551, ar_552, ar_553, ar_554, ar_555, ar_556, ar_557, ar_558, ex_eq, ex_ite, pm_bk_r, pm_bk_t, ol_nil, ol_one, true_and, and_true, false_and, and_false, reduceIte, Nat.reduceEqDiff, up_at, Nat.add_left_cancel_iff, c26 hT h.1 h.2.1 hb, c30, am, h.2.1, e0, sm_s, h4, bI, ixI]; exact Iff.rfl)
theorem c32 (hT : TX T) (h : MT T p wr K W I) (hb : p < 100000) {ch : Bool} : ∃ J v, MT T (if e_zone true (nx T p) = none then p else p + 1) (wr || (e_zone ch (nx T p)).isNone) K W J ∧ FN I J ∧ (∀ z, e_zone ch (nx T p) = some z → v = nI z) ∧ ∀ q, (pm_C (d + 3) 32 [.ref 538, .int (bI ch)] (Wm I k o) q ↔ q = (.inl (some (.int v)), Wm J k o)) := by
  have h126 := nx_126 hT p
  have e99 : (nI (nx T p) = 99) ↔ nx T p = 99 := by rw [show (99 : Int32) = nI 99 from rfl, sm_inj (by omega) (by omega)]
  by_cases n99 : nx T p = 99
  · have z1 : e_zone true (nx T p) = some 6 := if_pos ⟨rfl, n99⟩
    rw [z1, if_neg (by simp)]
    have z2 : (wr || (e_zone ch (nx T p)).isNone) = (wr || !ch) := by
      cases ch
      · have : e_zone false (nx T p) = none := by rw [n99]; rfl
        rw [this]; rfl
      · rw [z1]; rfl
    rw [z2]
    refine ⟨uA (uW I (wr || !ch)) (p + 1), 6, h.w.a, fW.trans fA, fun z hz => ?_, fun q => ?_⟩
    · cases ch
      · have : e_zone false (nx T p) = none := by rw [n99]; rfl
        rw [this] at hz; cases hz
      · rw [z1] at hz
        injection hz with hz
        subst hz
        rfl
    · have h4 := h.2.2.1
      rw [n32]
      cases wr <;> cases ch <;> (simp (decide := true) only [q32_0, q32_1, q32_4, q32_6, q32_9, q32_10, q32_11, q32_14, q32_17, q32_18, q32_21, q32_22, q32_25, q32_26, q32_29, q32_30, q32_31, q32_34, q32_35, q32_36, q32_39, q32_41, q32_42, q32_43, q32_46, W_1, W_I, W_mk, W_tk, pm_rv, rf_0_0, rf_0_1, rf_0_2, rf_0_3, rf_0_4, rf_0_7, rf_0_8, rf_1_0, rf_1_2, rf_3_0, rf_3_1, rf_3_6, rf_3_7, rf_3_8, rf_9_0, rf_9_1, rf_10_0, rf_10_1, rf_10_6, rf_10_7, rf_10_8, rf_17_0, rf_17_1, rf_538_2, rf_538_6, rf_538_7, rf_538_9, rf_538_11, rf_538_12, rf_538_18, rf_538_19, rf_538_22, rf_538_23, rf_538_25, rf_538_27, rf_538_28, rf_538_30, rf_538_31, rf_538_32, rf_538_33, rf_538_34, rf_538_35, rf_538_36, ob_0, ob_1, ob_3, ob_9, ob_10, ob_17, ob_538, ar_2, ar_4, ar_5, ar_6, ar_7, ar_8, ar_11, ar_12, ar_13, ar_14, ar_15, ar_16, ar_116, ar_117, ar_539, ar_540, ar_541, ar_542, ar_543, ar_544, ar_545, ar_546, ar_547, ar_548, ar_549, ar_550, ar_551, ar_552, ar_553, ar_554, ar_555, ar_556, ar_557, ar_558, ex_eq, ex_ite, pm_bk_r, pm_bk_t, ol_nil, ol_one, true_and, and_true, false_and, and_false, reduceIte, Nat.reduceEqDiff, up_at, Nat.add_left_cancel_iff, c26 hT h.1 h.2.1 hb, e99, n99, h4, bI, h.2.1, sm_s]; exact Iff.rfl)
  · have z1 : ∀ b, e_zone b (nx T p) = e_ix e_Z (nx T p) := fun b => if_neg (fun q => n99 q.2)
    rw [z1, z1]
    obtain ⟨J, g1, g2, g3⟩ := c31 (d := d) (k := k) (o := o) hT h hb
    refine ⟨J, ixI (e_ix e_Z (nx T p)), g1, g2, fun z hz => by rw [hz]; rfl, fun q => ?_⟩
    rw [n32]
    simp (decide := true) only [q32_0, q32_1, q32_4, q32_6, q32_9, q32_10, q32_11, q32_14, q32_17, q32_18, q32_21, q32_22, q32_25, q32_26, q32_29, q32_30, q32_31, q32_34, q32_35, q32_36, q32_39, q32_41, q32_42, q32_43, q32_46, W_1, W_I, W_mk, W_tk, pm_rv, rf_0_0, rf_0_1, rf_0_2, rf_0_3, rf_0_4, rf_0_7, rf_0_8, rf_1_0, rf_1_2, rf_3_0, rf_3_1, rf_3_6, rf_3_7, rf_3_8, rf_9_0, rf_9_1, rf_10_0, rf_10_1, rf_10_6, rf_10_7, rf_10_8, rf_17_0, rf_17_1, rf_538_2, rf_538_6, rf_538_7, rf_538_9, rf_538_11, rf_538_12, rf_538_18, rf_538_19, rf_538_22, rf_538_23, rf_538_25, rf_538_27, rf_538_28, rf_538_30, rf_538_31, rf_538_32, rf_538_33, rf_538_34, rf_538_35, rf_538_36, ob_0, ob_1, ob_3, ob_9, ob_10, ob_17, ob_538, ar_2, ar_4, ar_5, ar_6, ar_7, ar_8, ar_11, ar_12, ar_13, ar_14, ar_15, ar_16, ar_116, ar_117, ar_539, ar_540, ar_541, ar_542, ar_543, ar_544, ar_545, ar_546, ar_547, ar_548, ar_549, ar_550, ar_551, ar_552, ar_553, ar_554, ar_555, ar_556, ar_557, ar_558, ex_eq, ex_ite, pm_bk_r, pm_bk_t, ol_nil, ol_one, true_and, and_true, false_and, and_false, reduceIte, Nat.reduceEqDiff, up_at, Nat.add_left_cancel_iff, c26 hT h.1 h.2.1 hb, e99, n99, g3]
theorem c34 {c : Nat} (hc : c < 1000) {M : pm_Mem} {q : pm_Res} : pm_C (d + 1) 34 [.int (nI c)] M q ↔ q = (.inl (some (.int (bI (e_dig c)))), M) := by
  have e48 : (nI c < 48) ↔ c < 48 := sm_lt (b := 48) (by omega) (by omega)
  have e57 : (57 < nI c) ↔ 57 < c := sm_lt (a := 57) (by omega) (by omega)
  rw [n34]
  by_cases h1 : c < 48
  · have : e_dig c = false := decide_eq_false (by omega)
    simp (decide := true) only [q34_0, q34_1, q34_3, q34_6, q34_7, q34_9, q34_12, q34_13, q34_16, q34_17, ex_eq, ex_ite, pm_bk_r, pm_bk_t, ol_nil, ol_one, true_and, and_true, false_and, and_false, reduceIte, Nat.reduceEqDiff, up_at, Nat.add_left_cancel_iff, e48, e57, h1, this, bI]
  · by_cases h2 : 57 < c
    · have : e_dig c = false := decide_eq_false (by omega)
      simp (decide := true) only [q34_0, q34_1, q34_3, q34_6, q34_7, q34_9, q34_12, q34_13, q34_16, q34_17, ex_eq, ex_ite, pm_bk_r, pm_bk_t, ol_nil, ol_one, true_and, and_true, false_and, and_false, reduceIte, Nat.reduceEqDiff, up_at, Nat.add_left_cancel_iff, e48, e57, h1, h2, this, bI]
    · have : e_dig c = true := decide_eq_true (by omega)
      simp (decide := true) only [q34_0, q34_1, q34_3, q34_6, q34_7, q34_9, q34_12, q34_13, q34_16, q34_17, ex_eq, ex_ite, pm_bk_r, pm_bk_t, ol_nil, ol_one, true_and, and_true, false_and, and_false, reduceIte, Nat.reduceEqDiff, up_at, Nat.add_left_cancel_iff, e48, e57, h1, h2, this, bI]
theorem opI : ∀ c, c < 128 → (if nI c = 43 then (5 : Int32) else if nI c = 45 then 6 else if nI c = 42 then 7 else if nI c = 60 then 8 else if nI c = 61 then 9 else if nI c = 38 then 10 else if nI c = 124 then 11 else -1) = ixI (m_op c) := by decide +kernel
theorem c37 {c : Nat} (hc : c < 128) {M : pm_Mem} {q : pm_Res} : pm_C (d + 1) 37 [.int (nI c)] M q ↔ q = (.inl (some (.int (ixI (m_op c)))), M) := by
  rw [n37, ← opI c hc]
  simp only [q37_0, q37_1, q37_3, q37_6, q37_7, q37_10, q37_11, q37_13, q37_16, q37_18, q37_21, q37_22, q37_24, q37_27, q37_29, q37_32, q37_33, q37_35, q37_38, q37_40, q37_43, q37_44, q37_46, q37_49, q37_51, q37_54, q37_55, q37_57, q37_60, q37_62, q37_65, q37_66, q37_68, q37_71, q37_73, q37_76, q37_77]
  repeat' split
  all_goals rfl
theorem c38 : ∀ w, w < 128 → ∀ {d : Nat} {M : pm_Mem} {q : pm_Res}, (pm_C (d + 1) 38 [.int (nI w)] M q ↔ q = (.inl (some (.int (nI (m_st w)))), M)) := by
  intro w hw d M q
  have key : ∀ w, w < 128 → nI (m_st w) = (if nI w = 12 then (6 : Int32) else if nI w = 7 then 5 else if nI w = 5 then 4 else if nI w = 6 then 4 else if nI w = 8 then 3 else if nI w = 9 then 3 else if nI w = 10 then 2 else if nI w = 11 then 1 else 0) := by decide +kernel
  rw [n38, key w hw]
  simp only [q38_0, q38_1, q38_3, q38_6, q38_8, q38_11, q38_12, q38_14, q38_17, q38_18, q38_21, q38_22, q38_23, q38_26, q38_27, q38_29, q38_32, q38_33, q38_36, q38_37, q38_39, q38_42, q38_43, q38_45, q38_48, q38_49, q38_52, q38_53, q38_55, q38_58, q38_59, q38_62, q38_63, q38_65, q38_68, q38_69, q38_72, q38_73]
  repeat' split
  all_goals rfl
theorem c39 (h : MT T p wr K W I) (hW : W.length ≤ 250) {q : pm_Res} : pm_C (d + 1) 39 [.ref 538] (Wm I k o) q ↔ q = (.inl (some (.int (nI (m_tp W)))), Wm I k o) := by
  have h8 := h.2.2.2.2.1
  rw [n39]
  cases W with
  | nil =>
    have h8 : I 538 8 = 0 := h8
    simp (decide := true) only [q39_0, q39_1, q39_4, q39_7, q39_8, q39_11, q39_12, q39_15, q39_16, q39_17, q39_18, q39_21, q39_23, W_1, W_I, W_mk, W_tk, pm_rv, rf_0_0, rf_0_1, rf_0_2, rf_0_3, rf_0_4, rf_0_7, rf_0_8, rf_1_0, rf_1_2, rf_3_0, rf_3_1, rf_3_6, rf_3_7, rf_3_8, rf_9_0, rf_9_1, rf_10_0, rf_10_1, rf_10_6, rf_10_7, rf_10_8, rf_17_0, rf_17_1, rf_538_2, rf_538_6, rf_538_7, rf_538_9, rf_538_11, rf_538_12, rf_538_18, rf_538_19, rf_538_22, rf_538_23, rf_538_25, rf_538_27, rf_538_28, rf_538_30, rf_538_31, rf_538_32, rf_538_33, rf_538_34, rf_538_35, rf_538_36, ob_0, ob_1, ob_3, ob_9, ob_10, ob_17, ob_538, ar_2, ar_4, ar_5, ar_6, ar_7, ar_8, ar_11, ar_12, ar_13, ar_14, ar_15, ar_16, ar_116, ar_117, ar_539, ar_540, ar_541, ar_542, ar_543, ar_544, ar_545, ar_546, ar_547, ar_548, ar_549, ar_550, ar_551, ar_552, ar_553, ar_554, ar_555, ar_556, ar_557, ar_558, ex_eq, ex_ite, pm_bk_r, pm_bk_t, ol_nil, ol_one, true_and, and_true, false_and, and_false, reduceIte, Nat.reduceEqDiff, up_at, Nat.add_left_cancel_iff, h8]
    exact Iff.rfl
  | cons w W =>
    have hp := h.pop
    have h8 : I 538 8 = nI (W.length + 1) := h8
    have hl : W.length + 1 ≤ 250 := hW
    have e1 : nI (W.length + 1) - 1 = nI W.length := by rw [show (1 : Int32) = nI 1 from rfl, sm_sub (by omega)]; rfl
    have e0 : (0 < nI (W.length + 1)) ↔ True := iff_true_intro (by rw [show (0 : Int32) = nI 0 from rfl, sm_lt (by omega) (by omega)]; omega)
    simp (decide := true) only [q39_0, q39_1, q39_4, q39_7, q39_8, q39_11, q39_12, q39_15, q39_16, q39_17, q39_18, q39_21, q39_23, W_1, W_I, W_mk, W_tk, pm_rv, rf_0_0, rf_0_1, rf_0_2, rf_0_3, rf_0_4, rf_0_7, rf_0_8, rf_1_0, rf_1_2, rf_3_0, rf_3_1, rf_3_6, rf_3_7, rf_3_8, rf_9_0, rf_9_1, rf_10_0, rf_10_1, rf_10_6, rf_10_7, rf_10_8, rf_17_0, rf_17_1, rf_538_2, rf_538_6, rf_538_7, rf_538_9, rf_538_11, rf_538_12, rf_538_18, rf_538_19, rf_538_22, rf_538_23, rf_538_25, rf_538_27, rf_538_28, rf_538_30, rf_538_31, rf_538_32, rf_538_33, rf_538_34, rf_538_35, rf_538_36, ob_0, ob_1, ob_3, ob_9, ob_10, ob_17, ob_538, ar_2, ar_4, ar_5, ar_6, ar_7, ar_8, ar_11, ar_12, ar_13, ar_14, ar_15, ar_16, ar_116, ar_117, ar_539, ar_540, ar_541, ar_542, ar_543, ar_544, ar_545, ar_546, ar_547, ar_548, ar_549, ar_550, ar_551, ar_552, ar_553, ar_554, ar_555, ar_556, ar_557, ar_558, ex_eq, ex_ite, pm_bk_r, pm_bk_t, ol_nil, ol_one, true_and, and_true, false_and, and_false, reduceIte, Nat.reduceEqDiff, up_at, Nat.add_left_cancel_iff, h8, e0, e1, sm_in (show W.length < 2147483648 by omega), show W.length < 250 by omega, sm_cl (show W.length < 2147483648 by omega), hp.2]
    exact Iff.rfl
end MLF
section MRL
variable {d k : Nat} {o : Int64} {T : List Nat} {p : Nat} {wr : Bool}
theorem tp_99 {W : List Nat} (h : ∀ w ∈ W, w ≤ 99) : m_tp W ≤ 99 := by
  cases W with
  | nil => exact Nat.le_refl _
  | cons w W => exact h w List.mem_cons_self
theorem st_6 (w : Nat) : m_st w ≤ 6 := by
  unfold m_st
  repeat' split
  all_goals omega
/-- what waits is released -/
theorem c40 {l : Nat} (h1 : 1 ≤ l) (h6 : l ≤ 6) : ∀ (W : List Nat) (K : List (Int32 × Int32)) (I : Nat → Nat → Int32), MT T p wr K W I → K.length + W.length < 500 → W.length ≤ 250 →
    ∃ J, MT T p wr (K ++ cK (m_fl l W)) (m_rst l W) J ∧ FN I J ∧ ∀ q, (pm_C (d + 2) 40 [.ref 538, .int (nI l)] (Wm I k o) q ↔ q = (.inl none, Wm J k o)) := by
  intro W
  induction W with
  | nil =>
    intro K I h hl hW
    refine ⟨I, by show MT T p wr (K ++ []) [] I; rw [List.append_nil]; exact h, FN.refl, fun q => ?_⟩
    have h38 : ∀ {d : Nat} {M : pm_Mem} (q : pm_Res), (pm_C (d + 1) 38 [.int (nI 99)] M q ↔ q = (.inl (some (.int (nI (m_st 99)))), M)) := fun q => c38 99 (by omega)
    have h39 := fun q => c39 (d := d) (k := k) (o := o) (q := q) h (by simp)
    have e0 : m_st 99 = 0 := by decide
    have e : (nI (m_st 99) < nI l) ↔ True := iff_true_intro (by rw [e0, sm_lt (by omega) (by omega)]; omega)
    have h39' : ∀ q, (pm_C (d + 1) 39 [.ref 538] (Wm I k o) q ↔ q = (.inl (some (.int (nI 99))), Wm I k o)) := h39
    rw [n40, q40_0]
    simp only [q40_1, q40_4, q40_7, q40_8, q40_33, W_1, W_I, W_mk, W_tk, pm_rv, rf_0_0, rf_0_1, rf_0_2, rf_0_3, rf_0_4, rf_0_7, rf_0_8, rf_1_0, rf_1_2, rf_3_0, rf_3_1, rf_3_6, rf_3_7, rf_3_8, rf_9_0, rf_9_1, rf_10_0, rf_10_1, rf_10_6, rf_10_7, rf_10_8, rf_17_0, rf_17_1, rf_538_2, rf_538_6, rf_538_7, rf_538_9, rf_538_11, rf_538_12, rf_538_18, rf_538_19, rf_538_22, rf_538_23, rf_538_25, rf_538_27, rf_538_28, rf_538_30, rf_538_31, rf_538_32, rf_538_33, rf_538_34, rf_538_35, rf_538_36, ob_0, ob_1, ob_3, ob_9, ob_10, ob_17, ob_538, ar_2, ar_4, ar_5, ar_6, ar_7, ar_8, ar_11, ar_12, ar_13, ar_14, ar_15, ar_16, ar_116, ar_117, ar_539, ar_540, ar_541, ar_542, ar_543, ar_544, ar_545, ar_546, ar_547, ar_548, ar_549, ar_550, ar_551, ar_552, ar_553, ar_554, ar_555, ar_556, ar_557, ar_558, ex_eq, ex_ite, pm_bk_r, pm_bk_t, ol_nil, ol_one, true_and, and_true, false_and, and_false, reduceIte, Nat.reduceEqDiff, up_at, Nat.add_left_cancel_iff, h39', h38, e]
  | cons w W ih =>
    intro K I h hl hW
    have hw99 : w ≤ 99 := h.2.2.2.2.2.2 w List.mem_cons_self
    have h39 : ∀ q, (pm_C (d + 1) 39 [.ref 538] (Wm I k o) q ↔ q = (.inl (some (.int (nI w))), Wm I k o)) := fun q => c39 (d := d) (k := k) (o := o) (q := q) h hW
    have h38 : ∀ {d : Nat} {M : pm_Mem} (q : pm_Res), (pm_C (d + 1) 38 [.int (nI w)] M q ↔ q = (.inl (some (.int (nI (m_st w)))), M)) := fun q => c38 w (by omega)
    have hs6 := st_6 w
    have hl' : K.length + (W.length + 1) < 500 := hl
    by_cases e : l ≤ m_st w
    · have e1 : m_fl l (w :: W) = (w, 0) :: m_fl l W := if_pos e
      have e2 : m_rst l (w :: W) = m_rst l W := if_pos e
      have hE := h.e (x := nI w) (y := 0)
      have hP := hE.pop
      obtain ⟨J, g1, g2, g3⟩ := ih (K ++ [(nI w, 0)]) _ hP.1 (by simp; omega) (by simp at hW; omega)
      refine ⟨J, ?_, (fE.trans fNn).trans g2, fun q => ?_⟩
      · rw [e1, e2]
        have : K ++ cK ((w, 0) :: m_fl l W) = K ++ [(nI w, 0)] ++ cK (m_fl l W) := by
          rw [List.append_assoc]; rfl
        rw [this]
        exact g1
      · have h29 : ∀ q, (pm_C (d + 1) 29 [.ref 538, .int (nI w), .int 0] (Wm I k o) q ↔ q = (.inl none, Wm (uE I K.length (nI w) 0) k o)) := fun q => c29 h (by omega)
        have h8 : uE I K.length (nI w) 0 538 8 = nI (W.length + 1) := hE.2.2.2.2.1
        have em : nI (W.length + 1) - 1 = nI W.length := by rw [show (1 : Int32) = nI 1 from rfl, sm_sub (by omega)]; rfl
        have g3' := g3 q
        rw [n40] at g3'
        rw [n40, q40_0]
        simp only [q40_1, q40_4, q40_7, q40_8, q40_11, q40_12, q40_13, q40_16, q40_17, q40_20, q40_21, q40_22, q40_25, q40_26, q40_27, q40_30, W_1, W_I, W_mk, W_tk, pm_rv, rf_0_0, rf_0_1, rf_0_2, rf_0_3, rf_0_4, rf_0_7, rf_0_8, rf_1_0, rf_1_2, rf_3_0, rf_3_1, rf_3_6, rf_3_7, rf_3_8, rf_9_0, rf_9_1, rf_10_0, rf_10_1, rf_10_6, rf_10_7, rf_10_8, rf_17_0, rf_17_1, rf_538_2, rf_538_6, rf_538_7, rf_538_9, rf_538_11, rf_538_12, rf_538_18, rf_538_19, rf_538_22, rf_538_23, rf_538_25, rf_538_27, rf_538_28, rf_538_30, rf_538_31, rf_538_32, rf_538_33, rf_538_34, rf_538_35, rf_538_36, ob_0, ob_1, ob_3, ob_9, ob_10, ob_17, ob_538, ar_2, ar_4, ar_5, ar_6, ar_7, ar_8, ar_11, ar_12, ar_13, ar_14, ar_15, ar_16, ar_116, ar_117, ar_539, ar_540, ar_541, ar_542, ar_543, ar_544, ar_545, ar_546, ar_547, ar_548, ar_549, ar_550, ar_551, ar_552, ar_553, ar_554, ar_555, ar_556, ar_557, ar_558, ex_eq, ex_ite, pm_bk_r, pm_bk_t, ol_nil, ol_one, true_and, and_true, false_and, and_false, reduceIte, Nat.reduceEqDiff, up_at, Nat.add_left_cancel_iff, h39, h38, show (nI (m_st w) < nI l) ↔ False from iff_false_intro (by rw [sm_lt (by omega) (by omega)]; omega), h29, h8, em]
        exact g3'
    · have e1 : m_fl l (w :: W) = [] := if_neg e
      have e2 : m_rst l (w :: W) = w :: W := if_neg e
      refine ⟨I, by rw [e1, e2]; show MT T p wr (K ++ []) (w :: W) I; rw [List.append_nil]; exact h, FN.refl, fun q => ?_⟩
      rw [n40, q40_0]
      simp only [q40_1, q40_4, q40_7, q40_8, q40_33, W_1, W_I, W_mk, W_tk, pm_rv, rf_0_0, rf_0_1, rf_0_2, rf_0_3, rf_0_4, rf_0_7, rf_0_8, rf_1_0, rf_1_2, rf_3_0, rf_3_1, rf_3_6, rf_3_7, rf_3_8, rf_9_0, rf_9_1, rf_10_0, rf_10_1, rf_10_6, rf_10_7, rf_10_8, rf_17_0, rf_17_1, rf_538_2, rf_538_6, rf_538_7, rf_538_9, rf_538_11, rf_538_12, rf_538_18, rf_538_19, rf_538_22, rf_538_23, rf_538_25, rf_538_27, rf_538_28, rf_538_30, rf_538_31, rf_538_32, rf_538_33, rf_538_34, rf_538_35, rf_538_36, ob_0, ob_1, ob_3, ob_9, ob_10, ob_17, ob_538, ar_2, ar_4, ar_5, ar_6, ar_7, ar_8, ar_11, ar_12, ar_13, ar_14, ar_15, ar_16, ar_116, ar_117, ar_539, ar_540, ar_541, ar_542, ar_543, ar_544, ar_545, ar_546, ar_547, ar_548, ar_549, ar_550, ar_551, ar_552, ar_553, ar_554, ar_555, ar_556, ar_557, ar_558, ex_eq, ex_ite, pm_bk_r, pm_bk_t, ol_nil, ol_one, true_and, and_true, false_and, and_false, reduceIte, Nat.reduceEqDiff, up_at, Nat.add_left_cancel_iff, h39, h38, show (nI (m_st w) < nI l) ↔ True from iff_true_intro (by rw [sm_lt (by omega) (by omega)]; omega)]
theorem fl_len {l : Nat} : ∀ {W : List Nat}, (m_fl l W).length + (m_rst l W).length = W.length := by
  intro W
  induction W with
  | nil => rfl
  | cons w W ih =>
    unfold m_fl m_rst
    split
    · simp; omega
    · simp
theorem cK_len {K : List (Nat × Nat)} : (cK K).length = K.length := List.length_map _
theorem cK_app {K L : List (Nat × Nat)} : cK (K ++ L) = cK K ++ cK L := List.map_append
end MRL
