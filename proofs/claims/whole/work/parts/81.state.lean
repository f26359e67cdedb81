/-! THE STATE OF BOTH -/
/-- text, game, position, history, best move -/
abbrev AS : Type := List Nat × Option Gm × Option Pos × List Pos × Int32
def AOK (S : AS) : Prop := TX S.1 ∧ (∀ G, S.2.1 = some G → g_ok G ∧ 1 ≤ G.1.length) ∧ S.2.2.2.1.length ≤ 60 ∧ (S.2.2.1 = none → S.2.2.2.1 = []) ∧ (∀ P, S.2.2.1 = some P → ∃ G, S.2.1 = some G ∧ PA (g_n G) P ∧ ∀ h, h < S.2.2.2.1.length → PA (g_n G) (S.2.2.2.1.getD h a_nil))
def CG (G : Option Gm) (I : Nat → Nat → Int32) : Prop := match G with
  | none => I 10 2 = 0 ∧ I 10 3 = 0 ∧ I 10 5 = 0
  | some G => GR G I
def CI (S : AS) (I : Nat → Nat → Int32) : Prop := RT S.1 I ∧ CG S.2.1 I ∧ I 0 6 = bI S.2.2.1.isSome ∧ I 0 5 = nI S.2.2.2.1.length ∧ (∀ P, S.2.2.1 = some P → TR 108 P I) ∧ (∀ h, h < S.2.2.2.1.length → TR (118 + 7 * h) (S.2.2.2.1.getD h a_nil) I) ∧ I 0 9 = S.2.2.2.2
def MG (G : Option Gm) (I : Nat → Nat → Int32) : Prop := match G with
  | none => I 538 14 = 0 ∧ I 538 15 = 0 ∧ I 538 16 = 0 ∧ I 538 17 = 0 ∧ I 538 21 = 0
  | some G => I 538 14 = 1 ∧ GM G I
def MI (S : AS) (I : Nat → Nat → Int32) : Prop := MX S.1 I ∧ (∃ W, WM W I) ∧ MG S.2.1 I ∧ I 538 24 = bI S.2.2.1.isSome ∧ I 538 26 = nI S.2.2.2.1.length ∧ (∀ P, S.2.2.1 = some P → MF 549 0 P I) ∧ (∀ h, h < S.2.2.2.1.length → MF 550 (157 * h) (S.2.2.2.1.getD h a_nil) I) ∧ I 538 37 = S.2.2.2.2
def HI (I J : Nat → Nat → Int32) : Prop := ∀ x, 538 ≤ x → J x = I x
def LO (I J : Nat → Nat → Int32) : Prop := ∀ x, x < 538 ∨ 558 < x → J x = I x
theorem TR.eq {t : Nat} {P : Pos} {I J : Nat → Nat → Int32} (h : TR t P I) (h1 : ∀ x, t ≤ x → x < t + 7 → J x = I x) : TR t P J := h.congr (by rw [h1 t (by omega) (by omega)]) (fun x a b => h1 x (by omega) b)
theorem CG.eq {G : Option Gm} {I J : Nat → Nat → Int32} (h : CG G I) (hf : ∀ x, 10 ≤ x → x ≤ 15 → J x = I x) : CG G J := by
  cases G with
  | none =>
    unfold CG at h ⊢
    rw [hf 10 (by omega) (by omega)]
    exact h
  | some G => exact GR.congr h hf
theorem RT.eq {T : List Nat} {I J : Nat → Nat → Int32} (h : RT T I) (h1 : J 1 1 = I 1 1) (h2 : J 2 = I 2) : RT T J := by unfold RT; rw [h1, h2]; exact h
theorem CI.lo {S : AS} {I J : Nat → Nat → Int32} (h : CI S I) (hf : LO I J) (hH : S.2.2.2.1.length ≤ 60) : CI S J := by
  obtain ⟨h1, h2, h3, h4, h5, h6, h7⟩ := h
  refine ⟨h1.eq (by rw [hf 1 (by omega)]) (hf 2 (by omega)), h2.eq (fun x _ _ => hf x (by omega)), by rw [hf 0 (by omega)]; exact h3, by rw [hf 0 (by omega)]; exact h4, fun P hP => (h5 P hP).eq (fun x a b => hf x (by omega)), fun h hh => (h6 h hh).eq (fun x a b => hf x (by omega)), by rw [hf 0 (by omega)]; exact h7⟩
theorem MI.hi {S : AS} {I J : Nat → Nat → Int32} (h : MI S I) (hf : HI I J) : MI S J := by
  obtain ⟨h1, ⟨W, h2⟩, h3, h4, h5, h6, h7, h8⟩ := h
  refine ⟨?_, ⟨W, ?_⟩, ?_, ?_, ?_, fun P hP => ?_, fun h hh => ?_, ?_⟩
  · unfold MX; rw [hf 538 (by omega), hf 539 (by omega)]; exact h1
  · unfold WM; rw [hf 538 (by omega), hf 542 (by omega)]; exact h2
  · cases hG : S.2.1 with
    | none =>
      rw [hG] at h3
      unfold MG at h3 ⊢
      rw [hf 538 (by omega)]; exact h3
    | some G =>
      rw [hG] at h3
      unfold MG at h3 ⊢
      exact ⟨by rw [hf 538 (by omega)]; exact h3.1, h3.2.congr (fun j _ _ => by rw [hf 538 (by omega)]) (fun x a b => hf x (by omega))⟩
  · rw [hf 538 (by omega)]; exact h4
  · rw [hf 538 (by omega)]; exact h5
  · have := h6 P hP
    unfold MF MP; rw [hf 549 (by omega)]; exact this
  · have := h7 h hh
    unfold MF MP; rw [hf 550 (by omega)]; exact this
  · rw [hf 538 (by omega)]; exact h8
/-- what of the class's state is surely kept -/
def CF (I J : Nat → Nat → Int32) : Prop := ∀ x j, (x = 0 ∨ (x = 1 ∧ j = 1) ∨ x = 2 ∨ (10 ≤ x ∧ x ≤ 15) ∨ 118 ≤ x) → J x j = I x j
theorem CF.hi {I J : Nat → Nat → Int32} (h : CF I J) : HI I J := fun x hx => by funext j; exact h x j (by omega)
theorem CF.trans {I J K : Nat → Nat → Int32} (h1 : CF I J) (h2 : CF J K) : CF I K := fun x j a => (h2 x j a).trans (h1 x j a)
theorem FL.cf {I J : Nat → Nat → Int32} (h : FL 108 117 I J) : CF I J := fun x j hx => h x j (by omega) (by omega) (by omega) (by omega)
theorem FR.cf {I J : Nat → Nat → Int32} (h : FR 108 I J) : CF I J := fun x j hx => h x j (by omega) (by omega) (by omega)
theorem FS.cf {I J : Nat → Nat → Int32} (h : FS 0 I J) : CF I J := fun x j hx => h x j (by omega) (by omega) (by omega) (by omega)
theorem FH.cf {I J : Nat → Nat → Int32} (h : FH I J) : CF I J := fun x j hx => h x j (by omega) (by omega)
theorem CI.cf {S : AS} {I J : Nat → Nat → Int32} (h : CI S I) (hf : CF I J) (hT : ∀ P, S.2.2.1 = some P → TR 108 P J) : CI S J := by
  obtain ⟨h1, h2, h3, h4, h5, h6, h7⟩ := h
  refine ⟨h1.eq (hf _ _ (by omega)) (by funext j; exact hf _ _ (by omega)), h2.eq (fun x _ _ => by funext j; exact hf _ _ (by omega)), by rw [hf _ _ (by omega)]; exact h3, by rw [hf _ _ (by omega)]; exact h4, hT, fun h hh => (h6 h hh).eq (fun x a b => by funext j; exact hf _ _ (by omega)), by rw [hf _ _ (by omega)]; exact h7⟩
/-- an answer or an exception -/
def rfin (r : Int32 ⊕ Nat) (k : Nat) (o : Int64) (J : Nat → Nat → Int32) : pm_Res := match r with
  | .inl v => (.inl (some (.int v)), Wm J k o)
  | .inr e => (.inr e, Wm J (k + 1) o)
def COK (S' : AS) (r : Int32 ⊕ Nat) (I : Nat → Nat → Int32) (k : Nat) (o : Int64) (call : pm_Mem → pm_Res → Prop) : Prop := ∃ J, CI S' J ∧ HI I J ∧ ∀ q, (call (Wm I k o) q ↔ q = rfin r k o J)
/-- t: what the reference says was thrown -/
def MOK (S' : AS) (t v : Int32) (I : Nat → Nat → Int32) (k : Nat) (o : Int64) (call : pm_Mem → pm_Res → Prop) : Prop := ∃ J, MI S' J ∧ LO I J ∧ J 538 0 = t ∧ ∀ q, (call (Wm I k o) q ↔ q = (.inl (some (.int v)), Wm J k o))
section OPS
variable {d k : Nat} {o : Int64} {S : AS} {I : Nat → Nat → Int32}
/-! wipe, best -/
theorem k3 (h : CI S I) : ∃ J, CI ([], S.2) J ∧ HI I J ∧ ∀ q, (pm_C (d + 1) 3 [.ref 0] (Wm I k o) q ↔ q = (.inl none, Wm J k o)) := by
  obtain ⟨h1, h2, h3, h4, h5, h6, h7⟩ := h
  refine ⟨pm_up I 1 1 0, ⟨⟨up_eq, fun i hi => (by simp at hi)⟩, h2.eq (fun x _ _ => up_row (by omega)), by rw [up_ne (by omega)]; exact h3, by rw [up_ne (by omega)]; exact h4, fun P hP => (h5 P hP).eq (fun x a b => up_row (by omega)), fun h hh => (h6 h hh).eq (fun x a b => up_row (by omega)), by rw [up_ne (by omega)]; exact h7⟩, fun x hx => up_row (by omega), fun q => ?_⟩
  rw [n3]
  simp only [q3_0, q3_1, q3_4, q3_5, q3_8, W_1, W_I, W_mk, W_tk, pm_rv, rf_0_0, rf_0_1, rf_0_2, rf_0_3, rf_0_4, rf_0_7, rf_0_8, rf_1_0, rf_1_2, rf_3_0, rf_3_1, rf_3_6, rf_3_7, rf_3_8, rf_9_0, rf_9_1, rf_10_0, rf_10_1, rf_10_6, rf_10_7, rf_10_8, rf_17_0, rf_17_1, rf_538_2, rf_538_6, rf_538_7, rf_538_9, rf_538_11, rf_538_12, rf_538_18, rf_538_19, rf_538_22, rf_538_23, rf_538_25, rf_538_27, rf_538_28, rf_538_30, rf_538_31, rf_538_32, rf_538_33, rf_538_34, rf_538_35, rf_538_36, ob_0, ob_1, ob_3, ob_9, ob_10, ob_17, ob_538, ar_2, ar_4, ar_5, ar_6, ar_7, ar_8, ar_11, ar_12, ar_13, ar_14, ar_15, ar_16, ar_116, ar_117, ar_539, ar_540, ar_541, ar_542, ar_543, ar_544, ar_545, ar_546, ar_547, ar_548, ar_549, ar_550, ar_551, ar_552, ar_553, ar_554, ar_555, ar_556, ar_557, ar_558, ex_eq, ex_ite, pm_bk_r, pm_bk_t, ol_nil, ol_one, true_and, and_true, false_and, and_false, reduceIte, Nat.reduceEqDiff, up_at, Nat.add_left_cancel_iff]
theorem m25 (h : MI S I) : ∃ J, MI ([], S.2) J ∧ LO I J ∧ ∀ q, (pm_C (d + 1) 25 [.ref 538] (Wm I k o) q ↔ q = (.inl none, Wm J k o)) := by
  obtain ⟨h1, ⟨W, h2⟩, h3, h4, h5, h6, h7, h8⟩ := h
  have e : ∀ x j, ¬ (x = 538 ∧ (j = 0 ∨ j = 1)) → pm_up (pm_up I 538 0 0) 538 1 0 x j = I x j := fun x j hx => by rw [up_ne (by omega), up_ne (by omega)]
  refine ⟨pm_up (pm_up I 538 0 0) 538 1 0, ⟨⟨up_eq, fun i hi => (by simp at hi)⟩, ⟨W, h2.cg (e _ _ (by omega)) (by funext j; exact e _ _ (by omega))⟩, ?_, by rw [e _ _ (by omega)]; exact h4, by rw [e _ _ (by omega)]; exact h5, fun P hP => ?_, fun h hh => ?_, by rw [e _ _ (by omega)]; exact h8⟩, fun x hx => by funext j; exact e x j (by omega), fun q => ?_⟩
  · cases hG : S.2.1 with
    | none =>
      rw [hG] at h3
      unfold MG at h3 ⊢
      rw [e _ _ (by omega), e _ _ (by omega), e _ _ (by omega), e _ _ (by omega), e _ _ (by omega)]; exact h3
    | some G =>
      rw [hG] at h3
      unfold MG at h3 ⊢
      exact ⟨by rw [e _ _ (by omega)]; exact h3.1, h3.2.congr (fun j _ _ => e _ _ (by omega)) (fun x a b => by funext j; exact e _ _ (by omega))⟩
  · have := h6 P hP
    exact ⟨this.1.congr (by funext j; exact e _ _ (by omega)), by rw [e _ _ (by omega)]; exact this.2⟩
  · have := h7 h hh
    exact ⟨this.1.congr (by funext j; exact e _ _ (by omega)), by rw [e _ _ (by omega)]; exact this.2⟩
  · rw [n25]
    simp only [q25_0, q25_1, q25_2, q25_5, q25_6, q25_7, q25_10, W_1, W_I, W_mk, W_tk, pm_rv, rf_0_0, rf_0_1, rf_0_2, rf_0_3, rf_0_4, rf_0_7, rf_0_8, rf_1_0, rf_1_2, rf_3_0, rf_3_1, rf_3_6, rf_3_7, rf_3_8, rf_9_0, rf_9_1, rf_10_0, rf_10_1, rf_10_6, rf_10_7, rf_10_8, rf_17_0, rf_17_1, rf_538_2, rf_538_6, rf_538_7, rf_538_9, rf_538_11, rf_538_12, rf_538_18, rf_538_19, rf_538_22, rf_538_23, rf_538_25, rf_538_27, rf_538_28, rf_538_30, rf_538_31, rf_538_32, rf_538_33, rf_538_34, rf_538_35, rf_538_36, ob_0, ob_1, ob_3, ob_9, ob_10, ob_17, ob_538, ar_2, ar_4, ar_5, ar_6, ar_7, ar_8, ar_11, ar_12, ar_13, ar_14, ar_15, ar_16, ar_116, ar_117, ar_539, ar_540, ar_541, ar_542, ar_543, ar_544, ar_545, ar_546, ar_547, ar_548, ar_549, ar_550, ar_551, ar_552, ar_553, ar_554, ar_555, ar_556, ar_557, ar_558, ex_eq, ex_ite, pm_bk_r, pm_bk_t, ol_nil, ol_one, true_and, and_true, false_and, and_false, reduceIte, Nat.reduceEqDiff, up_at, Nat.add_left_cancel_iff]
theorem k21 (h : CI S I) {q : pm_Res} : pm_C (d + 1) 21 [.ref 0] (Wm I k o) q ↔ q = (.inl (some (.int S.2.2.2.2)), Wm I k o) := by
  rw [n21]
  simp only [q21_0, q21_1, q21_4, W_1, W_I, W_mk, W_tk, pm_rv, rf_0_0, rf_0_1, rf_0_2, rf_0_3, rf_0_4, rf_0_7, rf_0_8, rf_1_0, rf_1_2, rf_3_0, rf_3_1, rf_3_6, rf_3_7, rf_3_8, rf_9_0, rf_9_1, rf_10_0, rf_10_1, rf_10_6, rf_10_7, rf_10_8, rf_17_0, rf_17_1, rf_538_2, rf_538_6, rf_538_7, rf_538_9, rf_538_11, rf_538_12, rf_538_18, rf_538_19, rf_538_22, rf_538_23, rf_538_25, rf_538_27, rf_538_28, rf_538_30, rf_538_31, rf_538_32, rf_538_33, rf_538_34, rf_538_35, rf_538_36, ob_0, ob_1, ob_3, ob_9, ob_10, ob_17, ob_538, ar_2, ar_4, ar_5, ar_6, ar_7, ar_8, ar_11, ar_12, ar_13, ar_14, ar_15, ar_16, ar_116, ar_117, ar_539, ar_540, ar_541, ar_542, ar_543, ar_544, ar_545, ar_546, ar_547, ar_548, ar_549, ar_550, ar_551, ar_552, ar_553, ar_554, ar_555, ar_556, ar_557, ar_558, ex_eq, ex_ite, pm_bk_r, pm_bk_t, ol_nil, ol_one, true_and, and_true, false_and, and_false, reduceIte, Nat.reduceEqDiff, up_at, Nat.add_left_cancel_iff, h.2.2.2.2.2.2]
/-- only what was thrown is written -/
theorem MI.th (h : MI S I) (t : Int32) : MI S (pm_up I 538 0 t) ∧ LO I (pm_up I 538 0 t) := by
  obtain ⟨h1, ⟨W, h2⟩, h3, h4, h5, h6, h7, h8⟩ := h
  have e : ∀ x j, ¬ (x = 538 ∧ j = 0) → pm_up I 538 0 t x j = I x j := fun x j hx => up_ne hx
  refine ⟨⟨⟨by rw [e _ _ (by omega)]; exact h1.1, fun i hi => by rw [e _ _ (by omega)]; exact h1.2 i hi⟩, ⟨W, h2.cg (e _ _ (by omega)) (by funext j; exact e _ _ (by omega))⟩, ?_, by rw [e _ _ (by omega)]; exact h4, by rw [e _ _ (by omega)]; exact h5, fun P hP => ?_, fun h hh => ?_, by rw [e _ _ (by omega)]; exact h8⟩, fun x hx => by funext j; exact e x j (by omega)⟩
  · cases hG : S.2.1 with
    | none =>
      rw [hG] at h3
      unfold MG at h3 ⊢
      rw [e _ _ (by omega), e _ _ (by omega), e _ _ (by omega), e _ _ (by omega), e _ _ (by omega)]; exact h3
    | some G =>
      rw [hG] at h3
      unfold MG at h3 ⊢
      exact ⟨by rw [e _ _ (by omega)]; exact h3.1, h3.2.congr (fun j _ _ => e _ _ (by omega)) (fun x a b => by funext j; exact e _ _ (by omega))⟩
  · have := h6 P hP
    exact ⟨this.1.congr (by funext j; exact e _ _ (by omega)), by rw [e _ _ (by omega)]; exact this.2⟩
  · have := h7 h hh
    exact ⟨this.1.congr (by funext j; exact e _ _ (by omega)), by rw [e _ _ (by omega)]; exact this.2⟩
theorem m78 (h : MI S I) : MOK S 0 S.2.2.2.2 I k o (fun M q => pm_C (d + 1) 78 [.ref 538] M q) := by
  have ht := h.th 0
  refine ⟨_, ht.1, ht.2, up_eq, fun q => ?_⟩
  show pm_C (d + 1) 78 _ _ q ↔ _
  rw [n78]
  simp (decide := true) only [q78_0, q78_1, q78_2, q78_5, q78_6, q78_9, W_1, W_I, W_mk, W_tk, pm_rv, rf_0_0, rf_0_1, rf_0_2, rf_0_3, rf_0_4, rf_0_7, rf_0_8, rf_1_0, rf_1_2, rf_3_0, rf_3_1, rf_3_6, rf_3_7, rf_3_8, rf_9_0, rf_9_1, rf_10_0, rf_10_1, rf_10_6, rf_10_7, rf_10_8, rf_17_0, rf_17_1, rf_538_2, rf_538_6, rf_538_7, rf_538_9, rf_538_11, rf_538_12, rf_538_18, rf_538_19, rf_538_22, rf_538_23, rf_538_25, rf_538_27, rf_538_28, rf_538_30, rf_538_31, rf_538_32, rf_538_33, rf_538_34, rf_538_35, rf_538_36, ob_0, ob_1, ob_3, ob_9, ob_10, ob_17, ob_538, ar_2, ar_4, ar_5, ar_6, ar_7, ar_8, ar_11, ar_12, ar_13, ar_14, ar_15, ar_16, ar_116, ar_117, ar_539, ar_540, ar_541, ar_542, ar_543, ar_544, ar_545, ar_546, ar_547, ar_548, ar_549, ar_550, ar_551, ar_552, ar_553, ar_554, ar_555, ar_556, ar_557, ar_558, ex_eq, ex_ite, pm_bk_r, pm_bk_t, ol_nil, ol_one, true_and, and_true, false_and, and_false, reduceIte, Nat.reduceEqDiff, up_at, Nat.add_left_cancel_iff, h.2.2.2.2.2.2.2]
theorem m23 {q : pm_Res} : pm_C (d + 1) 23 [.ref 538] (Wm I k o) q ↔ q = (.inl (some (.int (I 538 0))), Wm I k o) := by
  rw [n23]
  simp only [q23_0, q23_1, q23_4, W_1, W_I, W_mk, W_tk, pm_rv, rf_0_0, rf_0_1, rf_0_2, rf_0_3, rf_0_4, rf_0_7, rf_0_8, rf_1_0, rf_1_2, rf_3_0, rf_3_1, rf_3_6, rf_3_7, rf_3_8, rf_9_0, rf_9_1, rf_10_0, rf_10_1, rf_10_6, rf_10_7, rf_10_8, rf_17_0, rf_17_1, rf_538_2, rf_538_6, rf_538_7, rf_538_9, rf_538_11, rf_538_12, rf_538_18, rf_538_19, rf_538_22, rf_538_23, rf_538_25, rf_538_27, rf_538_28, rf_538_30, rf_538_31, rf_538_32, rf_538_33, rf_538_34, rf_538_35, rf_538_36, ob_0, ob_1, ob_3, ob_9, ob_10, ob_17, ob_538, ar_2, ar_4, ar_5, ar_6, ar_7, ar_8, ar_11, ar_12, ar_13, ar_14, ar_15, ar_16, ar_116, ar_117, ar_539, ar_540, ar_541, ar_542, ar_543, ar_544, ar_545, ar_546, ar_547, ar_548, ar_549, ar_550, ar_551, ar_552, ar_553, ar_554, ar_555, ar_556, ar_557, ar_558, ex_eq, ex_ite, pm_bk_r, pm_bk_t, ol_nil, ol_one, true_and, and_true, false_and, and_false, reduceIte, Nat.reduceEqDiff, up_at, Nat.add_left_cancel_iff]
/-! type -/
theorem k1 (hA : AOK S) (h : CI S I) {v : Int64} : COK (a_type S.1 v, S.2) (.inl (bI (a_typ S.1 v))) I k o (fun M q => pm_C (d + 2) 1 [.ref 0, .long v] M q) := by
  obtain ⟨J, g1, g2, g3⟩ := c1 (d := d) (k := k) (o := o) (v := v) hA.1 h.1
  obtain ⟨h1, h2, h3, h4, h5, h6, h7⟩ := h
  refine ⟨J, ⟨g1, h2.eq (fun x _ _ => by funext j; exact g2 _ _ (by omega) (by omega)), by rw [g2 _ _ (by omega) (by omega)]; exact h3, by rw [g2 _ _ (by omega) (by omega)]; exact h4, fun P hP => (h5 P hP).eq (fun x a b => by funext j; exact g2 _ _ (by omega) (by omega)), fun h hh => (h6 h hh).eq (fun x a b => by funext j; exact g2 _ _ (by omega) (by omega)), by rw [g2 _ _ (by omega) (by omega)]; exact h7⟩, fun x hx => by funext j; exact g2 _ _ (by omega) (by omega), g3⟩
theorem m24 (hA : AOK S) (h : MI S I) {v : Int64} : MOK (a_type S.1 v, S.2) 0 (bI (a_typ S.1 v)) I k o (fun M q => pm_C (d + 1) 24 [.ref 538, .long v] M q) := by
  obtain ⟨J, g1, ⟨g2, g3⟩, g4⟩ := c24 (d := d) (k := k) (o := o) (v := v) hA.1 h.1
  obtain ⟨h1, ⟨W, h2⟩, h3, h4, h5, h6, h7, h8⟩ := h
  have e : ∀ x j, ¬ (x = 538 ∧ (j = 0 ∨ j = 1)) → x ≠ 539 → J x j = I x j := g3
  refine ⟨J, ⟨g1, ⟨W, h2.cg (e _ _ (by omega) (by omega)) (by funext j; exact e _ _ (by omega) (by omega))⟩, ?_, by rw [e _ _ (by omega) (by omega)]; exact h4, by rw [e _ _ (by omega) (by omega)]; exact h5, fun P hP => ?_, fun h hh => ?_, by rw [e _ _ (by omega) (by omega)]; exact h8⟩, fun x hx => by funext j; exact e x j (by omega) (by omega), g2, g4⟩
  · cases hG : S.2.1 with
    | none =>
      rw [hG] at h3
      unfold MG at h3 ⊢
      rw [e _ _ (by omega) (by omega), e _ _ (by omega) (by omega), e _ _ (by omega) (by omega), e _ _ (by omega) (by omega), e _ _ (by omega) (by omega)]; exact h3
    | some G =>
      rw [hG] at h3
      unfold MG at h3 ⊢
      exact ⟨by rw [e _ _ (by omega) (by omega)]; exact h3.1, h3.2.congr (fun j _ _ => e _ _ (by omega) (by omega)) (fun x a b => by funext j; exact e _ _ (by omega) (by omega))⟩
  · have := h6 P hP
    exact ⟨this.1.congr (by funext j; exact e _ _ (by omega) (by omega)), by rw [e _ _ (by omega) (by omega)]; exact this.2⟩
  · have := h7 h hh
    exact ⟨this.1.congr (by funext j; exact e _ _ (by omega) (by omega)), by rw [e _ _ (by omega) (by omega)]; exact this.2⟩
/-! code -/
def o_code (G : Option Gm) (x : Int32) (a : Bool) : Int32 ⊕ Nat := match G with
  | none => .inr 2
  | some G => if ¬ x < 0 ∧ x < nI G.1.length then .inl (if a = true then nI (G.1.getD x.toNatClampNeg (0, 0)).2 else nI (G.1.getD x.toNatClampNeg (0, 0)).1) else .inr 2
theorem zlt {x : Int32} (h : ¬ x < 0) : ¬ x < 0 := h
theorem k5 (hA : AOK S) (h : CI S I) {x : Int32} {a : Bool} : COK S (o_code S.2.1 x a) I k o (fun M q => pm_C (d + 1) 5 [.ref 0, .int x, .int (bI a)] M q) := by
  refine ⟨I, h, fun _ _ => rfl, fun q => ?_⟩
  show pm_C (d + 1) 5 _ _ q ↔ _
  have h2 := h.2.1
  have hG := hA.2.1
  rw [n5]
  cases e : S.2.1 with
  | none =>
    rw [e] at h2
    have h2 : I 10 2 = 0 ∧ I 10 3 = 0 ∧ I 10 5 = 0 := h2
    by_cases x0 : x < 0
    · simp (decide := true) only [q5_0, q5_1, q5_4, q5_5, q5_6, q5_9, q5_12, q5_15, q5_18, W_1, W_I, W_mk, W_tk, pm_rv, rf_0_0, rf_0_1, rf_0_2, rf_0_3, rf_0_4, rf_0_7, rf_0_8, rf_1_0, rf_1_2, rf_3_0, rf_3_1, rf_3_6, rf_3_7, rf_3_8, rf_9_0, rf_9_1, rf_10_0, rf_10_1, rf_10_6, rf_10_7, rf_10_8, rf_17_0, rf_17_1, rf_538_2, rf_538_6, rf_538_7, rf_538_9, rf_538_11, rf_538_12, rf_538_18, rf_538_19, rf_538_22, rf_538_23, rf_538_25, rf_538_27, rf_538_28, rf_538_30, rf_538_31, rf_538_32, rf_538_33, rf_538_34, rf_538_35, rf_538_36, ob_0, ob_1, ob_3, ob_9, ob_10, ob_17, ob_538, ar_2, ar_4, ar_5, ar_6, ar_7, ar_8, ar_11, ar_12, ar_13, ar_14, ar_15, ar_16, ar_116, ar_117, ar_539, ar_540, ar_541, ar_542, ar_543, ar_544, ar_545, ar_546, ar_547, ar_548, ar_549, ar_550, ar_551, ar_552, ar_553, ar_554, ar_555, ar_556, ar_557, ar_558, ex_eq, ex_ite, pm_bk_r, pm_bk_t, ol_nil, ol_one, true_and, and_true, false_and, and_false, reduceIte, Nat.reduceEqDiff, up_at, Nat.add_left_cancel_iff, x0, W_tk, o_code, rfin]
    · simp (decide := true) only [q5_0, q5_1, q5_4, q5_5, q5_6, q5_9, q5_12, q5_15, q5_18, W_1, W_I, W_mk, W_tk, pm_rv, rf_0_0, rf_0_1, rf_0_2, rf_0_3, rf_0_4, rf_0_7, rf_0_8, rf_1_0, rf_1_2, rf_3_0, rf_3_1, rf_3_6, rf_3_7, rf_3_8, rf_9_0, rf_9_1, rf_10_0, rf_10_1, rf_10_6, rf_10_7, rf_10_8, rf_17_0, rf_17_1, rf_538_2, rf_538_6, rf_538_7, rf_538_9, rf_538_11, rf_538_12, rf_538_18, rf_538_19, rf_538_22, rf_538_23, rf_538_25, rf_538_27, rf_538_28, rf_538_30, rf_538_31, rf_538_32, rf_538_33, rf_538_34, rf_538_35, rf_538_36, ob_0, ob_1, ob_3, ob_9, ob_10, ob_17, ob_538, ar_2, ar_4, ar_5, ar_6, ar_7, ar_8, ar_11, ar_12, ar_13, ar_14, ar_15, ar_16, ar_116, ar_117, ar_539, ar_540, ar_541, ar_542, ar_543, ar_544, ar_545, ar_546, ar_547, ar_548, ar_549, ar_550, ar_551, ar_552, ar_553, ar_554, ar_555, ar_556, ar_557, ar_558, ex_eq, ex_ite, pm_bk_r, pm_bk_t, ol_nil, ol_one, true_and, and_true, false_and, and_false, reduceIte, Nat.reduceEqDiff, up_at, Nat.add_left_cancel_iff, x0, h2.1, W_tk, o_code, rfin]
  | some G =>
    rw [e] at h2
    have h2 : GR G I := h2
    have hg := (hG G e).1
    have hl := hg.1
    by_cases x0 : x < 0
    · simp (decide := true) only [q5_0, q5_1, q5_4, q5_5, q5_6, q5_9, q5_12, q5_15, q5_18, W_1, W_I, W_mk, W_tk, pm_rv, rf_0_0, rf_0_1, rf_0_2, rf_0_3, rf_0_4, rf_0_7, rf_0_8, rf_1_0, rf_1_2, rf_3_0, rf_3_1, rf_3_6, rf_3_7, rf_3_8, rf_9_0, rf_9_1, rf_10_0, rf_10_1, rf_10_6, rf_10_7, rf_10_8, rf_17_0, rf_17_1, rf_538_2, rf_538_6, rf_538_7, rf_538_9, rf_538_11, rf_538_12, rf_538_18, rf_538_19, rf_538_22, rf_538_23, rf_538_25, rf_538_27, rf_538_28, rf_538_30, rf_538_31, rf_538_32, rf_538_33, rf_538_34, rf_538_35, rf_538_36, ob_0, ob_1, ob_3, ob_9, ob_10, ob_17, ob_538, ar_2, ar_4, ar_5, ar_6, ar_7, ar_8, ar_11, ar_12, ar_13, ar_14, ar_15, ar_16, ar_116, ar_117, ar_539, ar_540, ar_541, ar_542, ar_543, ar_544, ar_545, ar_546, ar_547, ar_548, ar_549, ar_550, ar_551, ar_552, ar_553, ar_554, ar_555, ar_556, ar_557, ar_558, ex_eq, ex_ite, pm_bk_r, pm_bk_t, ol_nil, ol_one, true_and, and_true, false_and, and_false, reduceIte, Nat.reduceEqDiff, up_at, Nat.add_left_cancel_iff, x0, W_tk, o_code, rfin, not_true_eq_false]
    · have hn := nn_nI x0
      by_cases xl : x < nI G.1.length
      · have hlt : x.toNatClampNeg < G.1.length := by
          rw [hn.1, sm_lt hn.2 (by omega)] at xl
          exact xl
        have hc := h2.1.2.2 x.toNatClampNeg hlt
        have hin : ∀ m, 160 ≤ m → (vp_in x m ↔ True) := fun m hm => iff_true_intro (by rw [hn.1]; exact (sm_in hn.2).mpr (by omega))
        cases a <;> simp (decide := true) only [q5_0, q5_1, q5_4, q5_5, q5_6, q5_9, q5_12, q5_15, q5_18, q5_28, q5_29, q5_32, q5_33, q5_36, q5_39, q5_42, q5_43, q5_44, q5_47, q5_48, q5_51, q5_54, q5_57, q5_58, q5_59, W_1, W_I, W_mk, W_tk, pm_rv, rf_0_0, rf_0_1, rf_0_2, rf_0_3, rf_0_4, rf_0_7, rf_0_8, rf_1_0, rf_1_2, rf_3_0, rf_3_1, rf_3_6, rf_3_7, rf_3_8, rf_9_0, rf_9_1, rf_10_0, rf_10_1, rf_10_6, rf_10_7, rf_10_8, rf_17_0, rf_17_1, rf_538_2, rf_538_6, rf_538_7, rf_538_9, rf_538_11, rf_538_12, rf_538_18, rf_538_19, rf_538_22, rf_538_23, rf_538_25, rf_538_27, rf_538_28, rf_538_30, rf_538_31, rf_538_32, rf_538_33, rf_538_34, rf_538_35, rf_538_36, ob_0, ob_1, ob_3, ob_9, ob_10, ob_17, ob_538, ar_2, ar_4, ar_5, ar_6, ar_7, ar_8, ar_11, ar_12, ar_13, ar_14, ar_15, ar_16, ar_116, ar_117, ar_539, ar_540, ar_541, ar_542, ar_543, ar_544, ar_545, ar_546, ar_547, ar_548, ar_549, ar_550, ar_551, ar_552, ar_553, ar_554, ar_555, ar_556, ar_557, ar_558, ex_eq, ex_ite, pm_bk_r, pm_bk_t, ol_nil, ol_one, true_and, and_true, false_and, and_false, reduceIte, Nat.reduceEqDiff, up_at, Nat.add_left_cancel_iff, x0, h2.1.2.1, xl, bI, hin 160 (by omega), hc.1, hc.2, o_code, rfin, not_false_eq_true]
      · simp (decide := true) only [q5_0, q5_1, q5_4, q5_5, q5_6, q5_9, q5_12, q5_15, q5_18, W_1, W_I, W_mk, W_tk, pm_rv, rf_0_0, rf_0_1, rf_0_2, rf_0_3, rf_0_4, rf_0_7, rf_0_8, rf_1_0, rf_1_2, rf_3_0, rf_3_1, rf_3_6, rf_3_7, rf_3_8, rf_9_0, rf_9_1, rf_10_0, rf_10_1, rf_10_6, rf_10_7, rf_10_8, rf_17_0, rf_17_1, rf_538_2, rf_538_6, rf_538_7, rf_538_9, rf_538_11, rf_538_12, rf_538_18, rf_538_19, rf_538_22, rf_538_23, rf_538_25, rf_538_27, rf_538_28, rf_538_30, rf_538_31, rf_538_32, rf_538_33, rf_538_34, rf_538_35, rf_538_36, ob_0, ob_1, ob_3, ob_9, ob_10, ob_17, ob_538, ar_2, ar_4, ar_5, ar_6, ar_7, ar_8, ar_11, ar_12, ar_13, ar_14, ar_15, ar_16, ar_116, ar_117, ar_539, ar_540, ar_541, ar_542, ar_543, ar_544, ar_545, ar_546, ar_547, ar_548, ar_549, ar_550, ar_551, ar_552, ar_553, ar_554, ar_555, ar_556, ar_557, ar_558, ex_eq, ex_ite, pm_bk_r, pm_bk_t, ol_nil, ol_one, true_and, and_true, false_and, and_false, reduceIte, Nat.reduceEqDiff, up_at, Nat.add_left_cancel_iff, x0, h2.1.2.1, xl, W_tk, o_code, rfin, not_false_eq_true]
def m_thr (r : Int32 ⊕ Nat) : Int32 := match r with
  | .inl _ => 0
  | .inr _ => 1
def m_val (r : Int32 ⊕ Nat) : Int32 := match r with
  | .inl v => v
  | .inr _ => 0
theorem m47 (hA : AOK S) (h : MI S I) {x : Int32} {a : Bool} : MOK S (m_thr (o_code S.2.1 x a)) (m_val (o_code S.2.1 x a)) I k o (fun M q => pm_C (d + 1) 47 [.ref 538, .int x, .int (bI a)] M q) := by
  have ht := h.th (m_thr (o_code S.2.1 x a))
  refine ⟨_, ht.1, ht.2, up_eq, fun q => ?_⟩
  show pm_C (d + 1) 47 _ _ q ↔ _
  have h2 := h.2.2.1
  have hG := hA.2.1
  rw [n47]
  cases e : S.2.1 with
  | none =>
    rw [e] at h2
    have h2 : I 538 14 = 0 ∧ I 538 15 = 0 ∧ I 538 16 = 0 ∧ I 538 17 = 0 ∧ I 538 21 = 0 := h2
    by_cases x0 : x < 0
    · simp (decide := true) only [q47_0, q47_1, q47_2, q47_5, q47_6, q47_7, q47_10, q47_13, q47_14, q47_17, q47_18, q47_21, q47_22, q47_25, q47_28, q47_29, q47_32, q47_33, q47_36, q47_37, q47_40, q47_41, q47_42, q47_45, q47_46, q47_49, q47_50, q47_51, W_1, W_I, W_mk, W_tk, pm_rv, rf_0_0, rf_0_1, rf_0_2, rf_0_3, rf_0_4, rf_0_7, rf_0_8, rf_1_0, rf_1_2, rf_3_0, rf_3_1, rf_3_6, rf_3_7, rf_3_8, rf_9_0, rf_9_1, rf_10_0, rf_10_1, rf_10_6, rf_10_7, rf_10_8, rf_17_0, rf_17_1, rf_538_2, rf_538_6, rf_538_7, rf_538_9, rf_538_11, rf_538_12, rf_538_18, rf_538_19, rf_538_22, rf_538_23, rf_538_25, rf_538_27, rf_538_28, rf_538_30, rf_538_31, rf_538_32, rf_538_33, rf_538_34, rf_538_35, rf_538_36, ob_0, ob_1, ob_3, ob_9, ob_10, ob_17, ob_538, ar_2, ar_4, ar_5, ar_6, ar_7, ar_8, ar_11, ar_12, ar_13, ar_14, ar_15, ar_16, ar_116, ar_117, ar_539, ar_540, ar_541, ar_542, ar_543, ar_544, ar_545, ar_546, ar_547, ar_548, ar_549, ar_550, ar_551, ar_552, ar_553, ar_554, ar_555, ar_556, ar_557, ar_558, ex_eq, ex_ite, pm_bk_r, pm_bk_t, ol_nil, ol_one, true_and, and_true, false_and, and_false, reduceIte, Nat.reduceEqDiff, up_at, Nat.add_left_cancel_iff, x0, o_code, m_thr, m_val]
    · simp (decide := true) only [q47_0, q47_1, q47_2, q47_5, q47_6, q47_7, q47_10, q47_13, q47_14, q47_17, q47_18, q47_21, q47_22, q47_25, q47_28, q47_29, q47_32, q47_33, q47_36, q47_37, q47_40, q47_41, q47_42, q47_45, q47_46, q47_49, q47_50, q47_51, W_1, W_I, W_mk, W_tk, pm_rv, rf_0_0, rf_0_1, rf_0_2, rf_0_3, rf_0_4, rf_0_7, rf_0_8, rf_1_0, rf_1_2, rf_3_0, rf_3_1, rf_3_6, rf_3_7, rf_3_8, rf_9_0, rf_9_1, rf_10_0, rf_10_1, rf_10_6, rf_10_7, rf_10_8, rf_17_0, rf_17_1, rf_538_2, rf_538_6, rf_538_7, rf_538_9, rf_538_11, rf_538_12, rf_538_18, rf_538_19, rf_538_22, rf_538_23, rf_538_25, rf_538_27, rf_538_28, rf_538_30, rf_538_31, rf_538_32, rf_538_33, rf_538_34, rf_538_35, rf_538_36, ob_0, ob_1, ob_3, ob_9, ob_10, ob_17, ob_538, ar_2, ar_4, ar_5, ar_6, ar_7, ar_8, ar_11, ar_12, ar_13, ar_14, ar_15, ar_16, ar_116, ar_117, ar_539, ar_540, ar_541, ar_542, ar_543, ar_544, ar_545, ar_546, ar_547, ar_548, ar_549, ar_550, ar_551, ar_552, ar_553, ar_554, ar_555, ar_556, ar_557, ar_558, ex_eq, ex_ite, pm_bk_r, pm_bk_t, ol_nil, ol_one, true_and, and_true, false_and, and_false, reduceIte, Nat.reduceEqDiff, up_at, Nat.add_left_cancel_iff, x0, h2.2.2.2.2, o_code, m_thr, m_val]
  | some G =>
    rw [e] at h2
    have h2 : I 538 14 = 1 ∧ GM G I := h2
    have hg := (hG G e).1
    have hl := hg.1
    by_cases x0 : x < 0
    · simp (decide := true) only [q47_0, q47_1, q47_2, q47_5, q47_6, q47_7, q47_10, q47_13, q47_14, q47_17, q47_18, q47_21, q47_22, q47_25, q47_28, q47_29, q47_32, q47_33, q47_36, q47_37, q47_40, q47_41, q47_42, q47_45, q47_46, q47_49, q47_50, q47_51, W_1, W_I, W_mk, W_tk, pm_rv, rf_0_0, rf_0_1, rf_0_2, rf_0_3, rf_0_4, rf_0_7, rf_0_8, rf_1_0, rf_1_2, rf_3_0, rf_3_1, rf_3_6, rf_3_7, rf_3_8, rf_9_0, rf_9_1, rf_10_0, rf_10_1, rf_10_6, rf_10_7, rf_10_8, rf_17_0, rf_17_1, rf_538_2, rf_538_6, rf_538_7, rf_538_9, rf_538_11, rf_538_12, rf_538_18, rf_538_19, rf_538_22, rf_538_23, rf_538_25, rf_538_27, rf_538_28, rf_538_30, rf_538_31, rf_538_32, rf_538_33, rf_538_34, rf_538_35, rf_538_36, ob_0, ob_1, ob_3, ob_9, ob_10, ob_17, ob_538, ar_2, ar_4, ar_5, ar_6, ar_7, ar_8, ar_11, ar_12, ar_13, ar_14, ar_15, ar_16, ar_116, ar_117, ar_539, ar_540, ar_541, ar_542, ar_543, ar_544, ar_545, ar_546, ar_547, ar_548, ar_549, ar_550, ar_551, ar_552, ar_553, ar_554, ar_555, ar_556, ar_557, ar_558, ex_eq, ex_ite, pm_bk_r, pm_bk_t, ol_nil, ol_one, true_and, and_true, false_and, and_false, reduceIte, Nat.reduceEqDiff, up_at, Nat.add_left_cancel_iff, x0, o_code, m_thr, m_val, not_true_eq_false]
    · have hn := nn_nI x0
      by_cases xl : x < nI G.1.length
      · have hlt : x.toNatClampNeg < G.1.length := by
          rw [hn.1, sm_lt hn.2 (by omega)] at xl
          exact xl
        have hc := h2.2.1.2 x.toNatClampNeg hlt
        have hin : ∀ m, 160 ≤ m → (vp_in x m ↔ True) := fun m hm => iff_true_intro (by rw [hn.1]; exact (sm_in hn.2).mpr (by omega))
        cases a <;> simp (decide := true) only [q47_0, q47_1, q47_2, q47_5, q47_6, q47_7, q47_10, q47_13, q47_14, q47_17, q47_18, q47_21, q47_22, q47_25, q47_28, q47_29, q47_32, q47_33, q47_36, q47_37, q47_40, q47_41, q47_42, q47_45, q47_46, q47_49, q47_50, q47_51, W_1, W_I, W_mk, W_tk, pm_rv, rf_0_0, rf_0_1, rf_0_2, rf_0_3, rf_0_4, rf_0_7, rf_0_8, rf_1_0, rf_1_2, rf_3_0, rf_3_1, rf_3_6, rf_3_7, rf_3_8, rf_9_0, rf_9_1, rf_10_0, rf_10_1, rf_10_6, rf_10_7, rf_10_8, rf_17_0, rf_17_1, rf_538_2, rf_538_6, rf_538_7, rf_538_9, rf_538_11, rf_538_12, rf_538_18, rf_538_19, rf_538_22, rf_538_23, rf_538_25, rf_538_27, rf_538_28, rf_538_30, rf_538_31, rf_538_32, rf_538_33, rf_538_34, rf_538_35, rf_538_36, ob_0, ob_1, ob_3, ob_9, ob_10, ob_17, ob_538, ar_2, ar_4, ar_5, ar_6, ar_7, ar_8, ar_11, ar_12, ar_13, ar_14, ar_15, ar_16, ar_116, ar_117, ar_539, ar_540, ar_541, ar_542, ar_543, ar_544, ar_545, ar_546, ar_547, ar_548, ar_549, ar_550, ar_551, ar_552, ar_553, ar_554, ar_555, ar_556, ar_557, ar_558, ex_eq, ex_ite, pm_bk_r, pm_bk_t, ol_nil, ol_one, true_and, and_true, false_and, and_false, reduceIte, Nat.reduceEqDiff, up_at, Nat.add_left_cancel_iff, x0, h2.2.2.2.2.2.2.1, xl, bI, hin 160 (by omega), hc.1, hc.2, o_code, m_thr, m_val, not_false_eq_true]
      · simp (decide := true) only [q47_0, q47_1, q47_2, q47_5, q47_6, q47_7, q47_10, q47_13, q47_14, q47_17, q47_18, q47_21, q47_22, q47_25, q47_28, q47_29, q47_32, q47_33, q47_36, q47_37, q47_40, q47_41, q47_42, q47_45, q47_46, q47_49, q47_50, q47_51, W_1, W_I, W_mk, W_tk, pm_rv, rf_0_0, rf_0_1, rf_0_2, rf_0_3, rf_0_4, rf_0_7, rf_0_8, rf_1_0, rf_1_2, rf_3_0, rf_3_1, rf_3_6, rf_3_7, rf_3_8, rf_9_0, rf_9_1, rf_10_0, rf_10_1, rf_10_6, rf_10_7, rf_10_8, rf_17_0, rf_17_1, rf_538_2, rf_538_6, rf_538_7, rf_538_9, rf_538_11, rf_538_12, rf_538_18, rf_538_19, rf_538_22, rf_538_23, rf_538_25, rf_538_27, rf_538_28, rf_538_30, rf_538_31, rf_538_32, rf_538_33, rf_538_34, rf_538_35, rf_538_36, ob_0, ob_1, ob_3, ob_9, ob_10, ob_17, ob_538, ar_2, ar_4, ar_5, ar_6, ar_7, ar_8, ar_11, ar_12, ar_13, ar_14, ar_15, ar_16, ar_116, ar_117, ar_539, ar_540, ar_541, ar_542, ar_543, ar_544, ar_545, ar_546, ar_547, ar_548, ar_549, ar_550, ar_551, ar_552, ar_553, ar_554, ar_555, ar_556, ar_557, ar_558, ex_eq, ex_ite, pm_bk_r, pm_bk_t, ol_nil, ol_one, true_and, and_true, false_and, and_false, reduceIte, Nat.reduceEqDiff, up_at, Nat.add_left_cancel_iff, x0, h2.2.2.2.2.2.2.1, xl, o_code, m_thr, m_val, not_false_eq_true]
end OPS
