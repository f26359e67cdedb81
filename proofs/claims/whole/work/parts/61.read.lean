/-! THE CLASS: Reader's small parts -/
def RT (T : List Nat) (I : Nat → Nat → Int32) : Prop := I 1 1 = nI T.length ∧ ∀ i, i < T.length → I 2 i = nI (T.getD i 0)
def DS (K : List (Nat × Nat)) (I : Nat → Nat → Int32) : Prop := I 3 2 = nI K.length ∧ ∀ j, j < K.length → j < 160 → I 4 j = nI (K.getD j (0, 0)).1 ∧ I 5 j = nI (K.getD j (0, 0)).2
def ixI : Option Nat → Int32
  | none => -1
  | some i => nI i
section RDR
variable {d k : Nat} {o : Int64} {I : Nat → Nat → Int32} {q : pm_Res}
theorem i8_nI : ∀ c, c < 128 → (nI c).toInt8.toInt32 = nI c := by decide +kernel
theorem c131_l {M : pm_Mem} {v c : Nat} {S : List Nat} (hv : pm_stl v) (hn : pm_tabn v = S.length) (hS : ∀ i, i < S.length → pm_tab v i = nI (S.getD i 0)) (h128 : ∀ x ∈ S, x < 128) (hc : c < 128) (hl : S.length < 100) {x1 x2 : Option Value} : ∀ n i, i + n = S.length →
    (pm_R d 131 7 [some (.ref v), x1, x2, some (.int (nI S.length)), some (.int (nI c)), some (.int (nI i))] [] M q ↔ q = (.inl (some (.int (ixI ((e_ix (S.drop i) c).map (· + i))))), M)) := by
  intro n
  induction n with
  | zero =>
    intro i hi
    rw [List.drop_eq_nil_of_le (by omega), q131_7]
    simp only [q131_9, q131_10, q131_31, q131_32, ex_eq, ex_ite, pm_bk_r, pm_bk_t, ol_nil, ol_one, true_and, and_true, false_and, and_false, reduceIte, Nat.reduceEqDiff, up_at, Nat.add_left_cancel_iff, show (nI i < nI S.length) ↔ False from iff_false_intro (by rw [sm_lt (by omega) (by omega)]; omega)]
    rfl
  | succ n ih =>
    intro i hi
    have hi' : i < S.length := by omega
    have hg : S.getD i 0 = S[i] := by rw [List.getD_eq_getElem?_getD, List.getElem?_eq_getElem hi']; rfl
    have hlt : S.getD i 0 < 128 := by rw [hg]; exact h128 _ (List.getElem_mem hi')
    have e : S.drop i = S.getD i 0 :: S.drop (i + 1) := by rw [hg]; exact List.drop_eq_getElem_cons hi'
    have hst : pm_sta v 3 (nI i) ↔ True := iff_true_intro ⟨Or.inl ⟨rfl, hv⟩, by rw [hn]; exact (sm_in (by omega)).mpr hi'⟩
    rw [q131_7]
    simp only [q131_9, q131_10, q131_13, q131_14, q131_16, q131_17, q131_19, q131_22, q131_24, q131_25, q131_28, ex_eq, ex_ite, pm_bk_r, pm_bk_t, ol_nil, ol_one, true_and, and_true, false_and, and_false, reduceIte, Nat.reduceEqDiff, up_at, Nat.add_left_cancel_iff, show (nI i < nI S.length) ↔ True from iff_true_intro (by rw [sm_lt (by omega) (by omega)]; omega), hst, sm_cl (show i < 2147483648 by omega), hS i hi', sm_inj (show S.getD i 0 < 2147483648 by omega) (show c < 2147483648 by omega), sm_s, ih (i + 1) (by omega)]
    have eix : ∀ (x : Nat) (S : List Nat), e_ix (x :: S) c = if x = c then some 0 else (e_ix S c).map (· + 1) := fun _ _ => rfl
    rw [e, eix]
    by_cases ec : S.getD i 0 = c
    · rw [if_pos ec, if_pos ec]
      show _ ↔ q = (Sum.inl (some (Value.int (nI (0 + i)))), M)
      rw [Nat.zero_add]
    · rw [if_neg ec, if_neg ec]
      have e3 : (e_ix (List.drop (i + 1) S) c).map (· + (i + 1)) = ((e_ix (List.drop (i + 1) S) c).map (· + 1)).map (· + i) := by
        rw [Option.map_map]
        congr 1
        funext x
        show x + (i + 1) = x + 1 + i
        omega
      rw [e3]
theorem c122 {M : pm_Mem} {v c : Nat} {S : List Nat} (hs : pm_str v) (hv : pm_stl (v + 1)) (hn : pm_tabn (v + 1) = S.length) (hS : ∀ i, i < S.length → pm_tab (v + 1) i = nI (S.getD i 0)) (h128 : ∀ x ∈ S, x < 128) (hc : c < 128) (h1 : 1 ≤ S.length) (hl : S.length < 100) : pm_C (d + 4) 122 [.ref v, .int (nI c)] M q ↔ q = (.inl (some (.int (ixI (e_ix S c)))), M) := by
  have h131 := c131_l (d := d) (q := q) (M := M) (x1 := some (.int (nI c))) (x2 := some (.int 0)) hv hn hS h128 hc hl S.length 0 (by omega)
  have h131q : ∀ q, (pm_C (d + 1) 131 [.ref (v + 1), .int (nI c), .int 0, .int (nI S.length)] M q ↔ q = (.inl (some (.int (ixI (e_ix S c)))), M)) := by
    intro q
    have h131 := c131_l (d := d) (q := q) (M := M) (x1 := some (.int (nI c))) (x2 := some (.int 0)) hv hn hS h128 hc hl S.length 0 (by omega)
    rw [n131]
    simp only [q131_0, q131_1, q131_2, q131_4, q131_5, i8_nI c hc]
    rw [show (fun x : Nat => x + 0) = id from rfl, Option.map_id] at h131
    exact h131
  have c0 : (nI c < 0) ↔ False := iff_false_intro (sm_neg (by omega))
  have c255 : (255 < nI c) ↔ False := iff_false_intro (by rw [show (255 : Int32) = nI 255 from rfl, sm_lt (by omega) (by omega)]; omega)
  have e0n : (0 < nI S.length) ↔ True := iff_true_intro (by rw [show (0 : Int32) = nI 0 from rfl, sm_lt (by omega) (by omega)]; omega)
  have enn : (nI S.length < nI S.length) ↔ False := iff_false_intro (by rw [sm_lt (by omega) (by omega)]; omega)
  have h128q : ∀ {d : Nat} (q : pm_Res), (pm_C (d + 1) 128 [.int (nI c)] M q ↔ q = (.inl (some (.int 1)), M)) := by
    intro d q
    rw [n128]
    simp (decide := true) only [q128_0, q128_1, q128_4, q128_5, q128_8, q128_11, q128_12, q128_15, q128_16, c0, c255, ex_eq, ex_ite, pm_bk_r, pm_bk_t, ol_nil, ol_one, true_and, and_true, false_and, and_false, reduceIte, Nat.reduceEqDiff, up_at, Nat.add_left_cancel_iff]
  have h129q : ∀ {d : Nat} (q : pm_Res), (pm_C (d + 1) 129 [.int 0, .int 0] M q ↔ q = (.inl (some (.int 0)), M)) := by
    intro d q
    rw [n129]
    simp (decide := true) only [q129_0, q129_1, q129_2, q129_5, q129_6, q129_9, q129_10, ex_eq, ex_ite, pm_bk_r, pm_bk_t, ol_nil, ol_one, true_and, and_true, false_and, and_false, reduceIte, Nat.reduceEqDiff, up_at, Nat.add_left_cancel_iff]
  have h130q : ∀ {d : Nat} (q : pm_Res), (pm_C (d + 1) 130 [.int (nI S.length), .int (nI S.length)] M q ↔ q = (.inl (some (.int (nI S.length))), M)) := by
    intro d q
    rw [n130]
    simp (decide := true) only [q130_0, q130_1, q130_2, q130_5, q130_6, q130_9, q130_10, ex_eq, ex_ite, pm_bk_r, pm_bk_t, ol_nil, ol_one, true_and, and_true, false_and, and_false, reduceIte, Nat.reduceEqDiff, up_at, Nat.add_left_cancel_iff, enn]
  have h124q : ∀ {d : Nat} (q : pm_Res), (pm_C (d + 1) 124 [.ref v] M q ↔ q = (.inl (some (.int 1)), M)) := by
    intro d q
    rw [n124]
    simp (decide := true) only [q124_0, q124_3, q124_6, q124_7, q124_10, q124_13, q124_14, q124_17, q124_18, ex_eq, ex_ite, pm_bk_r, pm_bk_t, ol_nil, ol_one, true_and, and_true, false_and, and_false, reduceIte, Nat.reduceEqDiff, up_at, Nat.add_left_cancel_iff, hs]
  have h125q : ∀ {d : Nat} (q : pm_Res), (pm_C (d + 2) 125 [.ref v] M q ↔ q = (.inl (some (.int (nI S.length))), M)) := by
    intro d q
    have e : nI S.length >>> ((0 : Int32) &&& 31) = nI S.length := by
      rw [show ((0 : Int32) &&& 31) = 0 from rfl]
      apply Int32.toBitVec_inj.mp
      simp
    rw [n125]
    simp (decide := true) only [q125_0, q125_1, q125_4, q125_5, q125_6, q125_9, q125_10, ex_eq, ex_ite, pm_bk_r, pm_bk_t, ol_nil, ol_one, true_and, and_true, false_and, and_false, reduceIte, Nat.reduceEqDiff, up_at, Nat.add_left_cancel_iff, hs, hv, hn, n126, q126_0, q126_3, q126_6, q126_7, q126_10, q126_13, q126_14, e]
  have h127q : ∀ (q : pm_Res), (pm_C (d + 2) 127 [.ref (v + 1), .int (nI c), .int 0, .int (nI S.length)] M q ↔ q = (.inl (some (.int (ixI (e_ix S c)))), M)) := by
    intro q
    rw [n127]
    simp (decide := true) only [q127_0, q127_1, q127_4, q127_7, q127_8, q127_9, q127_10, q127_11, q127_14, q127_15, q127_16, q127_17, q127_18, q127_21, q127_22, q127_23, q127_24, q127_27, q127_28, q127_29, q127_30, q127_31, q127_32, q127_33, q127_36, ex_eq, ex_ite, pm_bk_r, pm_bk_t, ol_nil, ol_one, true_and, and_true, false_and, and_false, reduceIte, Nat.reduceEqDiff, up_at, Nat.add_left_cancel_iff, h128q, h129q, h130q, h131q, hv, hn, e0n]
  rw [n122]
  simp (decide := true) only [q122_0, q122_1, q122_2, q122_3, q122_6, ex_eq, ex_ite, pm_bk_r, pm_bk_t, ol_nil, ol_one, true_and, and_true, false_and, and_false, reduceIte, Nat.reduceEqDiff, up_at, Nat.add_left_cancel_iff, hs, n123, q123_0, q123_1, q123_4, q123_7, q123_8, q123_11, q123_12, q123_13, q123_14, q123_17, q123_20, q123_36, h124q, h125q, h127q]
theorem tabW : ∀ i, i < 4 → pm_tab 10001 i = nI (e_W.getD i 0) := by decide +kernel
theorem tabZ : ∀ i, i < 6 → pm_tab 10011 i = nI (e_Z.getD i 0) := by decide +kernel
theorem tabO : ∀ i, i < 7 → pm_tab 10021 i = nI (e_O.getD i 0) := by decide +kernel
theorem c122W {M : pm_Mem} {c : Nat} (hc : c < 128) : pm_C (d + 4) 122 [.ref 10000, .int (nI c)] M q ↔ q = (.inl (some (.int (ixI (e_ix e_W c)))), M) := c122 (Or.inl rfl) (Or.inl rfl) (by decide +kernel) tabW (by decide) hc (by decide) (by decide)
theorem c122Z {M : pm_Mem} {c : Nat} (hc : c < 128) : pm_C (d + 4) 122 [.ref 10010, .int (nI c)] M q ↔ q = (.inl (some (.int (ixI (e_ix e_Z c)))), M) := c122 (Or.inr (Or.inl rfl)) (Or.inr (Or.inl rfl)) (by decide +kernel) tabZ (by decide) hc (by decide) (by decide)
theorem c122O {M : pm_Mem} {c : Nat} (hc : c < 128) : pm_C (d + 4) 122 [.ref 10020, .int (nI c)] M q ↔ q = (.inl (some (.int (ixI (e_ix e_O c)))), M) := c122 (Or.inr (Or.inr rfl)) (Or.inr (Or.inr rfl)) (by decide +kernel) tabO (by decide) hc (by decide) (by decide)
theorem fit1 : ∀ c, c < 128 → fits (pm_ty 1) (Value.int (nI c)) = true := by decide +kernel
theorem c104 {T : List Nat} (hT : TX T) (h : RT T I) {p : Nat} (hp : I 1 3 = nI p) (hb : p < 100000) : pm_C (d + 1) 104 [.ref 1] (Wm I k o) q ↔ q = (.inl (some (.int (nI (nx T p)))), Wm I k o) := by
  have h240 := hT.1
  have e240 : nI (pm_sh 2).2 = nI 240 := by decide +kernel
  have e2 : ¬ (pm_sh 2).1 = 0 := by decide +kernel
  have hf := fit1 (nx T p) (by have := nx_126 hT p; omega)
  rw [n104]
  by_cases e : p < T.length
  · have en : I 2 p = nI (nx T p) := h.2 p e
    simp (decide := true) only [q104_0, q104_1, q104_4, q104_5, q104_8, q104_11, q104_12, q104_15, q104_16, q104_19, q104_20, q104_23, q104_24, q104_27, q104_28, q104_31, q104_32, q104_35, q104_36, W_1, W_I, W_mk, W_tk, pm_rv, rf_0_0, rf_0_1, rf_0_2, rf_0_3, rf_0_4, rf_0_7, rf_0_8, rf_1_0, rf_1_2, rf_3_0, rf_3_1, rf_3_6, rf_3_7, rf_3_8, rf_9_0, rf_9_1, rf_10_0, rf_10_1, rf_10_6, rf_10_7, rf_10_8, rf_17_0, rf_17_1, rf_538_2, rf_538_6, rf_538_7, rf_538_9, rf_538_11, rf_538_12, rf_538_18, rf_538_19, rf_538_22, rf_538_23, rf_538_25, rf_538_27, rf_538_28, rf_538_30, rf_538_31, rf_538_32, rf_538_33, rf_538_34, rf_538_35, rf_538_36, ob_0, ob_1, ob_3, ob_9, ob_10, ob_17, ob_538, ar_2, ar_4, ar_5, ar_6, ar_7, ar_8, ar_11, ar_12, ar_13, ar_14, ar_15, ar_16, ar_116, ar_117, ar_539, ar_540, ar_541, ar_542, ar_543, ar_544, ar_545, ar_546, ar_547, ar_548, ar_549, ar_550, ar_551, ar_552, ar_553, ar_554, ar_555, ar_556, ar_557, ar_558, ex_eq, ex_ite, pm_bk_r, pm_bk_t, ol_nil, ol_one, true_and, and_true, false_and, and_false, reduceIte, Nat.reduceEqDiff, up_at, Nat.add_left_cancel_iff, hp, h.1, show (nI p < nI T.length) ↔ True from iff_true_intro (by rw [sm_lt (by omega) (by omega)]; exact e), e240, e2, not_false_eq_true, show (nI p < nI 240) ↔ True from iff_true_intro (by rw [sm_lt (by omega) (by omega)]; omega), sm_in (show p < 2147483648 by omega), show p < 240 by omega, sm_cl (show p < 2147483648 by omega), en, hf]
  · have en : nx T p = 0 := nx_ge (by omega)
    simp (decide := true) only [q104_0, q104_1, q104_4, q104_5, q104_8, q104_11, q104_12, q104_15, q104_16, q104_19, q104_20, q104_23, q104_24, q104_27, q104_28, q104_31, q104_32, q104_35, q104_36, W_1, W_I, W_mk, W_tk, pm_rv, rf_0_0, rf_0_1, rf_0_2, rf_0_3, rf_0_4, rf_0_7, rf_0_8, rf_1_0, rf_1_2, rf_3_0, rf_3_1, rf_3_6, rf_3_7, rf_3_8, rf_9_0, rf_9_1, rf_10_0, rf_10_1, rf_10_6, rf_10_7, rf_10_8, rf_17_0, rf_17_1, rf_538_2, rf_538_6, rf_538_7, rf_538_9, rf_538_11, rf_538_12, rf_538_18, rf_538_19, rf_538_22, rf_538_23, rf_538_25, rf_538_27, rf_538_28, rf_538_30, rf_538_31, rf_538_32, rf_538_33, rf_538_34, rf_538_35, rf_538_36, ob_0, ob_1, ob_3, ob_9, ob_10, ob_17, ob_538, ar_2, ar_4, ar_5, ar_6, ar_7, ar_8, ar_11, ar_12, ar_13, ar_14, ar_15, ar_16, ar_116, ar_117, ar_539, ar_540, ar_541, ar_542, ar_543, ar_544, ar_545, ar_546, ar_547, ar_548, ar_549, ar_550, ar_551, ar_552, ar_553, ar_554, ar_555, ar_556, ar_557, ar_558, ex_eq, ex_ite, pm_bk_r, pm_bk_t, ol_nil, ol_one, true_and, and_true, false_and, and_false, reduceIte, Nat.reduceEqDiff, up_at, Nat.add_left_cancel_iff, hp, h.1, show (nI p < nI T.length) ↔ False from iff_false_intro (by rw [sm_lt (by omega) (by omega)]; exact e), en]
    exact Iff.rfl
def adv (I : Nat → Nat → Int32) (p : Nat) : Nat → Nat → Int32 := pm_up I 1 3 (nI p)
theorem RT.ad {T : List Nat} {p : Nat} (h : RT T I) : RT T (adv I p) := ⟨by unfold adv; rw [up_ne (by omega)]; exact h.1, fun i hi => by unfold adv; rw [up_ne (by omega)]; exact h.2 i hi⟩
theorem DS.ad {K : List (Nat × Nat)} {p : Nat} (h : DS K I) : DS K (adv I p) := ⟨by unfold adv; rw [up_ne (by omega)]; exact h.1, fun i hi h2 => by unfold adv; rw [up_ne (by omega), up_ne (by omega)]; exact h.2 i hi h2⟩
theorem adv_p {p : Nat} : adv I p 1 3 = nI p := up_eq
/-- a character asked for -/
theorem c103 {T : List Nat} (hT : TX T) (h : RT T I) {p c : Nat} (hp : I 1 3 = nI p) (hb : p < 100000) (hc : c < 100000) : pm_C (d + 2) 103 [.ref 1, .int (nI c)] (Wm I k o) q ↔ if nx T p = c then q = (.inl (some (.int 1)), Wm (adv I (p + 1)) k o) else q = (.inl (some (.int 0)), Wm I k o) := by
  rw [n103]
  simp (decide := true) only [q103_0, q103_1, q103_4, q103_5, q103_8, q103_9, q103_10, q103_11, q103_12, q103_15, q103_16, q103_17, q103_20, q103_21, W_1, W_I, W_mk, W_tk, pm_rv, rf_0_0, rf_0_1, rf_0_2, rf_0_3, rf_0_4, rf_0_7, rf_0_8, rf_1_0, rf_1_2, rf_3_0, rf_3_1, rf_3_6, rf_3_7, rf_3_8, rf_9_0, rf_9_1, rf_10_0, rf_10_1, rf_10_6, rf_10_7, rf_10_8, rf_17_0, rf_17_1, rf_538_2, rf_538_6, rf_538_7, rf_538_9, rf_538_11, rf_538_12, rf_538_18, rf_538_19, rf_538_22, rf_538_23, rf_538_25, rf_538_27, rf_538_28, rf_538_30, rf_538_31, rf_538_32, rf_538_33, rf_538_34, rf_538_35, rf_538_36, ob_0, ob_1, ob_3, ob_9, ob_10, ob_17, ob_538, ar_2, ar_4, ar_5, ar_6, ar_7, ar_8, ar_11, ar_12, ar_13, ar_14, ar_15, ar_16, ar_116, ar_117, ar_539, ar_540, ar_541, ar_542, ar_543, ar_544, ar_545, ar_546, ar_547, ar_548, ar_549, ar_550, ar_551, ar_552, ar_553, ar_554, ar_555, ar_556, ar_557, ar_558, ex_eq, ex_ite, pm_bk_r, pm_bk_t, ol_nil, ol_one, true_and, and_true, false_and, and_false, reduceIte, Nat.reduceEqDiff, up_at, Nat.add_left_cancel_iff, c104 hT h hp hb, sm_inj (show nx T p < 2147483648 by have := nx_126 hT p; omega) (show c < 2147483648 by omega), hp, sm_s]
  exact Iff.rfl
theorem c102 {T : List Nat} (hT : TX T) (h : RT T I) {p c : Nat} (hp : I 1 3 = nI p) (hb : p < 100000) (hc : c < 100000) : pm_C (d + 2) 102 [.ref 1, .int (nI c)] (Wm I k o) q ↔ if nx T p = c then q = (.inl none, Wm (adv I (p + 1)) k o) else q = (.inr 0, Wm I (k + 1) o) := by
  rw [n102]
  simp (decide := true) only [q102_0, q102_1, q102_4, q102_5, q102_8, q102_18, q102_19, q102_20, q102_23, q102_24, q102_25, q102_28, W_1, W_I, W_mk, W_tk, pm_rv, rf_0_0, rf_0_1, rf_0_2, rf_0_3, rf_0_4, rf_0_7, rf_0_8, rf_1_0, rf_1_2, rf_3_0, rf_3_1, rf_3_6, rf_3_7, rf_3_8, rf_9_0, rf_9_1, rf_10_0, rf_10_1, rf_10_6, rf_10_7, rf_10_8, rf_17_0, rf_17_1, rf_538_2, rf_538_6, rf_538_7, rf_538_9, rf_538_11, rf_538_12, rf_538_18, rf_538_19, rf_538_22, rf_538_23, rf_538_25, rf_538_27, rf_538_28, rf_538_30, rf_538_31, rf_538_32, rf_538_33, rf_538_34, rf_538_35, rf_538_36, ob_0, ob_1, ob_3, ob_9, ob_10, ob_17, ob_538, ar_2, ar_4, ar_5, ar_6, ar_7, ar_8, ar_11, ar_12, ar_13, ar_14, ar_15, ar_16, ar_116, ar_117, ar_539, ar_540, ar_541, ar_542, ar_543, ar_544, ar_545, ar_546, ar_547, ar_548, ar_549, ar_550, ar_551, ar_552, ar_553, ar_554, ar_555, ar_556, ar_557, ar_558, ex_eq, ex_ite, pm_bk_r, pm_bk_t, ol_nil, ol_one, true_and, and_true, false_and, and_false, reduceIte, Nat.reduceEqDiff, up_at, Nat.add_left_cancel_iff, c104 hT h hp hb, sm_inj (show nx T p < 2147483648 by have := nx_126 hT p; omega) (show c < 2147483648 by omega), hp, sm_s, W_tk]
  exact Iff.rfl
theorem c100 {T : List Nat} (hT : TX T) (h : RT T I) {p : Nat} (hp : I 1 3 = nI p) (hb : p < 100000) {b : Bool} : (∀ z, e_zone b (nx T p) = some z → (pm_C (d + 5) 100 [.ref 1, .int (if b = true then 1 else 0)] (Wm I k o) q ↔ q = (.inl (some (.int (nI z))), Wm (adv I (p + 1)) k o))) ∧ (e_zone b (nx T p) = none → (pm_C (d + 5) 100 [.ref 1, .int (if b = true then 1 else 0)] (Wm I k o) q ↔ q = (.inr 0, Wm I (k + 1) o))) := by
  have h126 := nx_126 hT p
  have e99 : (nI (nx T p) = 99) ↔ nx T p = 99 := by rw [show (99 : Int32) = nI 99 from rfl, sm_inj (by omega) (by omega)]
  have em1 : ((-1 : Int32) < 0) ↔ True := by decide
  have key : ∀ oz : Option Nat, (∀ z, oz = some z → z < 7) → (pm_R (d + 4) 100 27 [some (.ref 1), some (.int (if b = true then 1 else 0)), none] [.int (ixI oz)] (Wm I k o) q ↔ match oz with
      | none => q = (.inr 0, Wm I (k + 1) o)
      | some z => q = (.inl (some (.int (nI z))), Wm (adv I (p + 1)) k o)) := by
    intro oz hz
    cases oz with
    | none =>
      simp only [q100_27, q100_28, q100_29, q100_32, W_1, W_I, W_mk, W_tk, pm_rv, rf_0_0, rf_0_1, rf_0_2, rf_0_3, rf_0_4, rf_0_7, rf_0_8, rf_1_0, rf_1_2, rf_3_0, rf_3_1, rf_3_6, rf_3_7, rf_3_8, rf_9_0, rf_9_1, rf_10_0, rf_10_1, rf_10_6, rf_10_7, rf_10_8, rf_17_0, rf_17_1, rf_538_2, rf_538_6, rf_538_7, rf_538_9, rf_538_11, rf_538_12, rf_538_18, rf_538_19, rf_538_22, rf_538_23, rf_538_25, rf_538_27, rf_538_28, rf_538_30, rf_538_31, rf_538_32, rf_538_33, rf_538_34, rf_538_35, rf_538_36, ob_0, ob_1, ob_3, ob_9, ob_10, ob_17, ob_538, ar_2, ar_4, ar_5, ar_6, ar_7, ar_8, ar_11, ar_12, ar_13, ar_14, ar_15, ar_16, ar_116, ar_117, ar_539, ar_540, ar_541, ar_542, ar_543, ar_544, ar_545, ar_546, ar_547, ar_548, ar_549, ar_550, ar_551, ar_552, ar_553, ar_554, ar_555, ar_556, ar_557, ar_558, ex_eq, ex_ite, pm_bk_r, pm_bk_t, ol_nil, ol_one, true_and, and_true, false_and, and_false, reduceIte, Nat.reduceEqDiff, up_at, Nat.add_left_cancel_iff, ixI, em1, W_tk]
    | some z =>
      have := hz z rfl
      have e0 : (nI z < 0) ↔ False := iff_false_intro (sm_neg (by omega))
      simp only [q100_27, q100_28, q100_29, q100_32, q100_42, q100_43, q100_44, q100_47, q100_48, q100_49, q100_52, q100_53, W_1, W_I, W_mk, W_tk, pm_rv, rf_0_0, rf_0_1, rf_0_2, rf_0_3, rf_0_4, rf_0_7, rf_0_8, rf_1_0, rf_1_2, rf_3_0, rf_3_1, rf_3_6, rf_3_7, rf_3_8, rf_9_0, rf_9_1, rf_10_0, rf_10_1, rf_10_6, rf_10_7, rf_10_8, rf_17_0, rf_17_1, rf_538_2, rf_538_6, rf_538_7, rf_538_9, rf_538_11, rf_538_12, rf_538_18, rf_538_19, rf_538_22, rf_538_23, rf_538_25, rf_538_27, rf_538_28, rf_538_30, rf_538_31, rf_538_32, rf_538_33, rf_538_34, rf_538_35, rf_538_36, ob_0, ob_1, ob_3, ob_9, ob_10, ob_17, ob_538, ar_2, ar_4, ar_5, ar_6, ar_7, ar_8, ar_11, ar_12, ar_13, ar_14, ar_15, ar_16, ar_116, ar_117, ar_539, ar_540, ar_541, ar_542, ar_543, ar_544, ar_545, ar_546, ar_547, ar_548, ar_549, ar_550, ar_551, ar_552, ar_553, ar_554, ar_555, ar_556, ar_557, ar_558, ex_eq, ex_ite, pm_bk_r, pm_bk_t, ol_nil, ol_one, true_and, and_true, false_and, and_false, reduceIte, Nat.reduceEqDiff, up_at, Nat.add_left_cancel_iff, ixI, e0, hp, sm_s]
      exact Iff.rfl
  have hopen : pm_C (d + 5) 100 [.ref 1, .int (if b = true then 1 else 0)] (Wm I k o) q ↔ pm_R (d + 4) 100 27 [some (.ref 1), some (.int (if b = true then 1 else 0)), none] [.int (ixI (e_zone b (nx T p)))] (Wm I k o) q := by
    rw [n100]
    cases b with
    | true =>
      by_cases e : nx T p = 99
      · have ez : e_zone true (nx T p) = some 6 := if_pos ⟨rfl, e⟩
        rw [ez]
        simp (decide := true) only [q100_0, q100_1, q100_4, q100_5, q100_8, q100_10, q100_13, q100_15, W_1, W_I, W_mk, W_tk, pm_rv, rf_0_0, rf_0_1, rf_0_2, rf_0_3, rf_0_4, rf_0_7, rf_0_8, rf_1_0, rf_1_2, rf_3_0, rf_3_1, rf_3_6, rf_3_7, rf_3_8, rf_9_0, rf_9_1, rf_10_0, rf_10_1, rf_10_6, rf_10_7, rf_10_8, rf_17_0, rf_17_1, rf_538_2, rf_538_6, rf_538_7, rf_538_9, rf_538_11, rf_538_12, rf_538_18, rf_538_19, rf_538_22, rf_538_23, rf_538_25, rf_538_27, rf_538_28, rf_538_30, rf_538_31, rf_538_32, rf_538_33, rf_538_34, rf_538_35, rf_538_36, ob_0, ob_1, ob_3, ob_9, ob_10, ob_17, ob_538, ar_2, ar_4, ar_5, ar_6, ar_7, ar_8, ar_11, ar_12, ar_13, ar_14, ar_15, ar_16, ar_116, ar_117, ar_539, ar_540, ar_541, ar_542, ar_543, ar_544, ar_545, ar_546, ar_547, ar_548, ar_549, ar_550, ar_551, ar_552, ar_553, ar_554, ar_555, ar_556, ar_557, ar_558, ex_eq, ex_ite, pm_bk_r, pm_bk_t, ol_nil, ol_one, true_and, and_true, false_and, and_false, reduceIte, Nat.reduceEqDiff, up_at, Nat.add_left_cancel_iff, c104 hT h hp hb, e99, e, c122Z]
        exact Iff.rfl
      · have ez : e_zone true (nx T p) = e_ix e_Z (nx T p) := if_neg (fun q => e q.2)
        rw [ez]
        simp (decide := true) only [q100_0, q100_1, q100_4, q100_5, q100_8, q100_10, q100_13, q100_15, q100_18, q100_20, q100_21, q100_24, W_1, W_I, W_mk, W_tk, pm_rv, rf_0_0, rf_0_1, rf_0_2, rf_0_3, rf_0_4, rf_0_7, rf_0_8, rf_1_0, rf_1_2, rf_3_0, rf_3_1, rf_3_6, rf_3_7, rf_3_8, rf_9_0, rf_9_1, rf_10_0, rf_10_1, rf_10_6, rf_10_7, rf_10_8, rf_17_0, rf_17_1, rf_538_2, rf_538_6, rf_538_7, rf_538_9, rf_538_11, rf_538_12, rf_538_18, rf_538_19, rf_538_22, rf_538_23, rf_538_25, rf_538_27, rf_538_28, rf_538_30, rf_538_31, rf_538_32, rf_538_33, rf_538_34, rf_538_35, rf_538_36, ob_0, ob_1, ob_3, ob_9, ob_10, ob_17, ob_538, ar_2, ar_4, ar_5, ar_6, ar_7, ar_8, ar_11, ar_12, ar_13, ar_14, ar_15, ar_16, ar_116, ar_117, ar_539, ar_540, ar_541, ar_542, ar_543, ar_544, ar_545, ar_546, ar_547, ar_548, ar_549, ar_550, ar_551, ar_552, ar_553, ar_554, ar_555, ar_556, ar_557, ar_558, ex_eq, ex_ite, pm_bk_r, pm_bk_t, ol_nil, ol_one, true_and, and_true, false_and, and_false, reduceIte, Nat.reduceEqDiff, up_at, Nat.add_left_cancel_iff, c104 hT h hp hb, e99, e, c122Z (show nx T p < 128 by omega), pm_str, true_or, or_true]
    | false =>
      have ez : e_zone false (nx T p) = e_ix e_Z (nx T p) := if_neg (fun q => absurd q.1 (by decide))
      rw [ez]
      simp (decide := true) only [q100_0, q100_1, q100_4, q100_5, q100_8, q100_10, q100_13, q100_15, q100_18, q100_20, q100_21, q100_24, W_1, W_I, W_mk, W_tk, pm_rv, rf_0_0, rf_0_1, rf_0_2, rf_0_3, rf_0_4, rf_0_7, rf_0_8, rf_1_0, rf_1_2, rf_3_0, rf_3_1, rf_3_6, rf_3_7, rf_3_8, rf_9_0, rf_9_1, rf_10_0, rf_10_1, rf_10_6, rf_10_7, rf_10_8, rf_17_0, rf_17_1, rf_538_2, rf_538_6, rf_538_7, rf_538_9, rf_538_11, rf_538_12, rf_538_18, rf_538_19, rf_538_22, rf_538_23, rf_538_25, rf_538_27, rf_538_28, rf_538_30, rf_538_31, rf_538_32, rf_538_33, rf_538_34, rf_538_35, rf_538_36, ob_0, ob_1, ob_3, ob_9, ob_10, ob_17, ob_538, ar_2, ar_4, ar_5, ar_6, ar_7, ar_8, ar_11, ar_12, ar_13, ar_14, ar_15, ar_16, ar_116, ar_117, ar_539, ar_540, ar_541, ar_542, ar_543, ar_544, ar_545, ar_546, ar_547, ar_548, ar_549, ar_550, ar_551, ar_552, ar_553, ar_554, ar_555, ar_556, ar_557, ar_558, ex_eq, ex_ite, pm_bk_r, pm_bk_t, ol_nil, ol_one, true_and, and_true, false_and, and_false, reduceIte, Nat.reduceEqDiff, up_at, Nat.add_left_cancel_iff, c104 hT h hp hb, c122Z (show nx T p < 128 by omega), pm_str, true_or, or_true]
  refine ⟨fun z hz => ?_, fun hz => ?_⟩
  · rw [hopen, key _ (fun z hz => (e_zone_lt hz).1), hz]
  · rw [hopen, key _ (fun z hz => (e_zone_lt hz).1), hz]
def emI (K : List (Nat × Nat)) (x : Nat × Nat) (I : Nat → Nat → Int32) : Nat → Nat → Int32 := pm_up (if K.length < 160 then pm_up (pm_up I 4 K.length (nI x.1)) 5 K.length (nI x.2) else I) 3 2 (nI (K.length + 1))
theorem c80 {K : List (Nat × Nat)} (h : DS K I) (hl : K.length < 100000) {z a : Nat} : pm_C (d + 1) 80 [.ref 3, .int (nI z), .int (nI a)] (Wm I k o) q ↔ q = (.inl none, Wm (emI K (z, a) I) k o) := by
  rw [n80]
  unfold emI
  by_cases e : K.length < 160
  · simp (decide := true) only [q80_0, q80_1, q80_4, q80_7, q80_10, q80_11, q80_14, q80_15, q80_18, q80_19, q80_20, q80_21, q80_24, q80_25, q80_28, q80_29, q80_30, q80_31, q80_32, q80_35, q80_36, q80_37, q80_40, W_1, W_I, W_mk, W_tk, pm_rv, rf_0_0, rf_0_1, rf_0_2, rf_0_3, rf_0_4, rf_0_7, rf_0_8, rf_1_0, rf_1_2, rf_3_0, rf_3_1, rf_3_6, rf_3_7, rf_3_8, rf_9_0, rf_9_1, rf_10_0, rf_10_1, rf_10_6, rf_10_7, rf_10_8, rf_17_0, rf_17_1, rf_538_2, rf_538_6, rf_538_7, rf_538_9, rf_538_11, rf_538_12, rf_538_18, rf_538_19, rf_538_22, rf_538_23, rf_538_25, rf_538_27, rf_538_28, rf_538_30, rf_538_31, rf_538_32, rf_538_33, rf_538_34, rf_538_35, rf_538_36, ob_0, ob_1, ob_3, ob_9, ob_10, ob_17, ob_538, ar_2, ar_4, ar_5, ar_6, ar_7, ar_8, ar_11, ar_12, ar_13, ar_14, ar_15, ar_16, ar_116, ar_117, ar_539, ar_540, ar_541, ar_542, ar_543, ar_544, ar_545, ar_546, ar_547, ar_548, ar_549, ar_550, ar_551, ar_552, ar_553, ar_554, ar_555, ar_556, ar_557, ar_558, ex_eq, ex_ite, pm_bk_r, pm_bk_t, ol_nil, ol_one, true_and, and_true, false_and, and_false, reduceIte, Nat.reduceEqDiff, up_at, Nat.add_left_cancel_iff, h.1, show (nI K.length < 160) ↔ True from iff_true_intro (by rw [show (160 : Int32) = nI 160 from rfl, sm_lt (by omega) (by omega)]; exact e), sm_in (show K.length < 2147483648 by omega), e, sm_cl (show K.length < 2147483648 by omega), sm_s]
  · simp (decide := true) only [q80_0, q80_1, q80_4, q80_7, q80_10, q80_11, q80_14, q80_15, q80_18, q80_19, q80_20, q80_21, q80_24, q80_25, q80_28, q80_29, q80_30, q80_31, q80_32, q80_35, q80_36, q80_37, q80_40, W_1, W_I, W_mk, W_tk, pm_rv, rf_0_0, rf_0_1, rf_0_2, rf_0_3, rf_0_4, rf_0_7, rf_0_8, rf_1_0, rf_1_2, rf_3_0, rf_3_1, rf_3_6, rf_3_7, rf_3_8, rf_9_0, rf_9_1, rf_10_0, rf_10_1, rf_10_6, rf_10_7, rf_10_8, rf_17_0, rf_17_1, rf_538_2, rf_538_6, rf_538_7, rf_538_9, rf_538_11, rf_538_12, rf_538_18, rf_538_19, rf_538_22, rf_538_23, rf_538_25, rf_538_27, rf_538_28, rf_538_30, rf_538_31, rf_538_32, rf_538_33, rf_538_34, rf_538_35, rf_538_36, ob_0, ob_1, ob_3, ob_9, ob_10, ob_17, ob_538, ar_2, ar_4, ar_5, ar_6, ar_7, ar_8, ar_11, ar_12, ar_13, ar_14, ar_15, ar_16, ar_116, ar_117, ar_539, ar_540, ar_541, ar_542, ar_543, ar_544, ar_545, ar_546, ar_547, ar_548, ar_549, ar_550, ar_551, ar_552, ar_553, ar_554, ar_555, ar_556, ar_557, ar_558, ex_eq, ex_ite, pm_bk_r, pm_bk_t, ol_nil, ol_one, true_and, and_true, false_and, and_false, reduceIte, Nat.reduceEqDiff, up_at, Nat.add_left_cancel_iff, h.1, show (nI K.length < 160) ↔ False from iff_false_intro (by rw [show (160 : Int32) = nI 160 from rfl, sm_lt (by omega) (by omega)]; exact e), e, sm_s]
theorem em_ne {K : List (Nat × Nat)} {x : Nat × Nat} {y j : Nat} (h1 : ¬ (y = 3 ∧ j = 2)) (h2 : y ≠ 4) (h3 : y ≠ 5) : emI K x I y j = I y j := by
  unfold emI
  rw [up_ne h1]
  split
  · rw [up_ne (fun q => h3 q.1), up_ne (fun q => h2 q.1)]
  · rfl
theorem DS.em {K : List (Nat × Nat)} (h : DS K I) {x : Nat × Nat} : DS (K ++ [x]) (emI K x I) := by
  refine ⟨by unfold emI; rw [up_eq]; simp, fun j hj h160 => ?_⟩
  unfold emI
  rw [up_ne (by omega), up_ne (by omega)]
  by_cases e : j = K.length
  · subst e
    rw [if_pos h160, up_ne (by omega), up_eq, up_eq, List.getD_eq_getElem?_getD, List.getElem?_append_right (by omega)]
    simp
  · have hj' : j < K.length := by simp at hj; omega
    have hg := h.2 j hj' h160
    rw [List.getD_eq_getElem?_getD, List.getElem?_append_left hj', ← List.getD_eq_getElem?_getD]
    split
    · rw [up_ne (by omega), up_ne (by omega), up_ne (by omega), up_ne (by omega)]; exact hg
    · exact hg
theorem RT.em {T : List Nat} {K : List (Nat × Nat)} {x : Nat × Nat} (h : RT T I) : RT T (emI K x I) := ⟨by rw [em_ne (by omega) (by omega) (by omega)]; exact h.1, fun i hi => by rw [em_ne (by omega) (by omega) (by omega)]; exact h.2 i hi⟩
end RDR
