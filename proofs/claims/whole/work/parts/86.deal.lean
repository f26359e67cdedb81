/-! DEAL -/
def s_u (x : Int32) : Nat := x.toUInt32.toNat / 65536
theorem s_u_lt (x : Int32) : s_u x < 65536 := by
  unfold s_u
  have := x.toUInt32.toNat_lt
  omega
theorem ush (x : Int32) : (x.toUInt32 >>> ((16 : Int32).toUInt32 &&& Int32.toUInt32 31)).toInt32 = nI (s_u x) := by
  apply Int32.toBitVec_inj.mp
  apply BitVec.eq_of_toNat_eq
  have hl := s_u_lt x
  have e : (16 : Int32).toUInt32 &&& Int32.toUInt32 31 = 16 := by decide
  rw [e]
  show (x.toUInt32 >>> 16).toNat = (BitVec.ofNat 32 (s_u x)).toNat
  rw [BitVec.toNat_ofNat, Nat.mod_eq_of_lt (by omega), UInt32.toNat_shiftRight]
  unfold s_u
  show x.toUInt32.toNat >>> 16 = _
  rw [Nat.shiftRight_eq_div_pow]
theorem rem_nI {u m : Nat} (hu : u < 2147483648) (hm : m < 2147483648) : nI u - nI u / nI m * nI m = nI (u % m) := by
  rw [sm_div hu hm, sm_mul, sm_sub (Nat.div_mul_le_self u m)]
  congr 1
  have := Nat.div_add_mod u m
  rw [Nat.mul_comm] at this
  omega
def s_sw (f : Nat → Nat) (i j : Nat) : Nat → Nat := fun a => if a = j then f i else if a = i then f j else f a
def s_x (x : Int32) : Int32 := x * 22695477 + 1
def a_sh : Nat → Int32 → (Nat → Nat) → Nat → Nat
  | 0, _, f => f
  | i + 1, x, f => a_sh i (s_x x) (s_sw f (i + 1) (s_u (s_x x) % (i + 2)))
def PM (N : Nat) (f : Nat → Nat) : Prop := (∀ a, a < N → f a < N) ∧ (∀ a b, a < N → b < N → f a = f b → a = b) ∧ (∀ y, y < N → ∃ a, a < N ∧ f a = y)
theorem PM.sw {N : Nat} {f : Nat → Nat} (h : PM N f) {i j : Nat} (hi : i < N) (hj : j < N) : PM N (s_sw f i j) := by
  have hb : ∀ a, a < N → s_sw f i j a < N := by
    intro a ha
    unfold s_sw
    split
    · exact h.1 i hi
    · split
      · exact h.1 j hj
      · exact h.1 a ha
  refine ⟨hb, fun a b ha hb e => ?_, fun y hy => ?_⟩
  · unfold s_sw at e
    split at e
    · rename_i e1
      split at e
      · rename_i e2; omega
      · rename_i e2
        split at e
        · rename_i e3
          have := h.2.1 i j hi hj e
          omega
        · rename_i e3
          have := h.2.1 i b hi hb e
          omega
    · rename_i e1
      split at e
      · rename_i e2
        split at e
        · rename_i e3
          have := h.2.1 j i hj hi e
          omega
        · rename_i e3
          split at e
          · omega
          · have := h.2.1 j b hj hb e
            omega
      · rename_i e2
        split at e
        · rename_i e3
          have := h.2.1 a i ha hi e
          omega
        · rename_i e3
          split at e
          · rename_i e4
            have := h.2.1 a j ha hj e
            omega
          · exact h.2.1 a b ha hb e
  · obtain ⟨a, ha, e⟩ := h.2.2 y hy
    by_cases e1 : a = i
    · refine ⟨j, hj, ?_⟩
      unfold s_sw
      rw [if_pos rfl, ← e1]
      exact e
    · by_cases e2 : a = j
      · refine ⟨i, hi, ?_⟩
        unfold s_sw
        rw [if_neg (by omega), if_pos rfl, ← e2]
        exact e
      · refine ⟨a, ha, ?_⟩
        unfold s_sw
        rw [if_neg e2, if_neg e1]
        exact e
theorem sh_ok {N : Nat} : ∀ i x f, i < N → PM N f → PM N (a_sh i x f) := by
  intro i
  induction i with
  | zero => intro x f _ h; exact h
  | succ i ih =>
    intro x f hi h
    exact ih _ _ (by omega) (h.sw hi (by have := Nat.mod_lt (s_u (s_x x)) (show 0 < i + 2 by omega); omega))
/-- the cards dealt, k of them; then the stock -/
def a_d1 (f : Nat → Nat) (N : Nat) : Nat → Pos
  | 0 => a_nil
  | k + 1 => a_go (a_d1 f N k) (f (N - 1 - k)) (k % 2)
def a_d2 (f : Nat → Nat) (P : Pos) : Nat → Pos
  | 0 => P
  | k + 1 => a_go (a_d2 f P k) (f k) 2
def a_deal (N : Nat) (seed : Int32) (n : Nat) : Pos := a_d2 (a_sh (N - 1) seed (fun a => a)) (a_d1 (a_sh (N - 1) seed (fun a => a)) N (min (2 * n) N)) (N - min (2 * n) N)
theorem go_mem {P : Pos} {c p x q : Nat} : x ∈ (a_go P c p).1 q ↔ (x = c ∧ q = p) ∨ (x ≠ c ∧ x ∈ P.1 q) := by
  show x ∈ (if q = p then a_fil c (P.1 q) ++ [c] else a_fil c (P.1 q)) ↔ _
  split
  · rename_i e
    rw [List.mem_append, a_fil_mem, List.mem_singleton]
    constructor
    · rintro (⟨h1, h2⟩ | h)
      · exact Or.inr ⟨h2, h1⟩
      · exact Or.inl ⟨h, e⟩
    · rintro (⟨h1, -⟩ | ⟨h1, h2⟩)
      · exact Or.inr h1
      · exact Or.inl ⟨h2, h1⟩
  · rename_i e
    rw [a_fil_mem]
    constructor
    · rintro ⟨h1, h2⟩
      exact Or.inr ⟨h2, h1⟩
    · rintro (⟨-, h2⟩ | ⟨h1, h2⟩)
      · exact absurd h2 e
      · exact ⟨h2, h1⟩
theorem d1_ok {f : Nat → Nat} {N : Nat} (hf : PM N f) (hN : N ≤ 24) : ∀ k, k ≤ N → PD (a_d1 f N k) ∧ (a_d1 f N k).2.2.2 = 0 ∧ (∀ x p, p < 6 → x ∈ (a_d1 f N k).1 p → ∃ i, i < k ∧ x = f (N - 1 - i)) ∧ (∀ i, i < k → ∃ p, p < 6 ∧ f (N - 1 - i) ∈ (a_d1 f N k).1 p) := by
  intro k
  induction k with
  | zero =>
    intro _
    exact ⟨⟨fun p _ => ⟨List.nodup_nil, fun c hc => (by cases hc)⟩, fun p q c _ _ hc => (by cases hc)⟩, rfl, fun x p _ hx => (by cases hx), fun i hi => by omega⟩
  | succ k ih =>
    intro hk
    obtain ⟨h1, h2, h3, h4⟩ := ih (by omega)
    have hc : f (N - 1 - k) < N := hf.1 _ (by omega)
    refine ⟨h1.go (by omega), h2, fun x p hp hx => ?_, fun i hi => ?_⟩
    · rcases go_mem.mp hx with ⟨e, -⟩ | ⟨-, h⟩
      · exact ⟨k, by omega, e⟩
      · obtain ⟨i, hi, e⟩ := h3 x p hp h
        exact ⟨i, by omega, e⟩
    · by_cases e : i = k
      · subst e
        exact ⟨i % 2, by omega, go_mem.mpr (Or.inl ⟨rfl, rfl⟩)⟩
      · obtain ⟨p, hp, hm⟩ := h4 i (by omega)
        refine ⟨p, hp, go_mem.mpr (Or.inr ⟨fun q => ?_, hm⟩)⟩
        have := hf.2.1 _ _ (by omega) (by omega) q
        omega
theorem d1_new {f : Nat → Nat} {N : Nat} (hf : PM N f) (hN : N ≤ 24) {k : Nat} (hk : k < N) : ∀ r, r < 6 → f (N - 1 - k) ∉ (a_d1 f N k).1 r := by
  intro r hr hm
  obtain ⟨i, hi, e⟩ := (d1_ok hf hN k (by omega)).2.2.1 _ r hr hm
  have := hf.2.1 _ _ (by omega) (by omega) e
  omega
theorem d2_ok {f : Nat → Nat} {N m : Nat} (hf : PM N f) (hN : N ≤ 24) (hm : m ≤ N) : ∀ k, k + m ≤ N → PD (a_d2 f (a_d1 f N m) k) ∧ (a_d2 f (a_d1 f N m) k).2.2.2 = 0 ∧ (∀ x p, p < 6 → x ∈ (a_d2 f (a_d1 f N m) k).1 p → (∃ i, i < m ∧ x = f (N - 1 - i)) ∨ ∃ i, i < k ∧ x = f i) ∧ (∀ i, i < m → ∃ p, p < 6 ∧ f (N - 1 - i) ∈ (a_d2 f (a_d1 f N m) k).1 p) ∧ (∀ i, i < k → ∃ p, p < 6 ∧ f i ∈ (a_d2 f (a_d1 f N m) k).1 p) := by
  intro k
  induction k with
  | zero =>
    intro _
    have h := d1_ok hf hN m hm
    exact ⟨h.1, h.2.1, fun x p hp hx => Or.inl (h.2.2.1 x p hp hx), h.2.2.2, fun i hi => by omega⟩
  | succ k ih =>
    intro hk
    obtain ⟨h1, h2, h3, h4, h5⟩ := ih (by omega)
    have hc : f k < N := hf.1 _ (by omega)
    refine ⟨h1.go (by omega), h2, fun x p hp hx => ?_, fun i hi => ?_, fun i hi => ?_⟩
    · rcases go_mem.mp hx with ⟨e, -⟩ | ⟨-, h⟩
      · exact Or.inr ⟨k, by omega, e⟩
      · rcases h3 x p hp h with h | ⟨i, hi, e⟩
        · exact Or.inl h
        · exact Or.inr ⟨i, by omega, e⟩
    · obtain ⟨p, hp, hmm⟩ := h4 i hi
      refine ⟨p, hp, go_mem.mpr (Or.inr ⟨fun q => ?_, hmm⟩)⟩
      have := hf.2.1 _ _ (by omega) (by omega) q
      omega
    · by_cases e : i = k
      · subst e
        exact ⟨2, by omega, go_mem.mpr (Or.inl ⟨rfl, rfl⟩)⟩
      · obtain ⟨p, hp, hmm⟩ := h5 i (by omega)
        refine ⟨p, hp, go_mem.mpr (Or.inr ⟨fun q => ?_, hmm⟩)⟩
        have := hf.2.1 _ _ (by omega) (by omega) q
        omega
theorem d2_new {f : Nat → Nat} {N m : Nat} (hf : PM N f) (hN : N ≤ 24) (hm : m ≤ N) {k : Nat} (hk : k + m < N) : ∀ r, r < 6 → f k ∉ (a_d2 f (a_d1 f N m) k).1 r := by
  intro r hr hmm
  rcases (d2_ok hf hN hm k (by omega)).2.2.1 _ r hr hmm with ⟨i, hi, e⟩ | ⟨i, hi, e⟩
  · have := hf.2.1 _ _ (by omega) (by omega) e
    omega
  · have := hf.2.1 _ _ (by omega) (by omega) e
    omega
theorem id_PM {N : Nat} : PM N (fun a => a) := ⟨fun _ h => h, fun _ _ _ _ h => h, fun y hy => ⟨y, hy, rfl⟩⟩
theorem deal_ok {N : Nat} (h1 : 1 ≤ N) (hN : N ≤ 24) (seed : Int32) (n : Nat) : PA N (a_deal N seed n) := by
  have hf : PM N (a_sh (N - 1) seed (fun a => a)) := sh_ok _ _ _ (by omega) id_PM
  have hm : min (2 * n) N ≤ N := Nat.min_le_right _ _
  have h := d2_ok hf hN hm (N - min (2 * n) N) (by omega)
  refine ⟨h.1, fun x => ⟨fun hx => ?_, fun ⟨p, hp, hx⟩ => ?_⟩, hN, by show (a_d2 _ _ _).2.2.2 < 2; rw [h.2.1]; omega⟩
  · obtain ⟨a, ha, e⟩ := hf.2.2 x hx
    rw [← e]
    by_cases ham : a < N - min (2 * n) N
    · exact h.2.2.2.2 a ham
    · have := h.2.2.2.1 (N - 1 - a) (by omega)
      rwa [show N - 1 - (N - 1 - a) = a by omega] at this
  · rcases h.2.2.1 x p hp hx with ⟨i, hi, e⟩ | ⟨i, hi, e⟩
    · rw [e]; exact hf.1 _ (by omega)
    · rw [e]; exact hf.1 _ (by omega)
section DEA
variable {d k : Nat} {o : Int64}
/-! the class's -/
theorem c7_i {N : Nat} (hN : N ≤ 24) {y1 y4 y5 y6 : Option Value} : ∀ m i (I : Nat → Nat → Int32), i + m = N → ∃ J, (∀ j, i ≤ j → j < N → J 116 j = nI j) ∧ (∀ x j, ¬ (x = 116 ∧ i ≤ j) → J x j = I x j) ∧ ∀ q, (pm_R d 7 2 [some (.ref 0), y1, some (.int (nI N)), some (.int (nI i)), y4, y5, y6] [] (Wm I k o) q ↔ pm_R d 7 20 [some (.ref 0), y1, some (.int (nI N)), some (.int (nI N)), y4, y5, y6] [] (Wm J k o) q) := by
  intro m
  induction m with
  | zero =>
    intro i I hi
    obtain rfl : i = N := by omega
    refine ⟨I, fun j h1 h2 => by omega, fun _ _ _ => rfl, fun q => ?_⟩
    rw [q7_2]
    simp only [q7_3, q7_4, ex_eq, ex_ite, pm_bk_r, pm_bk_t, ol_nil, ol_one, true_and, and_true, false_and, and_false, reduceIte, Nat.reduceEqDiff, up_at, Nat.add_left_cancel_iff, show (nI i < nI i) ↔ False from iff_false_intro (by rw [sm_lt (by omega) (by omega)]; omega)]
  | succ m ih =>
    intro i I hi
    obtain ⟨J, g1, g2, g3⟩ := ih (i + 1) (pm_up I 116 i (nI i)) (by omega)
    refine ⟨J, fun j h1 h2 => ?_, fun x j hx => ?_, fun q => ?_⟩
    · by_cases e : j = i
      · subst e
        rw [g2 _ _ (by omega), up_eq]
      · exact g1 j (by omega) h2
    · rw [g2 x j (by omega), up_ne (by omega)]
    · rw [q7_2]
      simp only [q7_3, q7_4, q7_7, q7_8, q7_11, q7_12, q7_13, q7_14, q7_17, W_1, W_I, W_mk, W_tk, pm_rv, rf_0_0, rf_0_1, rf_0_2, rf_0_3, rf_0_4, rf_0_7, rf_0_8, rf_1_0, rf_1_2, rf_3_0, rf_3_1, rf_3_6, rf_3_7, rf_3_8, rf_9_0, rf_9_1, rf_10_0, rf_10_1, rf_10_6, rf_10_7, rf_10_8, rf_17_0, rf_17_1, rf_538_2, rf_538_6, rf_538_7, rf_538_9, rf_538_11, rf_538_12, rf_538_18, rf_538_19, rf_538_22, rf_538_23, rf_538_25, rf_538_27, rf_538_28, rf_538_30, rf_538_31, rf_538_32, rf_538_33, rf_538_34, rf_538_35, rf_538_36, ob_0, ob_1, ob_3, ob_9, ob_10, ob_17, ob_538, ar_2, ar_4, ar_5, ar_6, ar_7, ar_8, ar_11, ar_12, ar_13, ar_14, ar_15, ar_16, ar_116, ar_117, ar_539, ar_540, ar_541, ar_542, ar_543, ar_544, ar_545, ar_546, ar_547, ar_548, ar_549, ar_550, ar_551, ar_552, ar_553, ar_554, ar_555, ar_556, ar_557, ar_558, ex_eq, ex_ite, pm_bk_r, pm_bk_t, ol_nil, ol_one, true_and, and_true, false_and, and_false, reduceIte, Nat.reduceEqDiff, up_at, Nat.add_left_cancel_iff, show (nI i < nI N) ↔ True from iff_true_intro (by rw [sm_lt (by omega) (by omega)]; omega), sm_in (show i < 2147483648 by omega), show i < 24 by omega, sm_cl (show i < 2147483648 by omega), sm_s, g3]
theorem c7_l {N : Nat} (hN : N ≤ 24) {y1 y2 : Option Value} : ∀ i x f (I : Nat → Nat → Int32) (y5 y6 : Option Value), i < N → (∀ a, a < N → f a < N) → (∀ j, j < N → I 116 j = nI (f j)) → ∃ J, (∀ j, j < N → J 116 j = nI (a_sh i x f j)) ∧ (∀ x, x ≠ 116 → J x = I x) ∧ ∀ q, (pm_R d 7 27 [some (.ref 0), y1, y2, some (.int x), some (.int (nI i)), y5, y6] [] (Wm I k o) q ↔ q = (.inl none, Wm J k o)) := by
  intro i
  induction i with
  | zero =>
    intro x f I y5 y6 hi hf h
    refine ⟨I, h, fun _ _ => rfl, fun q => ?_⟩
    rw [q7_27]
    simp (decide := true) only [q7_29, q7_30, q7_89, ex_eq, ex_ite, pm_bk_r, pm_bk_t, ol_nil, ol_one, true_and, and_true, false_and, and_false, reduceIte, Nat.reduceEqDiff, up_at, Nat.add_left_cancel_iff]
  | succ i ih =>
    intro x f I y5 y6 hi hf h
    have hu := s_u_lt (s_x x)
    obtain ⟨jj, hjj⟩ : ∃ jj, jj = s_u (s_x x) % (i + 2) := ⟨_, rfl⟩
    have hj : jj < i + 2 := by rw [hjj]; exact Nat.mod_lt _ (by omega)
    have er : nI (s_u (s_x x)) - nI (s_u (s_x x)) / nI (i + 2) * nI (i + 2) = nI jj := by rw [hjj]; exact rem_nI (by omega) (by omega)
    have e0 : (nI (i + 2) = 0) ↔ False := iff_false_intro (by rw [nI_eq0 (by omega)]; omega)
    have e1 : (nI (i + 1) < 1) ↔ False := iff_false_intro (by rw [show (1 : Int32) = nI 1 from rfl, sm_lt (by omega) (by omega)]; omega)
    have em : nI (i + 1) + (-1) = nI i := by rw [← Int32.sub_eq_add_neg, show (1 : Int32) = nI 1 from rfl, sm_sub (by omega)]; rfl
    obtain ⟨J, g1, g2, g3⟩ := ih (s_x x) (s_sw f (i + 1) jj) (pm_up (pm_up I 116 (i + 1) (nI (f jj))) 116 jj (nI (f (i + 1)))) (some (.int (nI jj))) (some (.int (nI (f (i + 1))))) (by omega) (fun a ha => by
      unfold s_sw
      split
      · exact hf _ (by omega)
      · split
        · exact hf _ (by omega)
        · exact hf a ha) (fun j hj' => by
      unfold s_sw
      by_cases ej : j = jj
      · rw [if_pos ej, ej, up_eq]
      · rw [if_neg ej, up_ne (by omega)]
        by_cases ei : j = i + 1
        · rw [if_pos ei, ei, up_eq]
        · rw [if_neg ei, up_ne (by omega)]
          exact h j hj')
    refine ⟨J, by rw [hjj] at g1; exact g1, fun x hx => by rw [g2 x hx, up_row hx, up_row hx], fun q => ?_⟩
    have ex : x * 22695477 + 1 = s_x x := rfl
    have hfi := h (i + 1) (by omega)
    have hfj := h jj (by omega)
    rw [q7_27]
    simp (decide := true) only [q7_29, q7_30, q7_33, q7_34, q7_36, q7_37, q7_38, q7_39, q7_40, q7_41, q7_43, q7_44, q7_46, q7_47, q7_48, q7_49, q7_51, q7_52, q7_55, q7_57, q7_58, q7_60, q7_61, q7_64, q7_66, q7_67, q7_70, q7_72, q7_73, q7_74, q7_75, q7_78, q7_80, q7_82, q7_83, q7_86, W_1, W_I, W_mk, W_tk, pm_rv, rf_0_0, rf_0_1, rf_0_2, rf_0_3, rf_0_4, rf_0_7, rf_0_8, rf_1_0, rf_1_2, rf_3_0, rf_3_1, rf_3_6, rf_3_7, rf_3_8, rf_9_0, rf_9_1, rf_10_0, rf_10_1, rf_10_6, rf_10_7, rf_10_8, rf_17_0, rf_17_1, rf_538_2, rf_538_6, rf_538_7, rf_538_9, rf_538_11, rf_538_12, rf_538_18, rf_538_19, rf_538_22, rf_538_23, rf_538_25, rf_538_27, rf_538_28, rf_538_30, rf_538_31, rf_538_32, rf_538_33, rf_538_34, rf_538_35, rf_538_36, ob_0, ob_1, ob_3, ob_9, ob_10, ob_17, ob_538, ar_2, ar_4, ar_5, ar_6, ar_7, ar_8, ar_11, ar_12, ar_13, ar_14, ar_15, ar_16, ar_116, ar_117, ar_539, ar_540, ar_541, ar_542, ar_543, ar_544, ar_545, ar_546, ar_547, ar_548, ar_549, ar_550, ar_551, ar_552, ar_553, ar_554, ar_555, ar_556, ar_557, ar_558, ex_eq, ex_ite, pm_bk_r, pm_bk_t, ol_nil, ol_one, true_and, and_true, false_and, and_false, reduceIte, Nat.reduceEqDiff, up_at, Nat.add_left_cancel_iff, e1, ex, ush, sm_s, Nat.add_assoc, Nat.reduceAdd, e0, not_false_eq_true, er, sm_in (show i + 1 < 2147483648 by omega), show i + 1 < 24 by omega, sm_cl (show i + 1 < 2147483648 by omega), sm_in (show jj < 2147483648 by omega), show jj < 24 by omega, sm_cl (show jj < 2147483648 by omega), hfi, hfj, em, g3]
theorem c7 {N : Nat} (h1 : 1 ≤ N) (hN : N ≤ 24) {seed : Int32} {I : Nat → Nat → Int32} : ∃ J, (∀ j, j < N → J 116 j = nI (a_sh (N - 1) seed (fun a => a) j)) ∧ (∀ x, x ≠ 116 → J x = I x) ∧ ∀ q, (pm_C (d + 1) 7 [.ref 0, .int seed, .int (nI N)] (Wm I k o) q ↔ q = (.inl none, Wm J k o)) := by
  obtain ⟨J1, a1, a2, a3⟩ := c7_i (d := d) (k := k) (o := o) (y1 := some (.int seed)) (y4 := none) (y5 := none) (y6 := none) hN N 0 I (by omega)
  obtain ⟨J2, b1, b2, b3⟩ := c7_l (d := d) (k := k) (o := o) (y1 := some (.int seed)) (y2 := some (.int (nI N))) hN (N - 1) seed (fun a => a) J1 none none (by omega) (fun a h => h) (fun j hj => a1 j (by omega) hj)
  refine ⟨J2, b1, fun x hx => by rw [b2 x hx]; funext j; exact a2 x j (by omega), fun q => ?_⟩
  have a3' := a3 q
  rw [show nI 0 = (0 : Int32) from rfl] at a3'
  have em : nI N - 1 = nI (N - 1) := by rw [show (1 : Int32) = nI 1 from rfl, sm_sub h1]
  rw [n7]
  simp only [q7_0, q7_1, a3', q7_20, q7_21, q7_22, q7_23, q7_24, q7_25, em, b3]
end DEA
