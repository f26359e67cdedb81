/-! TYPE -/
def by8 (v : Int64) (m : Nat) : Nat := (v.toBitVec.toNat >>> (8 * m)) % 256
theorem bit255 : ∀ i, i < 32 → (255#32).getLsbD i = decide (i < 8) := by decide
theorem by_r (x : BitVec 64) (n i : Nat) (hi : i < 32) : (BitVec.ofNat 32 (x.toNat >>> n % 256)).getLsbD i = (x.getLsbD (n + i) && decide (i < 8)) := by
  rw [BitVec.getLsbD_ofNat, show (256 : Nat) = 2 ^ 8 from rfl, Nat.testBit_mod_two_pow, Nat.testBit_shiftRight, BitVec.testBit_toNat]
  simp [hi, Bool.and_comm]
theorem byC (v : Int64) (m : Nat) (h : m < 8) : ((v.toUInt64 >>> ((nI (8 * m)).toInt64.toUInt64 &&& Int64.toUInt64 63)).toInt64.toInt32 &&& 255) = nI (by8 v m) := by
  have key : ∀ (s : UInt64) (n : Nat), s.toNat % 64 = n → n ≤ 56 → ((v.toUInt64 >>> s).toInt64.toInt32 &&& 255) = nI ((v.toBitVec.toNat >>> n) % 256) := by
    intro s n hs hn
    apply Int32.toBitVec_inj.mp
    apply BitVec.eq_of_getLsbD_eq
    intro i hi
    show _ = (BitVec.ofNat 32 (v.toBitVec.toNat >>> n % 256)).getLsbD i
    rw [by_r _ _ _ hi]
    simp
    rw [bit255 i hi, hs, BitVec.getLsbD_signExtend]
    simp [hi, show i < 64 by omega]
  have : m = 0 ∨ m = 1 ∨ m = 2 ∨ m = 3 ∨ m = 4 ∨ m = 5 ∨ m = 6 ∨ m = 7 := by omega
  rcases this with rfl | rfl | rfl | rfl | rfl | rfl | rfl | rfl <;> exact key _ _ (by decide) (by decide)
theorem byM (v : Int64) (m : Nat) (h : m < 8) : ((v >>> ((8 * nI m).toInt64 &&& 63)) &&& Int32.toInt64 255).toInt32 = nI (by8 v m) := by
  have key : ∀ (s : Int64) (n : Nat), (s.toBitVec.smod 64#64).toNat = n → n ≤ 56 → ((v >>> s) &&& Int32.toInt64 255).toInt32 = nI ((v.toBitVec.toNat >>> n) % 256) := by
    intro s n hs hn
    apply Int32.toBitVec_inj.mp
    apply BitVec.eq_of_getLsbD_eq
    intro i hi
    show _ = (BitVec.ofNat 32 (v.toBitVec.toNat >>> n % 256)).getLsbD i
    rw [by_r _ _ _ hi]
    simp
    rw [bit255 i hi, hs, BitVec.getLsbD_signExtend]
    by_cases h8 : i < 8
    · rw [if_pos (show i < 64 by omega), BitVec.getLsbD_sshiftRight, if_pos (show n + i < 64 by omega)]
      simp [hi, h8]
      intro
      omega
    · simp [h8]
  have : m = 0 ∨ m = 1 ∨ m = 2 ∨ m = 3 ∨ m = 4 ∨ m = 5 ∨ m = 6 ∨ m = 7 := by omega
  rcases this with rfl | rfl | rfl | rfl | rfl | rfl | rfl | rfl <;> exact key _ _ (by decide) (by decide)
theorem by_lt (v : Int64) (m : Nat) : by8 v m < 256 := Nat.mod_lt _ (by decide)
def t_ch (c : Nat) : Bool := decide (c = 0 ∨ (33 ≤ c ∧ c ≤ 126))
/-- the characters of the last r bytes, and whether all may stand in a text -/
def t_nz (v : Int64) : Nat → List Nat
  | 0 => []
  | r + 1 => (if by8 v r = 0 then [] else [by8 v r]) ++ t_nz v r
def t_al (v : Int64) : Nat → Bool
  | 0 => true
  | r + 1 => t_ch (by8 v r) && t_al v r
theorem nz_len (v : Int64) : ∀ r, (t_nz v r).length ≤ r := by
  intro r
  induction r with
  | zero => exact Nat.le_refl _
  | succ r ih =>
    show ((if by8 v r = 0 then [] else [by8 v r]) ++ t_nz v r).length ≤ r + 1
    rw [List.length_append]
    split <;> simp <;> omega
theorem nz_ok (v : Int64) : ∀ r, t_al v r = true → ∀ c ∈ t_nz v r, 33 ≤ c ∧ c ≤ 126 := by
  intro r
  induction r with
  | zero => intro _ c hc; cases hc
  | succ r ih =>
    intro h c hc
    have h : (t_ch (by8 v r) && t_al v r) = true := h
    rw [Bool.and_eq_true] at h
    have hc : c ∈ (if by8 v r = 0 then [] else [by8 v r]) ++ t_nz v r := hc
    rcases List.mem_append.mp hc with hc | hc
    · split at hc
      · cases hc
      · rename_i e
        rw [List.mem_singleton.mp hc]
        have := of_decide_eq_true h.1
        omega
    · exact ih h.2 c hc
def a_type (T : List Nat) (v : Int64) : List Nat := if t_al v 8 = true ∧ T.length + (t_nz v 8).length ≤ 240 then T ++ t_nz v 8 else T
def a_typ (T : List Nat) (v : Int64) : Bool := decide (t_al v 8 = true ∧ T.length + (t_nz v 8).length ≤ 240)
theorem type_ok {T : List Nat} {v : Int64} (h : TX T) : TX (a_type T v) := by
  unfold a_type
  split
  · rename_i e
    refine ⟨by rw [List.length_append]; exact e.2, fun c hc => ?_⟩
    rcases List.mem_append.mp hc with hc | hc
    · exact h.2 c hc
    · exact nz_ok v 8 e.1 c hc
  · exact h
theorem nI_eq0 {a : Nat} (h : a < 2147483648) : (nI a = 0) ↔ a = 0 := sm_inj (b := 0) h (by omega)
section TYP
variable {d k : Nat} {o : Int64} {v : Int64}
theorem c2 {r : Nat} (hr : r < 8) {M : pm_Mem} {q : pm_Res} : pm_C (d + 1) 2 [.long v, .int (nI (8 * r))] M q ↔ q = (.inl (some (.int (nI (by8 v r)))), M) := by
  rw [n2]
  simp only [q2_0, q2_1, q2_2, q2_3, q2_4, q2_7, q2_8, ex_eq, ex_ite, pm_bk_r, pm_bk_t, ol_nil, ol_one, true_and, and_true, false_and, and_false, reduceIte, Nat.reduceEqDiff, up_at, Nat.add_left_cancel_iff, byC v r hr]
theorem sh_m (r : Nat) : nI (8 * (r + 1)) - 8 = nI (8 * r) := by
  rw [show (8 : Int32) = nI 8 from rfl, sm_sub (by omega)]
  congr 1
theorem sh_a (r : Nat) : nI (8 * r) + (-8) = nI (8 * r) - 8 := by
  rw [show (-8 : Int32) = -8 from rfl, ← Int32.sub_eq_add_neg]
theorem c1_a {x2 : Option Value} {I : Nat → Nat → Int32} : ∀ r a (y5 : Option Value), r ≤ 8 →
    (t_al v r = true → ∃ z5, ∀ q, (pm_R (d + 1) 1 6 [some (.ref 0), some (.long v), x2, some (.int (nI a)), some (.int (nI (8 * r) - 8)), y5] [] (Wm I k o) q ↔ pm_R (d + 1) 1 59 [some (.ref 0), some (.long v), x2, some (.int (nI (a + (t_nz v r).length))), some (.int (-8)), z5] [] (Wm I k o) q)) ∧
    (t_al v r = false → ∀ q, (pm_R (d + 1) 1 6 [some (.ref 0), some (.long v), x2, some (.int (nI a)), some (.int (nI (8 * r) - 8)), y5] [] (Wm I k o) q ↔ q = (.inl (some (.int 0)), Wm I k o))) := by
  intro r
  induction r with
  | zero =>
    intro a y5 _
    refine ⟨fun _ => ⟨y5, fun q => ?_⟩, fun h => (by cases h)⟩
    rw [q1_6]
    simp (decide := true) only [q1_8, ex_eq, ex_ite, pm_bk_r, pm_bk_t, ol_nil, ol_one, true_and, and_true, false_and, and_false, reduceIte, Nat.reduceEqDiff, up_at, Nat.add_left_cancel_iff]
    exact Iff.rfl
  | succ r ih =>
    intro a y5 hr
    have hb := by_lt v r
    have e33 : (nI (by8 v r) < 33) ↔ by8 v r < 33 := sm_lt (b := 33) (by omega) (by omega)
    have e126 : (126 < nI (by8 v r)) ↔ 126 < by8 v r := sm_lt (a := 126) (by omega) (by omega)
    have e0 := nI_eq0 (a := by8 v r) (by omega)
    have hal : t_al v (r + 1) = (t_ch (by8 v r) && t_al v r) := rfl
    have hlen : (t_nz v (r + 1)).length = (if by8 v r = 0 then 0 else 1) + (t_nz v r).length := by
      show ((if by8 v r = 0 then [] else [by8 v r]) ++ t_nz v r).length = _
      rw [List.length_append]
      split <;> rfl
    have eneg : (nI (8 * r) < 0) ↔ False := iff_false_intro (sm_neg (by omega))
    have hih := ih (a + (if by8 v r = 0 then 0 else 1)) (some (.int (nI (by8 v r)))) (by omega)
    rw [hal]
    cases hc : t_ch (by8 v r) with
    | false =>
      refine ⟨fun h => (by cases h), fun _ q => ?_⟩
      have hc2 : ¬ (by8 v r = 0 ∨ (33 ≤ by8 v r ∧ by8 v r ≤ 126)) := of_decide_eq_false hc
      rw [q1_6, sh_m]
      by_cases c33 : by8 v r < 33
      · simp (decide := true) only [q1_8, q1_11, q1_12, q1_14, q1_17, q1_19, q1_21, q1_24, q1_26, q1_28, q1_31, q1_33, q1_35, q1_38, q1_39, ex_eq, ex_ite, pm_bk_r, pm_bk_t, ol_nil, ol_one, true_and, and_true, false_and, and_false, reduceIte, Nat.reduceEqDiff, up_at, Nat.add_left_cancel_iff, eneg, c2 (d := d) (show r < 8 by omega), e0, show (by8 v r = 0) ↔ False from iff_false_intro (by omega), e33, c33]
      · simp (decide := true) only [q1_8, q1_11, q1_12, q1_14, q1_17, q1_19, q1_21, q1_24, q1_26, q1_28, q1_31, q1_33, q1_35, q1_38, q1_39, ex_eq, ex_ite, pm_bk_r, pm_bk_t, ol_nil, ol_one, true_and, and_true, false_and, and_false, reduceIte, Nat.reduceEqDiff, up_at, Nat.add_left_cancel_iff, eneg, c2 (d := d) (show r < 8 by omega), e0, show (by8 v r = 0) ↔ False from iff_false_intro (by omega), e33, c33, e126, show (126 < by8 v r) ↔ True from iff_true_intro (by omega)]
    | true =>
      have hc2 : by8 v r = 0 ∨ (33 ≤ by8 v r ∧ by8 v r ≤ 126) := of_decide_eq_true hc
      have hstep : ∀ q, (pm_R (d + 1) 1 6 [some (.ref 0), some (.long v), x2, some (.int (nI a)), some (.int (nI (8 * (r + 1)) - 8)), y5] [] (Wm I k o) q ↔ pm_R (d + 1) 1 6 [some (.ref 0), some (.long v), x2, some (.int (nI (a + (if by8 v r = 0 then 0 else 1)))), some (.int (nI (8 * r) - 8)), some (.int (nI (by8 v r)))] [] (Wm I k o) q) := by
        intro q
        rw [q1_6, sh_m]
        by_cases c0 : by8 v r = 0
        · simp (decide := true) only [q1_8, q1_11, q1_12, q1_14, q1_17, q1_19, q1_21, q1_40, q1_41, q1_43, q1_46, q1_47, q1_50, q1_51, q1_52, q1_53, q1_56, ex_eq, ex_ite, pm_bk_r, pm_bk_t, ol_nil, ol_one, true_and, and_true, false_and, and_false, reduceIte, Nat.reduceEqDiff, up_at, Nat.add_left_cancel_iff, eneg, c2 (d := d) (show r < 8 by omega), e0, c0, sh_a, Int32.add_zero, Nat.add_zero]
        · simp (decide := true) only [q1_8, q1_11, q1_12, q1_14, q1_17, q1_19, q1_21, q1_24, q1_26, q1_28, q1_31, q1_33, q1_35, q1_38, q1_39, q1_40, q1_41, q1_43, q1_46, q1_47, q1_50, q1_51, q1_52, q1_53, q1_56, ex_eq, ex_ite, pm_bk_r, pm_bk_t, ol_nil, ol_one, true_and, and_true, false_and, and_false, reduceIte, Nat.reduceEqDiff, up_at, Nat.add_left_cancel_iff, eneg, c2 (d := d) (show r < 8 by omega), e0, c0, e33, show (by8 v r < 33) ↔ False from iff_false_intro (by omega), e126, show (126 < by8 v r) ↔ False from iff_false_intro (by omega), sh_a, sm_s]
      rw [hlen]
      refine ⟨fun h => ?_, fun h q => ?_⟩
      · obtain ⟨z5, hz⟩ := hih.1 h
        refine ⟨z5, fun q => ?_⟩
        rw [hstep, hz, Nat.add_assoc]
      · rw [hstep]
        exact hih.2 h q
def FTx (I J : Nat → Nat → Int32) : Prop := ∀ x j, ¬ (x = 1 ∧ j = 1) → x ≠ 2 → J x j = I x j
theorem i2c_nI : ∀ c, c < 256 → ((nI c).toUInt32 % 65536).toInt32 = nI c := by decide +kernel
theorem nar1 : ∀ c, c < 256 → vp_nar (pm_ty 1) (nI c) = nI c := by decide +kernel
theorem fit1b : ∀ c, c < 256 → fits (pm_ty 1) (Value.int (nI c)) = true := by decide +kernel
def apI (I : Nat → Nat → Int32) (n c : Nat) : Nat → Nat → Int32 := pm_up (pm_up I 2 n (nI c)) 1 1 (nI (n + 1))
theorem RT.ap {T : List Nat} {I : Nat → Nat → Int32} {c : Nat} (h : RT T I) : RT (T ++ [c]) (apI I T.length c) := by
  unfold apI
  refine ⟨by rw [up_eq]; simp, fun i hi => ?_⟩
  rw [up_ne (by omega)]
  by_cases e : i = T.length
  · subst e
    rw [up_eq, List.getD_eq_getElem?_getD, List.getElem?_append_right (by omega)]
    simp
  · have hi' : i < T.length := by simp at hi; omega
    rw [up_ne (by omega), List.getD_eq_getElem?_getD, List.getElem?_append_left hi', ← List.getD_eq_getElem?_getD]
    exact h.2 i hi'
theorem c93 {T : List Nat} {I : Nat → Nat → Int32} {c : Nat} (h : RT T I) (hl : T.length < 240) (hc : c < 256) {q : pm_Res} : pm_C (d + 1) 93 [.ref 1, .int (nI c)] (Wm I k o) q ↔ q = (.inl none, Wm (apI I T.length c) k o) := by
  have e240 : nI (pm_sh 2).2 = nI 240 := by decide +kernel
  have e2 : ¬ (pm_sh 2).1 = 0 := by decide +kernel
  rw [n93]
  simp (decide := true) only [q93_0, q93_1, q93_4, q93_5, q93_8, q93_9, q93_12, q93_13, q93_16, q93_17, q93_20, q93_21, q93_22, q93_23, q93_24, q93_27, q93_28, q93_29, q93_32, W_1, W_I, W_mk, W_tk, pm_rv, rf_0_0, rf_0_1, rf_0_2, rf_0_3, rf_0_4, rf_0_7, rf_0_8, rf_1_0, rf_1_2, rf_3_0, rf_3_1, rf_3_6, rf_3_7, rf_3_8, rf_9_0, rf_9_1, rf_10_0, rf_10_1, rf_10_6, rf_10_7, rf_10_8, rf_17_0, rf_17_1, rf_538_2, rf_538_6, rf_538_7, rf_538_9, rf_538_11, rf_538_12, rf_538_18, rf_538_19, rf_538_22, rf_538_23, rf_538_25, rf_538_27, rf_538_28, rf_538_30, rf_538_31, rf_538_32, rf_538_33, rf_538_34, rf_538_35, rf_538_36, ob_0, ob_1, ob_3, ob_9, ob_10, ob_17, ob_538, ar_2, ar_4, ar_5, ar_6, ar_7, ar_8, ar_11, ar_12, ar_13, ar_14, ar_15, ar_16, ar_116, ar_117, ar_539, ar_540, ar_541, ar_542, ar_543, ar_544, ar_545, ar_546, ar_547, ar_548, ar_549, ar_550, ar_551, ar_552, ar_553, ar_554, ar_555, ar_556, ar_557, ar_558, ex_eq, ex_ite, pm_bk_r, pm_bk_t, ol_nil, ol_one, true_and, and_true, false_and, and_false, reduceIte, Nat.reduceEqDiff, up_at, Nat.add_left_cancel_iff, h.1, e240, e2, not_false_eq_true, show (nI T.length < nI 240) ↔ True from iff_true_intro (by rw [sm_lt (by omega) (by omega)]; exact hl), sm_in (show T.length < 2147483648 by omega), hl, sm_cl (show T.length < 2147483648 by omega), nar1 c hc, sm_s]
  exact Iff.rfl
theorem c1_b {x2 x3 : Option Value} : ∀ r (T : List Nat) (I : Nat → Nat → Int32) (y5 : Option Value), r ≤ 8 → RT T I → T.length + (t_nz v r).length ≤ 240 →
    ∃ J, RT (T ++ t_nz v r) J ∧ FTx I J ∧ ∀ q, (pm_R (d + 1) 1 80 [some (.ref 0), some (.long v), x2, x3, some (.int (nI (8 * r) - 8)), y5] [] (Wm I k o) q ↔ q = (.inl (some (.int 1)), Wm J k o)) := by
  intro r
  induction r with
  | zero =>
    intro T I y5 _ h hl
    refine ⟨I, by show RT (T ++ []) I; rw [List.append_nil]; exact h, fun _ _ _ _ => rfl, fun q => ?_⟩
    rw [q1_80]
    simp (decide := true) only [q1_82, q1_114, q1_115, ex_eq, ex_ite, pm_bk_r, pm_bk_t, ol_nil, ol_one, true_and, and_true, false_and, and_false, reduceIte, Nat.reduceEqDiff, up_at, Nat.add_left_cancel_iff]
  | succ r ih =>
    intro T I y5 hr h hl
    have hb := by_lt v r
    have e0 := nI_eq0 (a := by8 v r) (by omega)
    have eneg : (nI (8 * r) < 0) ↔ False := iff_false_intro (sm_neg (by omega))
    have hnz : t_nz v (r + 1) = (if by8 v r = 0 then [] else [by8 v r]) ++ t_nz v r := rfl
    rw [hnz] at hl ⊢
    by_cases c0 : by8 v r = 0
    · rw [if_pos c0] at hl ⊢
      obtain ⟨J, g1, g2, g3⟩ := ih T I (some (.int (nI (by8 v r)))) (by omega) h hl
      refine ⟨J, g1, g2, fun q => ?_⟩
      rw [q1_80, sh_m, ← g3]
      simp (decide := true) only [q1_82, q1_85, q1_86, q1_88, q1_91, q1_93, q1_95, q1_108, q1_111, ex_eq, ex_ite, pm_bk_r, pm_bk_t, ol_nil, ol_one, true_and, and_true, false_and, and_false, reduceIte, Nat.reduceEqDiff, up_at, Nat.add_left_cancel_iff, eneg, c2 (d := d) (show r < 8 by omega), e0, c0, sh_a]
    · rw [if_neg c0] at hl ⊢
      have hl2 : T.length + 1 + (t_nz v r).length ≤ 240 := by simp at hl; omega
      obtain ⟨J, g1, g2, g3⟩ := ih (T ++ [by8 v r]) (apI I T.length (by8 v r)) (some (.int (nI (by8 v r)))) (by omega) h.ap (by rw [List.length_append]; exact hl2)
      refine ⟨J, by rw [← List.append_assoc]; exact g1, fun x j a b => ?_, fun q => ?_⟩
      · rw [g2 x j a b]
        unfold apI
        rw [up_ne a, up_ne (fun q => b q.1)]
      · rw [q1_80, sh_m, ← g3]
        simp (decide := true) only [q1_82, q1_85, q1_86, q1_88, q1_91, q1_93, q1_95, q1_98, q1_99, q1_102, q1_104, q1_105, q1_108, q1_111, W_1, W_I, W_mk, W_tk, pm_rv, rf_0_0, rf_0_1, rf_0_2, rf_0_3, rf_0_4, rf_0_7, rf_0_8, rf_1_0, rf_1_2, rf_3_0, rf_3_1, rf_3_6, rf_3_7, rf_3_8, rf_9_0, rf_9_1, rf_10_0, rf_10_1, rf_10_6, rf_10_7, rf_10_8, rf_17_0, rf_17_1, rf_538_2, rf_538_6, rf_538_7, rf_538_9, rf_538_11, rf_538_12, rf_538_18, rf_538_19, rf_538_22, rf_538_23, rf_538_25, rf_538_27, rf_538_28, rf_538_30, rf_538_31, rf_538_32, rf_538_33, rf_538_34, rf_538_35, rf_538_36, ob_0, ob_1, ob_3, ob_9, ob_10, ob_17, ob_538, ar_2, ar_4, ar_5, ar_6, ar_7, ar_8, ar_11, ar_12, ar_13, ar_14, ar_15, ar_16, ar_116, ar_117, ar_539, ar_540, ar_541, ar_542, ar_543, ar_544, ar_545, ar_546, ar_547, ar_548, ar_549, ar_550, ar_551, ar_552, ar_553, ar_554, ar_555, ar_556, ar_557, ar_558, ex_eq, ex_ite, pm_bk_r, pm_bk_t, ol_nil, ol_one, true_and, and_true, false_and, and_false, reduceIte, Nat.reduceEqDiff, up_at, Nat.add_left_cancel_iff, eneg, c2 (d := d) (show r < 8 by omega), e0, c0, i2c_nI (by8 v r) hb, c93 (d := d) h (show T.length < 240 by omega) hb, sh_a]
/-- type, the class's -/
theorem c1 {T : List Nat} {I : Nat → Nat → Int32} (hT : TX T) (h : RT T I) : ∃ J, RT (a_type T v) J ∧ FTx I J ∧ ∀ q, (pm_C (d + 2) 1 [.ref 0, .long v] (Wm I k o) q ↔ q = (.inl (some (.int (bI (a_typ T v)))), Wm J k o)) := by
  have h240 := hT.1
  have hn := nz_len v 8
  have hA := c1_a (d := d) (k := k) (o := o) (v := v) (x2 := none) (I := I) 8 0 none (by omega)
  have hopen : ∀ q, (pm_C (d + 2) 1 [.ref 0, .long v] (Wm I k o) q ↔ pm_R (d + 1) 1 6 [some (.ref 0), some (.long v), none, some (.int (nI 0)), some (.int (nI (8 * 8) - 8)), none] [] (Wm I k o) q) := by
    intro q
    rw [n1]
    simp (decide := true) only [q1_0, q1_1, q1_2, q1_4]
    exact Iff.rfl
  unfold a_type a_typ
  cases hal : t_al v 8 with
  | false =>
    refine ⟨I, by rw [if_neg (fun q => absurd q.1 (by decide))]; exact h, fun _ _ _ _ => rfl, fun q => ?_⟩
    rw [hopen, hA.2 hal, decide_eq_false (fun q => absurd q.1 (by decide))]
    exact Iff.rfl
  | true =>
    obtain ⟨z5, hz⟩ := hA.1 hal
    have el : nI T.length + nI (0 + (t_nz v 8).length) = nI (T.length + (t_nz v 8).length) := by rw [sm_add, Nat.zero_add]
    have e240 : (240 < nI (T.length + (t_nz v 8).length)) ↔ 240 < T.length + (t_nz v 8).length := sm_lt (a := 240) (by omega) (by omega)
    by_cases hl : T.length + (t_nz v 8).length ≤ 240
    · obtain ⟨J, g1, g2, g3⟩ := c1_b (d := d) (k := k) (o := o) (v := v) (x2 := none) (x3 := some (.int (nI (0 + (t_nz v 8).length)))) 8 T I z5 (by omega) h hl
      refine ⟨J, by rw [if_pos ⟨rfl, hl⟩]; exact g1, g2, fun q => ?_⟩
      rw [hopen, hz, decide_eq_true ⟨rfl, hl⟩]
      have g3' : ∀ q, (pm_R (d + 1) 1 80 [some (.ref 0), some (.long v), none, some (.int (nI (0 + (t_nz v 8).length))), some (.int 56), z5] [] (Wm I k o) q ↔ q = (.inl (some (.int 1)), Wm J k o)) := g3
      simp (decide := true) only [q1_59, q1_60, q1_63, q1_66, q1_67, q1_68, q1_71, q1_74, q1_75, q1_76, q1_78, W_1, W_I, W_mk, W_tk, pm_rv, rf_0_0, rf_0_1, rf_0_2, rf_0_3, rf_0_4, rf_0_7, rf_0_8, rf_1_0, rf_1_2, rf_3_0, rf_3_1, rf_3_6, rf_3_7, rf_3_8, rf_9_0, rf_9_1, rf_10_0, rf_10_1, rf_10_6, rf_10_7, rf_10_8, rf_17_0, rf_17_1, rf_538_2, rf_538_6, rf_538_7, rf_538_9, rf_538_11, rf_538_12, rf_538_18, rf_538_19, rf_538_22, rf_538_23, rf_538_25, rf_538_27, rf_538_28, rf_538_30, rf_538_31, rf_538_32, rf_538_33, rf_538_34, rf_538_35, rf_538_36, ob_0, ob_1, ob_3, ob_9, ob_10, ob_17, ob_538, ar_2, ar_4, ar_5, ar_6, ar_7, ar_8, ar_11, ar_12, ar_13, ar_14, ar_15, ar_16, ar_116, ar_117, ar_539, ar_540, ar_541, ar_542, ar_543, ar_544, ar_545, ar_546, ar_547, ar_548, ar_549, ar_550, ar_551, ar_552, ar_553, ar_554, ar_555, ar_556, ar_557, ar_558, ex_eq, ex_ite, pm_bk_r, pm_bk_t, ol_nil, ol_one, true_and, and_true, false_and, and_false, reduceIte, Nat.reduceEqDiff, up_at, Nat.add_left_cancel_iff, h.1, el, e240, show (240 < T.length + (t_nz v 8).length) ↔ False from iff_false_intro (by omega), g3']
      exact Iff.rfl
    · refine ⟨I, by rw [if_neg (fun q => hl q.2)]; exact h, fun _ _ _ _ => rfl, fun q => ?_⟩
      rw [hopen, hz, decide_eq_false (fun q => hl q.2)]
      simp (decide := true) only [q1_59, q1_60, q1_63, q1_66, q1_67, q1_68, q1_71, q1_74, q1_75, W_1, W_I, W_mk, W_tk, pm_rv, rf_0_0, rf_0_1, rf_0_2, rf_0_3, rf_0_4, rf_0_7, rf_0_8, rf_1_0, rf_1_2, rf_3_0, rf_3_1, rf_3_6, rf_3_7, rf_3_8, rf_9_0, rf_9_1, rf_10_0, rf_10_1, rf_10_6, rf_10_7, rf_10_8, rf_17_0, rf_17_1, rf_538_2, rf_538_6, rf_538_7, rf_538_9, rf_538_11, rf_538_12, rf_538_18, rf_538_19, rf_538_22, rf_538_23, rf_538_25, rf_538_27, rf_538_28, rf_538_30, rf_538_31, rf_538_32, rf_538_33, rf_538_34, rf_538_35, rf_538_36, ob_0, ob_1, ob_3, ob_9, ob_10, ob_17, ob_538, ar_2, ar_4, ar_5, ar_6, ar_7, ar_8, ar_11, ar_12, ar_13, ar_14, ar_15, ar_16, ar_116, ar_117, ar_539, ar_540, ar_541, ar_542, ar_543, ar_544, ar_545, ar_546, ar_547, ar_548, ar_549, ar_550, ar_551, ar_552, ar_553, ar_554, ar_555, ar_556, ar_557, ar_558, ex_eq, ex_ite, pm_bk_r, pm_bk_t, ol_nil, ol_one, true_and, and_true, false_and, and_false, reduceIte, Nat.reduceEqDiff, up_at, Nat.add_left_cancel_iff, h.1, el, e240, show (240 < T.length + (t_nz v 8).length) ↔ True from iff_true_intro (by omega)]
      exact Iff.rfl
/-! .. and the reference's -/
theorem mc_a {x2 : Option Value} {I : Nat → Nat → Int32} : ∀ r a (g : Bool) (y6 : Option Value), r ≤ 8 →
    ∃ z6, ∀ q, (pm_R d 24 14 [some (.ref 538), some (.long v), x2, some (.int (nI a)), some (.int (bI g)), some (.int (nI r - 1)), y6] [] (Wm I k o) q ↔ pm_R d 24 83 [some (.ref 538), some (.long v), x2, some (.int (nI (a + (t_nz v r).length))), some (.int (bI (g && t_al v r))), some (.int (-1)), z6] [] (Wm I k o) q) := by
  intro r
  induction r with
  | zero =>
    intro a g y6 _
    refine ⟨y6, fun q => ?_⟩
    rw [q24_14]
    have : (g && t_al v 0) = g := by cases g <;> rfl
    rw [this]
    simp (decide := true) only [q24_16, ex_eq, ex_ite, pm_bk_r, pm_bk_t, ol_nil, ol_one, true_and, and_true, false_and, and_false, reduceIte, Nat.reduceEqDiff, up_at, Nat.add_left_cancel_iff]
    exact Iff.rfl
  | succ r ih =>
    intro a g y6 hr
    have hb := by_lt v r
    have e33 : (nI (by8 v r) < 33) ↔ by8 v r < 33 := sm_lt (b := 33) (by omega) (by omega)
    have e126 : (126 < nI (by8 v r)) ↔ 126 < by8 v r := sm_lt (a := 126) (by omega) (by omega)
    have e0 := nI_eq0 (a := by8 v r) (by omega)
    have er : nI (r + 1) - 1 = nI r := by rw [show (1 : Int32) = nI 1 from rfl, sm_sub (by omega)]; rfl
    have ea : nI r + (-1) = nI r - 1 := by rw [← Int32.sub_eq_add_neg]
    have eneg : (nI r < 0) ↔ False := iff_false_intro (sm_neg (by omega))
    obtain ⟨z6, hz⟩ := ih (a + (if by8 v r = 0 then 0 else 1)) (g && t_ch (by8 v r)) (some (.int (nI (by8 v r)))) (by omega)
    refine ⟨z6, fun q => ?_⟩
    have hlen : a + (t_nz v (r + 1)).length = a + (if by8 v r = 0 then 0 else 1) + (t_nz v r).length := by
      show a + ((if by8 v r = 0 then [] else [by8 v r]) ++ t_nz v r).length = _
      rw [List.length_append, Nat.add_assoc]
      split <;> rfl
    have hal : (g && t_al v (r + 1)) = (g && t_ch (by8 v r) && t_al v r) := by
      show (g && (t_ch (by8 v r) && t_al v r)) = _
      rw [Bool.and_assoc]
    rw [hlen, hal, ← hz, q24_14, er]
    have fin : ∀ b : Bool, pm_R d 24 62 [some (.ref 538), some (.long v), x2, some (.int (nI a)), some (.int (bI g)), some (.int (nI r)), some (.int (nI (by8 v r)))] [.int (bI b)] (Wm I k o) q ↔ pm_R d 24 14 [some (.ref 538), some (.long v), x2, some (.int (nI (a + (if by8 v r = 0 then 0 else 1)))), some (.int (bI b)), some (.int (nI r - 1)), some (.int (nI (by8 v r)))] [] (Wm I k o) q := by
      intro b
      by_cases c0 : by8 v r = 0
      · simp (decide := true) only [q24_62, q24_64, q24_65, q24_67, q24_70, q24_71, q24_74, q24_75, q24_76, q24_77, q24_80, ex_eq, ex_ite, pm_bk_r, pm_bk_t, ol_nil, ol_one, true_and, and_true, false_and, and_false, reduceIte, Nat.reduceEqDiff, up_at, Nat.add_left_cancel_iff, e0, c0, ea, Int32.add_zero, Nat.add_zero]
      · simp (decide := true) only [q24_62, q24_64, q24_65, q24_67, q24_70, q24_71, q24_74, q24_75, q24_76, q24_77, q24_80, ex_eq, ex_ite, pm_bk_r, pm_bk_t, ol_nil, ol_one, true_and, and_true, false_and, and_false, reduceIte, Nat.reduceEqDiff, up_at, Nat.add_left_cancel_iff, e0, c0, ea, sm_s]
    refine Iff.trans ?_ (fin (g && t_ch (by8 v r)))
    have b1 : bI true = 1 := rfl
    have b0 : bI false = 0 := rfl
    cases g with
    | false =>
      simp (decide := true) only [q24_16, q24_19, q24_20, q24_22, q24_24, q24_25, q24_26, q24_29, q24_30, q24_31, q24_33, q24_35, q24_61, ex_eq, ex_ite, pm_bk_r, pm_bk_t, ol_nil, ol_one, true_and, and_true, false_and, and_false, reduceIte, Nat.reduceEqDiff, up_at, Nat.add_left_cancel_iff, eneg, byM v r (show r < 8 by omega), b0, Bool.false_and]
    | true =>
      rw [Bool.true_and]
      by_cases c0 : by8 v r = 0
      · have hc : t_ch (by8 v r) = true := decide_eq_true (Or.inl c0)
        rw [hc]
        simp (decide := true) only [q24_16, q24_19, q24_20, q24_22, q24_24, q24_25, q24_26, q24_29, q24_30, q24_31, q24_33, q24_35, q24_38, q24_40, q24_43, q24_45, q24_47, q24_50, q24_52, q24_54, q24_57, q24_58, ex_eq, ex_ite, pm_bk_r, pm_bk_t, ol_nil, ol_one, true_and, and_true, false_and, and_false, reduceIte, Nat.reduceEqDiff, up_at, Nat.add_left_cancel_iff, eneg, byM v r (show r < 8 by omega), e0, show (by8 v r = 0) ↔ True from iff_true_intro c0, b1]
      · by_cases c33 : by8 v r < 33
        · have hc : t_ch (by8 v r) = false := decide_eq_false (by omega)
          rw [hc]
          simp (decide := true) only [q24_16, q24_19, q24_20, q24_22, q24_24, q24_25, q24_26, q24_29, q24_30, q24_31, q24_33, q24_35, q24_38, q24_40, q24_43, q24_45, q24_47, q24_61, ex_eq, ex_ite, pm_bk_r, pm_bk_t, ol_nil, ol_one, true_and, and_true, false_and, and_false, reduceIte, Nat.reduceEqDiff, up_at, Nat.add_left_cancel_iff, eneg, byM v r (show r < 8 by omega), e0, c0, e33, c33, b0, b1]
        · by_cases c126 : 126 < by8 v r
          · have hc : t_ch (by8 v r) = false := decide_eq_false (by omega)
            rw [hc]
            simp (decide := true) only [q24_16, q24_19, q24_20, q24_22, q24_24, q24_25, q24_26, q24_29, q24_30, q24_31, q24_33, q24_35, q24_38, q24_40, q24_43, q24_45, q24_47, q24_50, q24_52, q24_54, q24_61, ex_eq, ex_ite, pm_bk_r, pm_bk_t, ol_nil, ol_one, true_and, and_true, false_and, and_false, reduceIte, Nat.reduceEqDiff, up_at, Nat.add_left_cancel_iff, eneg, byM v r (show r < 8 by omega), e0, c0, e33, c33, e126, c126, b0, b1]
          · have hc : t_ch (by8 v r) = true := decide_eq_true (by omega)
            rw [hc]
            simp (decide := true) only [q24_16, q24_19, q24_20, q24_22, q24_24, q24_25, q24_26, q24_29, q24_30, q24_31, q24_33, q24_35, q24_38, q24_40, q24_43, q24_45, q24_47, q24_50, q24_52, q24_54, q24_57, q24_58, ex_eq, ex_ite, pm_bk_r, pm_bk_t, ol_nil, ol_one, true_and, and_true, false_and, and_false, reduceIte, Nat.reduceEqDiff, up_at, Nat.add_left_cancel_iff, eneg, byM v r (show r < 8 by omega), e0, c0, e33, c33, e126, c126, b1]
def FTm (I J : Nat → Nat → Int32) : Prop := ∀ x j, ¬ (x = 538 ∧ (j = 0 ∨ j = 1)) → x ≠ 539 → J x j = I x j
theorem mc_b {x2 x3 x4 : Option Value} : ∀ r (T : List Nat) (I : Nat → Nat → Int32) (y6 : Option Value), r ≤ 8 → MX T I → T.length + (t_nz v r).length ≤ 240 →
    ∃ J, MX (T ++ t_nz v r) J ∧ (J 538 0 = I 538 0 ∧ FTm I J) ∧ ∀ q, (pm_R d 24 106 [some (.ref 538), some (.long v), x2, x3, x4, some (.int (nI r - 1)), y6] [] (Wm I k o) q ↔ q = (.inl (some (.int 1)), Wm J k o)) := by
  intro r
  induction r with
  | zero =>
    intro T I y6 _ h hl
    refine ⟨I, by show MX (T ++ []) I; rw [List.append_nil]; exact h, ⟨rfl, fun _ _ _ _ => rfl⟩, fun q => ?_⟩
    rw [q24_106]
    simp (decide := true) only [q24_108, q24_157, q24_158, ex_eq, ex_ite, pm_bk_r, pm_bk_t, ol_nil, ol_one, true_and, and_true, false_and, and_false, reduceIte, Nat.reduceEqDiff, up_at, Nat.add_left_cancel_iff]
  | succ r ih =>
    intro T I y6 hr h hl
    have hb := by_lt v r
    have e0 := nI_eq0 (a := by8 v r) (by omega)
    have er : nI (r + 1) - 1 = nI r := by rw [show (1 : Int32) = nI 1 from rfl, sm_sub (by omega)]; rfl
    have ea : nI r + (-1) = nI r - 1 := by rw [← Int32.sub_eq_add_neg]
    have eneg : (nI r < 0) ↔ False := iff_false_intro (sm_neg (by omega))
    have hnz : t_nz v (r + 1) = (if by8 v r = 0 then [] else [by8 v r]) ++ t_nz v r := rfl
    rw [hnz] at hl ⊢
    by_cases c0 : by8 v r = 0
    · rw [if_pos c0] at hl ⊢
      obtain ⟨J, g1, g2, g3⟩ := ih T I (some (.int (nI (by8 v r)))) (by omega) h hl
      refine ⟨J, g1, g2, fun q => ?_⟩
      rw [q24_106, er, ← g3]
      simp (decide := true) only [q24_108, q24_111, q24_112, q24_114, q24_116, q24_117, q24_118, q24_121, q24_122, q24_123, q24_125, q24_127, q24_151, q24_154, ex_eq, ex_ite, pm_bk_r, pm_bk_t, ol_nil, ol_one, true_and, and_true, false_and, and_false, reduceIte, Nat.reduceEqDiff, up_at, Nat.add_left_cancel_iff, eneg, byM v r (show r < 8 by omega), e0, c0, ea]
    · rw [if_neg c0] at hl ⊢
      have hl2 : T.length + 1 + (t_nz v r).length ≤ 240 := by simp at hl; omega
      have hX : MX (T ++ [by8 v r]) (pm_up (pm_up I 539 T.length (nI (by8 v r))) 538 1 (nI (T.length + 1))) := by
        refine ⟨by rw [up_eq]; simp, fun i hi => ?_⟩
        rw [up_ne (by omega)]
        by_cases e : i = T.length
        · subst e
          rw [up_eq, List.getD_eq_getElem?_getD, List.getElem?_append_right (by omega)]
          simp
        · have hi' : i < T.length := by simp at hi; omega
          rw [up_ne (by omega), List.getD_eq_getElem?_getD, List.getElem?_append_left hi', ← List.getD_eq_getElem?_getD]
          exact h.2 i hi'
      obtain ⟨J, g1, g2, g3⟩ := ih (T ++ [by8 v r]) _ (some (.int (nI (by8 v r)))) (by omega) hX (by rw [List.length_append]; exact hl2)
      refine ⟨J, by rw [← List.append_assoc]; exact g1, ⟨?_, fun x j a b => ?_⟩, fun q => ?_⟩
      · rw [g2.1, up_ne (by omega), up_ne (by omega)]
      · rw [g2.2 x j a b, up_ne (by omega), up_ne (by omega)]
      · rw [q24_106, er, ← g3]
        simp (decide := true) only [q24_108, q24_111, q24_112, q24_114, q24_116, q24_117, q24_118, q24_121, q24_122, q24_123, q24_125, q24_127, q24_130, q24_131, q24_134, q24_135, q24_138, q24_140, q24_141, q24_142, q24_143, q24_146, q24_147, q24_148, q24_151, q24_154, W_1, W_I, W_mk, W_tk, pm_rv, rf_0_0, rf_0_1, rf_0_2, rf_0_3, rf_0_4, rf_0_7, rf_0_8, rf_1_0, rf_1_2, rf_3_0, rf_3_1, rf_3_6, rf_3_7, rf_3_8, rf_9_0, rf_9_1, rf_10_0, rf_10_1, rf_10_6, rf_10_7, rf_10_8, rf_17_0, rf_17_1, rf_538_2, rf_538_6, rf_538_7, rf_538_9, rf_538_11, rf_538_12, rf_538_18, rf_538_19, rf_538_22, rf_538_23, rf_538_25, rf_538_27, rf_538_28, rf_538_30, rf_538_31, rf_538_32, rf_538_33, rf_538_34, rf_538_35, rf_538_36, ob_0, ob_1, ob_3, ob_9, ob_10, ob_17, ob_538, ar_2, ar_4, ar_5, ar_6, ar_7, ar_8, ar_11, ar_12, ar_13, ar_14, ar_15, ar_16, ar_116, ar_117, ar_539, ar_540, ar_541, ar_542, ar_543, ar_544, ar_545, ar_546, ar_547, ar_548, ar_549, ar_550, ar_551, ar_552, ar_553, ar_554, ar_555, ar_556, ar_557, ar_558, ex_eq, ex_ite, pm_bk_r, pm_bk_t, ol_nil, ol_one, true_and, and_true, false_and, and_false, reduceIte, Nat.reduceEqDiff, up_at, Nat.add_left_cancel_iff, eneg, byM v r (show r < 8 by omega), e0, c0, h.1, sm_in (show T.length < 2147483648 by omega), show T.length < 240 by omega, sm_cl (show T.length < 2147483648 by omega), sm_s, ea]
theorem c24 {T : List Nat} {I : Nat → Nat → Int32} (hT : TX T) (h : MX T I) : ∃ J, MX (a_type T v) J ∧ (J 538 0 = 0 ∧ FTm I J) ∧ ∀ q, (pm_C (d + 1) 24 [.ref 538, .long v] (Wm I k o) q ↔ q = (.inl (some (.int (bI (a_typ T v)))), Wm J k o)) := by
  have h240 := hT.1
  have hn := nz_len v 8
  have h0 : MX T (pm_up I 538 0 0) := ⟨by rw [up_ne (by omega)]; exact h.1, fun i hi => by rw [up_ne (by omega)]; exact h.2 i hi⟩
  have f0 : FTm I (pm_up I 538 0 0) := fun x j a b => up_ne (by omega)
  obtain ⟨z6, hA⟩ := mc_a (d := d) (k := k) (o := o) (v := v) (x2 := none) (I := pm_up I 538 0 0) 8 0 true none (by omega)
  have hopen : ∀ q, (pm_C (d + 1) 24 [.ref 538, .long v] (Wm I k o) q ↔ pm_R d 24 83 [some (.ref 538), some (.long v), none, some (.int (nI (0 + (t_nz v 8).length))), some (.int (bI (t_al v 8))), some (.int (-1)), z6] [] (Wm (pm_up I 538 0 0) k o) q) := by
    intro q
    have hA' := hA q
    rw [Bool.true_and] at hA'
    rw [n24, ← hA']
    simp (decide := true) only [q24_0, q24_1, q24_2, q24_5, q24_6, q24_7, q24_8, q24_10, q24_12, W_1, W_I, W_mk, W_tk, pm_rv, rf_0_0, rf_0_1, rf_0_2, rf_0_3, rf_0_4, rf_0_7, rf_0_8, rf_1_0, rf_1_2, rf_3_0, rf_3_1, rf_3_6, rf_3_7, rf_3_8, rf_9_0, rf_9_1, rf_10_0, rf_10_1, rf_10_6, rf_10_7, rf_10_8, rf_17_0, rf_17_1, rf_538_2, rf_538_6, rf_538_7, rf_538_9, rf_538_11, rf_538_12, rf_538_18, rf_538_19, rf_538_22, rf_538_23, rf_538_25, rf_538_27, rf_538_28, rf_538_30, rf_538_31, rf_538_32, rf_538_33, rf_538_34, rf_538_35, rf_538_36, ob_0, ob_1, ob_3, ob_9, ob_10, ob_17, ob_538, ar_2, ar_4, ar_5, ar_6, ar_7, ar_8, ar_11, ar_12, ar_13, ar_14, ar_15, ar_16, ar_116, ar_117, ar_539, ar_540, ar_541, ar_542, ar_543, ar_544, ar_545, ar_546, ar_547, ar_548, ar_549, ar_550, ar_551, ar_552, ar_553, ar_554, ar_555, ar_556, ar_557, ar_558, ex_eq, ex_ite, pm_bk_r, pm_bk_t, ol_nil, ol_one, true_and, and_true, false_and, and_false, reduceIte, Nat.reduceEqDiff, up_at, Nat.add_left_cancel_iff]
    exact Iff.rfl
  unfold a_type a_typ
  cases hal : t_al v 8 with
  | false =>
    rw [hal] at hopen
    refine ⟨pm_up I 538 0 0, by rw [if_neg (fun q => absurd q.1 (by decide))]; exact h0, ⟨up_eq, f0⟩, fun q => ?_⟩
    rw [hopen, decide_eq_false (fun q => absurd q.1 (by decide))]
    simp (decide := true) only [q24_83, q24_85, q24_88, q24_89, q24_92, q24_93, q24_94, q24_97, q24_100, q24_101, W_1, W_I, W_mk, W_tk, pm_rv, rf_0_0, rf_0_1, rf_0_2, rf_0_3, rf_0_4, rf_0_7, rf_0_8, rf_1_0, rf_1_2, rf_3_0, rf_3_1, rf_3_6, rf_3_7, rf_3_8, rf_9_0, rf_9_1, rf_10_0, rf_10_1, rf_10_6, rf_10_7, rf_10_8, rf_17_0, rf_17_1, rf_538_2, rf_538_6, rf_538_7, rf_538_9, rf_538_11, rf_538_12, rf_538_18, rf_538_19, rf_538_22, rf_538_23, rf_538_25, rf_538_27, rf_538_28, rf_538_30, rf_538_31, rf_538_32, rf_538_33, rf_538_34, rf_538_35, rf_538_36, ob_0, ob_1, ob_3, ob_9, ob_10, ob_17, ob_538, ar_2, ar_4, ar_5, ar_6, ar_7, ar_8, ar_11, ar_12, ar_13, ar_14, ar_15, ar_16, ar_116, ar_117, ar_539, ar_540, ar_541, ar_542, ar_543, ar_544, ar_545, ar_546, ar_547, ar_548, ar_549, ar_550, ar_551, ar_552, ar_553, ar_554, ar_555, ar_556, ar_557, ar_558, ex_eq, ex_ite, pm_bk_r, pm_bk_t, ol_nil, ol_one, true_and, and_true, false_and, and_false, reduceIte, Nat.reduceEqDiff, up_at, Nat.add_left_cancel_iff, bI]
  | true =>
    rw [hal] at hopen
    have el : nI T.length + nI (0 + (t_nz v 8).length) = nI (T.length + (t_nz v 8).length) := by rw [sm_add, Nat.zero_add]
    have e240 : (240 < nI (T.length + (t_nz v 8).length)) ↔ 240 < T.length + (t_nz v 8).length := sm_lt (a := 240) (by omega) (by omega)
    by_cases hl : T.length + (t_nz v 8).length ≤ 240
    · obtain ⟨J, g1, g2, g3⟩ := mc_b (d := d) (k := k) (o := o) (v := v) (x2 := none) (x3 := some (.int (nI (0 + (t_nz v 8).length)))) (x4 := some (.int 1)) 8 T _ z6 (by omega) h0 hl
      refine ⟨J, by rw [if_pos ⟨rfl, hl⟩]; exact g1, ⟨by rw [g2.1, up_eq], fun x j a b => (g2.2 x j a b).trans (f0 x j a b)⟩, fun q => ?_⟩
      rw [hopen, decide_eq_true ⟨rfl, hl⟩]
      have g3' : ∀ q, (pm_R d 24 106 [some (.ref 538), some (.long v), none, some (.int (nI (0 + (t_nz v 8).length))), some (.int 1), some (.int 7), z6] [] (Wm (pm_up I 538 0 0) k o) q ↔ q = (.inl (some (.int 1)), Wm J k o)) := g3
      simp (decide := true) only [q24_83, q24_85, q24_88, q24_89, q24_92, q24_93, q24_94, q24_97, q24_100, q24_101, q24_102, q24_104, W_1, W_I, W_mk, W_tk, pm_rv, rf_0_0, rf_0_1, rf_0_2, rf_0_3, rf_0_4, rf_0_7, rf_0_8, rf_1_0, rf_1_2, rf_3_0, rf_3_1, rf_3_6, rf_3_7, rf_3_8, rf_9_0, rf_9_1, rf_10_0, rf_10_1, rf_10_6, rf_10_7, rf_10_8, rf_17_0, rf_17_1, rf_538_2, rf_538_6, rf_538_7, rf_538_9, rf_538_11, rf_538_12, rf_538_18, rf_538_19, rf_538_22, rf_538_23, rf_538_25, rf_538_27, rf_538_28, rf_538_30, rf_538_31, rf_538_32, rf_538_33, rf_538_34, rf_538_35, rf_538_36, ob_0, ob_1, ob_3, ob_9, ob_10, ob_17, ob_538, ar_2, ar_4, ar_5, ar_6, ar_7, ar_8, ar_11, ar_12, ar_13, ar_14, ar_15, ar_16, ar_116, ar_117, ar_539, ar_540, ar_541, ar_542, ar_543, ar_544, ar_545, ar_546, ar_547, ar_548, ar_549, ar_550, ar_551, ar_552, ar_553, ar_554, ar_555, ar_556, ar_557, ar_558, ex_eq, ex_ite, pm_bk_r, pm_bk_t, ol_nil, ol_one, true_and, and_true, false_and, and_false, reduceIte, Nat.reduceEqDiff, up_at, Nat.add_left_cancel_iff, bI, h.1, el, e240, show (240 < T.length + (t_nz v 8).length) ↔ False from iff_false_intro (by omega), g3']
    · refine ⟨pm_up I 538 0 0, by rw [if_neg (fun q => hl q.2)]; exact h0, ⟨up_eq, f0⟩, fun q => ?_⟩
      rw [hopen, decide_eq_false (fun q => hl q.2)]
      simp (decide := true) only [q24_83, q24_85, q24_88, q24_89, q24_92, q24_93, q24_94, q24_97, q24_100, q24_101, W_1, W_I, W_mk, W_tk, pm_rv, rf_0_0, rf_0_1, rf_0_2, rf_0_3, rf_0_4, rf_0_7, rf_0_8, rf_1_0, rf_1_2, rf_3_0, rf_3_1, rf_3_6, rf_3_7, rf_3_8, rf_9_0, rf_9_1, rf_10_0, rf_10_1, rf_10_6, rf_10_7, rf_10_8, rf_17_0, rf_17_1, rf_538_2, rf_538_6, rf_538_7, rf_538_9, rf_538_11, rf_538_12, rf_538_18, rf_538_19, rf_538_22, rf_538_23, rf_538_25, rf_538_27, rf_538_28, rf_538_30, rf_538_31, rf_538_32, rf_538_33, rf_538_34, rf_538_35, rf_538_36, ob_0, ob_1, ob_3, ob_9, ob_10, ob_17, ob_538, ar_2, ar_4, ar_5, ar_6, ar_7, ar_8, ar_11, ar_12, ar_13, ar_14, ar_15, ar_16, ar_116, ar_117, ar_539, ar_540, ar_541, ar_542, ar_543, ar_544, ar_545, ar_546, ar_547, ar_548, ar_549, ar_550, ar_551, ar_552, ar_553, ar_554, ar_555, ar_556, ar_557, ar_558, ex_eq, ex_ite, pm_bk_r, pm_bk_t, ol_nil, ol_one, true_and, and_true, false_and, and_false, reduceIte, Nat.reduceEqDiff, up_at, Nat.add_left_cancel_iff, bI, h.1, el, e240, show (240 < T.length + (t_nz v 8).length) ↔ True from iff_true_intro (by omega)]
end TYP
