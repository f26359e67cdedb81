/-! THE SOLVER: abstract, and the class's -/
def s_bet (P : Pos) (v w : Int32) : Bool := if P.2.2.2 = 0 then decide (w < v) else decide (v < w)
def s_kids (f : Pos → Int32) (G : Gm) (P : Pos) : List (Nat × Nat) → Nat → Int32 → Int32 → Int32 × Int32
  | [], _, w, fi => (w, fi)
  | m :: ms, kk, w, fi => if kk = 0 ∨ s_bet P (f (a_make G P m)) w = true then s_kids f G P ms (kk + 1) (f (a_make G P m)) (nI kk) else s_kids f G P ms (kk + 1) w fi
def s_sum (f : Pos → Nat) (G : Gm) (P : Pos) : List (Nat × Nat) → Nat
  | [] => 0
  | m :: ms => f (a_make G P m) + s_sum f G P ms
/-- how many positions lie behind one; is none too deep; its value and its first best move -/
def t_n (G : Gm) : Nat → Pos → Nat
  | 0, P => (a_list G P).length
  | D + 1, P => (a_list G P).length + s_sum (t_n G D) G P (a_list G P)
def t_ok (G : Gm) : Nat → Pos → Bool
  | 0, P => decide ((a_list G P).length = 0)
  | D + 1, P => (a_list G P).all (fun m => t_ok G D (a_make G P m))
def s_sc (P : Pos) : Int32 := P.2.2.1 0 - P.2.2.1 1
def t_v (G : Gm) : Nat → Pos → Int32 × Int32
  | 0, P => (s_sc P, -1)
  | D + 1, P => if (a_list G P).length = 0 then (s_sc P, -1) else s_kids (fun Q => (t_v G D Q).1) G P (a_list G P) 0 0 (-1)
def FS (e : Nat) (I J : Nat → Nat → Int32) : Prop := ∀ x j, x ≠ 16 → ¬ (x = 9 ∧ j = 2) → x ≠ 17 → (x < 20 + e ∨ (30 < x ∧ x < 31 + 7 * e) ∨ 107 < x) → J x j = I x j
theorem FS.refl {e : Nat} {I : Nat → Nat → Int32} : FS e I I := fun _ _ _ _ _ _ => rfl
theorem FS.trans {e : Nat} {I J K : Nat → Nat → Int32} (h1 : FS e I J) (h2 : FS e J K) : FS e I K := fun x j a b c f => (h2 x j a b c f).trans (h1 x j a b c f)
theorem FS.up {e e' : Nat} (he : e ≤ e') {I J : Nat → Nat → Int32} (h : FS e' I J) : FS e I J := fun x j a b c f => h x j a b c (by omega)
theorem FS.u17 {e j : Nat} {I : Nat → Nat → Int32} {x : Int32} : FS e I (pm_up I 17 j x) := fun y i _ _ h _ => up_ne (fun q => h q.1)
theorem FL.fs {e : Nat} {I J : Nat → Nat → Int32} (he : e ≤ 10) (h : FL (31 + 7 * e) (20 + e) I J) : FS e I J := fun x j a b c f => h x j a b (by omega) (by omega)
theorem FR.fs {e : Nat} {I J : Nat → Nat → Int32} (he : e ≤ 10) (h : FR (31 + 7 * e) I J) : FS e I J := fun x j a b c f => h x j a b (by omega)
theorem GR.fs {e : Nat} {G : Gm} {I J : Nat → Nat → Int32} (h : GR G I) (hf : FS e I J) : GR G J := h.congr (fun x h1 h2 => by funext j; exact hf x j (by omega) (by omega) (by omega) (by omega))
theorem TR.fs {e : Nat} {P : Pos} {I J : Nat → Nat → Int32} (h : TR (31 + 7 * e) P I) (hf : FS (e + 1) I J) : TR (31 + 7 * e) P J :=
  h.congr (hf _ _ (by omega) (by omega) (by omega) (by omega)) (fun x h1 h2 => by funext j; exact hf x j (by omega) (by omega) (by omega) (by omega))
theorem RW.fs {e : Nat} {L : List (Nat × Nat)} {I J : Nat → Nat → Int32} (he : e ≤ 10) (h : RW (20 + e) L I) (hf : FS (e + 1) I J) : RW (20 + e) L J := fun i hi => by rw [hf _ _ (by omega) (by omega) (by omega) (by omega)]; exact h i hi
theorem vp_0 {n : Nat} : vp_in 0 n ↔ 0 < n := sm_in (a := 0) (by omega)
theorem vp_1 {n : Nat} : vp_in 1 n ↔ 1 < n := sm_in (a := 1) (by omega)
section SOL
variable {d k : Nat} {o : Int64}
def SP (d k : Nat) (o : Int64) (G : Gm) (D : Nat) : Prop := ∀ (dp : Nat) (P : Pos) (l : Nat) (I : Nat → Nat → Int32), dp + D = 10 → l ≤ 2000 → PA (g_n G) P → GR G I → TR (31 + 7 * dp) P I → I 17 2 = nI l →
  (t_ok G D P = true ∧ t_n G D P ≤ l → ∃ J, FS dp I J ∧ J 17 2 = nI (l - t_n G D P) ∧ J 17 3 = (t_v G D P).2 ∧ ∀ q, (pm_C (d + D + 6) 107 [.ref 17, .ref 9, .int (nI dp)] (Wm I k o) q ↔ q = (.inl (some (.int (t_v G D P).1)), Wm J k o))) ∧
  (¬ (t_ok G D P = true ∧ t_n G D P ≤ l) → ∃ J, FS dp I J ∧ ∀ q, (pm_C (d + D + 6) 107 [.ref 17, .ref 9, .int (nI dp)] (Wm I k o) q ↔ q = (.inr 3, Wm J (k + 1) o)))
theorem c107_l {G : Gm} (hG : g_ok G) {D dp : Nat} (hD : dp + (D + 1) = 10) (IH : SP d k o G D) {P : Pos} (hP : PA (g_n G) P) : ∀ (ms : List (Nat × Nat)) (kk : Nat) (w fi : Int32) (l : Nat) (I : Nat → Nat → Int32) (y9 y10 : Option Value), (a_list G P).drop kk = ms → kk ≤ (a_list G P).length → (fi = -1 ↔ kk = 0) → l ≤ 2000 → GR G I → TR (31 + 7 * dp) P I → RW (20 + dp) (a_list G P) I → I 17 2 = nI l →
    (ms.all (fun m => t_ok G D (a_make G P m)) = true ∧ s_sum (t_n G D) G P ms ≤ l → ∃ J, FS (dp + 1) I J ∧ J 17 2 = nI (l - s_sum (t_n G D) G P ms) ∧ J 17 3 = (s_kids (fun Q => (t_v G D Q).1) G P ms kk w fi).2 ∧ ∀ q, (pm_R (d + D + 6) 107 93 [some (.ref 17), some (.ref 9), some (.int (nI dp)), some (.ref (31 + 7 * dp)), some (.ref (20 + dp)), some (.int (nI (a_list G P).length)), some (.int w), some (.int fi), some (.int (nI kk)), y9, y10] [] (Wm I k o) q ↔ q = (.inl (some (.int (s_kids (fun Q => (t_v G D Q).1) G P ms kk w fi).1)), Wm J k o))) ∧
    (¬ (ms.all (fun m => t_ok G D (a_make G P m)) = true ∧ s_sum (t_n G D) G P ms ≤ l) → ∃ J, FS (dp + 1) I J ∧ ∀ q, (pm_R (d + D + 6) 107 93 [some (.ref 17), some (.ref 9), some (.int (nI dp)), some (.ref (31 + 7 * dp)), some (.ref (20 + dp)), some (.int (nI (a_list G P).length)), some (.int w), some (.int fi), some (.int (nI kk)), y9, y10] [] (Wm I k o) q ↔ q = (.inr 3, Wm J (k + 1) o))) := by
  intro ms
  have hlen := a_list_len hG (P := P)
  induction ms with
  | nil =>
    intro kk w fi l I y9 y10 hms hkk hfi hl hGR h hW h17
    have hk : (a_list G P).length ≤ kk := List.drop_eq_nil_iff.mp hms
    refine ⟨fun _ => ⟨pm_up I 17 3 fi, FS.u17, ?_, up_eq, fun q => ?_⟩, fun h => absurd ⟨rfl, Nat.zero_le _⟩ h⟩
    · rw [up_ne (by decide)]; exact h17
    · rw [q107_93]
      have e : (nI kk < nI (a_list G P).length) ↔ False := iff_false_intro (by rw [sm_lt (by omega) (by omega)]; omega)
      simp only [q107_95, q107_97, e, q107_200, q107_201, q107_203, q107_206, q107_208, W_1, W_I, W_mk, W_tk, pm_rv, rf_0_0, rf_0_1, rf_0_2, rf_0_3, rf_0_4, rf_0_7, rf_0_8, rf_1_0, rf_1_2, rf_3_0, rf_3_1, rf_3_6, rf_3_7, rf_3_8, rf_9_0, rf_9_1, rf_10_0, rf_10_1, rf_10_6, rf_10_7, rf_10_8, rf_17_0, rf_17_1, rf_538_2, rf_538_6, rf_538_7, rf_538_9, rf_538_11, rf_538_12, rf_538_18, rf_538_19, rf_538_22, rf_538_23, rf_538_25, rf_538_27, rf_538_28, rf_538_30, rf_538_31, rf_538_32, rf_538_33, rf_538_34, rf_538_35, rf_538_36, ob_0, ob_1, ob_3, ob_9, ob_10, ob_17, ob_538, ar_2, ar_4, ar_5, ar_6, ar_7, ar_8, ar_11, ar_12, ar_13, ar_14, ar_15, ar_16, ar_116, ar_117, ar_539, ar_540, ar_541, ar_542, ar_543, ar_544, ar_545, ar_546, ar_547, ar_548, ar_549, ar_550, ar_551, ar_552, ar_553, ar_554, ar_555, ar_556, ar_557, ar_558, ex_eq, ex_ite, pm_bk_r, pm_bk_t, ol_nil, ol_one, true_and, and_true, false_and, and_false, reduceIte, Nat.reduceEqDiff, up_at, Nat.add_left_cancel_iff]
      rfl
  | cons m ms ih =>
    intro kk w fi l I y9 y10 hms hkk hfi hl hGR h hW h17
    have hk : kk < (a_list G P).length := by
      rcases Nat.lt_or_ge kk (a_list G P).length with h | h
      · exact h
      · rw [List.drop_eq_nil_of_le h] at hms; cases hms
    have hmk : (a_list G P).getD kk (0, 0) = m ∧ (a_list G P).drop (kk + 1) = ms := by
      have e := List.drop_eq_getElem_cons hk
      rw [hms] at e
      injection e with e1 e2
      exact ⟨by rw [List.getD_eq_getElem?_getD, List.getElem?_eq_getElem hk, ← e1]; rfl, e2.symm⟩
    have hmem : m ∈ a_list G P := List.mem_of_mem_drop (by rw [hms]; exact List.mem_cons_self)
    have hmb := a_list_mem hmem
    have ht := tb_s (h := dp) (by omega)
    have ht1 := tb_s (h := dp + 1) (by omega)
    have hs : (31 + 7 * (dp + 1)) + 7 ≤ (31 + 7 * dp) ∨ (31 + 7 * dp) + 7 ≤ (31 + 7 * (dp + 1)) := by omega
    -- the copy
    obtain ⟨I1, hI1⟩ : ∃ I1, I1 = cpT (31 + 7 * (dp + 1)) (31 + 7 * dp) I := ⟨_, rfl⟩
    have fI1 : FS (dp + 1) I I1 := fun x j a b c f => by
      rw [hI1, cpT_fr hs (by omega)]
    have hT1 : TR (31 + 7 * (dp + 1)) P I1 := by rw [hI1]; exact h.copy hP.1 hs
    obtain ⟨I2, g1, g2, g3, g4⟩ := c84 (d := d + D + 1) (k := k) (o := o) ht1 hG hP hmb.1 hmb.2 (hGR.fs fI1) hT1
    have fI2 : FS (dp + 1) I I2 := fI1.trans (g3.fs (by omega))
    have h17' : I2 17 2 = nI l := by
      rw [g3 17 2 (by decide) (by decide) (by omega), hI1, cpT_fr hs (by omega)]
      exact h17
    have hIH := IH (dp + 1) (a_make G P m) l I2 (by omega) hl g2 (hGR.fs fI2) g1 h17'
    have e : (nI kk < nI (a_list G P).length) ↔ True := iff_true_intro (by rw [sm_lt (by omega) (by omega)]; omega)
    have hRa : ∀ i : Int32, pm_arr (Wm I1 k o) (20 + dp) 0 i ↔ vp_in i 192 := fun i => by
      rw [W_arr, rw_sh (20 + dp) (by omega) (Or.inr (by omega))]
      exact and_iff_right ⟨by omega, rfl⟩
    have hrow : I1 (20 + dp) kk = nI (a_enc m) := by
      rw [hI1, cpT_fr hs (by omega), hW kk hk, hmk.1]
    have hdp : nI dp + 1 = nI (dp + 1) := sm_s dp
    have hstep : ∀ q, (pm_R (d + D + 6) 107 93 [some (.ref 17), some (.ref 9), some (.int (nI dp)), some (.ref (31 + 7 * dp)), some (.ref (20 + dp)), some (.int (nI (a_list G P).length)), some (.int w), some (.int fi), some (.int (nI kk)), y9, y10] [] (Wm I k o) q ↔ ∃ r, pm_C (d + D + 6) 107 [.ref 17, .ref 9, .int (nI (dp + 1))] (Wm I2 k o) r ∧ pm_bk (fun v M' => pm_R (d + D + 6) 107 137 [some (.ref 17), some (.ref 9), some (.int (nI dp)), some (.ref (31 + 7 * dp)), some (.ref (20 + dp)), some (.int (nI (a_list G P).length)), some (.int w), some (.int fi), some (.int (nI kk)), y9, y10] (v.toList ++ []) M' q) (fun k M' => q = (.inr k, M')) r) := by
      intro q
      rw [q107_93]
      simp only [q107_95, q107_97, q107_100, q107_101, q107_104, q107_105, q107_106, q107_107, q107_108, q107_109, q107_112, q107_113, q107_114, q107_117, q107_118, q107_119, q107_120, q107_121, q107_123, q107_125, q107_126, q107_129, q107_130, q107_131, q107_132, q107_133, q107_134, e, W_1, W_I, W_mk, W_tk, pm_rv, rf_0_0, rf_0_1, rf_0_2, rf_0_3, rf_0_4, rf_0_7, rf_0_8, rf_1_0, rf_1_2, rf_3_0, rf_3_1, rf_3_6, rf_3_7, rf_3_8, rf_9_0, rf_9_1, rf_10_0, rf_10_1, rf_10_6, rf_10_7, rf_10_8, rf_17_0, rf_17_1, rf_538_2, rf_538_6, rf_538_7, rf_538_9, rf_538_11, rf_538_12, rf_538_18, rf_538_19, rf_538_22, rf_538_23, rf_538_25, rf_538_27, rf_538_28, rf_538_30, rf_538_31, rf_538_32, rf_538_33, rf_538_34, rf_538_35, rf_538_36, ob_0, ob_1, ob_3, ob_9, ob_10, ob_17, ob_538, ar_2, ar_4, ar_5, ar_6, ar_7, ar_8, ar_11, ar_12, ar_13, ar_14, ar_15, ar_16, ar_116, ar_117, ar_539, ar_540, ar_541, ar_542, ar_543, ar_544, ar_545, ar_546, ar_547, ar_548, ar_549, ar_550, ar_551, ar_552, ar_553, ar_554, ar_555, ar_556, ar_557, ar_558, ex_eq, ex_ite, pm_bk_r, pm_bk_t, ol_nil, ol_one, true_and, and_true, false_and, and_false, reduceIte, Nat.reduceEqDiff, up_at, Nat.add_left_cancel_iff, hdp, sm_in (show dp + 1 < 2147483648 by omega), show dp + 1 < 11 by omega, sm_cl (show dp + 1 < 2147483648 by omega), rf_18 (show dp + 1 < 11 by omega), pm_rv, ar_18, ar_19, vp_0, vp_1, ob_t ht1, ob_t ht, c110 (d := d + D + 5) ht1 ht hs, hI1.symm, hRa, sm_in (show kk < 2147483648 by omega), show kk < 192 by omega, sm_cl (show kk < 2147483648 by omega), hrow, g4]
    by_cases hc : t_ok G D (a_make G P m) = true ∧ t_n G D (a_make G P m) ≤ l
    · obtain ⟨J, f1, f2, f3, f4⟩ := hIH.1 hc
      have fJ : FS (dp + 1) I J := fI2.trans f1
      have hTJ : TR (31 + 7 * dp) P J := h.fs fJ
      -- behind the call
      have hgo : ∃ z9 z10, ∀ q, (pm_R (d + D + 6) 107 93 [some (.ref 17), some (.ref 9), some (.int (nI dp)), some (.ref (31 + 7 * dp)), some (.ref (20 + dp)), some (.int (nI (a_list G P).length)), some (.int w), some (.int fi), some (.int (nI kk)), y9, y10] [] (Wm I k o) q ↔ pm_R (d + D + 6) 107 93 [some (.ref 17), some (.ref 9), some (.int (nI dp)), some (.ref (31 + 7 * dp)), some (.ref (20 + dp)), some (.int (nI (a_list G P).length)), some (.int (if kk = 0 ∨ s_bet P (t_v G D (a_make G P m)).1 w = true then (t_v G D (a_make G P m)).1 else w)), some (.int (if kk = 0 ∨ s_bet P (t_v G D (a_make G P m)).1 w = true then nI kk else fi)), some (.int (nI (kk + 1))), z9, z10] [] (Wm J k o) q) := by
        have hturn : J (31 + 7 * dp) 6 = nI P.2.2.2 := hTJ.2.2.2.2.2
        have e1 : ((1 : Int32) = 0) ↔ False := by decide
        have e2 : s_bet P (t_v G D (a_make G P m)).1 w = true ↔ (if P.2.2.2 = 0 then w < (t_v G D (a_make G P m)).1 else (t_v G D (a_make G P m)).1 < w) := by
          unfold s_bet
          split <;> simp
        have e3 : (nI P.2.2.2 = 0) ↔ P.2.2.2 = 0 := by rw [show (0 : Int32) = nI 0 from rfl, sm_inj (by have := hP.2.2.2; omega) (by omega)]
        refine ⟨some (.int (t_v G D (a_make G P m)).1), some (.int (if s_bet P (t_v G D (a_make G P m)).1 w = true then 1 else 0)), fun q => ?_⟩
        rw [hstep]
        simp only [f4, ex_eq, ex_ite, pm_bk_r, pm_bk_t, ol_nil, ol_one, true_and, and_true, false_and, and_false, reduceIte, Nat.reduceEqDiff, up_at, Nat.add_left_cancel_iff, q107_137, q107_139, q107_140, ob_t ht, hturn, q107_143, W_1, W_I, W_mk, W_tk, pm_rv, rf_0_0, rf_0_1, rf_0_2, rf_0_3, rf_0_4, rf_0_7, rf_0_8, rf_1_0, rf_1_2, rf_3_0, rf_3_1, rf_3_6, rf_3_7, rf_3_8, rf_9_0, rf_9_1, rf_10_0, rf_10_1, rf_10_6, rf_10_7, rf_10_8, rf_17_0, rf_17_1, rf_538_2, rf_538_6, rf_538_7, rf_538_9, rf_538_11, rf_538_12, rf_538_18, rf_538_19, rf_538_22, rf_538_23, rf_538_25, rf_538_27, rf_538_28, rf_538_30, rf_538_31, rf_538_32, rf_538_33, rf_538_34, rf_538_35, rf_538_36, ob_0, ob_1, ob_3, ob_9, ob_10, ob_17, ob_538, ar_2, ar_4, ar_5, ar_6, ar_7, ar_8, ar_11, ar_12, ar_13, ar_14, ar_15, ar_16, ar_116, ar_117, ar_539, ar_540, ar_541, ar_542, ar_543, ar_544, ar_545, ar_546, ar_547, ar_548, ar_549, ar_550, ar_551, ar_552, ar_553, ar_554, ar_555, ar_556, ar_557, ar_558, e3]
        have fin : ∀ b : Bool, (pm_R (d + D + 6) 107 173 [some (.ref 17), some (.ref 9), some (.int (nI dp)), some (.ref (31 + 7 * dp)), some (.ref (20 + dp)), some (.int (nI (a_list G P).length)), some (.int w), some (.int fi), some (.int (nI kk)), some (.int (t_v G D (a_make G P m)).1), y10] [.int (if b = true then 1 else 0)] (Wm J k o) q ↔ pm_R (d + D + 6) 107 93 [some (.ref 17), some (.ref 9), some (.int (nI dp)), some (.ref (31 + 7 * dp)), some (.ref (20 + dp)), some (.int (nI (a_list G P).length)), some (.int (if kk = 0 ∨ b = true then (t_v G D (a_make G P m)).1 else w)), some (.int (if kk = 0 ∨ b = true then nI kk else fi)), some (.int (nI (kk + 1))), some (.int (t_v G D (a_make G P m)).1), some (.int (if b = true then 1 else 0))] [] (Wm J k o) q) := by
          intro b
          simp only [q107_173, q107_175, q107_177, q107_178, hfi]
          by_cases hk0 : kk = 0
          · simp only [hk0, reduceIte, true_or, q107_186, q107_188, q107_190, q107_192, q107_194, q107_197, show nI 0 + 1 = nI (0 + 1) from rfl]
          · cases b
            · simp (decide := true) only [hk0, reduceIte, false_or, q107_181, q107_183, q107_194, q107_197, sm_s]
            · simp (decide := true) only [hk0, reduceIte, false_or, q107_181, q107_183, q107_186, q107_188, q107_190, q107_192, q107_194, q107_197, sm_s]
        by_cases ht0 : P.2.2.2 = 0
        · simp only [ht0, reduceIte, q107_146, q107_148, q107_150] at e2 ⊢
          by_cases hb : w < (t_v G D (a_make G P m)).1
          · rw [if_pos hb] 
            simp only [q107_153, q107_154]
            rw [e2.mpr hb]
            exact fin true
          · rw [if_neg hb]
            simp only [q107_157, q107_158]
            rw [show s_bet P (t_v G D (a_make G P m)).1 w = false from Bool.eq_false_iff.mpr (fun q => hb (e2.mp q))]
            exact fin false
        · simp only [ht0, reduceIte, q107_161, q107_163, q107_165] at e2 ⊢
          by_cases hb : (t_v G D (a_make G P m)).1 < w
          · rw [if_pos hb] 
            simp only [q107_168, q107_169]
            rw [e2.mpr hb]
            exact fin true
          · rw [if_neg hb]
            simp only [q107_172]
            rw [show s_bet P (t_v G D (a_make G P m)).1 w = false from Bool.eq_false_iff.mpr (fun q => hb (e2.mp q))]
            exact fin false
      obtain ⟨z9, z10, hgo⟩ := hgo
      have hn1 : nI kk ≠ -1 := nI_m1 (by omega)
      have hfi' : ((if kk = 0 ∨ s_bet P (t_v G D (a_make G P m)).1 w = true then nI kk else fi) = -1 ↔ kk + 1 = 0) := by
        refine ⟨fun q => ?_, fun q => by omega⟩
        split at q
        · exact absurd q hn1
        · rename_i q2
          exact absurd (Or.inl (hfi.mp q)) q2
      have hr := ih (kk + 1) (if kk = 0 ∨ s_bet P (t_v G D (a_make G P m)).1 w = true then (t_v G D (a_make G P m)).1 else w) (if kk = 0 ∨ s_bet P (t_v G D (a_make G P m)).1 w = true then nI kk else fi) (l - t_n G D (a_make G P m)) J z9 z10 hmk.2 (by omega) hfi' (by omega) (hGR.fs fJ) hTJ (hW.fs (by omega) fJ) f2
      have hkid : s_kids (fun Q => (t_v G D Q).1) G P (m :: ms) kk w fi = s_kids (fun Q => (t_v G D Q).1) G P ms (kk + 1) (if kk = 0 ∨ s_bet P (t_v G D (a_make G P m)).1 w = true then (t_v G D (a_make G P m)).1 else w) (if kk = 0 ∨ s_bet P (t_v G D (a_make G P m)).1 w = true then nI kk else fi) := by
        show (if kk = 0 ∨ s_bet P (t_v G D (a_make G P m)).1 w = true then _ else _) = _
        split <;> rfl
      have hsum : s_sum (t_n G D) G P (m :: ms) = t_n G D (a_make G P m) + s_sum (t_n G D) G P ms := rfl
      have hall : (m :: ms).all (fun m => t_ok G D (a_make G P m)) = ms.all (fun m => t_ok G D (a_make G P m)) := by
        rw [List.all_cons, hc.1, Bool.true_and]
      rw [hkid, hsum, hall]
      refine ⟨fun hh => ?_, fun hh => ?_⟩
      · obtain ⟨K, a1, a2, a3, a4⟩ := hr.1 ⟨hh.1, by omega⟩
        refine ⟨K, fJ.trans a1, ?_, a3, fun q => (hgo q).trans (a4 q)⟩
        rw [a2]
        congr 1
        omega
      · obtain ⟨K, a1, a2⟩ := hr.2 (fun q => hh ⟨q.1, by omega⟩)
        exact ⟨K, fJ.trans a1, fun q => (hgo q).trans (a2 q)⟩
    · obtain ⟨J, f1, f2⟩ := hIH.2 hc
      refine ⟨fun hh => absurd ?_ hc, fun _ => ⟨J, fI2.trans f1, fun q => ?_⟩⟩
      · have h1 := hh.1
        rw [List.all_cons, Bool.and_eq_true] at h1
        have h2 : t_n G D (a_make G P m) + s_sum (t_n G D) G P ms ≤ l := hh.2
        exact ⟨h1.1, by omega⟩
      · rw [hstep]
        simp only [f2, ex_eq, ex_ite, pm_bk_r, pm_bk_t, ol_nil, ol_one, true_and, and_true, false_and, and_false, reduceIte, Nat.reduceEqDiff, up_at, Nat.add_left_cancel_iff]
theorem c107 {G : Gm} (hG : g_ok G) : ∀ D, SP d k o G D := by
  intro D
  induction D with
  | zero =>
    intro dp P l I hD hl hP hGR h h17
    have hlen := a_list_len hG (P := P)
    have hdp : dp = 10 := by omega
    subst hdp
    have ht := tb_s (h := 10) (by omega)
    obtain ⟨J, g1, g2, g3, g4, g5⟩ := c83 (d := d) (k := k) (o := o) (R := 20 + 10) ht hG hP (Or.inr (by omega)) hGR h
    have e0 : (nI (a_list G P).length = 0) ↔ (a_list G P).length = 0 := by rw [show (0 : Int32) = nI 0 from rfl, sm_inj (by omega) (by omega)]
    refine ⟨fun hh => ?_, fun hh => ?_⟩
    · have h0 : (a_list G P).length = 0 := of_decide_eq_true hh.1
      have hl0 : t_n G 0 P = 0 := h0
      refine ⟨pm_up J 17 3 (-1), (g4.fs (by omega)).trans FS.u17, ?_, up_eq, fun q => ?_⟩
      · rw [up_ne (by decide), g4 17 2 (by decide) (by decide) (by omega) (by omega), h17, hl0]; rfl
      · rw [n107]
        simp (decide := true) only [q107_0, q107_1, q107_4, q107_5, q107_6, q107_7, q107_8, q107_11, q107_12, q107_13, q107_15, q107_16, q107_17, q107_19, q107_22, q107_24, q107_26, q107_29, q107_30, q107_31, q107_34, q107_35, q107_38, q107_39, q107_40, q107_41, q107_44, q107_45, q107_46, q107_47, kc0, show (1 : Int32).toNatClampNeg = 1 from rfl, W_1, W_I, W_mk, W_tk, pm_rv, rf_0_0, rf_0_1, rf_0_2, rf_0_3, rf_0_4, rf_0_7, rf_0_8, rf_1_0, rf_1_2, rf_3_0, rf_3_1, rf_3_6, rf_3_7, rf_3_8, rf_9_0, rf_9_1, rf_10_0, rf_10_1, rf_10_6, rf_10_7, rf_10_8, rf_17_0, rf_17_1, rf_538_2, rf_538_6, rf_538_7, rf_538_9, rf_538_11, rf_538_12, rf_538_18, rf_538_19, rf_538_22, rf_538_23, rf_538_25, rf_538_27, rf_538_28, rf_538_30, rf_538_31, rf_538_32, rf_538_33, rf_538_34, rf_538_35, rf_538_36, ob_0, ob_1, ob_3, ob_9, ob_10, ob_17, ob_538, ar_2, ar_4, ar_5, ar_6, ar_7, ar_8, ar_11, ar_12, ar_13, ar_14, ar_15, ar_16, ar_116, ar_117, ar_539, ar_540, ar_541, ar_542, ar_543, ar_544, ar_545, ar_546, ar_547, ar_548, ar_549, ar_550, ar_551, ar_552, ar_553, ar_554, ar_555, ar_556, ar_557, ar_558, ob_t ht, rt_0 ht, at_0 ht, rt_1 ht, at_1 ht, rt_2 ht, at_2 ht, rt_3 ht, at_3 ht, rt_4 ht, at_4 ht, rt_5 ht, at_5 ht, ex_eq, ex_ite, pm_bk_r, pm_bk_t, ol_nil, ol_one, true_and, and_true, false_and, and_false, reduceIte, Nat.reduceEqDiff, up_at, Nat.add_left_cancel_iff, sm_in (show 10 < 2147483648 by omega), sm_cl (show 10 < 2147483648 by omega), rf_18 (show 10 < 11 by omega), rf_19 (show 10 < 11 by omega), pm_rv, ar_18, ar_19, vp_0, vp_1, g5, e0, h0, g1.2.2.2.2.1 0 (by decide), g1.2.2.2.2.1 1 (by decide)]
        rfl
    · have h0 : ¬ (a_list G P).length = 0 := fun q => hh ⟨decide_eq_true q, by show (a_list G P).length ≤ l; omega⟩
      have h17' : J 17 2 = nI l := by rw [g4 17 2 (by decide) (by decide) (by omega) (by omega)]; exact h17
      refine ⟨J, g4.fs (by omega), fun q => ?_⟩
      rw [n107]
      simp (decide := true) only [q107_0, q107_1, q107_4, q107_5, q107_6, q107_7, q107_8, q107_11, q107_12, q107_13, q107_15, q107_16, q107_17, q107_19, q107_22, q107_24, q107_26, q107_29, q107_30, q107_31, q107_34, q107_35, q107_38, q107_39, q107_40, q107_41, q107_44, q107_45, q107_46, q107_47, q107_48, q107_50, q107_51, q107_54, q107_57, q107_58, q107_60, W_1, W_I, W_mk, W_tk, pm_rv, rf_0_0, rf_0_1, rf_0_2, rf_0_3, rf_0_4, rf_0_7, rf_0_8, rf_1_0, rf_1_2, rf_3_0, rf_3_1, rf_3_6, rf_3_7, rf_3_8, rf_9_0, rf_9_1, rf_10_0, rf_10_1, rf_10_6, rf_10_7, rf_10_8, rf_17_0, rf_17_1, rf_538_2, rf_538_6, rf_538_7, rf_538_9, rf_538_11, rf_538_12, rf_538_18, rf_538_19, rf_538_22, rf_538_23, rf_538_25, rf_538_27, rf_538_28, rf_538_30, rf_538_31, rf_538_32, rf_538_33, rf_538_34, rf_538_35, rf_538_36, ob_0, ob_1, ob_3, ob_9, ob_10, ob_17, ob_538, ar_2, ar_4, ar_5, ar_6, ar_7, ar_8, ar_11, ar_12, ar_13, ar_14, ar_15, ar_16, ar_116, ar_117, ar_539, ar_540, ar_541, ar_542, ar_543, ar_544, ar_545, ar_546, ar_547, ar_548, ar_549, ar_550, ar_551, ar_552, ar_553, ar_554, ar_555, ar_556, ar_557, ar_558, ob_t ht, rt_0 ht, at_0 ht, rt_1 ht, at_1 ht, rt_2 ht, at_2 ht, rt_3 ht, at_3 ht, rt_4 ht, at_4 ht, rt_5 ht, at_5 ht, ex_eq, ex_ite, pm_bk_r, pm_bk_t, ol_nil, ol_one, true_and, and_true, false_and, and_false, reduceIte, Nat.reduceEqDiff, up_at, Nat.add_left_cancel_iff, sm_in (show 10 < 2147483648 by omega), sm_cl (show 10 < 2147483648 by omega), rf_18 (show 10 < 11 by omega), rf_19 (show 10 < 11 by omega), pm_rv, ar_18, ar_19, vp_0, vp_1, g5, e0, h0, h17', q107_63, W_tk, ite_same]
  | succ D IH =>
    intro dp P l I hD hl hP hGR h h17
    have hlen := a_list_len hG (P := P)
    have ht := tb_s (h := dp) (by omega)
    obtain ⟨J, g1, g2, g3, g4, g5⟩ := c83 (d := d + D + 1) (k := k) (o := o) (R := 20 + dp) ht hG hP (Or.inr (by omega)) hGR h
    have e0 : (nI (a_list G P).length = 0) ↔ (a_list G P).length = 0 := by rw [show (0 : Int32) = nI 0 from rfl, sm_inj (by omega) (by omega)]
    have h17' : J 17 2 = nI l := by rw [g4 17 2 (by decide) (by decide) (by omega) (by omega)]; exact h17
    have e10 : (nI dp < 10) ↔ True := iff_true_intro (by rw [show (10 : Int32) = nI 10 from rfl, sm_lt (by omega) (by omega)]; omega)
    have hopen : ∀ q, (pm_C (d + (D + 1) + 6) 107 [.ref 17, .ref 9, .int (nI dp)] (Wm I k o) q ↔ pm_R (d + D + 6) 107 24 [some (.ref 17), some (.ref 9), some (.int (nI dp)), some (.ref (31 + 7 * dp)), some (.ref (20 + dp)), some (.int (nI (a_list G P).length)), none, none, none, none, none] [] (Wm J k o) q) := by
      intro q
      rw [show d + (D + 1) + 6 = (d + D + 6) + 1 by omega, n107]
      simp only [q107_0, q107_1, q107_4, q107_5, q107_6, q107_7, q107_8, q107_11, q107_12, q107_13, q107_15, q107_16, q107_17, q107_19, q107_22, W_1, W_I, W_mk, W_tk, pm_rv, rf_0_0, rf_0_1, rf_0_2, rf_0_3, rf_0_4, rf_0_7, rf_0_8, rf_1_0, rf_1_2, rf_3_0, rf_3_1, rf_3_6, rf_3_7, rf_3_8, rf_9_0, rf_9_1, rf_10_0, rf_10_1, rf_10_6, rf_10_7, rf_10_8, rf_17_0, rf_17_1, rf_538_2, rf_538_6, rf_538_7, rf_538_9, rf_538_11, rf_538_12, rf_538_18, rf_538_19, rf_538_22, rf_538_23, rf_538_25, rf_538_27, rf_538_28, rf_538_30, rf_538_31, rf_538_32, rf_538_33, rf_538_34, rf_538_35, rf_538_36, ob_0, ob_1, ob_3, ob_9, ob_10, ob_17, ob_538, ar_2, ar_4, ar_5, ar_6, ar_7, ar_8, ar_11, ar_12, ar_13, ar_14, ar_15, ar_16, ar_116, ar_117, ar_539, ar_540, ar_541, ar_542, ar_543, ar_544, ar_545, ar_546, ar_547, ar_548, ar_549, ar_550, ar_551, ar_552, ar_553, ar_554, ar_555, ar_556, ar_557, ar_558, ob_t ht, rt_0 ht, at_0 ht, rt_1 ht, at_1 ht, rt_2 ht, at_2 ht, rt_3 ht, at_3 ht, rt_4 ht, at_4 ht, rt_5 ht, at_5 ht, ex_eq, ex_ite, pm_bk_r, pm_bk_t, ol_nil, ol_one, true_and, and_true, false_and, and_false, reduceIte, Nat.reduceEqDiff, up_at, Nat.add_left_cancel_iff, sm_in (show dp < 2147483648 by omega), show dp < 11 by omega, sm_cl (show dp < 2147483648 by omega), rf_18 (show dp < 11 by omega), rf_19 (show dp < 11 by omega), pm_rv, ar_18, ar_19, vp_0, vp_1, show d + D + 6 = (d + D + 1) + 5 by omega, g5]
    by_cases h0 : (a_list G P).length = 0
    · have hnil : a_list G P = [] := List.eq_nil_of_length_eq_zero h0
      have hok : t_ok G (D + 1) P = true := by show (a_list G P).all _ = true; rw [hnil]; rfl
      have hn0 : t_n G (D + 1) P = 0 := by show (a_list G P).length + s_sum (t_n G D) G P (a_list G P) = 0; rw [hnil]; rfl
      have hv : t_v G (D + 1) P = (s_sc P, -1) := if_pos h0
      rw [hok, hn0, hv]
      refine ⟨fun _ => ⟨pm_up J 17 3 (-1), (g4.fs (by omega)).trans FS.u17, ?_, up_eq, fun q => ?_⟩, fun hh => absurd ⟨rfl, Nat.zero_le _⟩ hh⟩
      · rw [up_ne (by decide)]; exact h17'
      · rw [hopen]
        simp (decide := true) only [q107_24, q107_26, q107_29, q107_30, q107_31, q107_34, q107_35, q107_38, q107_39, q107_40, q107_41, q107_44, q107_45, q107_46, q107_47, vp_0, vp_1, kc0, show (1 : Int32).toNatClampNeg = 1 from rfl, W_1, W_I, W_mk, W_tk, pm_rv, rf_0_0, rf_0_1, rf_0_2, rf_0_3, rf_0_4, rf_0_7, rf_0_8, rf_1_0, rf_1_2, rf_3_0, rf_3_1, rf_3_6, rf_3_7, rf_3_8, rf_9_0, rf_9_1, rf_10_0, rf_10_1, rf_10_6, rf_10_7, rf_10_8, rf_17_0, rf_17_1, rf_538_2, rf_538_6, rf_538_7, rf_538_9, rf_538_11, rf_538_12, rf_538_18, rf_538_19, rf_538_22, rf_538_23, rf_538_25, rf_538_27, rf_538_28, rf_538_30, rf_538_31, rf_538_32, rf_538_33, rf_538_34, rf_538_35, rf_538_36, ob_0, ob_1, ob_3, ob_9, ob_10, ob_17, ob_538, ar_2, ar_4, ar_5, ar_6, ar_7, ar_8, ar_11, ar_12, ar_13, ar_14, ar_15, ar_16, ar_116, ar_117, ar_539, ar_540, ar_541, ar_542, ar_543, ar_544, ar_545, ar_546, ar_547, ar_548, ar_549, ar_550, ar_551, ar_552, ar_553, ar_554, ar_555, ar_556, ar_557, ar_558, ob_t ht, rt_0 ht, at_0 ht, rt_1 ht, at_1 ht, rt_2 ht, at_2 ht, rt_3 ht, at_3 ht, rt_4 ht, at_4 ht, rt_5 ht, at_5 ht, ex_eq, ex_ite, pm_bk_r, pm_bk_t, ol_nil, ol_one, true_and, and_true, false_and, and_false, reduceIte, Nat.reduceEqDiff, up_at, Nat.add_left_cancel_iff, e0, h0, g1.2.2.2.2.1 0 (by decide), g1.2.2.2.2.1 1 (by decide)]
        rfl
    · have hok : t_ok G (D + 1) P = (a_list G P).all (fun m => t_ok G D (a_make G P m)) := rfl
      have hn0 : t_n G (D + 1) P = (a_list G P).length + s_sum (t_n G D) G P (a_list G P) := rfl
      have hv : t_v G (D + 1) P = s_kids (fun Q => (t_v G D Q).1) G P (a_list G P) 0 0 (-1) := if_neg h0
      rw [hok, hn0, hv]
      have elt : (nI l < nI (a_list G P).length) ↔ l < (a_list G P).length := sm_lt (by omega) (by omega)
      by_cases hle : l < (a_list G P).length
      · refine ⟨fun hh => by omega, fun _ => ⟨J, g4.fs (by omega), fun q => ?_⟩⟩
        rw [hopen]
        simp only [q107_24, q107_26, q107_29, q107_30, q107_31, q107_34, q107_35, q107_38, q107_39, q107_40, q107_41, q107_44, q107_45, q107_46, q107_47, q107_48, q107_50, q107_51, q107_54, W_1, W_I, W_mk, W_tk, pm_rv, rf_0_0, rf_0_1, rf_0_2, rf_0_3, rf_0_4, rf_0_7, rf_0_8, rf_1_0, rf_1_2, rf_3_0, rf_3_1, rf_3_6, rf_3_7, rf_3_8, rf_9_0, rf_9_1, rf_10_0, rf_10_1, rf_10_6, rf_10_7, rf_10_8, rf_17_0, rf_17_1, rf_538_2, rf_538_6, rf_538_7, rf_538_9, rf_538_11, rf_538_12, rf_538_18, rf_538_19, rf_538_22, rf_538_23, rf_538_25, rf_538_27, rf_538_28, rf_538_30, rf_538_31, rf_538_32, rf_538_33, rf_538_34, rf_538_35, rf_538_36, ob_0, ob_1, ob_3, ob_9, ob_10, ob_17, ob_538, ar_2, ar_4, ar_5, ar_6, ar_7, ar_8, ar_11, ar_12, ar_13, ar_14, ar_15, ar_16, ar_116, ar_117, ar_539, ar_540, ar_541, ar_542, ar_543, ar_544, ar_545, ar_546, ar_547, ar_548, ar_549, ar_550, ar_551, ar_552, ar_553, ar_554, ar_555, ar_556, ar_557, ar_558, ex_eq, ex_ite, pm_bk_r, pm_bk_t, ol_nil, ol_one, true_and, and_true, false_and, and_false, reduceIte, Nat.reduceEqDiff, up_at, Nat.add_left_cancel_iff, e0, h0, h17', elt, hle, q107_63, W_tk]
      · have hsub : nI l - nI (a_list G P).length = nI (l - (a_list G P).length) := sm_sub (by omega)
        let J1 := pm_up J 17 2 (nI (l - (a_list G P).length))
        have fJ1 : FS dp I J1 := (g4.fs (by omega)).trans FS.u17
        have hr := c107_l hG (by omega) IH hP (a_list G P) 0 0 (-1) (l - (a_list G P).length) J1 none none rfl (Nat.zero_le _) (by simp) (by omega) (hGR.fs fJ1) (g1.fs FS.u17) (g3.fs (by omega) FS.u17) up_eq
        rw [show nI 0 = (0 : Int32) from rfl] at hr
        have hopen2 : ∀ q, (pm_C (d + (D + 1) + 6) 107 [.ref 17, .ref 9, .int (nI dp)] (Wm I k o) q ↔ pm_R (d + D + 6) 107 93 [some (.ref 17), some (.ref 9), some (.int (nI dp)), some (.ref (31 + 7 * dp)), some (.ref (20 + dp)), some (.int (nI (a_list G P).length)), some (.int 0), some (.int (-1)), some (.int 0), none, none] [] (Wm J1 k o) q) := by
          intro q
          rw [hopen]
          simp only [q107_24, q107_26, q107_29, q107_30, q107_31, q107_34, q107_35, q107_38, q107_39, q107_40, q107_41, q107_44, q107_45, q107_46, q107_47, q107_48, q107_50, q107_51, q107_54, q107_57, q107_58, q107_60, q107_73, q107_74, q107_75, q107_78, q107_80, q107_81, q107_84, q107_85, q107_87, q107_88, q107_90, q107_91, W_1, W_I, W_mk, W_tk, pm_rv, rf_0_0, rf_0_1, rf_0_2, rf_0_3, rf_0_4, rf_0_7, rf_0_8, rf_1_0, rf_1_2, rf_3_0, rf_3_1, rf_3_6, rf_3_7, rf_3_8, rf_9_0, rf_9_1, rf_10_0, rf_10_1, rf_10_6, rf_10_7, rf_10_8, rf_17_0, rf_17_1, rf_538_2, rf_538_6, rf_538_7, rf_538_9, rf_538_11, rf_538_12, rf_538_18, rf_538_19, rf_538_22, rf_538_23, rf_538_25, rf_538_27, rf_538_28, rf_538_30, rf_538_31, rf_538_32, rf_538_33, rf_538_34, rf_538_35, rf_538_36, ob_0, ob_1, ob_3, ob_9, ob_10, ob_17, ob_538, ar_2, ar_4, ar_5, ar_6, ar_7, ar_8, ar_11, ar_12, ar_13, ar_14, ar_15, ar_16, ar_116, ar_117, ar_539, ar_540, ar_541, ar_542, ar_543, ar_544, ar_545, ar_546, ar_547, ar_548, ar_549, ar_550, ar_551, ar_552, ar_553, ar_554, ar_555, ar_556, ar_557, ar_558, ex_eq, ex_ite, pm_bk_r, pm_bk_t, ol_nil, ol_one, true_and, and_true, false_and, and_false, reduceIte, Nat.reduceEqDiff, up_at, Nat.add_left_cancel_iff, e0, h0, h17', elt, hle, e10, hsub]
          exact Iff.rfl
        refine ⟨fun hh => ?_, fun hh => ?_⟩
        · obtain ⟨K, a1, a2, a3, a4⟩ := hr.1 ⟨hh.1, by omega⟩
          refine ⟨K, fJ1.trans (a1.up (by omega)), ?_, a3, fun q => (hopen2 q).trans (a4 q)⟩
          rw [a2]
          congr 1
          omega
        · obtain ⟨K, a1, a2⟩ := hr.2 (fun q => hh ⟨q.1, by omega⟩)
          exact ⟨K, fJ1.trans (a1.up (by omega)), fun q => (hopen2 q).trans (a2 q)⟩
theorem c106 {G : Gm} (hG : g_ok G) {P : Pos} {b : Nat} {I : Nat → Nat → Int32} (h1 : 1 ≤ b) (hb : b ≤ 2000) (hP : PA (g_n G) P) (hGR : GR G I) (h : TR 108 P I) :
    (t_ok G 10 P = true ∧ t_n G 10 P < b → ∃ J, FS 0 I J ∧ J 17 3 = (t_v G 10 P).2 ∧ ∀ q, (pm_C (d + 17) 106 [.ref 17, .ref 9, .ref 108, .int (nI b)] (Wm I k o) q ↔ q = (.inl (some (.int (t_v G 10 P).1)), Wm J k o))) ∧
    (¬ (t_ok G 10 P = true ∧ t_n G 10 P < b) → ∃ J, FS 0 I J ∧ ∀ q, (pm_C (d + 17) 106 [.ref 17, .ref 9, .ref 108, .int (nI b)] (Wm I k o) q ↔ q = (.inr 3, Wm J (k + 1) o))) := by
  have ht := tb_s (h := 0) (by omega)
  have hs : (31 + 7 * 0) + 7 ≤ 108 ∨ 108 + 7 ≤ (31 + 7 * 0) := by omega
  let I1 := cpT (31 + 7 * 0) 108 (pm_up I 17 2 (nI (b - 1)))
  have fI1 : FS 0 I I1 := fun x j a b c f => by
    show cpT _ _ _ x j = I x j
    rw [cpT_fr hs (by omega), up_ne (fun q => c q.1)]
  have hr := c107 (d := d) (k := k) (o := o) hG 10 0 P (b - 1) I1 (by omega) (by omega) hP (hGR.fs fI1) (TR.copy (h.congr (up_ne (by decide)) (fun x h1 h2 => by funext j; exact up_ne (fun q => by omega))) hP.1 hs) (by
    show cpT _ _ _ 17 2 = _
    rw [cpT_fr hs (by omega)]
    exact up_eq)
  have hopen : ∀ q, (pm_C (d + 17) 106 [.ref 17, .ref 9, .ref 108, .int (nI b)] (Wm I k o) q ↔ ∃ r, pm_C (d + 16) 107 [.ref 17, .ref 9, .int (nI 0)] (Wm I1 k o) r ∧ pm_bk (fun v M' => pm_R (d + 16) 106 23 [some (.ref 17), some (.ref 9), some (.ref 108), some (.int (nI b))] (v.toList ++ []) M' q) (fun k M' => q = (.inr k, M')) r) := by
    intro q
    have e : nI b - 1 = nI (b - 1) := by rw [show (1 : Int32) = nI 1 from rfl, sm_sub h1]
    rw [n106]
    simp (decide := true) only [q106_0, q106_1, q106_2, q106_3, q106_4, q106_7, q106_8, q106_11, q106_12, q106_13, q106_14, q106_17, q106_18, q106_19, q106_20, kc0, W_1, W_I, W_mk, W_tk, pm_rv, rf_0_0, rf_0_1, rf_0_2, rf_0_3, rf_0_4, rf_0_7, rf_0_8, rf_1_0, rf_1_2, rf_3_0, rf_3_1, rf_3_6, rf_3_7, rf_3_8, rf_9_0, rf_9_1, rf_10_0, rf_10_1, rf_10_6, rf_10_7, rf_10_8, rf_17_0, rf_17_1, rf_538_2, rf_538_6, rf_538_7, rf_538_9, rf_538_11, rf_538_12, rf_538_18, rf_538_19, rf_538_22, rf_538_23, rf_538_25, rf_538_27, rf_538_28, rf_538_30, rf_538_31, rf_538_32, rf_538_33, rf_538_34, rf_538_35, rf_538_36, ob_0, ob_1, ob_3, ob_9, ob_10, ob_17, ob_538, ar_2, ar_4, ar_5, ar_6, ar_7, ar_8, ar_11, ar_12, ar_13, ar_14, ar_15, ar_16, ar_116, ar_117, ar_539, ar_540, ar_541, ar_542, ar_543, ar_544, ar_545, ar_546, ar_547, ar_548, ar_549, ar_550, ar_551, ar_552, ar_553, ar_554, ar_555, ar_556, ar_557, ar_558, ex_eq, ex_ite, pm_bk_r, pm_bk_t, ol_nil, ol_one, true_and, and_true, false_and, and_false, reduceIte, Nat.reduceEqDiff, up_at, Nat.add_left_cancel_iff, e, rf_18 (show 0 < 11 by omega), pm_rv, ar_18, ar_19, vp_0, vp_1, ob_t ht, c110 (d := d + 15) ht tb_108 hs]
    exact Iff.rfl
  refine ⟨fun hh => ?_, fun hh => ?_⟩
  · obtain ⟨K, a1, a2, a3, a4⟩ := hr.1 ⟨hh.1, by omega⟩
    refine ⟨K, fI1.trans a1, a3, fun q => ?_⟩
    rw [hopen]
    simp only [a4, ex_eq, ex_ite, pm_bk_r, pm_bk_t, ol_nil, ol_one, true_and, and_true, false_and, and_false, reduceIte, Nat.reduceEqDiff, up_at, Nat.add_left_cancel_iff, q106_23]
  · obtain ⟨K, a1, a2⟩ := hr.2 (fun q => hh ⟨q.1, by omega⟩)
    refine ⟨K, fI1.trans a1, fun q => ?_⟩
    rw [hopen]
    simp only [a2, ex_eq, ex_ite, pm_bk_r, pm_bk_t, ol_nil, ol_one, true_and, and_true, false_and, and_false, reduceIte, Nat.reduceEqDiff, up_at, Nat.add_left_cancel_iff]
end SOL
