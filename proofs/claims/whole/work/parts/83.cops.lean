/-! THE CLASS: its other calls -/
section COQ
variable {d k : Nat} {o : Int64} {S : AS} {I : Nat → Nat → Int32}
theorem k15 (hA : AOK S) (h : CI S I) : COK (o_undo S) (.inl (bI (decide (¬ S.2.2.2.1.length = 0)))) I k o (fun M q => pm_C (d + 2) 15 [.ref 0] M q) := by
  have h60 := hA.2.2.1
  have h5 := h.2.2.2.1
  unfold o_undo
  by_cases h0 : S.2.2.2.1.length = 0
  · rw [if_pos h0]
    have e0 : I 0 5 = 0 := by rw [h5, h0]; rfl
    refine ⟨I, h, fun _ _ => rfl, fun q => ?_⟩
    show pm_C (d + 2) 15 _ _ q ↔ _
    rw [n15, decide_eq_false (by simpa using h0)]
    simp (decide := true) only [q15_0, q15_1, q15_4, q15_7, q15_8, q15_9, q15_10, q15_11, q15_14, q15_15, q15_16, q15_19, q15_20, q15_23, q15_24, q15_27, q15_28, q15_31, q15_32, q15_35, q15_36, q15_37, q15_40, q15_41, W_1, W_I, W_mk, W_tk, pm_rv, rf_0_0, rf_0_1, rf_0_2, rf_0_3, rf_0_4, rf_0_7, rf_0_8, rf_1_0, rf_1_2, rf_3_0, rf_3_1, rf_3_6, rf_3_7, rf_3_8, rf_9_0, rf_9_1, rf_10_0, rf_10_1, rf_10_6, rf_10_7, rf_10_8, rf_17_0, rf_17_1, rf_538_2, rf_538_6, rf_538_7, rf_538_9, rf_538_11, rf_538_12, rf_538_18, rf_538_19, rf_538_22, rf_538_23, rf_538_25, rf_538_27, rf_538_28, rf_538_30, rf_538_31, rf_538_32, rf_538_33, rf_538_34, rf_538_35, rf_538_36, ob_0, ob_1, ob_3, ob_9, ob_10, ob_17, ob_538, ar_2, ar_4, ar_5, ar_6, ar_7, ar_8, ar_11, ar_12, ar_13, ar_14, ar_15, ar_16, ar_116, ar_117, ar_539, ar_540, ar_541, ar_542, ar_543, ar_544, ar_545, ar_546, ar_547, ar_548, ar_549, ar_550, ar_551, ar_552, ar_553, ar_554, ar_555, ar_556, ar_557, ar_558, ex_eq, ex_ite, pm_bk_r, pm_bk_t, ol_nil, ol_one, true_and, and_true, false_and, and_false, reduceIte, Nat.reduceEqDiff, up_at, Nat.add_left_cancel_iff, e0, rfin, bI]
  · rw [if_neg h0]
    obtain ⟨n, hn⟩ : ∃ n, n = S.2.2.2.1.length - 1 := ⟨_, rfl⟩
    have hlen : S.2.2.2.1.length = n + 1 := by omega
    rw [← hn]
    have ht := tb_h (h := n) (by omega)
    have hs : 108 + 7 ≤ 118 + 7 * n ∨ (118 + 7 * n) + 7 ≤ 108 := by omega
    have hT := h.2.2.2.2.2.1 n (by omega)
    have hPD : PD (S.2.2.2.1.getD n a_nil) := by
      cases hD : S.2.2.1 with
      | none =>
        have := hA.2.2.2.1 hD
        rw [this] at h0
        exact absurd rfl h0
      | some P =>
        obtain ⟨G, -, -, h3⟩ := hA.2.2.2.2 P hD
        exact (h3 n (by omega)).1
    have hdealt : I 0 6 = 1 := by
      rw [h.2.2.1]
      cases hD : S.2.2.1 with
      | none =>
        have := hA.2.2.2.1 hD
        rw [this] at h0
        exact absurd rfl h0
      | some P => rfl
    obtain ⟨J1, hJ1⟩ : ∃ J1, J1 = pm_up I 0 5 (nI n) := ⟨_, rfl⟩
    obtain ⟨J2, hJ2⟩ : ∃ J2, J2 = cpT 108 (118 + 7 * n) J1 := ⟨_, rfl⟩
    obtain ⟨J3, hJ3⟩ : ∃ J3, J3 = pm_up J2 0 9 (-1) := ⟨_, rfl⟩
    have f2 : ∀ x, x < 108 ∨ 114 < x → J2 x = J1 x := fun x hx => by rw [hJ2]; exact cpT_fr hs (by omega)
    have s3 : ∀ x j, ¬ (x = 0 ∧ (j = 5 ∨ j = 9)) → (x < 108 ∨ 114 < x) → J3 x j = I x j := fun x j a b => by rw [hJ3, up_ne (by omega), f2 x b, hJ1, up_ne (by omega)]
    have hT1 : TR (118 + 7 * n) (S.2.2.2.1.getD n a_nil) J1 := hT.eq (fun x a b => by rw [hJ1, up_row (by omega)])
    have hTt : ∀ h', h' < n → (S.2.2.2.1.take n).getD h' a_nil = S.2.2.2.1.getD h' a_nil := fun h' hh' => by
      rw [List.getD_eq_getElem?_getD, List.getElem?_take_of_lt hh', ← List.getD_eq_getElem?_getD]
    have hlt : (S.2.2.2.1.take n).length = n := by rw [List.length_take]; omega
    refine ⟨J3, ⟨?_, ?_, ?_, ?_, fun P' hP' => ?_, fun h' hh' => ?_, ?_⟩, ?_, fun q => ?_⟩
    · exact h.1.eq (s3 _ _ (by omega) (by omega)) (by funext j; exact s3 _ _ (by omega) (by omega))
    · exact h.2.1.eq (fun x a b => by funext j; exact s3 _ _ (by omega) (by omega))
    · show J3 0 6 = bI true
      rw [s3 _ _ (by omega) (by omega)]; exact hdealt
    · show J3 0 5 = nI (S.2.2.2.1.take n).length
      rw [hlt, hJ3, up_ne (by omega), f2 0 (by omega), hJ1, up_eq]
    · injection hP' with hP'
      rw [← hP']
      have : TR 108 (S.2.2.2.1.getD n a_nil) J2 := by rw [hJ2]; exact hT1.copy hPD hs
      exact this.eq (fun x a b => by rw [hJ3, up_row (by omega)])
    · have hh' : h' < (S.2.2.2.1.take n).length := hh'
      rw [hlt] at hh'
      show TR (118 + 7 * h') ((S.2.2.2.1.take n).getD h' a_nil) J3
      rw [hTt h' hh']
      exact (h.2.2.2.2.2.1 h' (by omega)).eq (fun x a b => by funext j; exact s3 _ _ (by omega) (by omega))
    · show J3 0 9 = -1
      rw [hJ3, up_eq]
    · intro x hx
      funext j
      exact s3 _ _ (by omega) (by omega)
    · show pm_C (d + 2) 15 _ _ q ↔ _
      have e5 : I 0 5 = nI (n + 1) := by rw [h5, hlen]
      have e0 : (nI (n + 1) = 0) ↔ False := iff_false_intro (by rw [nI_eq0 (by omega)]; omega)
      have em : nI (n + 1) - 1 = nI n := by rw [show (1 : Int32) = nI 1 from rfl, sm_sub (by omega)]; rfl
      rw [n15, decide_eq_true (by simpa using h0)]
      simp (decide := true) only [q15_0, q15_1, q15_4, q15_7, q15_8, q15_9, q15_10, q15_11, q15_14, q15_15, q15_16, q15_19, q15_20, q15_23, q15_24, q15_27, q15_28, q15_31, q15_32, q15_35, q15_36, q15_37, q15_40, q15_41, W_1, W_I, W_mk, W_tk, pm_rv, rf_0_0, rf_0_1, rf_0_2, rf_0_3, rf_0_4, rf_0_7, rf_0_8, rf_1_0, rf_1_2, rf_3_0, rf_3_1, rf_3_6, rf_3_7, rf_3_8, rf_9_0, rf_9_1, rf_10_0, rf_10_1, rf_10_6, rf_10_7, rf_10_8, rf_17_0, rf_17_1, rf_538_2, rf_538_6, rf_538_7, rf_538_9, rf_538_11, rf_538_12, rf_538_18, rf_538_19, rf_538_22, rf_538_23, rf_538_25, rf_538_27, rf_538_28, rf_538_30, rf_538_31, rf_538_32, rf_538_33, rf_538_34, rf_538_35, rf_538_36, ob_0, ob_1, ob_3, ob_9, ob_10, ob_17, ob_538, ar_2, ar_4, ar_5, ar_6, ar_7, ar_8, ar_11, ar_12, ar_13, ar_14, ar_15, ar_16, ar_116, ar_117, ar_539, ar_540, ar_541, ar_542, ar_543, ar_544, ar_545, ar_546, ar_547, ar_548, ar_549, ar_550, ar_551, ar_552, ar_553, ar_554, ar_555, ar_556, ar_557, ar_558, ex_eq, ex_ite, pm_bk_r, pm_bk_t, ol_nil, ol_one, true_and, and_true, false_and, and_false, reduceIte, Nat.reduceEqDiff, up_at, Nat.add_left_cancel_iff, e5, e0, em, ar_115, sm_in (show n < 2147483648 by omega), show n < 60 by omega, sm_cl (show n < 2147483648 by omega), rf_115 (show n < 60 by omega), pm_rv, ob_t tb_108, c110 (d := d) tb_108 ht hs, rfin, bI]
      rw [hJ3, hJ2, hJ1]
theorem p6 {p : Int32} (h1 : ¬ p < 0) (h2 : p < 6) : p = nI p.toNatClampNeg ∧ p.toNatClampNeg < 6 := by
  have hn := nn_nI h1
  refine ⟨hn.1, ?_⟩
  have h2 : p < nI 6 := h2
  rw [hn.1, sm_lt hn.2 (by omega)] at h2
  exact h2
theorem k8 (hA : AOK S) (h : CI S I) {c p : Int32} : COK (o_put S c p).1 (.inl (bI (o_put S c p).2)) I k o (fun M q => pm_C (d + 3) 8 [.ref 0, .int c, .int p] M q) := by
  have h6 := h.2.2.1
  cases hD : S.2.2.1 with
  | none =>
    rw [hD] at h6
    have h6 : I 0 6 = 0 := h6
    have ho : o_put S c p = (S, false) := by unfold o_put; rw [hD]; cases S.2.1 <;> rfl
    rw [ho]
    refine ⟨I, h, fun _ _ => rfl, fun q => ?_⟩
    show pm_C (d + 3) 8 _ _ q ↔ _
    rw [n8]
    simp (decide := true) only [q8_0, q8_1, q8_4, q8_7, q8_8, q8_11, q8_12, q8_13, q8_16, q8_19, q8_22, q8_25, q8_26, q8_29, q8_30, q8_32, q8_35, q8_36, q8_37, q8_38, q8_41, q8_42, q8_43, q8_46, q8_47, q8_48, q8_51, q8_52, W_1, W_I, W_mk, W_tk, pm_rv, rf_0_0, rf_0_1, rf_0_2, rf_0_3, rf_0_4, rf_0_7, rf_0_8, rf_1_0, rf_1_2, rf_3_0, rf_3_1, rf_3_6, rf_3_7, rf_3_8, rf_9_0, rf_9_1, rf_10_0, rf_10_1, rf_10_6, rf_10_7, rf_10_8, rf_17_0, rf_17_1, rf_538_2, rf_538_6, rf_538_7, rf_538_9, rf_538_11, rf_538_12, rf_538_18, rf_538_19, rf_538_22, rf_538_23, rf_538_25, rf_538_27, rf_538_28, rf_538_30, rf_538_31, rf_538_32, rf_538_33, rf_538_34, rf_538_35, rf_538_36, ob_0, ob_1, ob_3, ob_9, ob_10, ob_17, ob_538, ar_2, ar_4, ar_5, ar_6, ar_7, ar_8, ar_11, ar_12, ar_13, ar_14, ar_15, ar_16, ar_116, ar_117, ar_539, ar_540, ar_541, ar_542, ar_543, ar_544, ar_545, ar_546, ar_547, ar_548, ar_549, ar_550, ar_551, ar_552, ar_553, ar_554, ar_555, ar_556, ar_557, ar_558, ex_eq, ex_ite, pm_bk_r, pm_bk_t, ol_nil, ol_one, true_and, and_true, false_and, and_false, reduceIte, Nat.reduceEqDiff, up_at, Nat.add_left_cancel_iff, h6, rfin, bI]
  | some P =>
    rw [hD] at h6
    have h6 : I 0 6 = 1 := h6
    obtain ⟨G, hG, hok, hPA⟩ := hA.g hD
    have hgr : GR G I := by have := h.2.1; rw [hG] at this; exact this
    have h3 : I 10 3 = nI (g_n G) := hgr.2.1
    have hn := g_n24 hok
    have ho : o_put S c p = if (¬ c < 0 ∧ c < nI (g_n G)) ∧ (¬ p < 0 ∧ p < 6) then ((S.1, some G, some (a_go P c.toNatClampNeg p.toNatClampNeg), S.2.2.2.1, -1), true) else (S, false) := by unfold o_put; rw [hG, hD]
    rw [ho]
    by_cases c0 : c < 0
    · rw [if_neg (fun q => q.1.1 c0)]
      refine ⟨I, h, fun _ _ => rfl, fun q => ?_⟩
      show pm_C (d + 3) 8 _ _ q ↔ _
      rw [n8]
      simp (decide := true) only [q8_0, q8_1, q8_4, q8_7, q8_8, q8_11, q8_12, q8_13, q8_16, q8_19, q8_22, q8_25, q8_26, q8_29, q8_30, q8_32, q8_35, q8_36, q8_37, q8_38, q8_41, q8_42, q8_43, q8_46, q8_47, q8_48, q8_51, q8_52, W_1, W_I, W_mk, W_tk, pm_rv, rf_0_0, rf_0_1, rf_0_2, rf_0_3, rf_0_4, rf_0_7, rf_0_8, rf_1_0, rf_1_2, rf_3_0, rf_3_1, rf_3_6, rf_3_7, rf_3_8, rf_9_0, rf_9_1, rf_10_0, rf_10_1, rf_10_6, rf_10_7, rf_10_8, rf_17_0, rf_17_1, rf_538_2, rf_538_6, rf_538_7, rf_538_9, rf_538_11, rf_538_12, rf_538_18, rf_538_19, rf_538_22, rf_538_23, rf_538_25, rf_538_27, rf_538_28, rf_538_30, rf_538_31, rf_538_32, rf_538_33, rf_538_34, rf_538_35, rf_538_36, ob_0, ob_1, ob_3, ob_9, ob_10, ob_17, ob_538, ar_2, ar_4, ar_5, ar_6, ar_7, ar_8, ar_11, ar_12, ar_13, ar_14, ar_15, ar_16, ar_116, ar_117, ar_539, ar_540, ar_541, ar_542, ar_543, ar_544, ar_545, ar_546, ar_547, ar_548, ar_549, ar_550, ar_551, ar_552, ar_553, ar_554, ar_555, ar_556, ar_557, ar_558, ex_eq, ex_ite, pm_bk_r, pm_bk_t, ol_nil, ol_one, true_and, and_true, false_and, and_false, reduceIte, Nat.reduceEqDiff, up_at, Nat.add_left_cancel_iff, h6, c0, rfin, bI]
    · by_cases c1 : c < nI (g_n G)
      · by_cases p0 : p < 0
        · rw [if_neg (fun q => q.2.1 p0)]
          refine ⟨I, h, fun _ _ => rfl, fun q => ?_⟩
          show pm_C (d + 3) 8 _ _ q ↔ _
          rw [n8]
          simp (decide := true) only [q8_0, q8_1, q8_4, q8_7, q8_8, q8_11, q8_12, q8_13, q8_16, q8_19, q8_22, q8_25, q8_26, q8_29, q8_30, q8_32, q8_35, q8_36, q8_37, q8_38, q8_41, q8_42, q8_43, q8_46, q8_47, q8_48, q8_51, q8_52, W_1, W_I, W_mk, W_tk, pm_rv, rf_0_0, rf_0_1, rf_0_2, rf_0_3, rf_0_4, rf_0_7, rf_0_8, rf_1_0, rf_1_2, rf_3_0, rf_3_1, rf_3_6, rf_3_7, rf_3_8, rf_9_0, rf_9_1, rf_10_0, rf_10_1, rf_10_6, rf_10_7, rf_10_8, rf_17_0, rf_17_1, rf_538_2, rf_538_6, rf_538_7, rf_538_9, rf_538_11, rf_538_12, rf_538_18, rf_538_19, rf_538_22, rf_538_23, rf_538_25, rf_538_27, rf_538_28, rf_538_30, rf_538_31, rf_538_32, rf_538_33, rf_538_34, rf_538_35, rf_538_36, ob_0, ob_1, ob_3, ob_9, ob_10, ob_17, ob_538, ar_2, ar_4, ar_5, ar_6, ar_7, ar_8, ar_11, ar_12, ar_13, ar_14, ar_15, ar_16, ar_116, ar_117, ar_539, ar_540, ar_541, ar_542, ar_543, ar_544, ar_545, ar_546, ar_547, ar_548, ar_549, ar_550, ar_551, ar_552, ar_553, ar_554, ar_555, ar_556, ar_557, ar_558, ex_eq, ex_ite, pm_bk_r, pm_bk_t, ol_nil, ol_one, true_and, and_true, false_and, and_false, reduceIte, Nat.reduceEqDiff, up_at, Nat.add_left_cancel_iff, h6, c0, h3, c1, p0, rfin, bI]
        · by_cases p1 : p < 6
          · rw [if_pos ⟨⟨c0, c1⟩, p0, p1⟩]
            have hc := nn_nI c0
            have hcl : c.toNatClampNeg < g_n G := by
              rw [hc.1, sm_lt hc.2 (by omega)] at c1
              exact c1
            have hp := p6 p0 p1
            obtain ⟨f, hf, hm⟩ := (hPA.2.1 _).mp hcl
            have hT := h.2.2.2.2.1 P hD
            have hr := fun q => c112R (d := d) (k := k) (o := o) (q := q) tb_108 hT hPA.1 (show c.toNatClampNeg < 24 by omega) hp.2 hf hm
            rw [← hc.1, ← hp.1] at hr
            have hT2 := hT.raise hPA.1 (show c.toNatClampNeg < 24 by omega) hp.2 hf hm
            obtain ⟨J, hJ⟩ : ∃ J, J = pm_up (rzI 108 c.toNatClampNeg p.toNatClampNeg f I) 0 9 (-1) := ⟨_, rfl⟩
            have s : ∀ x j, ¬ (x = 0 ∧ j = 9) → (x ≤ 108 ∨ 112 < x) → J x j = I x j := fun x j a b => by rw [hJ, up_ne a]; exact rz_fr (by omega)
            refine ⟨J, ⟨h.1.eq (s _ _ (by omega) (by omega)) (by funext j; exact s _ _ (by omega) (by omega)), ?_, ?_, ?_, fun P' hP' => ?_, fun h' hh' => ?_, ?_⟩, ?_, fun q => ?_⟩
            · exact GR.congr hgr (fun x a b => by funext j; exact s _ _ (by omega) (by omega))
            · rw [s _ _ (by omega) (by omega)]; exact h6
            · rw [s _ _ (by omega) (by omega)]; exact h.2.2.2.1
            · injection hP' with hP'
              rw [← hP']
              exact hT2.eq (fun x a b => by rw [hJ, up_row (by omega)])
            · exact (h.2.2.2.2.2.1 h' hh').eq (fun x a b => by funext j; exact s _ _ (by omega) (by omega))
            · rw [hJ, up_eq]
            · intro x hx
              funext j
              exact s _ _ (by omega) (by omega)
            · show pm_C (d + 3) 8 _ _ q ↔ _
              rw [n8]
              simp (decide := true) only [q8_0, q8_1, q8_4, q8_7, q8_8, q8_11, q8_12, q8_13, q8_16, q8_19, q8_22, q8_25, q8_26, q8_29, q8_30, q8_32, q8_35, q8_36, q8_37, q8_38, q8_41, q8_42, q8_43, q8_46, q8_47, q8_48, q8_51, q8_52, W_1, W_I, W_mk, W_tk, pm_rv, rf_0_0, rf_0_1, rf_0_2, rf_0_3, rf_0_4, rf_0_7, rf_0_8, rf_1_0, rf_1_2, rf_3_0, rf_3_1, rf_3_6, rf_3_7, rf_3_8, rf_9_0, rf_9_1, rf_10_0, rf_10_1, rf_10_6, rf_10_7, rf_10_8, rf_17_0, rf_17_1, rf_538_2, rf_538_6, rf_538_7, rf_538_9, rf_538_11, rf_538_12, rf_538_18, rf_538_19, rf_538_22, rf_538_23, rf_538_25, rf_538_27, rf_538_28, rf_538_30, rf_538_31, rf_538_32, rf_538_33, rf_538_34, rf_538_35, rf_538_36, ob_0, ob_1, ob_3, ob_9, ob_10, ob_17, ob_538, ar_2, ar_4, ar_5, ar_6, ar_7, ar_8, ar_11, ar_12, ar_13, ar_14, ar_15, ar_16, ar_116, ar_117, ar_539, ar_540, ar_541, ar_542, ar_543, ar_544, ar_545, ar_546, ar_547, ar_548, ar_549, ar_550, ar_551, ar_552, ar_553, ar_554, ar_555, ar_556, ar_557, ar_558, ex_eq, ex_ite, pm_bk_r, pm_bk_t, ol_nil, ol_one, true_and, and_true, false_and, and_false, reduceIte, Nat.reduceEqDiff, up_at, Nat.add_left_cancel_iff, h6, c0, h3, c1, p0, p1, ob_t tb_108, hr, rfin, bI]
              rw [hJ]
          · rw [if_neg (fun q => p1 q.2.2)]
            refine ⟨I, h, fun _ _ => rfl, fun q => ?_⟩
            show pm_C (d + 3) 8 _ _ q ↔ _
            rw [n8]
            simp (decide := true) only [q8_0, q8_1, q8_4, q8_7, q8_8, q8_11, q8_12, q8_13, q8_16, q8_19, q8_22, q8_25, q8_26, q8_29, q8_30, q8_32, q8_35, q8_36, q8_37, q8_38, q8_41, q8_42, q8_43, q8_46, q8_47, q8_48, q8_51, q8_52, W_1, W_I, W_mk, W_tk, pm_rv, rf_0_0, rf_0_1, rf_0_2, rf_0_3, rf_0_4, rf_0_7, rf_0_8, rf_1_0, rf_1_2, rf_3_0, rf_3_1, rf_3_6, rf_3_7, rf_3_8, rf_9_0, rf_9_1, rf_10_0, rf_10_1, rf_10_6, rf_10_7, rf_10_8, rf_17_0, rf_17_1, rf_538_2, rf_538_6, rf_538_7, rf_538_9, rf_538_11, rf_538_12, rf_538_18, rf_538_19, rf_538_22, rf_538_23, rf_538_25, rf_538_27, rf_538_28, rf_538_30, rf_538_31, rf_538_32, rf_538_33, rf_538_34, rf_538_35, rf_538_36, ob_0, ob_1, ob_3, ob_9, ob_10, ob_17, ob_538, ar_2, ar_4, ar_5, ar_6, ar_7, ar_8, ar_11, ar_12, ar_13, ar_14, ar_15, ar_16, ar_116, ar_117, ar_539, ar_540, ar_541, ar_542, ar_543, ar_544, ar_545, ar_546, ar_547, ar_548, ar_549, ar_550, ar_551, ar_552, ar_553, ar_554, ar_555, ar_556, ar_557, ar_558, ex_eq, ex_ite, pm_bk_r, pm_bk_t, ol_nil, ol_one, true_and, and_true, false_and, and_false, reduceIte, Nat.reduceEqDiff, up_at, Nat.add_left_cancel_iff, h6, c0, h3, c1, p0, p1, rfin, bI]
      · rw [if_neg (fun q => c1 q.1.2)]
        refine ⟨I, h, fun _ _ => rfl, fun q => ?_⟩
        show pm_C (d + 3) 8 _ _ q ↔ _
        rw [n8]
        simp (decide := true) only [q8_0, q8_1, q8_4, q8_7, q8_8, q8_11, q8_12, q8_13, q8_16, q8_19, q8_22, q8_25, q8_26, q8_29, q8_30, q8_32, q8_35, q8_36, q8_37, q8_38, q8_41, q8_42, q8_43, q8_46, q8_47, q8_48, q8_51, q8_52, W_1, W_I, W_mk, W_tk, pm_rv, rf_0_0, rf_0_1, rf_0_2, rf_0_3, rf_0_4, rf_0_7, rf_0_8, rf_1_0, rf_1_2, rf_3_0, rf_3_1, rf_3_6, rf_3_7, rf_3_8, rf_9_0, rf_9_1, rf_10_0, rf_10_1, rf_10_6, rf_10_7, rf_10_8, rf_17_0, rf_17_1, rf_538_2, rf_538_6, rf_538_7, rf_538_9, rf_538_11, rf_538_12, rf_538_18, rf_538_19, rf_538_22, rf_538_23, rf_538_25, rf_538_27, rf_538_28, rf_538_30, rf_538_31, rf_538_32, rf_538_33, rf_538_34, rf_538_35, rf_538_36, ob_0, ob_1, ob_3, ob_9, ob_10, ob_17, ob_538, ar_2, ar_4, ar_5, ar_6, ar_7, ar_8, ar_11, ar_12, ar_13, ar_14, ar_15, ar_16, ar_116, ar_117, ar_539, ar_540, ar_541, ar_542, ar_543, ar_544, ar_545, ar_546, ar_547, ar_548, ar_549, ar_550, ar_551, ar_552, ar_553, ar_554, ar_555, ar_556, ar_557, ar_558, ex_eq, ex_ite, pm_bk_r, pm_bk_t, ol_nil, ol_one, true_and, and_true, false_and, and_false, reduceIte, Nat.reduceEqDiff, up_at, Nat.add_left_cancel_iff, h6, c0, h3, c1, rfin, bI]
theorem k16 (hA : AOK S) (h : CI S I) {p i : Int32} {q : pm_Res} : pm_C (d + 3) 16 [.ref 0, .int p, .int i] (Wm I k o) q ↔ q = (.inl (some (.int (o_card S p i))), Wm I k o) := by
  have h6 := h.2.2.1
  unfold o_card
  rw [n16]
  cases hD : S.2.2.1 with
  | none =>
    rw [hD] at h6
    have h6 : I 0 6 = 0 := h6
    simp (decide := true) only [q16_0, q16_1, q16_4, q16_7, q16_8, q16_11, q16_12, q16_14, q16_17, q16_18, q16_19, q16_20, q16_21, q16_24, q16_25, q16_28, q16_29, q16_32, q16_35, q16_36, q16_39, q16_40, q16_41, q16_44, W_1, W_I, W_mk, W_tk, pm_rv, rf_0_0, rf_0_1, rf_0_2, rf_0_3, rf_0_4, rf_0_7, rf_0_8, rf_1_0, rf_1_2, rf_3_0, rf_3_1, rf_3_6, rf_3_7, rf_3_8, rf_9_0, rf_9_1, rf_10_0, rf_10_1, rf_10_6, rf_10_7, rf_10_8, rf_17_0, rf_17_1, rf_538_2, rf_538_6, rf_538_7, rf_538_9, rf_538_11, rf_538_12, rf_538_18, rf_538_19, rf_538_22, rf_538_23, rf_538_25, rf_538_27, rf_538_28, rf_538_30, rf_538_31, rf_538_32, rf_538_33, rf_538_34, rf_538_35, rf_538_36, ob_0, ob_1, ob_3, ob_9, ob_10, ob_17, ob_538, ar_2, ar_4, ar_5, ar_6, ar_7, ar_8, ar_11, ar_12, ar_13, ar_14, ar_15, ar_16, ar_116, ar_117, ar_539, ar_540, ar_541, ar_542, ar_543, ar_544, ar_545, ar_546, ar_547, ar_548, ar_549, ar_550, ar_551, ar_552, ar_553, ar_554, ar_555, ar_556, ar_557, ar_558, ex_eq, ex_ite, pm_bk_r, pm_bk_t, ol_nil, ol_one, true_and, and_true, false_and, and_false, reduceIte, Nat.reduceEqDiff, up_at, Nat.add_left_cancel_iff, h6]
  | some P =>
    rw [hD] at h6
    have h6 : I 0 6 = 1 := h6
    obtain ⟨G, hG, hok, hPA⟩ := hA.g hD
    have hT := h.2.2.2.2.1 P hD
    by_cases p0 : p < 0
    · simp (decide := true) only [q16_0, q16_1, q16_4, q16_7, q16_8, q16_11, q16_12, q16_14, q16_17, q16_18, q16_19, q16_20, q16_21, q16_24, q16_25, q16_28, q16_29, q16_32, q16_35, q16_36, q16_39, q16_40, q16_41, q16_44, W_1, W_I, W_mk, W_tk, pm_rv, rf_0_0, rf_0_1, rf_0_2, rf_0_3, rf_0_4, rf_0_7, rf_0_8, rf_1_0, rf_1_2, rf_3_0, rf_3_1, rf_3_6, rf_3_7, rf_3_8, rf_9_0, rf_9_1, rf_10_0, rf_10_1, rf_10_6, rf_10_7, rf_10_8, rf_17_0, rf_17_1, rf_538_2, rf_538_6, rf_538_7, rf_538_9, rf_538_11, rf_538_12, rf_538_18, rf_538_19, rf_538_22, rf_538_23, rf_538_25, rf_538_27, rf_538_28, rf_538_30, rf_538_31, rf_538_32, rf_538_33, rf_538_34, rf_538_35, rf_538_36, ob_0, ob_1, ob_3, ob_9, ob_10, ob_17, ob_538, ar_2, ar_4, ar_5, ar_6, ar_7, ar_8, ar_11, ar_12, ar_13, ar_14, ar_15, ar_16, ar_116, ar_117, ar_539, ar_540, ar_541, ar_542, ar_543, ar_544, ar_545, ar_546, ar_547, ar_548, ar_549, ar_550, ar_551, ar_552, ar_553, ar_554, ar_555, ar_556, ar_557, ar_558, ex_eq, ex_ite, pm_bk_r, pm_bk_t, ol_nil, ol_one, true_and, and_true, false_and, and_false, reduceIte, Nat.reduceEqDiff, up_at, Nat.add_left_cancel_iff, h6, p0, not_true_eq_false]
    · by_cases p1 : p < 6
      · have hp := p6 p0 p1
        have ht : tb 108 := tb_108
        have h113 := fun q => c113 (d := d) (k := k) (o := o) (q := q) (i := i) tb_108 hT hPA.1 hp.2 (hPA.1.pl _ hp.2)
        rw [← hp.1] at h113
        have hsz := (hT.1 _ hp.2).2
        have h134 := fun q => c134 (d := d + 1) (k := k) (o := o) (q := q) (I := I) ht hp.2
        rw [← hp.1, hsz] at h134
        by_cases i1 : i = -1
        · simp (decide := true) only [q16_0, q16_1, q16_4, q16_7, q16_8, q16_11, q16_12, q16_14, q16_17, q16_18, q16_19, q16_20, q16_21, q16_24, q16_25, q16_28, q16_29, q16_32, q16_35, q16_36, q16_39, q16_40, q16_41, q16_44, W_1, W_I, W_mk, W_tk, pm_rv, rf_0_0, rf_0_1, rf_0_2, rf_0_3, rf_0_4, rf_0_7, rf_0_8, rf_1_0, rf_1_2, rf_3_0, rf_3_1, rf_3_6, rf_3_7, rf_3_8, rf_9_0, rf_9_1, rf_10_0, rf_10_1, rf_10_6, rf_10_7, rf_10_8, rf_17_0, rf_17_1, rf_538_2, rf_538_6, rf_538_7, rf_538_9, rf_538_11, rf_538_12, rf_538_18, rf_538_19, rf_538_22, rf_538_23, rf_538_25, rf_538_27, rf_538_28, rf_538_30, rf_538_31, rf_538_32, rf_538_33, rf_538_34, rf_538_35, rf_538_36, ob_0, ob_1, ob_3, ob_9, ob_10, ob_17, ob_538, ar_2, ar_4, ar_5, ar_6, ar_7, ar_8, ar_11, ar_12, ar_13, ar_14, ar_15, ar_16, ar_116, ar_117, ar_539, ar_540, ar_541, ar_542, ar_543, ar_544, ar_545, ar_546, ar_547, ar_548, ar_549, ar_550, ar_551, ar_552, ar_553, ar_554, ar_555, ar_556, ar_557, ar_558, ex_eq, ex_ite, pm_bk_r, pm_bk_t, ol_nil, ol_one, true_and, and_true, false_and, and_false, reduceIte, Nat.reduceEqDiff, up_at, Nat.add_left_cancel_iff, h6, p0, p1, i1, ob_t tb_108, h134, not_false_eq_true]
        · simp (decide := true) only [q16_0, q16_1, q16_4, q16_7, q16_8, q16_11, q16_12, q16_14, q16_17, q16_18, q16_19, q16_20, q16_21, q16_24, q16_25, q16_28, q16_29, q16_32, q16_35, q16_36, q16_39, q16_40, q16_41, q16_44, W_1, W_I, W_mk, W_tk, pm_rv, rf_0_0, rf_0_1, rf_0_2, rf_0_3, rf_0_4, rf_0_7, rf_0_8, rf_1_0, rf_1_2, rf_3_0, rf_3_1, rf_3_6, rf_3_7, rf_3_8, rf_9_0, rf_9_1, rf_10_0, rf_10_1, rf_10_6, rf_10_7, rf_10_8, rf_17_0, rf_17_1, rf_538_2, rf_538_6, rf_538_7, rf_538_9, rf_538_11, rf_538_12, rf_538_18, rf_538_19, rf_538_22, rf_538_23, rf_538_25, rf_538_27, rf_538_28, rf_538_30, rf_538_31, rf_538_32, rf_538_33, rf_538_34, rf_538_35, rf_538_36, ob_0, ob_1, ob_3, ob_9, ob_10, ob_17, ob_538, ar_2, ar_4, ar_5, ar_6, ar_7, ar_8, ar_11, ar_12, ar_13, ar_14, ar_15, ar_16, ar_116, ar_117, ar_539, ar_540, ar_541, ar_542, ar_543, ar_544, ar_545, ar_546, ar_547, ar_548, ar_549, ar_550, ar_551, ar_552, ar_553, ar_554, ar_555, ar_556, ar_557, ar_558, ex_eq, ex_ite, pm_bk_r, pm_bk_t, ol_nil, ol_one, true_and, and_true, false_and, and_false, reduceIte, Nat.reduceEqDiff, up_at, Nat.add_left_cancel_iff, h6, p0, p1, i1, ob_t tb_108, h113, not_false_eq_true]
      · simp (decide := true) only [q16_0, q16_1, q16_4, q16_7, q16_8, q16_11, q16_12, q16_14, q16_17, q16_18, q16_19, q16_20, q16_21, q16_24, q16_25, q16_28, q16_29, q16_32, q16_35, q16_36, q16_39, q16_40, q16_41, q16_44, W_1, W_I, W_mk, W_tk, pm_rv, rf_0_0, rf_0_1, rf_0_2, rf_0_3, rf_0_4, rf_0_7, rf_0_8, rf_1_0, rf_1_2, rf_3_0, rf_3_1, rf_3_6, rf_3_7, rf_3_8, rf_9_0, rf_9_1, rf_10_0, rf_10_1, rf_10_6, rf_10_7, rf_10_8, rf_17_0, rf_17_1, rf_538_2, rf_538_6, rf_538_7, rf_538_9, rf_538_11, rf_538_12, rf_538_18, rf_538_19, rf_538_22, rf_538_23, rf_538_25, rf_538_27, rf_538_28, rf_538_30, rf_538_31, rf_538_32, rf_538_33, rf_538_34, rf_538_35, rf_538_36, ob_0, ob_1, ob_3, ob_9, ob_10, ob_17, ob_538, ar_2, ar_4, ar_5, ar_6, ar_7, ar_8, ar_11, ar_12, ar_13, ar_14, ar_15, ar_16, ar_116, ar_117, ar_539, ar_540, ar_541, ar_542, ar_543, ar_544, ar_545, ar_546, ar_547, ar_548, ar_549, ar_550, ar_551, ar_552, ar_553, ar_554, ar_555, ar_556, ar_557, ar_558, ex_eq, ex_ite, pm_bk_r, pm_bk_t, ol_nil, ol_one, true_and, and_true, false_and, and_false, reduceIte, Nat.reduceEqDiff, up_at, Nat.add_left_cancel_iff, h6, p0, p1, not_false_eq_true]
theorem k17 (hA : AOK S) (h : CI S I) {s p i : Int32} {q : pm_Res} : pm_C (d + 4) 17 [.ref 0, .int s, .int p, .int i] (Wm I k o) q ↔ q = (.inl (some (.int (o_seen S s p i))), Wm I k o) := by
  unfold o_seen
  rw [n17]
  by_cases s0 : s < 0
  · simp (decide := true) only [q17_0, q17_1, q17_4, q17_5, q17_6, q17_9, q17_10, q17_11, q17_12, q17_13, q17_16, q17_17, q17_18, q17_19, q17_20, q17_23, q17_24, q17_27, q17_28, q17_30, q17_32, q17_35, q17_36, q17_37, q17_40, q17_41, q17_44, q17_45, q17_46, q17_47, q17_50, W_1, W_I, W_mk, W_tk, pm_rv, rf_0_0, rf_0_1, rf_0_2, rf_0_3, rf_0_4, rf_0_7, rf_0_8, rf_1_0, rf_1_2, rf_3_0, rf_3_1, rf_3_6, rf_3_7, rf_3_8, rf_9_0, rf_9_1, rf_10_0, rf_10_1, rf_10_6, rf_10_7, rf_10_8, rf_17_0, rf_17_1, rf_538_2, rf_538_6, rf_538_7, rf_538_9, rf_538_11, rf_538_12, rf_538_18, rf_538_19, rf_538_22, rf_538_23, rf_538_25, rf_538_27, rf_538_28, rf_538_30, rf_538_31, rf_538_32, rf_538_33, rf_538_34, rf_538_35, rf_538_36, ob_0, ob_1, ob_3, ob_9, ob_10, ob_17, ob_538, ar_2, ar_4, ar_5, ar_6, ar_7, ar_8, ar_11, ar_12, ar_13, ar_14, ar_15, ar_16, ar_116, ar_117, ar_539, ar_540, ar_541, ar_542, ar_543, ar_544, ar_545, ar_546, ar_547, ar_548, ar_549, ar_550, ar_551, ar_552, ar_553, ar_554, ar_555, ar_556, ar_557, ar_558, ex_eq, ex_ite, pm_bk_r, pm_bk_t, ol_nil, ol_one, true_and, and_true, false_and, and_false, reduceIte, Nat.reduceEqDiff, up_at, Nat.add_left_cancel_iff, s0, true_or]
  · by_cases s2 : s < 2
    · by_cases h2 : p = 2
      · by_cases i1 : i = -1
        · simp (decide := true) only [q17_0, q17_1, q17_4, q17_5, q17_6, q17_9, q17_10, q17_11, q17_12, q17_13, q17_16, q17_17, q17_18, q17_19, q17_20, q17_23, q17_24, q17_27, q17_28, q17_30, q17_32, q17_35, q17_36, q17_37, q17_40, q17_41, q17_44, q17_45, q17_46, q17_47, q17_50, W_1, W_I, W_mk, W_tk, pm_rv, rf_0_0, rf_0_1, rf_0_2, rf_0_3, rf_0_4, rf_0_7, rf_0_8, rf_1_0, rf_1_2, rf_3_0, rf_3_1, rf_3_6, rf_3_7, rf_3_8, rf_9_0, rf_9_1, rf_10_0, rf_10_1, rf_10_6, rf_10_7, rf_10_8, rf_17_0, rf_17_1, rf_538_2, rf_538_6, rf_538_7, rf_538_9, rf_538_11, rf_538_12, rf_538_18, rf_538_19, rf_538_22, rf_538_23, rf_538_25, rf_538_27, rf_538_28, rf_538_30, rf_538_31, rf_538_32, rf_538_33, rf_538_34, rf_538_35, rf_538_36, ob_0, ob_1, ob_3, ob_9, ob_10, ob_17, ob_538, ar_2, ar_4, ar_5, ar_6, ar_7, ar_8, ar_11, ar_12, ar_13, ar_14, ar_15, ar_16, ar_116, ar_117, ar_539, ar_540, ar_541, ar_542, ar_543, ar_544, ar_545, ar_546, ar_547, ar_548, ar_549, ar_550, ar_551, ar_552, ar_553, ar_554, ar_555, ar_556, ar_557, ar_558, ex_eq, ex_ite, pm_bk_r, pm_bk_t, ol_nil, ol_one, true_and, and_true, false_and, and_false, reduceIte, Nat.reduceEqDiff, up_at, Nat.add_left_cancel_iff, s0, s2, h2, i1, k16 hA h, false_or, not_true_eq_false, true_or]
        · simp (decide := true) only [q17_0, q17_1, q17_4, q17_5, q17_6, q17_9, q17_10, q17_11, q17_12, q17_13, q17_16, q17_17, q17_18, q17_19, q17_20, q17_23, q17_24, q17_27, q17_28, q17_30, q17_32, q17_35, q17_36, q17_37, q17_40, q17_41, q17_44, q17_45, q17_46, q17_47, q17_50, W_1, W_I, W_mk, W_tk, pm_rv, rf_0_0, rf_0_1, rf_0_2, rf_0_3, rf_0_4, rf_0_7, rf_0_8, rf_1_0, rf_1_2, rf_3_0, rf_3_1, rf_3_6, rf_3_7, rf_3_8, rf_9_0, rf_9_1, rf_10_0, rf_10_1, rf_10_6, rf_10_7, rf_10_8, rf_17_0, rf_17_1, rf_538_2, rf_538_6, rf_538_7, rf_538_9, rf_538_11, rf_538_12, rf_538_18, rf_538_19, rf_538_22, rf_538_23, rf_538_25, rf_538_27, rf_538_28, rf_538_30, rf_538_31, rf_538_32, rf_538_33, rf_538_34, rf_538_35, rf_538_36, ob_0, ob_1, ob_3, ob_9, ob_10, ob_17, ob_538, ar_2, ar_4, ar_5, ar_6, ar_7, ar_8, ar_11, ar_12, ar_13, ar_14, ar_15, ar_16, ar_116, ar_117, ar_539, ar_540, ar_541, ar_542, ar_543, ar_544, ar_545, ar_546, ar_547, ar_548, ar_549, ar_550, ar_551, ar_552, ar_553, ar_554, ar_555, ar_556, ar_557, ar_558, ex_eq, ex_ite, pm_bk_r, pm_bk_t, ol_nil, ol_one, true_and, and_true, false_and, and_false, reduceIte, Nat.reduceEqDiff, up_at, Nat.add_left_cancel_iff, s0, s2, h2, i1, k16 hA h, false_or, not_true_eq_false, true_or, not_false_eq_true]
      · by_cases h3 : p = 1 - s
        · by_cases i1 : i = -1
          · simp (decide := true) only [q17_0, q17_1, q17_4, q17_5, q17_6, q17_9, q17_10, q17_11, q17_12, q17_13, q17_16, q17_17, q17_18, q17_19, q17_20, q17_23, q17_24, q17_27, q17_28, q17_30, q17_32, q17_35, q17_36, q17_37, q17_40, q17_41, q17_44, q17_45, q17_46, q17_47, q17_50, W_1, W_I, W_mk, W_tk, pm_rv, rf_0_0, rf_0_1, rf_0_2, rf_0_3, rf_0_4, rf_0_7, rf_0_8, rf_1_0, rf_1_2, rf_3_0, rf_3_1, rf_3_6, rf_3_7, rf_3_8, rf_9_0, rf_9_1, rf_10_0, rf_10_1, rf_10_6, rf_10_7, rf_10_8, rf_17_0, rf_17_1, rf_538_2, rf_538_6, rf_538_7, rf_538_9, rf_538_11, rf_538_12, rf_538_18, rf_538_19, rf_538_22, rf_538_23, rf_538_25, rf_538_27, rf_538_28, rf_538_30, rf_538_31, rf_538_32, rf_538_33, rf_538_34, rf_538_35, rf_538_36, ob_0, ob_1, ob_3, ob_9, ob_10, ob_17, ob_538, ar_2, ar_4, ar_5, ar_6, ar_7, ar_8, ar_11, ar_12, ar_13, ar_14, ar_15, ar_16, ar_116, ar_117, ar_539, ar_540, ar_541, ar_542, ar_543, ar_544, ar_545, ar_546, ar_547, ar_548, ar_549, ar_550, ar_551, ar_552, ar_553, ar_554, ar_555, ar_556, ar_557, ar_558, ex_eq, ex_ite, pm_bk_r, pm_bk_t, ol_nil, ol_one, true_and, and_true, false_and, and_false, reduceIte, Nat.reduceEqDiff, up_at, Nat.add_left_cancel_iff, s0, s2, h2, show (p = 1 - s) ↔ True from iff_true_intro h3, i1, k16 hA h, false_or, not_true_eq_false, or_true]
          · simp (decide := true) only [q17_0, q17_1, q17_4, q17_5, q17_6, q17_9, q17_10, q17_11, q17_12, q17_13, q17_16, q17_17, q17_18, q17_19, q17_20, q17_23, q17_24, q17_27, q17_28, q17_30, q17_32, q17_35, q17_36, q17_37, q17_40, q17_41, q17_44, q17_45, q17_46, q17_47, q17_50, W_1, W_I, W_mk, W_tk, pm_rv, rf_0_0, rf_0_1, rf_0_2, rf_0_3, rf_0_4, rf_0_7, rf_0_8, rf_1_0, rf_1_2, rf_3_0, rf_3_1, rf_3_6, rf_3_7, rf_3_8, rf_9_0, rf_9_1, rf_10_0, rf_10_1, rf_10_6, rf_10_7, rf_10_8, rf_17_0, rf_17_1, rf_538_2, rf_538_6, rf_538_7, rf_538_9, rf_538_11, rf_538_12, rf_538_18, rf_538_19, rf_538_22, rf_538_23, rf_538_25, rf_538_27, rf_538_28, rf_538_30, rf_538_31, rf_538_32, rf_538_33, rf_538_34, rf_538_35, rf_538_36, ob_0, ob_1, ob_3, ob_9, ob_10, ob_17, ob_538, ar_2, ar_4, ar_5, ar_6, ar_7, ar_8, ar_11, ar_12, ar_13, ar_14, ar_15, ar_16, ar_116, ar_117, ar_539, ar_540, ar_541, ar_542, ar_543, ar_544, ar_545, ar_546, ar_547, ar_548, ar_549, ar_550, ar_551, ar_552, ar_553, ar_554, ar_555, ar_556, ar_557, ar_558, ex_eq, ex_ite, pm_bk_r, pm_bk_t, ol_nil, ol_one, true_and, and_true, false_and, and_false, reduceIte, Nat.reduceEqDiff, up_at, Nat.add_left_cancel_iff, s0, s2, h2, show (p = 1 - s) ↔ True from iff_true_intro h3, i1, k16 hA h, false_or, not_true_eq_false, or_true, not_false_eq_true]
        · simp (decide := true) only [q17_0, q17_1, q17_4, q17_5, q17_6, q17_9, q17_10, q17_11, q17_12, q17_13, q17_16, q17_17, q17_18, q17_19, q17_20, q17_23, q17_24, q17_27, q17_28, q17_30, q17_32, q17_35, q17_36, q17_37, q17_40, q17_41, q17_44, q17_45, q17_46, q17_47, q17_50, W_1, W_I, W_mk, W_tk, pm_rv, rf_0_0, rf_0_1, rf_0_2, rf_0_3, rf_0_4, rf_0_7, rf_0_8, rf_1_0, rf_1_2, rf_3_0, rf_3_1, rf_3_6, rf_3_7, rf_3_8, rf_9_0, rf_9_1, rf_10_0, rf_10_1, rf_10_6, rf_10_7, rf_10_8, rf_17_0, rf_17_1, rf_538_2, rf_538_6, rf_538_7, rf_538_9, rf_538_11, rf_538_12, rf_538_18, rf_538_19, rf_538_22, rf_538_23, rf_538_25, rf_538_27, rf_538_28, rf_538_30, rf_538_31, rf_538_32, rf_538_33, rf_538_34, rf_538_35, rf_538_36, ob_0, ob_1, ob_3, ob_9, ob_10, ob_17, ob_538, ar_2, ar_4, ar_5, ar_6, ar_7, ar_8, ar_11, ar_12, ar_13, ar_14, ar_15, ar_16, ar_116, ar_117, ar_539, ar_540, ar_541, ar_542, ar_543, ar_544, ar_545, ar_546, ar_547, ar_548, ar_549, ar_550, ar_551, ar_552, ar_553, ar_554, ar_555, ar_556, ar_557, ar_558, ex_eq, ex_ite, pm_bk_r, pm_bk_t, ol_nil, ol_one, true_and, and_true, false_and, and_false, reduceIte, Nat.reduceEqDiff, up_at, Nat.add_left_cancel_iff, s0, s2, h2, h3, k16 hA h, false_or, not_true_eq_false, or_self]
    · simp (decide := true) only [q17_0, q17_1, q17_4, q17_5, q17_6, q17_9, q17_10, q17_11, q17_12, q17_13, q17_16, q17_17, q17_18, q17_19, q17_20, q17_23, q17_24, q17_27, q17_28, q17_30, q17_32, q17_35, q17_36, q17_37, q17_40, q17_41, q17_44, q17_45, q17_46, q17_47, q17_50, W_1, W_I, W_mk, W_tk, pm_rv, rf_0_0, rf_0_1, rf_0_2, rf_0_3, rf_0_4, rf_0_7, rf_0_8, rf_1_0, rf_1_2, rf_3_0, rf_3_1, rf_3_6, rf_3_7, rf_3_8, rf_9_0, rf_9_1, rf_10_0, rf_10_1, rf_10_6, rf_10_7, rf_10_8, rf_17_0, rf_17_1, rf_538_2, rf_538_6, rf_538_7, rf_538_9, rf_538_11, rf_538_12, rf_538_18, rf_538_19, rf_538_22, rf_538_23, rf_538_25, rf_538_27, rf_538_28, rf_538_30, rf_538_31, rf_538_32, rf_538_33, rf_538_34, rf_538_35, rf_538_36, ob_0, ob_1, ob_3, ob_9, ob_10, ob_17, ob_538, ar_2, ar_4, ar_5, ar_6, ar_7, ar_8, ar_11, ar_12, ar_13, ar_14, ar_15, ar_16, ar_116, ar_117, ar_539, ar_540, ar_541, ar_542, ar_543, ar_544, ar_545, ar_546, ar_547, ar_548, ar_549, ar_550, ar_551, ar_552, ar_553, ar_554, ar_555, ar_556, ar_557, ar_558, ex_eq, ex_ite, pm_bk_r, pm_bk_t, ol_nil, ol_one, true_and, and_true, false_and, and_false, reduceIte, Nat.reduceEqDiff, up_at, Nat.add_left_cancel_iff, s0, s2, not_false_eq_true, or_true]
theorem k18 (hA : AOK S) (h : CI S I) {x : Int32} : COK S (o_cnt S x) I k o (fun M q => pm_C (d + 1) 18 [.ref 0, .int x] M q) := by
  refine ⟨I, h, fun _ _ => rfl, fun q => ?_⟩
  show pm_C (d + 1) 18 _ _ q ↔ _
  have h6 := h.2.2.1
  unfold o_cnt
  rw [n18]
  by_cases x0 : x < 0
  · rw [if_neg (fun q => q.1 x0)]
    simp (decide := true) only [q18_0, q18_1, q18_4, q18_5, q18_7, q18_10, q18_20, q18_21, q18_24, q18_27, q18_28, q18_29, q18_30, q18_31, q18_34, q18_35, q18_38, q18_41, q18_42, q18_43, q18_46, q18_47, q18_50, q18_53, q18_54, q18_55, q18_56, q18_57, W_1, W_I, W_mk, W_tk, pm_rv, rf_0_0, rf_0_1, rf_0_2, rf_0_3, rf_0_4, rf_0_7, rf_0_8, rf_1_0, rf_1_2, rf_3_0, rf_3_1, rf_3_6, rf_3_7, rf_3_8, rf_9_0, rf_9_1, rf_10_0, rf_10_1, rf_10_6, rf_10_7, rf_10_8, rf_17_0, rf_17_1, rf_538_2, rf_538_6, rf_538_7, rf_538_9, rf_538_11, rf_538_12, rf_538_18, rf_538_19, rf_538_22, rf_538_23, rf_538_25, rf_538_27, rf_538_28, rf_538_30, rf_538_31, rf_538_32, rf_538_33, rf_538_34, rf_538_35, rf_538_36, ob_0, ob_1, ob_3, ob_9, ob_10, ob_17, ob_538, ar_2, ar_4, ar_5, ar_6, ar_7, ar_8, ar_11, ar_12, ar_13, ar_14, ar_15, ar_16, ar_116, ar_117, ar_539, ar_540, ar_541, ar_542, ar_543, ar_544, ar_545, ar_546, ar_547, ar_548, ar_549, ar_550, ar_551, ar_552, ar_553, ar_554, ar_555, ar_556, ar_557, ar_558, ex_eq, ex_ite, pm_bk_r, pm_bk_t, ol_nil, ol_one, true_and, and_true, false_and, and_false, reduceIte, Nat.reduceEqDiff, up_at, Nat.add_left_cancel_iff, x0, W_tk, rfin]
  · by_cases x6 : x < 6
    · rw [if_pos ⟨x0, x6⟩]
      have hx := p6 x0 x6
      cases hD : S.2.2.1 with
      | none =>
        rw [hD] at h6
        have h6 : I 0 6 = 0 := h6
        simp (decide := true) only [q18_0, q18_1, q18_4, q18_5, q18_7, q18_10, q18_20, q18_21, q18_24, q18_27, q18_28, q18_29, q18_30, q18_31, q18_34, q18_35, q18_38, q18_41, q18_42, q18_43, q18_46, q18_47, q18_50, q18_53, q18_54, q18_55, q18_56, q18_57, W_1, W_I, W_mk, W_tk, pm_rv, rf_0_0, rf_0_1, rf_0_2, rf_0_3, rf_0_4, rf_0_7, rf_0_8, rf_1_0, rf_1_2, rf_3_0, rf_3_1, rf_3_6, rf_3_7, rf_3_8, rf_9_0, rf_9_1, rf_10_0, rf_10_1, rf_10_6, rf_10_7, rf_10_8, rf_17_0, rf_17_1, rf_538_2, rf_538_6, rf_538_7, rf_538_9, rf_538_11, rf_538_12, rf_538_18, rf_538_19, rf_538_22, rf_538_23, rf_538_25, rf_538_27, rf_538_28, rf_538_30, rf_538_31, rf_538_32, rf_538_33, rf_538_34, rf_538_35, rf_538_36, ob_0, ob_1, ob_3, ob_9, ob_10, ob_17, ob_538, ar_2, ar_4, ar_5, ar_6, ar_7, ar_8, ar_11, ar_12, ar_13, ar_14, ar_15, ar_16, ar_116, ar_117, ar_539, ar_540, ar_541, ar_542, ar_543, ar_544, ar_545, ar_546, ar_547, ar_548, ar_549, ar_550, ar_551, ar_552, ar_553, ar_554, ar_555, ar_556, ar_557, ar_558, ex_eq, ex_ite, pm_bk_r, pm_bk_t, ol_nil, ol_one, true_and, and_true, false_and, and_false, reduceIte, Nat.reduceEqDiff, up_at, Nat.add_left_cancel_iff, x0, x6, h6, rfin]
      | some P =>
        rw [hD] at h6
        have h6 : I 0 6 = 1 := h6
        have hT := h.2.2.2.2.1 P hD
        have ht : tb 108 := tb_108
        have rt4 := rt_4 (I := I) (k := k) (o := o) ht
        have at4 := fun i => at_4 (I := I) (k := k) (o := o) (i := i) ht
        have rt5 := rt_5 (I := I) (k := k) (o := o) ht
        have at5 := fun i => at_5 (I := I) (k := k) (o := o) (i := i) ht
        by_cases x4 : x < 4
        · have hx4 : x.toNatClampNeg < 4 := by
            have x4 : x < nI 4 := x4
            rw [hx.1, sm_lt (by omega) (by omega)] at x4
            exact x4
          have hin : vp_in x 4 ↔ True := iff_true_intro (by rw [hx.1]; exact (sm_in (by omega)).mpr hx4)
          have hc : I 113 x.toNatClampNeg = P.2.1 x.toNatClampNeg := hT.2.2.2.1 _ hx4
          simp (decide := true) only [q18_0, q18_1, q18_4, q18_5, q18_7, q18_10, q18_20, q18_21, q18_24, q18_27, q18_28, q18_29, q18_30, q18_31, q18_34, q18_35, q18_38, q18_41, q18_42, q18_43, q18_46, q18_47, q18_50, q18_53, q18_54, q18_55, q18_56, q18_57, W_1, W_I, W_mk, W_tk, pm_rv, rf_0_0, rf_0_1, rf_0_2, rf_0_3, rf_0_4, rf_0_7, rf_0_8, rf_1_0, rf_1_2, rf_3_0, rf_3_1, rf_3_6, rf_3_7, rf_3_8, rf_9_0, rf_9_1, rf_10_0, rf_10_1, rf_10_6, rf_10_7, rf_10_8, rf_17_0, rf_17_1, rf_538_2, rf_538_6, rf_538_7, rf_538_9, rf_538_11, rf_538_12, rf_538_18, rf_538_19, rf_538_22, rf_538_23, rf_538_25, rf_538_27, rf_538_28, rf_538_30, rf_538_31, rf_538_32, rf_538_33, rf_538_34, rf_538_35, rf_538_36, ob_0, ob_1, ob_3, ob_9, ob_10, ob_17, ob_538, ar_2, ar_4, ar_5, ar_6, ar_7, ar_8, ar_11, ar_12, ar_13, ar_14, ar_15, ar_16, ar_116, ar_117, ar_539, ar_540, ar_541, ar_542, ar_543, ar_544, ar_545, ar_546, ar_547, ar_548, ar_549, ar_550, ar_551, ar_552, ar_553, ar_554, ar_555, ar_556, ar_557, ar_558, ex_eq, ex_ite, pm_bk_r, pm_bk_t, ol_nil, ol_one, true_and, and_true, false_and, and_false, reduceIte, Nat.reduceEqDiff, up_at, Nat.add_left_cancel_iff, x0, x6, h6, x4, ob_t tb_108, rt4, pm_rv, Nat.reduceAdd, at4, hin, hc, rfin]
        · have hx4 : 4 ≤ x.toNatClampNeg := by
            have x4 : ¬ x < nI 4 := x4
            rw [hx.1, sm_lt (by omega) (by omega)] at x4
            omega
          have es : x - 4 = nI (x.toNatClampNeg - 4) := by
            have := sm_sub (a := x.toNatClampNeg) (b := 4) hx4
            rw [← hx.1] at this
            exact this
          have hc : I 114 (x.toNatClampNeg - 4) = P.2.2.1 (x.toNatClampNeg - 4) := hT.2.2.2.2.1 _ (by omega)
          simp (decide := true) only [q18_0, q18_1, q18_4, q18_5, q18_7, q18_10, q18_20, q18_21, q18_24, q18_27, q18_28, q18_29, q18_30, q18_31, q18_34, q18_35, q18_38, q18_41, q18_42, q18_43, q18_46, q18_47, q18_50, q18_53, q18_54, q18_55, q18_56, q18_57, W_1, W_I, W_mk, W_tk, pm_rv, rf_0_0, rf_0_1, rf_0_2, rf_0_3, rf_0_4, rf_0_7, rf_0_8, rf_1_0, rf_1_2, rf_3_0, rf_3_1, rf_3_6, rf_3_7, rf_3_8, rf_9_0, rf_9_1, rf_10_0, rf_10_1, rf_10_6, rf_10_7, rf_10_8, rf_17_0, rf_17_1, rf_538_2, rf_538_6, rf_538_7, rf_538_9, rf_538_11, rf_538_12, rf_538_18, rf_538_19, rf_538_22, rf_538_23, rf_538_25, rf_538_27, rf_538_28, rf_538_30, rf_538_31, rf_538_32, rf_538_33, rf_538_34, rf_538_35, rf_538_36, ob_0, ob_1, ob_3, ob_9, ob_10, ob_17, ob_538, ar_2, ar_4, ar_5, ar_6, ar_7, ar_8, ar_11, ar_12, ar_13, ar_14, ar_15, ar_16, ar_116, ar_117, ar_539, ar_540, ar_541, ar_542, ar_543, ar_544, ar_545, ar_546, ar_547, ar_548, ar_549, ar_550, ar_551, ar_552, ar_553, ar_554, ar_555, ar_556, ar_557, ar_558, ex_eq, ex_ite, pm_bk_r, pm_bk_t, ol_nil, ol_one, true_and, and_true, false_and, and_false, reduceIte, Nat.reduceEqDiff, up_at, Nat.add_left_cancel_iff, x0, x6, h6, x4, ob_t tb_108, rt5, pm_rv, Nat.reduceAdd, at5, es, sm_in (show x.toNatClampNeg - 4 < 2147483648 by omega), show x.toNatClampNeg - 4 < 2 by omega, sm_cl (show x.toNatClampNeg - 4 < 2147483648 by omega), hc, rfin]
    · rw [if_neg (fun q => x6 q.2)]
      simp (decide := true) only [q18_0, q18_1, q18_4, q18_5, q18_7, q18_10, q18_20, q18_21, q18_24, q18_27, q18_28, q18_29, q18_30, q18_31, q18_34, q18_35, q18_38, q18_41, q18_42, q18_43, q18_46, q18_47, q18_50, q18_53, q18_54, q18_55, q18_56, q18_57, W_1, W_I, W_mk, W_tk, pm_rv, rf_0_0, rf_0_1, rf_0_2, rf_0_3, rf_0_4, rf_0_7, rf_0_8, rf_1_0, rf_1_2, rf_3_0, rf_3_1, rf_3_6, rf_3_7, rf_3_8, rf_9_0, rf_9_1, rf_10_0, rf_10_1, rf_10_6, rf_10_7, rf_10_8, rf_17_0, rf_17_1, rf_538_2, rf_538_6, rf_538_7, rf_538_9, rf_538_11, rf_538_12, rf_538_18, rf_538_19, rf_538_22, rf_538_23, rf_538_25, rf_538_27, rf_538_28, rf_538_30, rf_538_31, rf_538_32, rf_538_33, rf_538_34, rf_538_35, rf_538_36, ob_0, ob_1, ob_3, ob_9, ob_10, ob_17, ob_538, ar_2, ar_4, ar_5, ar_6, ar_7, ar_8, ar_11, ar_12, ar_13, ar_14, ar_15, ar_16, ar_116, ar_117, ar_539, ar_540, ar_541, ar_542, ar_543, ar_544, ar_545, ar_546, ar_547, ar_548, ar_549, ar_550, ar_551, ar_552, ar_553, ar_554, ar_555, ar_556, ar_557, ar_558, ex_eq, ex_ite, pm_bk_r, pm_bk_t, ol_nil, ol_one, true_and, and_true, false_and, and_false, reduceIte, Nat.reduceEqDiff, up_at, Nat.add_left_cancel_iff, x0, x6, W_tk, rfin]
theorem k19 (hA : AOK S) (h : CI S I) {w : Int32} : COK S (.inl (o_look S w)) I k o (fun M q => pm_C (d + 7) 19 [.ref 0, .int w] M q) := by
  obtain ⟨J, g1, g2, g3, g4, g5⟩ := k9 (d := d) (k := k) (o := o) hA h
  have h6 := h.2.2.1
  have e0 : (nI (o_mv S).length = 0) ↔ (o_mv S).length = 0 := nI_eq0 (by omega)
  have hgl : I 10 2 = o_gl S.2.1 ∧ I 10 3 = o_gc S.2.1 ∧ I 10 5 = o_gr S.2.1 := by
    have := h.2.1
    cases e : S.2.1 with
    | none => rw [e] at this; exact this
    | some G => rw [e] at this; exact ⟨this.1.2.1, this.2.1, this.2.2.2.1⟩
  by_cases w6 : w = 6
  · subst w6
    cases hD : S.2.2.1 with
    | none =>
      rw [hD] at h6
      have h6 : I 0 6 = 0 := h6
      refine ⟨I, h, fun _ _ => rfl, fun q => ?_⟩
      show pm_C (d + 7) 19 _ _ q ↔ _
      unfold o_look
      rw [n19, hD]
      simp (decide := true) only [q19_0, q19_1, q19_48, q19_49, q19_52, q19_55, q19_56, q19_57, q19_60, q19_63, q19_66, q19_67, q19_68, q19_71, q19_74, q19_77, q19_78, q19_79, q19_82, q19_85, q19_88, q19_89, q19_90, q19_93, q19_96, q19_97, q19_100, q19_101, q19_102, q19_103, q19_106, q19_109, q19_110, q19_113, q19_116, q19_119, q19_120, q19_121, q19_122, q19_125, q19_128, q19_129, q19_132, q19_135, q19_136, q19_139, q19_140, q19_143, q19_144, q19_145, q19_146, q19_149, q19_150, q19_151, W_1, W_I, W_mk, W_tk, pm_rv, rf_0_0, rf_0_1, rf_0_2, rf_0_3, rf_0_4, rf_0_7, rf_0_8, rf_1_0, rf_1_2, rf_3_0, rf_3_1, rf_3_6, rf_3_7, rf_3_8, rf_9_0, rf_9_1, rf_10_0, rf_10_1, rf_10_6, rf_10_7, rf_10_8, rf_17_0, rf_17_1, rf_538_2, rf_538_6, rf_538_7, rf_538_9, rf_538_11, rf_538_12, rf_538_18, rf_538_19, rf_538_22, rf_538_23, rf_538_25, rf_538_27, rf_538_28, rf_538_30, rf_538_31, rf_538_32, rf_538_33, rf_538_34, rf_538_35, rf_538_36, ob_0, ob_1, ob_3, ob_9, ob_10, ob_17, ob_538, ar_2, ar_4, ar_5, ar_6, ar_7, ar_8, ar_11, ar_12, ar_13, ar_14, ar_15, ar_16, ar_116, ar_117, ar_539, ar_540, ar_541, ar_542, ar_543, ar_544, ar_545, ar_546, ar_547, ar_548, ar_549, ar_550, ar_551, ar_552, ar_553, ar_554, ar_555, ar_556, ar_557, ar_558, ex_eq, ex_ite, pm_bk_r, pm_bk_t, ol_nil, ol_one, true_and, and_true, false_and, and_false, reduceIte, Nat.reduceEqDiff, up_at, Nat.add_left_cancel_iff, h6, rfin]
    | some P =>
      rw [hD] at h6
      have h6 : I 0 6 = 1 := h6
      refine ⟨J, g1, g2, fun q => ?_⟩
      show pm_C (d + 7) 19 _ _ q ↔ _
      unfold o_look
      rw [n19, hD]
      by_cases hm : (o_mv S).length = 0
      · have e0' : (nI (o_mv S).length = 0) ↔ True := iff_true_intro (e0.mpr hm)
        simp (decide := true) only [q19_0, q19_1, q19_48, q19_49, q19_52, q19_55, q19_56, q19_57, q19_60, q19_63, q19_66, q19_67, q19_68, q19_71, q19_74, q19_77, q19_78, q19_79, q19_82, q19_85, q19_88, q19_89, q19_90, q19_93, q19_96, q19_97, q19_100, q19_101, q19_102, q19_103, q19_106, q19_109, q19_110, q19_113, q19_116, q19_119, q19_120, q19_121, q19_122, q19_125, q19_128, q19_129, q19_132, q19_135, q19_136, q19_139, q19_140, q19_143, q19_144, q19_145, q19_146, q19_149, q19_150, q19_151, W_1, W_I, W_mk, W_tk, pm_rv, rf_0_0, rf_0_1, rf_0_2, rf_0_3, rf_0_4, rf_0_7, rf_0_8, rf_1_0, rf_1_2, rf_3_0, rf_3_1, rf_3_6, rf_3_7, rf_3_8, rf_9_0, rf_9_1, rf_10_0, rf_10_1, rf_10_6, rf_10_7, rf_10_8, rf_17_0, rf_17_1, rf_538_2, rf_538_6, rf_538_7, rf_538_9, rf_538_11, rf_538_12, rf_538_18, rf_538_19, rf_538_22, rf_538_23, rf_538_25, rf_538_27, rf_538_28, rf_538_30, rf_538_31, rf_538_32, rf_538_33, rf_538_34, rf_538_35, rf_538_36, ob_0, ob_1, ob_3, ob_9, ob_10, ob_17, ob_538, ar_2, ar_4, ar_5, ar_6, ar_7, ar_8, ar_11, ar_12, ar_13, ar_14, ar_15, ar_16, ar_116, ar_117, ar_539, ar_540, ar_541, ar_542, ar_543, ar_544, ar_545, ar_546, ar_547, ar_548, ar_549, ar_550, ar_551, ar_552, ar_553, ar_554, ar_555, ar_556, ar_557, ar_558, ex_eq, ex_ite, pm_bk_r, pm_bk_t, ol_nil, ol_one, true_and, and_true, false_and, and_false, reduceIte, Nat.reduceEqDiff, up_at, Nat.add_left_cancel_iff, h6, g5, e0', hm, rfin]
      · simp (decide := true) only [q19_0, q19_1, q19_48, q19_49, q19_52, q19_55, q19_56, q19_57, q19_60, q19_63, q19_66, q19_67, q19_68, q19_71, q19_74, q19_77, q19_78, q19_79, q19_82, q19_85, q19_88, q19_89, q19_90, q19_93, q19_96, q19_97, q19_100, q19_101, q19_102, q19_103, q19_106, q19_109, q19_110, q19_113, q19_116, q19_119, q19_120, q19_121, q19_122, q19_125, q19_128, q19_129, q19_132, q19_135, q19_136, q19_139, q19_140, q19_143, q19_144, q19_145, q19_146, q19_149, q19_150, q19_151, W_1, W_I, W_mk, W_tk, pm_rv, rf_0_0, rf_0_1, rf_0_2, rf_0_3, rf_0_4, rf_0_7, rf_0_8, rf_1_0, rf_1_2, rf_3_0, rf_3_1, rf_3_6, rf_3_7, rf_3_8, rf_9_0, rf_9_1, rf_10_0, rf_10_1, rf_10_6, rf_10_7, rf_10_8, rf_17_0, rf_17_1, rf_538_2, rf_538_6, rf_538_7, rf_538_9, rf_538_11, rf_538_12, rf_538_18, rf_538_19, rf_538_22, rf_538_23, rf_538_25, rf_538_27, rf_538_28, rf_538_30, rf_538_31, rf_538_32, rf_538_33, rf_538_34, rf_538_35, rf_538_36, ob_0, ob_1, ob_3, ob_9, ob_10, ob_17, ob_538, ar_2, ar_4, ar_5, ar_6, ar_7, ar_8, ar_11, ar_12, ar_13, ar_14, ar_15, ar_16, ar_116, ar_117, ar_539, ar_540, ar_541, ar_542, ar_543, ar_544, ar_545, ar_546, ar_547, ar_548, ar_549, ar_550, ar_551, ar_552, ar_553, ar_554, ar_555, ar_556, ar_557, ar_558, ex_eq, ex_ite, pm_bk_r, pm_bk_t, ol_nil, ol_one, true_and, and_true, false_and, and_false, reduceIte, Nat.reduceEqDiff, up_at, Nat.add_left_cancel_iff, h6, g5, e0, hm, rfin]
  · refine ⟨I, h, fun _ _ => rfl, fun q => ?_⟩
    show pm_C (d + 7) 19 _ _ q ↔ _
    unfold o_look
    rw [n19]
    by_cases w0 : w = 0
    · subst w0; simp (decide := true) only [q19_0, q19_1, q19_48, q19_49, q19_52, q19_55, q19_56, q19_57, q19_60, q19_63, q19_66, q19_67, q19_68, q19_71, q19_74, q19_77, q19_78, q19_79, q19_82, q19_85, q19_88, q19_89, q19_90, q19_93, q19_96, q19_97, q19_100, q19_101, q19_102, q19_103, q19_106, q19_109, q19_110, q19_113, q19_116, q19_119, q19_120, q19_121, q19_122, q19_125, q19_128, q19_129, q19_132, q19_135, q19_136, q19_139, q19_140, q19_143, q19_144, q19_145, q19_146, q19_149, q19_150, q19_151, W_1, W_I, W_mk, W_tk, pm_rv, rf_0_0, rf_0_1, rf_0_2, rf_0_3, rf_0_4, rf_0_7, rf_0_8, rf_1_0, rf_1_2, rf_3_0, rf_3_1, rf_3_6, rf_3_7, rf_3_8, rf_9_0, rf_9_1, rf_10_0, rf_10_1, rf_10_6, rf_10_7, rf_10_8, rf_17_0, rf_17_1, rf_538_2, rf_538_6, rf_538_7, rf_538_9, rf_538_11, rf_538_12, rf_538_18, rf_538_19, rf_538_22, rf_538_23, rf_538_25, rf_538_27, rf_538_28, rf_538_30, rf_538_31, rf_538_32, rf_538_33, rf_538_34, rf_538_35, rf_538_36, ob_0, ob_1, ob_3, ob_9, ob_10, ob_17, ob_538, ar_2, ar_4, ar_5, ar_6, ar_7, ar_8, ar_11, ar_12, ar_13, ar_14, ar_15, ar_16, ar_116, ar_117, ar_539, ar_540, ar_541, ar_542, ar_543, ar_544, ar_545, ar_546, ar_547, ar_548, ar_549, ar_550, ar_551, ar_552, ar_553, ar_554, ar_555, ar_556, ar_557, ar_558, ex_eq, ex_ite, pm_bk_r, pm_bk_t, ol_nil, ol_one, true_and, and_true, false_and, and_false, reduceIte, Nat.reduceEqDiff, up_at, Nat.add_left_cancel_iff, h.1.1, rfin]
    · by_cases w1 : w = 1
      · subst w1; simp (decide := true) only [q19_0, q19_1, q19_48, q19_49, q19_52, q19_55, q19_56, q19_57, q19_60, q19_63, q19_66, q19_67, q19_68, q19_71, q19_74, q19_77, q19_78, q19_79, q19_82, q19_85, q19_88, q19_89, q19_90, q19_93, q19_96, q19_97, q19_100, q19_101, q19_102, q19_103, q19_106, q19_109, q19_110, q19_113, q19_116, q19_119, q19_120, q19_121, q19_122, q19_125, q19_128, q19_129, q19_132, q19_135, q19_136, q19_139, q19_140, q19_143, q19_144, q19_145, q19_146, q19_149, q19_150, q19_151, W_1, W_I, W_mk, W_tk, pm_rv, rf_0_0, rf_0_1, rf_0_2, rf_0_3, rf_0_4, rf_0_7, rf_0_8, rf_1_0, rf_1_2, rf_3_0, rf_3_1, rf_3_6, rf_3_7, rf_3_8, rf_9_0, rf_9_1, rf_10_0, rf_10_1, rf_10_6, rf_10_7, rf_10_8, rf_17_0, rf_17_1, rf_538_2, rf_538_6, rf_538_7, rf_538_9, rf_538_11, rf_538_12, rf_538_18, rf_538_19, rf_538_22, rf_538_23, rf_538_25, rf_538_27, rf_538_28, rf_538_30, rf_538_31, rf_538_32, rf_538_33, rf_538_34, rf_538_35, rf_538_36, ob_0, ob_1, ob_3, ob_9, ob_10, ob_17, ob_538, ar_2, ar_4, ar_5, ar_6, ar_7, ar_8, ar_11, ar_12, ar_13, ar_14, ar_15, ar_16, ar_116, ar_117, ar_539, ar_540, ar_541, ar_542, ar_543, ar_544, ar_545, ar_546, ar_547, ar_548, ar_549, ar_550, ar_551, ar_552, ar_553, ar_554, ar_555, ar_556, ar_557, ar_558, ex_eq, ex_ite, pm_bk_r, pm_bk_t, ol_nil, ol_one, true_and, and_true, false_and, and_false, reduceIte, Nat.reduceEqDiff, up_at, Nat.add_left_cancel_iff, hgl.1, rfin]
      · by_cases w2 : w = 2
        · subst w2; simp (decide := true) only [q19_0, q19_1, q19_48, q19_49, q19_52, q19_55, q19_56, q19_57, q19_60, q19_63, q19_66, q19_67, q19_68, q19_71, q19_74, q19_77, q19_78, q19_79, q19_82, q19_85, q19_88, q19_89, q19_90, q19_93, q19_96, q19_97, q19_100, q19_101, q19_102, q19_103, q19_106, q19_109, q19_110, q19_113, q19_116, q19_119, q19_120, q19_121, q19_122, q19_125, q19_128, q19_129, q19_132, q19_135, q19_136, q19_139, q19_140, q19_143, q19_144, q19_145, q19_146, q19_149, q19_150, q19_151, W_1, W_I, W_mk, W_tk, pm_rv, rf_0_0, rf_0_1, rf_0_2, rf_0_3, rf_0_4, rf_0_7, rf_0_8, rf_1_0, rf_1_2, rf_3_0, rf_3_1, rf_3_6, rf_3_7, rf_3_8, rf_9_0, rf_9_1, rf_10_0, rf_10_1, rf_10_6, rf_10_7, rf_10_8, rf_17_0, rf_17_1, rf_538_2, rf_538_6, rf_538_7, rf_538_9, rf_538_11, rf_538_12, rf_538_18, rf_538_19, rf_538_22, rf_538_23, rf_538_25, rf_538_27, rf_538_28, rf_538_30, rf_538_31, rf_538_32, rf_538_33, rf_538_34, rf_538_35, rf_538_36, ob_0, ob_1, ob_3, ob_9, ob_10, ob_17, ob_538, ar_2, ar_4, ar_5, ar_6, ar_7, ar_8, ar_11, ar_12, ar_13, ar_14, ar_15, ar_16, ar_116, ar_117, ar_539, ar_540, ar_541, ar_542, ar_543, ar_544, ar_545, ar_546, ar_547, ar_548, ar_549, ar_550, ar_551, ar_552, ar_553, ar_554, ar_555, ar_556, ar_557, ar_558, ex_eq, ex_ite, pm_bk_r, pm_bk_t, ol_nil, ol_one, true_and, and_true, false_and, and_false, reduceIte, Nat.reduceEqDiff, up_at, Nat.add_left_cancel_iff, hgl.2.1, rfin]
        · by_cases w3 : w = 3
          · subst w3; simp (decide := true) only [q19_0, q19_1, q19_48, q19_49, q19_52, q19_55, q19_56, q19_57, q19_60, q19_63, q19_66, q19_67, q19_68, q19_71, q19_74, q19_77, q19_78, q19_79, q19_82, q19_85, q19_88, q19_89, q19_90, q19_93, q19_96, q19_97, q19_100, q19_101, q19_102, q19_103, q19_106, q19_109, q19_110, q19_113, q19_116, q19_119, q19_120, q19_121, q19_122, q19_125, q19_128, q19_129, q19_132, q19_135, q19_136, q19_139, q19_140, q19_143, q19_144, q19_145, q19_146, q19_149, q19_150, q19_151, W_1, W_I, W_mk, W_tk, pm_rv, rf_0_0, rf_0_1, rf_0_2, rf_0_3, rf_0_4, rf_0_7, rf_0_8, rf_1_0, rf_1_2, rf_3_0, rf_3_1, rf_3_6, rf_3_7, rf_3_8, rf_9_0, rf_9_1, rf_10_0, rf_10_1, rf_10_6, rf_10_7, rf_10_8, rf_17_0, rf_17_1, rf_538_2, rf_538_6, rf_538_7, rf_538_9, rf_538_11, rf_538_12, rf_538_18, rf_538_19, rf_538_22, rf_538_23, rf_538_25, rf_538_27, rf_538_28, rf_538_30, rf_538_31, rf_538_32, rf_538_33, rf_538_34, rf_538_35, rf_538_36, ob_0, ob_1, ob_3, ob_9, ob_10, ob_17, ob_538, ar_2, ar_4, ar_5, ar_6, ar_7, ar_8, ar_11, ar_12, ar_13, ar_14, ar_15, ar_16, ar_116, ar_117, ar_539, ar_540, ar_541, ar_542, ar_543, ar_544, ar_545, ar_546, ar_547, ar_548, ar_549, ar_550, ar_551, ar_552, ar_553, ar_554, ar_555, ar_556, ar_557, ar_558, ex_eq, ex_ite, pm_bk_r, pm_bk_t, ol_nil, ol_one, true_and, and_true, false_and, and_false, reduceIte, Nat.reduceEqDiff, up_at, Nat.add_left_cancel_iff, hgl.2.2, rfin]
          · by_cases w4 : w = 4
            · subst w4
              cases hD : S.2.2.1 with
              | none =>
                rw [hD] at h6
                have h6 : I 0 6 = 0 := h6
                simp (decide := true) only [q19_0, q19_1, q19_48, q19_49, q19_52, q19_55, q19_56, q19_57, q19_60, q19_63, q19_66, q19_67, q19_68, q19_71, q19_74, q19_77, q19_78, q19_79, q19_82, q19_85, q19_88, q19_89, q19_90, q19_93, q19_96, q19_97, q19_100, q19_101, q19_102, q19_103, q19_106, q19_109, q19_110, q19_113, q19_116, q19_119, q19_120, q19_121, q19_122, q19_125, q19_128, q19_129, q19_132, q19_135, q19_136, q19_139, q19_140, q19_143, q19_144, q19_145, q19_146, q19_149, q19_150, q19_151, W_1, W_I, W_mk, W_tk, pm_rv, rf_0_0, rf_0_1, rf_0_2, rf_0_3, rf_0_4, rf_0_7, rf_0_8, rf_1_0, rf_1_2, rf_3_0, rf_3_1, rf_3_6, rf_3_7, rf_3_8, rf_9_0, rf_9_1, rf_10_0, rf_10_1, rf_10_6, rf_10_7, rf_10_8, rf_17_0, rf_17_1, rf_538_2, rf_538_6, rf_538_7, rf_538_9, rf_538_11, rf_538_12, rf_538_18, rf_538_19, rf_538_22, rf_538_23, rf_538_25, rf_538_27, rf_538_28, rf_538_30, rf_538_31, rf_538_32, rf_538_33, rf_538_34, rf_538_35, rf_538_36, ob_0, ob_1, ob_3, ob_9, ob_10, ob_17, ob_538, ar_2, ar_4, ar_5, ar_6, ar_7, ar_8, ar_11, ar_12, ar_13, ar_14, ar_15, ar_16, ar_116, ar_117, ar_539, ar_540, ar_541, ar_542, ar_543, ar_544, ar_545, ar_546, ar_547, ar_548, ar_549, ar_550, ar_551, ar_552, ar_553, ar_554, ar_555, ar_556, ar_557, ar_558, ex_eq, ex_ite, pm_bk_r, pm_bk_t, ol_nil, ol_one, true_and, and_true, false_and, and_false, reduceIte, Nat.reduceEqDiff, up_at, Nat.add_left_cancel_iff, h6, rfin, bI, Option.isSome]
              | some P =>
                rw [hD] at h6
                have h6 : I 0 6 = 1 := h6
                simp (decide := true) only [q19_0, q19_1, q19_48, q19_49, q19_52, q19_55, q19_56, q19_57, q19_60, q19_63, q19_66, q19_67, q19_68, q19_71, q19_74, q19_77, q19_78, q19_79, q19_82, q19_85, q19_88, q19_89, q19_90, q19_93, q19_96, q19_97, q19_100, q19_101, q19_102, q19_103, q19_106, q19_109, q19_110, q19_113, q19_116, q19_119, q19_120, q19_121, q19_122, q19_125, q19_128, q19_129, q19_132, q19_135, q19_136, q19_139, q19_140, q19_143, q19_144, q19_145, q19_146, q19_149, q19_150, q19_151, W_1, W_I, W_mk, W_tk, pm_rv, rf_0_0, rf_0_1, rf_0_2, rf_0_3, rf_0_4, rf_0_7, rf_0_8, rf_1_0, rf_1_2, rf_3_0, rf_3_1, rf_3_6, rf_3_7, rf_3_8, rf_9_0, rf_9_1, rf_10_0, rf_10_1, rf_10_6, rf_10_7, rf_10_8, rf_17_0, rf_17_1, rf_538_2, rf_538_6, rf_538_7, rf_538_9, rf_538_11, rf_538_12, rf_538_18, rf_538_19, rf_538_22, rf_538_23, rf_538_25, rf_538_27, rf_538_28, rf_538_30, rf_538_31, rf_538_32, rf_538_33, rf_538_34, rf_538_35, rf_538_36, ob_0, ob_1, ob_3, ob_9, ob_10, ob_17, ob_538, ar_2, ar_4, ar_5, ar_6, ar_7, ar_8, ar_11, ar_12, ar_13, ar_14, ar_15, ar_16, ar_116, ar_117, ar_539, ar_540, ar_541, ar_542, ar_543, ar_544, ar_545, ar_546, ar_547, ar_548, ar_549, ar_550, ar_551, ar_552, ar_553, ar_554, ar_555, ar_556, ar_557, ar_558, ex_eq, ex_ite, pm_bk_r, pm_bk_t, ol_nil, ol_one, true_and, and_true, false_and, and_false, reduceIte, Nat.reduceEqDiff, up_at, Nat.add_left_cancel_iff, h6, rfin, bI, Option.isSome]
            · by_cases w5 : w = 5
              · subst w5
                cases hD : S.2.2.1 with
                | none =>
                  rw [hD] at h6
                  have h6 : I 0 6 = 0 := h6
                  simp (decide := true) only [q19_0, q19_1, q19_48, q19_49, q19_52, q19_55, q19_56, q19_57, q19_60, q19_63, q19_66, q19_67, q19_68, q19_71, q19_74, q19_77, q19_78, q19_79, q19_82, q19_85, q19_88, q19_89, q19_90, q19_93, q19_96, q19_97, q19_100, q19_101, q19_102, q19_103, q19_106, q19_109, q19_110, q19_113, q19_116, q19_119, q19_120, q19_121, q19_122, q19_125, q19_128, q19_129, q19_132, q19_135, q19_136, q19_139, q19_140, q19_143, q19_144, q19_145, q19_146, q19_149, q19_150, q19_151, W_1, W_I, W_mk, W_tk, pm_rv, rf_0_0, rf_0_1, rf_0_2, rf_0_3, rf_0_4, rf_0_7, rf_0_8, rf_1_0, rf_1_2, rf_3_0, rf_3_1, rf_3_6, rf_3_7, rf_3_8, rf_9_0, rf_9_1, rf_10_0, rf_10_1, rf_10_6, rf_10_7, rf_10_8, rf_17_0, rf_17_1, rf_538_2, rf_538_6, rf_538_7, rf_538_9, rf_538_11, rf_538_12, rf_538_18, rf_538_19, rf_538_22, rf_538_23, rf_538_25, rf_538_27, rf_538_28, rf_538_30, rf_538_31, rf_538_32, rf_538_33, rf_538_34, rf_538_35, rf_538_36, ob_0, ob_1, ob_3, ob_9, ob_10, ob_17, ob_538, ar_2, ar_4, ar_5, ar_6, ar_7, ar_8, ar_11, ar_12, ar_13, ar_14, ar_15, ar_16, ar_116, ar_117, ar_539, ar_540, ar_541, ar_542, ar_543, ar_544, ar_545, ar_546, ar_547, ar_548, ar_549, ar_550, ar_551, ar_552, ar_553, ar_554, ar_555, ar_556, ar_557, ar_558, ex_eq, ex_ite, pm_bk_r, pm_bk_t, ol_nil, ol_one, true_and, and_true, false_and, and_false, reduceIte, Nat.reduceEqDiff, up_at, Nat.add_left_cancel_iff, h6, rfin]
                | some P =>
                  rw [hD] at h6
                  have h6 : I 0 6 = 1 := h6
                  have ht : I 108 6 = nI P.2.2.2 := (h.2.2.2.2.1 P hD).2.2.2.2.2
                  simp (decide := true) only [q19_0, q19_1, q19_48, q19_49, q19_52, q19_55, q19_56, q19_57, q19_60, q19_63, q19_66, q19_67, q19_68, q19_71, q19_74, q19_77, q19_78, q19_79, q19_82, q19_85, q19_88, q19_89, q19_90, q19_93, q19_96, q19_97, q19_100, q19_101, q19_102, q19_103, q19_106, q19_109, q19_110, q19_113, q19_116, q19_119, q19_120, q19_121, q19_122, q19_125, q19_128, q19_129, q19_132, q19_135, q19_136, q19_139, q19_140, q19_143, q19_144, q19_145, q19_146, q19_149, q19_150, q19_151, W_1, W_I, W_mk, W_tk, pm_rv, rf_0_0, rf_0_1, rf_0_2, rf_0_3, rf_0_4, rf_0_7, rf_0_8, rf_1_0, rf_1_2, rf_3_0, rf_3_1, rf_3_6, rf_3_7, rf_3_8, rf_9_0, rf_9_1, rf_10_0, rf_10_1, rf_10_6, rf_10_7, rf_10_8, rf_17_0, rf_17_1, rf_538_2, rf_538_6, rf_538_7, rf_538_9, rf_538_11, rf_538_12, rf_538_18, rf_538_19, rf_538_22, rf_538_23, rf_538_25, rf_538_27, rf_538_28, rf_538_30, rf_538_31, rf_538_32, rf_538_33, rf_538_34, rf_538_35, rf_538_36, ob_0, ob_1, ob_3, ob_9, ob_10, ob_17, ob_538, ar_2, ar_4, ar_5, ar_6, ar_7, ar_8, ar_11, ar_12, ar_13, ar_14, ar_15, ar_16, ar_116, ar_117, ar_539, ar_540, ar_541, ar_542, ar_543, ar_544, ar_545, ar_546, ar_547, ar_548, ar_549, ar_550, ar_551, ar_552, ar_553, ar_554, ar_555, ar_556, ar_557, ar_558, ex_eq, ex_ite, pm_bk_r, pm_bk_t, ol_nil, ol_one, true_and, and_true, false_and, and_false, reduceIte, Nat.reduceEqDiff, up_at, Nat.add_left_cancel_iff, h6, ob_t tb_108, ht, rfin]
              · by_cases w7 : w = 7
                · subst w7; simp (decide := true) only [q19_0, q19_1, q19_48, q19_49, q19_52, q19_55, q19_56, q19_57, q19_60, q19_63, q19_66, q19_67, q19_68, q19_71, q19_74, q19_77, q19_78, q19_79, q19_82, q19_85, q19_88, q19_89, q19_90, q19_93, q19_96, q19_97, q19_100, q19_101, q19_102, q19_103, q19_106, q19_109, q19_110, q19_113, q19_116, q19_119, q19_120, q19_121, q19_122, q19_125, q19_128, q19_129, q19_132, q19_135, q19_136, q19_139, q19_140, q19_143, q19_144, q19_145, q19_146, q19_149, q19_150, q19_151, W_1, W_I, W_mk, W_tk, pm_rv, rf_0_0, rf_0_1, rf_0_2, rf_0_3, rf_0_4, rf_0_7, rf_0_8, rf_1_0, rf_1_2, rf_3_0, rf_3_1, rf_3_6, rf_3_7, rf_3_8, rf_9_0, rf_9_1, rf_10_0, rf_10_1, rf_10_6, rf_10_7, rf_10_8, rf_17_0, rf_17_1, rf_538_2, rf_538_6, rf_538_7, rf_538_9, rf_538_11, rf_538_12, rf_538_18, rf_538_19, rf_538_22, rf_538_23, rf_538_25, rf_538_27, rf_538_28, rf_538_30, rf_538_31, rf_538_32, rf_538_33, rf_538_34, rf_538_35, rf_538_36, ob_0, ob_1, ob_3, ob_9, ob_10, ob_17, ob_538, ar_2, ar_4, ar_5, ar_6, ar_7, ar_8, ar_11, ar_12, ar_13, ar_14, ar_15, ar_16, ar_116, ar_117, ar_539, ar_540, ar_541, ar_542, ar_543, ar_544, ar_545, ar_546, ar_547, ar_548, ar_549, ar_550, ar_551, ar_552, ar_553, ar_554, ar_555, ar_556, ar_557, ar_558, ex_eq, ex_ite, pm_bk_r, pm_bk_t, ol_nil, ol_one, true_and, and_true, false_and, and_false, reduceIte, Nat.reduceEqDiff, up_at, Nat.add_left_cancel_iff, h.2.2.2.1, rfin]
                · simp (decide := true) only [q19_0, q19_1, q19_48, q19_49, q19_52, q19_55, q19_56, q19_57, q19_60, q19_63, q19_66, q19_67, q19_68, q19_71, q19_74, q19_77, q19_78, q19_79, q19_82, q19_85, q19_88, q19_89, q19_90, q19_93, q19_96, q19_97, q19_100, q19_101, q19_102, q19_103, q19_106, q19_109, q19_110, q19_113, q19_116, q19_119, q19_120, q19_121, q19_122, q19_125, q19_128, q19_129, q19_132, q19_135, q19_136, q19_139, q19_140, q19_143, q19_144, q19_145, q19_146, q19_149, q19_150, q19_151, W_1, W_I, W_mk, W_tk, pm_rv, rf_0_0, rf_0_1, rf_0_2, rf_0_3, rf_0_4, rf_0_7, rf_0_8, rf_1_0, rf_1_2, rf_3_0, rf_3_1, rf_3_6, rf_3_7, rf_3_8, rf_9_0, rf_9_1, rf_10_0, rf_10_1, rf_10_6, rf_10_7, rf_10_8, rf_17_0, rf_17_1, rf_538_2, rf_538_6, rf_538_7, rf_538_9, rf_538_11, rf_538_12, rf_538_18, rf_538_19, rf_538_22, rf_538_23, rf_538_25, rf_538_27, rf_538_28, rf_538_30, rf_538_31, rf_538_32, rf_538_33, rf_538_34, rf_538_35, rf_538_36, ob_0, ob_1, ob_3, ob_9, ob_10, ob_17, ob_538, ar_2, ar_4, ar_5, ar_6, ar_7, ar_8, ar_11, ar_12, ar_13, ar_14, ar_15, ar_16, ar_116, ar_117, ar_539, ar_540, ar_541, ar_542, ar_543, ar_544, ar_545, ar_546, ar_547, ar_548, ar_549, ar_550, ar_551, ar_552, ar_553, ar_554, ar_555, ar_556, ar_557, ar_558, ex_eq, ex_ite, pm_bk_r, pm_bk_t, ol_nil, ol_one, true_and, and_true, false_and, and_false, reduceIte, Nat.reduceEqDiff, up_at, Nat.add_left_cancel_iff, w0, w1, w2, w3, w4, w5, w6, w7, rfin]
theorem k20 (hA : AOK S) (h : CI S I) {b : Int32} : COK (o_solve S b).1 (o_solve S b).2 I k o (fun M q => pm_C (d + 18) 20 [.ref 0, .int b] M q) := by
  have h6 := h.2.2.1
  cases hD : S.2.2.1 with
  | none =>
    rw [hD] at h6
    have h6 : I 0 6 = 0 := h6
    have ho : o_solve S b = (S, .inr 1) := by unfold o_solve; rw [hD]; cases S.2.1 <;> rfl
    rw [ho]
    refine ⟨I, h, fun _ _ => rfl, fun q => ?_⟩
    show pm_C (d + 18) 20 _ _ q ↔ _
    rw [n20]
    simp (decide := true) only [q20_0, q20_1, q20_4, q20_7, q20_17, q20_18, q20_19, q20_22, q20_23, q20_26, q20_29, q20_39, q20_40, q20_43, q20_44, q20_47, q20_48, q20_51, q20_52, q20_55, q20_56, q20_57, q20_58, q20_61, q20_64, q20_67, q20_68, W_1, W_I, W_mk, W_tk, pm_rv, rf_0_0, rf_0_1, rf_0_2, rf_0_3, rf_0_4, rf_0_7, rf_0_8, rf_1_0, rf_1_2, rf_3_0, rf_3_1, rf_3_6, rf_3_7, rf_3_8, rf_9_0, rf_9_1, rf_10_0, rf_10_1, rf_10_6, rf_10_7, rf_10_8, rf_17_0, rf_17_1, rf_538_2, rf_538_6, rf_538_7, rf_538_9, rf_538_11, rf_538_12, rf_538_18, rf_538_19, rf_538_22, rf_538_23, rf_538_25, rf_538_27, rf_538_28, rf_538_30, rf_538_31, rf_538_32, rf_538_33, rf_538_34, rf_538_35, rf_538_36, ob_0, ob_1, ob_3, ob_9, ob_10, ob_17, ob_538, ar_2, ar_4, ar_5, ar_6, ar_7, ar_8, ar_11, ar_12, ar_13, ar_14, ar_15, ar_16, ar_116, ar_117, ar_539, ar_540, ar_541, ar_542, ar_543, ar_544, ar_545, ar_546, ar_547, ar_548, ar_549, ar_550, ar_551, ar_552, ar_553, ar_554, ar_555, ar_556, ar_557, ar_558, ex_eq, ex_ite, pm_bk_r, pm_bk_t, ol_nil, ol_one, true_and, and_true, false_and, and_false, reduceIte, Nat.reduceEqDiff, up_at, Nat.add_left_cancel_iff, h6, W_tk, rfin]
  | some P =>
    rw [hD] at h6
    have h6 : I 0 6 = 1 := h6
    obtain ⟨G, hG, hok, hPA⟩ := hA.g hD
    have hgr : GR G I := by have := h.2.1; rw [hG] at this; exact this
    have hT := h.2.2.2.2.1 P hD
    have ho : o_solve S b = if b < 1 ∨ 2000 < b then (S, .inr 0) else if t_ok G 10 P = true ∧ t_n G 10 P < b.toNatClampNeg then ((S.1, some G, some P, S.2.2.2.1, (t_v G 10 P).2), .inl (t_v G 10 P).1) else (S, .inr 3) := by unfold o_solve; rw [hG, hD]
    rw [ho]
    by_cases b1 : b < 1
    · rw [if_pos (Or.inl b1)]
      refine ⟨I, h, fun _ _ => rfl, fun q => ?_⟩
      show pm_C (d + 18) 20 _ _ q ↔ _
      rw [n20]
      simp (decide := true) only [q20_0, q20_1, q20_4, q20_7, q20_17, q20_18, q20_19, q20_22, q20_23, q20_26, q20_29, q20_39, q20_40, q20_43, q20_44, q20_47, q20_48, q20_51, q20_52, q20_55, q20_56, q20_57, q20_58, q20_61, q20_64, q20_67, q20_68, W_1, W_I, W_mk, W_tk, pm_rv, rf_0_0, rf_0_1, rf_0_2, rf_0_3, rf_0_4, rf_0_7, rf_0_8, rf_1_0, rf_1_2, rf_3_0, rf_3_1, rf_3_6, rf_3_7, rf_3_8, rf_9_0, rf_9_1, rf_10_0, rf_10_1, rf_10_6, rf_10_7, rf_10_8, rf_17_0, rf_17_1, rf_538_2, rf_538_6, rf_538_7, rf_538_9, rf_538_11, rf_538_12, rf_538_18, rf_538_19, rf_538_22, rf_538_23, rf_538_25, rf_538_27, rf_538_28, rf_538_30, rf_538_31, rf_538_32, rf_538_33, rf_538_34, rf_538_35, rf_538_36, ob_0, ob_1, ob_3, ob_9, ob_10, ob_17, ob_538, ar_2, ar_4, ar_5, ar_6, ar_7, ar_8, ar_11, ar_12, ar_13, ar_14, ar_15, ar_16, ar_116, ar_117, ar_539, ar_540, ar_541, ar_542, ar_543, ar_544, ar_545, ar_546, ar_547, ar_548, ar_549, ar_550, ar_551, ar_552, ar_553, ar_554, ar_555, ar_556, ar_557, ar_558, ex_eq, ex_ite, pm_bk_r, pm_bk_t, ol_nil, ol_one, true_and, and_true, false_and, and_false, reduceIte, Nat.reduceEqDiff, up_at, Nat.add_left_cancel_iff, h6, b1, W_tk, rfin]
    · by_cases b2 : 2000 < b
      · rw [if_pos (Or.inr b2)]
        refine ⟨I, h, fun _ _ => rfl, fun q => ?_⟩
        show pm_C (d + 18) 20 _ _ q ↔ _
        rw [n20]
        simp (decide := true) only [q20_0, q20_1, q20_4, q20_7, q20_17, q20_18, q20_19, q20_22, q20_23, q20_26, q20_29, q20_39, q20_40, q20_43, q20_44, q20_47, q20_48, q20_51, q20_52, q20_55, q20_56, q20_57, q20_58, q20_61, q20_64, q20_67, q20_68, W_1, W_I, W_mk, W_tk, pm_rv, rf_0_0, rf_0_1, rf_0_2, rf_0_3, rf_0_4, rf_0_7, rf_0_8, rf_1_0, rf_1_2, rf_3_0, rf_3_1, rf_3_6, rf_3_7, rf_3_8, rf_9_0, rf_9_1, rf_10_0, rf_10_1, rf_10_6, rf_10_7, rf_10_8, rf_17_0, rf_17_1, rf_538_2, rf_538_6, rf_538_7, rf_538_9, rf_538_11, rf_538_12, rf_538_18, rf_538_19, rf_538_22, rf_538_23, rf_538_25, rf_538_27, rf_538_28, rf_538_30, rf_538_31, rf_538_32, rf_538_33, rf_538_34, rf_538_35, rf_538_36, ob_0, ob_1, ob_3, ob_9, ob_10, ob_17, ob_538, ar_2, ar_4, ar_5, ar_6, ar_7, ar_8, ar_11, ar_12, ar_13, ar_14, ar_15, ar_16, ar_116, ar_117, ar_539, ar_540, ar_541, ar_542, ar_543, ar_544, ar_545, ar_546, ar_547, ar_548, ar_549, ar_550, ar_551, ar_552, ar_553, ar_554, ar_555, ar_556, ar_557, ar_558, ex_eq, ex_ite, pm_bk_r, pm_bk_t, ol_nil, ol_one, true_and, and_true, false_and, and_false, reduceIte, Nat.reduceEqDiff, up_at, Nat.add_left_cancel_iff, h6, b1, b2, W_tk, rfin]
      · rw [if_neg (fun q => q.elim b1 b2)]
        have b0 : ¬ b < 0 := by
          intro q
          apply b1
          rw [Int32.lt_iff_toInt_lt] at q ⊢
          have e1 : (1 : Int32).toInt = 1 := by decide
          have e0 : (0 : Int32).toInt = 0 := by decide
          omega
        have hn := nn_nI b0
        have hb1 : 1 ≤ b.toNatClampNeg := by
          have b1 : ¬ b < nI 1 := b1
          rw [hn.1, sm_lt hn.2 (by omega)] at b1
          omega
        have hb2 : b.toNatClampNeg ≤ 2000 := by
          have b2 : ¬ nI 2000 < b := b2
          rw [hn.1, sm_lt (by omega) hn.2] at b2
          omega
        have hc := c106 (d := d) (k := k) (o := o) hok hb1 hb2 hPA hgr hT
        rw [← hn.1] at hc
        by_cases hs : t_ok G 10 P = true ∧ t_n G 10 P < b.toNatClampNeg
        · rw [if_pos hs]
          obtain ⟨J, g1, g2, g3⟩ := hc.1 hs
          have hTJ : TR 108 P J := hT.eq (fun x a b => by funext j; exact g1 _ _ (by omega) (by omega) (by omega) (by omega))
          have hJ := h.cf g1.cf (fun P' hP' => by rw [hD] at hP'; injection hP' with hP'; rw [← hP']; exact hTJ)
          refine ⟨pm_up J 0 9 (t_v G 10 P).2, ⟨hJ.1.eq (up_ne (by omega)) (up_row (by omega)), ?_, ?_, ?_, fun P' hP' => ?_, fun h' hh' => (hJ.2.2.2.2.2.1 h' hh').eq (fun x a b => up_row (by omega)), up_eq⟩, ?_, fun q => ?_⟩
          · have := hJ.2.1
            rw [hG] at this
            exact GR.congr this (fun x a b => up_row (by omega))
          · rw [up_ne (by omega), hJ.2.2.1, hD]
          · rw [up_ne (by omega)]; exact hJ.2.2.2.1
          · injection hP' with hP'
            rw [← hP']
            exact hTJ.eq (fun x a b => up_row (by omega))
          · intro x hx
            rw [up_row (by omega)]
            exact g1.cf.hi x hx
          · show pm_C (d + 18) 20 _ _ q ↔ _
            rw [n20]
            simp (decide := true) only [q20_0, q20_1, q20_4, q20_7, q20_17, q20_18, q20_19, q20_22, q20_23, q20_26, q20_29, q20_39, q20_40, q20_43, q20_44, q20_47, q20_48, q20_51, q20_52, q20_55, q20_56, q20_57, q20_58, q20_61, q20_64, q20_67, q20_68, W_1, W_I, W_mk, W_tk, pm_rv, rf_0_0, rf_0_1, rf_0_2, rf_0_3, rf_0_4, rf_0_7, rf_0_8, rf_1_0, rf_1_2, rf_3_0, rf_3_1, rf_3_6, rf_3_7, rf_3_8, rf_9_0, rf_9_1, rf_10_0, rf_10_1, rf_10_6, rf_10_7, rf_10_8, rf_17_0, rf_17_1, rf_538_2, rf_538_6, rf_538_7, rf_538_9, rf_538_11, rf_538_12, rf_538_18, rf_538_19, rf_538_22, rf_538_23, rf_538_25, rf_538_27, rf_538_28, rf_538_30, rf_538_31, rf_538_32, rf_538_33, rf_538_34, rf_538_35, rf_538_36, ob_0, ob_1, ob_3, ob_9, ob_10, ob_17, ob_538, ar_2, ar_4, ar_5, ar_6, ar_7, ar_8, ar_11, ar_12, ar_13, ar_14, ar_15, ar_16, ar_116, ar_117, ar_539, ar_540, ar_541, ar_542, ar_543, ar_544, ar_545, ar_546, ar_547, ar_548, ar_549, ar_550, ar_551, ar_552, ar_553, ar_554, ar_555, ar_556, ar_557, ar_558, ex_eq, ex_ite, pm_bk_r, pm_bk_t, ol_nil, ol_one, true_and, and_true, false_and, and_false, reduceIte, Nat.reduceEqDiff, up_at, Nat.add_left_cancel_iff, h6, b1, b2, g3, g2, rfin]
        · rw [if_neg hs]
          obtain ⟨J, g1, g2⟩ := hc.2 hs
          have hTJ : TR 108 P J := hT.eq (fun x a b => by funext j; exact g1 _ _ (by omega) (by omega) (by omega) (by omega))
          have hJ := h.cf g1.cf (fun P' hP' => by rw [hD] at hP'; injection hP' with hP'; rw [← hP']; exact hTJ)
          refine ⟨J, hJ, g1.cf.hi, fun q => ?_⟩
          show pm_C (d + 18) 20 _ _ q ↔ _
          rw [n20]
          simp (decide := true) only [q20_0, q20_1, q20_4, q20_7, q20_17, q20_18, q20_19, q20_22, q20_23, q20_26, q20_29, q20_39, q20_40, q20_43, q20_44, q20_47, q20_48, q20_51, q20_52, q20_55, q20_56, q20_57, q20_58, q20_61, q20_64, q20_67, q20_68, W_1, W_I, W_mk, W_tk, pm_rv, rf_0_0, rf_0_1, rf_0_2, rf_0_3, rf_0_4, rf_0_7, rf_0_8, rf_1_0, rf_1_2, rf_3_0, rf_3_1, rf_3_6, rf_3_7, rf_3_8, rf_9_0, rf_9_1, rf_10_0, rf_10_1, rf_10_6, rf_10_7, rf_10_8, rf_17_0, rf_17_1, rf_538_2, rf_538_6, rf_538_7, rf_538_9, rf_538_11, rf_538_12, rf_538_18, rf_538_19, rf_538_22, rf_538_23, rf_538_25, rf_538_27, rf_538_28, rf_538_30, rf_538_31, rf_538_32, rf_538_33, rf_538_34, rf_538_35, rf_538_36, ob_0, ob_1, ob_3, ob_9, ob_10, ob_17, ob_538, ar_2, ar_4, ar_5, ar_6, ar_7, ar_8, ar_11, ar_12, ar_13, ar_14, ar_15, ar_16, ar_116, ar_117, ar_539, ar_540, ar_541, ar_542, ar_543, ar_544, ar_545, ar_546, ar_547, ar_548, ar_549, ar_550, ar_551, ar_552, ar_553, ar_554, ar_555, ar_556, ar_557, ar_558, ex_eq, ex_ite, pm_bk_r, pm_bk_t, ol_nil, ol_one, true_and, and_true, false_and, and_false, reduceIte, Nat.reduceEqDiff, up_at, Nat.add_left_cancel_iff, h6, b1, b2, g2, rfin]
end COQ
