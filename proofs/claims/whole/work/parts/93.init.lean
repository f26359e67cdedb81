section INIT2
variable {d n : Nat} {I : Nat → Nat → Int32} {R : Nat → Nat → Option Nat}
theorem w_loop (h : Fz 118 I R) (h3 : R 30000 0 = none) (h17 : R 0 4 = some 115) {q : pm_Res} (k : Nat) : ∀ n, n + k = 60 → (pm_R (d + 1) 0 91 [some (.ref 0), some (.int (nI n))] [] (Nm (118 + 7 * n) I (cw_up R (cw_tn 115 118 n))) q ↔ q = (.inl none, Nm 538 I (cw_up R (cw_tn 115 118 60)))) := by
  induction k with
  | zero =>
    intro n hn
    obtain rfl : n = 60 := by omega
    have hlt : ¬ nI 60 < (60 : Int32) := by decide
    simp (decide := true) only [q0_91, q0_92, q0_94, q0_116, ex_eq, ex_ite, pm_bk_r, pm_bk_t, ol_nil, ol_one, true_and, and_true, false_and, and_false, reduceIte, Nat.reduceEqDiff, up_at, Nat.add_left_cancel_iff, hlt]
  | succ k ih =>
    intro n hn
    have hT := TB3 n (by omega)
    have hnx := ih (n + 1) (by omega)
    rw [tn_s] at hnx
    obtain ⟨t, ht⟩ : ∃ t, t = 118 + 7 * n := ⟨_, rfl⟩
    have e7 : 118 + 7 * (n + 1) = t + 7 := by omega
    rw [e7, ← ht] at hnx
    rw [← ht] at hT ⊢
    obtain ⟨T, hR⟩ : ∃ T, T = cw_up R (cw_tn 115 118 n) := ⟨_, rfl⟩
    rw [← hR] at hnx ⊢
    have hf : Fz t I T := by
      rw [hR, Fz_cu (fun q hq => by rcases tn_mem hq with a | a <;> omega)]
      exact (h.mono (by omega)).mpr trivial
    have t3 : T 30000 0 = none := by rw [hR, cu_no (fun q hq => by rcases tn_mem hq with a | a <;> omega)]; exact h3
    have t17 : T 0 4 = some 115 := by rw [hR, cu_no (fun q hq => by rcases tn_mem hq with a | a <;> omega)]; exact h17
    have hlt : nI n < (60 : Int32) := by
      rw [show (60 : Int32) = nI 60 from rfl, sm_lt (by omega) (by omega)]; omega
    have h108 : ∀ q, pm_C (d + 1) 108 [.ref t] (Nm (t + 1) I T) q ↔ q = (.inl none, Nm (t + 7) I (cw_up T (cw_tl t))) := fun q => i108 hT hf t3
    have s0 := hT.1
    have hn1 : t < pm_n := by unfold pm_n; omega
    have ob17 : 0 < t ↔ True := iff_true_intro (by omega)
    have ob18 : 115 < t + 7 ↔ True := iff_true_intro (by omega)
    have obt : t < t + 1 ↔ True := iff_true_intro (by omega)
    have obt7 : t < t + 7 ↔ True := iff_true_intro (by omega)
    have s18 : pm_sh 115 = (5, 60) := rfl
    have s17 : pm_sh 0 = (0, 5) := rfl
    have hv : vp_in (nI n) 60 ↔ True := iff_true_intro ((sm_in (by omega)).mpr (by omega))
    have hc : (nI n).toNatClampNeg = n := sm_cl (by omega)
    have g49 := fun x0 x1 v0 v1 r => a0_102 (d := d + 1) (n := t) (I := I) (R := T) (x0 := x0) (x1 := x1) (v0 := v0) (v1 := v1) (r := r) hf (by omega) t3
    simp (decide := true) only [q0_91, q0_92, q0_94, q0_97, q0_98, q0_101, g49, q0_105, q0_106, q0_109, q0_110, q0_113, ex_eq, ex_ite, pm_bk_r, pm_bk_t, ol_nil, ol_one, true_and, and_true, false_and, and_false, reduceIte, Nat.reduceEqDiff, up_at, Nat.add_left_cancel_iff, N_1, N_I, N_R, N_pf, N_ob, N_ar, hlt, t17, pm_rv, s0, hn1, ob17, ob18, obt, obt7, s18, s17, hv, hc, h108, sm_s, hnx]
theorem i0 (h : Fz 0 I R) (h3 : R 30000 0 = none) {q : pm_Res} : pm_C (d + 3) 0 [.ref 0] (Nm 1 I R) q ↔ q = (.inl none, Nm 538 (pm_up (pm_up I 17 3 (-1)) 0 9 (-1)) (cw_up (cw_mul (cw_up R cw_l1)) cw_l2)) := by
  have hm : ∀ m, (Fz m I R ↔ True) := fun m => h.mono (Nat.zero_le m)
  have z : ∀ j, I 0 j = 0 := fun j => (h 0 (by omega) (by omega) j).1
  obtain ⟨T, hT⟩ : ∃ T, T = pm_upR (pm_upR (pm_upR (pm_upR (cw_up (pm_upR (cw_up (pm_upR (cw_mul (cw_up R cw_l1)) 17 1 (some 19)) (cw_tn 18 31 11)) 0 2 (some 17)) (cw_tl 108)) 0 3 (some 108)) 0 4 (some 115)) 0 7 (some 116)) 0 8 (some 117) := ⟨_, rfl⟩
  have e2 : cw_up (cw_mul (cw_up R cw_l1)) cw_l2 = cw_up T (cw_tn 115 118 60) := by
    rw [hT]
    unfold cw_l2
    rw [cu_app, cu_app, cu_app, cu_app, cu_app]
    rfl
  have hs := w_loop (d := d + 1) (I := pm_up (pm_up I 17 3 (-1)) 0 9 (-1)) (R := T) (q := q) (by
    rw [hT, Fz_ui (by omega), Fz_ui (by omega)]
    simp (decide := true) only [cw_l1, c_cons, c_nil, cu_app, c_gl, c_gn, c_tl, c_ln, c_tn, c_nn, mu_f, mu_no, upR_no, upI_no, Fz_up, Fz_ui, up0, hm, Nat.reduceAdd, Nat.reduceMul, Nat.reduceLT, Nat.reduceLeDiff]) (by
    rw [hT]
    simp (decide := true) only [cw_l1, c_cons, c_nil, cu_app, c_gl, c_gn, c_tl, c_ln, c_tn, c_nn, mu_f, mu_no, upR_no, upI_no, Fz_up, Fz_ui, up0, h3, Nat.reduceAdd, Nat.reduceMul, Nat.reduceLT, Nat.reduceLeDiff]) (by
    rw [hT]
    simp (decide := true) only [upR_no, upR_at]) 60 0 rfl
  have h108 : ∀ {I : Nat → Nat → Int32} {R : Nat → Nat → Option Nat}, Fz 108 I R → R 30000 0 = none → ∀ {q : pm_Res}, (pm_C (d + 2) 108 [.ref 108] (Nm 109 I R) q ↔ q = (.inl none, Nm 115 I (cw_up R (cw_tl 108)))) := fun h h3 => i108 TB2 h h3
  have j92 : ∀ {R : Nat → Nat → Option Nat}, Fz 1 I R → R 30000 0 = none → ∀ {q : pm_Res}, (pm_C (d + 2) 92 [.ref 1] (Nm 2 I R) q ↔ q = (.inl none, Nm 9 I (cw_up R ([(1, 0, 2)] ++ cw_gl 3 ++ [(1, 2, 3)])))) := fun h h3 => i92 h h3
  have j82 : ∀ {R : Nat → Nat → Option Nat}, Fz 9 I R → R 30000 0 = none → ∀ {q : pm_Res}, (pm_C (d + 2) 82 [.ref 9] (Nm 10 I R) q ↔ q = (.inl none, Nm 17 I (cw_up R (cw_gl 10 ++ [(9, 0, 10), (9, 1, 16)])))) := fun h h3 => i82 h h3
  have j105 : ∀ {R : Nat → Nat → Option Nat}, Fz 17 I R → R 30000 0 = none → ∀ {q : pm_Res}, (pm_C (d + 2) 105 [.ref 17] (Nm 18 I R) q ↔ q = (.inl none, Nm 108 (pm_up I 17 3 (-1)) (cw_up (pm_upR (cw_mul (pm_upR R 17 0 (some 18))) 17 1 (some 19)) (cw_tn 18 31 11)))) := fun h h3 => i105 h h3
  rw [n0, e2]
  simp (decide := true) only [q0_0, q0_1, q0_4, a0_5, q0_8, q0_9, q0_12, q0_15, a0_16, q0_19, q0_20, q0_23, q0_26, a0_27, q0_30, q0_31, q0_34, q0_37, a0_38, q0_41, q0_42, q0_45, q0_48, q0_49, a0_51, q0_54, q0_57, q0_58, q0_59, q0_62, q0_63, q0_64, q0_67, q0_68, a0_70, q0_72, q0_75, q0_76, a0_79, q0_81, q0_84, q0_85, q0_86, q0_89, q0_90, ex_eq, ex_ite, pm_bk_r, pm_bk_t, ol_nil, ol_one, true_and, and_true, false_and, and_false, reduceIte, Nat.reduceEqDiff, up_at, Nat.add_left_cancel_iff, N_1, N_I, N_R, N_pf, N_pi, N_ob, N_ct, c_cons, c_nil, cu_app, c_gl, c_gn, c_tl, c_ln, c_tn, c_nn, mu_f, mu_no, upR_no, upI_no, Fz_up, Fz_ui, up0, hm, h3, z, Nat.reduceAdd, Nat.reduceMul, Nat.reduceLT, Nat.reduceLeDiff, h108, j92, j82, j105]
  rw [hT] at hs ⊢
  simp (decide := true) only [cw_l1, c_cons, c_nil, cu_app] at hs ⊢
  exact hs
theorem i22 (h : Fz 538 I R) (h3 : R 30000 0 = none) {q : pm_Res} : pm_C (d + 1) 22 [.ref 538] (Nm 539 I R) q ↔ q = (.inl none, Nm 559 (pm_up I 538 37 (-1)) (cw_up R cw_l3)) := by
  have hm : ∀ m, 538 ≤ m → (Fz m I R ↔ True) := fun m => h.mono
  have z : ∀ j, I 538 j = 0 := fun j => (h 538 (by omega) (by omega) j).1
  rw [n22]
  simp (decide := true) only [q22_0, q22_1, q22_4, q22_5, a22_8, q22_10, q22_13, q22_14, a22_17, q22_19, q22_22, q22_23, a22_26, q22_28, q22_31, q22_32, a22_35, q22_37, q22_40, q22_41, a22_43, q22_45, q22_48, q22_49, a22_51, q22_53, q22_56, q22_57, a22_59, q22_61, q22_64, q22_65, a22_67, q22_69, q22_72, q22_73, a22_76, q22_78, q22_81, q22_82, a22_85, q22_87, q22_90, q22_91, a22_94, q22_96, q22_99, q22_100, a22_103, q22_105, q22_108, q22_109, a22_112, q22_114, q22_117, q22_118, a22_120, q22_122, q22_125, q22_126, a22_129, q22_131, q22_134, q22_135, a22_138, q22_140, q22_143, q22_144, a22_146, q22_148, q22_151, q22_152, a22_154, q22_156, q22_159, q22_160, a22_162, q22_164, q22_167, q22_168, a22_171, q22_173, q22_176, q22_177, q22_178, q22_181, ex_eq, ex_ite, pm_bk_r, pm_bk_t, ol_nil, ol_one, true_and, and_true, false_and, and_false, reduceIte, Nat.reduceEqDiff, up_at, Nat.add_left_cancel_iff, N_1, N_I, N_R, N_pf, N_pi, N_ob, N_ct, c_cons, c_nil, cu_app, c_gl, c_gn, c_tl, c_ln, c_tn, c_nn, mu_f, mu_no, upR_no, upI_no, Fz_up, Fz_ui, up0, hm, h3, z, Nat.reduceAdd, Nat.reduceMul, Nat.reduceLT, Nat.reduceLeDiff]
  exact Iff.rfl
end INIT2
