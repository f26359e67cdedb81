section START
variable {d : Nat} {xs : Nat → Int32} {L : Nat}
def l_I0 (L : Nat) (xs : Nat → Int32) : Nat → Nat → Int32 := fun x j => if x = 20000 then xs j else if x = 20001 then nI L else 0
def l_I3 (L : Nat) (xs : Nat → Int32) : Nat → Nat → Int32 := pm_up (pm_up (pm_up (l_I0 L xs) 17 3 (-1)) 0 9 (-1)) 538 37 (-1)
theorem f_0 {m : Nat} : Fz m (l_I0 L xs) (fun _ _ => none) ↔ True := iff_true_intro (fun x _ b j => ⟨by
  unfold l_I0
  rw [if_neg (by omega), if_neg (by omega)], rfl⟩)
theorem f_1 {m : Nat} (hm : 538 ≤ m) : Fz m (pm_up (pm_up (l_I0 L xs) 17 3 (-1)) 0 9 (-1)) (cw_up (cw_mul (cw_up (fun _ _ => none) cw_l1)) cw_l2) ↔ True := by
  rw [Fz_ui (by omega), Fz_ui (by omega), Fz_cu (l := cw_l2), mu_f (by omega), Fz_cu (l := cw_l1)]
  · exact f_0
  · have e : ∀ q ∈ cw_l1, q.1 < 538 := by decide +kernel
    exact fun q hq => Nat.lt_of_lt_of_le (e q hq) hm
  · have e : ∀ q ∈ cw_l2, q.1 < 538 := by decide +kernel
    exact fun q hq => Nat.lt_of_lt_of_le (e q hq) hm
theorem r_1 : (cw_up (cw_mul (cw_up (fun _ _ => none) cw_l1)) cw_l2) 30000 0 = none := by decide +kernel
theorem f_2 {m : Nat} (hm : 539 ≤ m) : Fz m (l_I3 L xs) cw_R0 ↔ True := by
  have e : ∀ q ∈ cw_l3, q.1 < 539 := by decide +kernel
  unfold l_I3 cw_R0
  rw [Fz_ui (by omega), Fz_cu (l := cw_l3) (fun q hq => Nat.lt_of_lt_of_le (e q hq) hm)]
  exact f_1 (by omega)
theorem w_m : Nm 560 (l_I3 L xs) cw_R0 = Wm (l_I3 L xs) 0 0 := by
  have e : cw_L 0 = fun _ _ => 0 := by
    funext x j
    unfold cw_L
    split <;> rfl
  show ((560, l_I3 L xs, cw_R0, fun _ _ => 0) : pm_Mem) = (560, l_I3 L xs, cw_R 0, cw_L 0)
  rw [e]
  rfl
theorem l_start {q : pm_Res} : pm_C (d + 71) 121 [.ref 20000] (pm_M0 L xs) q ↔ pm_R (d + 70) 121 23 (ll 0 none none) [] (Wm (l_I3 L xs) 0 0) q := by
  have j0 : ∀ {q : pm_Res}, (pm_C (d + 70) 0 [.ref 0] (Nm 1 (l_I0 L xs) (fun _ _ => none)) q ↔ q = (.inl none, Nm 538 (pm_up (pm_up (l_I0 L xs) 17 3 (-1)) 0 9 (-1)) (cw_up (cw_mul (cw_up (fun _ _ => none) cw_l1)) cw_l2))) := i0 (d := d + 67) (f_0.mpr trivial) rfl
  have j22 : ∀ {q : pm_Res}, (pm_C (d + 70) 22 [.ref 538] (Nm 539 (pm_up (pm_up (l_I0 L xs) 17 3 (-1)) 0 9 (-1)) (cw_up (cw_mul (cw_up (fun _ _ => none) cw_l1)) cw_l2)) q ↔ q = (.inl none, Nm 559 (l_I3 L xs) cw_R0)) := i22 (d := d + 69) ((f_1 (by omega)).mpr trivial) r_1
  show pm_C (d + 71) 121 _ (Nm 0 (l_I0 L xs) (fun _ _ => none)) q ↔ _
  rw [n121]
  simp (decide := true) only [a121_0, q121_3, q121_4, q121_7, a121_8, q121_11, q121_12, q121_15, q121_16, a121_17, q121_19, q121_20, q121_21, ex_eq, ex_ite, pm_bk_r, pm_bk_t, ol_nil, ol_one, true_and, and_true, false_and, and_false, reduceIte, Nat.reduceEqDiff, up_at, Nat.add_left_cancel_iff, N_1, N_I, N_R, N_pf, N_pi, N_ob, N_ct, f_0, f_1, f_2, r_1, W_z, j0, j22, w_m, Nat.reduceAdd, Nat.reduceMul, Nat.reduceLT, Nat.reduceLeDiff]
  exact Iff.rfl
def l_S0 : AS := ([], none, none, [], -1)
theorem l_li : LI xs L l_S0 (l_I3 L xs) := by
  have e : ∀ x j, x < 20000 → ¬ (x = 0 ∧ j = 9) → ¬ (x = 17 ∧ j = 3) → ¬ (x = 538 ∧ j = 37) → l_I3 L xs x j = 0 := fun x j h a b c => by
    unfold l_I3
    rw [upI_no c, upI_no a, upI_no b]
    unfold l_I0
    rw [if_neg (by omega), if_neg (by omega)]
  refine ⟨⟨⟨by decide, fun c hc => (by cases hc)⟩, fun G h => (by cases h), by decide, fun _ => rfl, fun P h => (by cases h)⟩, ⟨⟨e 1 1 (by omega) (by omega) (by omega) (by omega), fun i hi => absurd hi (Nat.not_lt_zero i)⟩, ⟨e 10 2 (by omega) (by omega) (by omega) (by omega), e 10 3 (by omega) (by omega) (by omega) (by omega), e 10 5 (by omega) (by omega) (by omega) (by omega)⟩, e 0 6 (by omega) (by omega) (by omega) (by omega), e 0 5 (by omega) (by omega) (by omega) (by omega), fun P h => (by cases h), fun i hi => absurd hi (Nat.not_lt_zero i), rfl⟩, ⟨⟨e 538 1 (by omega) (by omega) (by omega) (by omega), fun i hi => absurd hi (Nat.not_lt_zero i)⟩, ⟨[], e 538 8 (by omega) (by omega) (by omega) (by omega), fun i hi => absurd hi (Nat.not_lt_zero i), fun w hw => (by cases hw)⟩, ⟨e 538 14 (by omega) (by omega) (by omega) (by omega), e 538 15 (by omega) (by omega) (by omega) (by omega), e 538 16 (by omega) (by omega) (by omega) (by omega), e 538 17 (by omega) (by omega) (by omega) (by omega), e 538 21 (by omega) (by omega) (by omega) (by omega)⟩, e 538 24 (by omega) (by omega) (by omega) (by omega), e 538 26 (by omega) (by omega) (by omega) (by omega), fun P h => (by cases h), fun i hi => absurd hi (Nat.not_lt_zero i), rfl⟩, fun j => rfl, rfl⟩
/-- THE LAW'S RUN -/
theorem l_run (hL : L ≤ 2048) : ∃ M', pm_C (d + 71) 121 [.ref 20000] (pm_M0 L xs) (.inl (some (.int 1)), M') ∧ pm_ct M' ≤ 10000 := by
  obtain ⟨M', h1, h2⟩ := l_loop (d := d) (xs := xs) hL 512 0 l_S0 (l_I3 L xs) 0 0 none none l_li (by omega) (by omega)
  exact ⟨M', l_start.mpr h1, by omega⟩
end START
