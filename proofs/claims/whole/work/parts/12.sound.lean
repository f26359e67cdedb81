theorem pm_s40 : pm_Snd 40 := by
  intro p l e R s mi args below meth c Q m z L xs D dA ad pc len a b n ls ls' st st' M M' g pc' i lsC H locs cells slots hX hd hk hs hs0 hn hg hJ hL hV hph hR kk
  obtain ⟨⟨hx, hb, hml, hown, hlocks, hnm, hret⟩, hK, hF, had, hz⟩ := hX
  simp only [pm_next, pm_k1] at hn
  split at hn
  · rename_i x t
    cases hn
    simp only [pm_dk] at hk
    split at hk
    · simp only [Bool.and_eq_true, decide_eq_true_eq, beq_iff_eq] at hk
      obtain ⟨⟨⟨hc, ht⟩, rfl⟩, h6⟩ := hk
      subst hc
      rcases (show b = 0 ∨ b = 1 ∨ b = 2 ∨ b = 3 ∨ b = 4 ∨ b = 5 by omega) with rfl | rfl | rfl | rfl | rfl | rfl
      · have kk := kk lsC H locs cells slots hJ hL hV rfl rfl
        simp only [pm_cmp, decide_eq_true_eq] at kk
        exact lv_if_eq hx hb hd ht (fun h => by rw [if_pos h] at kk; exact kk) (fun h => by rw [if_neg h] at kk; exact kk)
      · have kk := kk lsC H locs cells slots hJ hL hV rfl rfl
        simp only [pm_cmp, decide_eq_true_eq] at kk
        exact lv_if_ne hx hb hd ht (fun h => by rw [if_pos h] at kk; exact kk) (fun h => by rw [if_neg (fun q => q h)] at kk; exact kk)
      · have kk := kk lsC H locs cells slots hJ hL hV rfl rfl
        simp only [pm_cmp, decide_eq_true_eq] at kk
        exact lv_if_lt hx hb hd ht (fun h => by rw [if_pos h] at kk; exact kk) (fun h => by rw [if_neg h] at kk; exact kk)
      · have kk := kk lsC H locs cells slots hJ hL hV rfl rfl
        simp only [pm_cmp, decide_eq_true_eq] at kk
        exact lv_if_ge hx hb hd ht (fun h => by rw [if_pos h] at kk; exact kk) (fun h => by rw [if_neg h] at kk; exact kk)
      · have kk := kk lsC H locs cells slots hJ hL hV rfl rfl
        simp only [pm_cmp, decide_eq_true_eq] at kk
        exact lv_if_gt hx hb hd ht (fun h => by rw [if_pos h] at kk; exact kk) (fun h => by rw [if_neg h] at kk; exact kk)
      · have kk := kk lsC H locs cells slots hJ hL hV rfl rfl
        simp only [pm_cmp, decide_eq_true_eq] at kk
        exact lv_if_le hx hb hd ht (fun h => by rw [if_pos h] at kk; exact kk) (fun h => by rw [if_neg h] at kk; exact kk)
    · cases hk
  · cases hn
theorem pm_s41 : pm_Snd 41 := by
  intro p l e R s mi args below meth c Q m z L xs D dA ad pc len a b n ls ls' st st' M M' g pc' i lsC H locs cells slots hX hd hk hs hs0 hn hg hJ hL hV hph hR kk
  obtain ⟨⟨hx, hb, hml, hown, hlocks, hnm, hret⟩, hK, hF, had, hz⟩ := hX
  simp only [pm_next, pm_k2] at hn
  split at hn
  · rename_i y x t
    cases hn
    simp only [pm_dk] at hk
    split at hk
    · simp only [Bool.and_eq_true, decide_eq_true_eq, beq_iff_eq] at hk
      obtain ⟨⟨⟨hc, ht⟩, rfl⟩, h6⟩ := hk
      subst hc
      rcases (show b = 0 ∨ b = 1 ∨ b = 2 ∨ b = 3 ∨ b = 4 ∨ b = 5 by omega) with rfl | rfl | rfl | rfl | rfl | rfl
      · have kk := kk lsC H locs cells slots hJ hL hV rfl rfl
        simp only [pm_cmp, decide_eq_true_eq] at kk
        exact lv_icmp_eq hx hb hd ht (fun h => by rw [if_pos h] at kk; exact kk) (fun h => by rw [if_neg h] at kk; exact kk)
      · have kk := kk lsC H locs cells slots hJ hL hV rfl rfl
        simp only [pm_cmp, decide_eq_true_eq] at kk
        exact lv_icmp_ne hx hb hd ht (fun h => by rw [if_pos h] at kk; exact kk) (fun h => by rw [if_neg (fun q => q h)] at kk; exact kk)
      · have kk := kk lsC H locs cells slots hJ hL hV rfl rfl
        simp only [pm_cmp, decide_eq_true_eq] at kk
        exact lv_icmp_lt hx hb hd ht (fun h => by rw [if_pos h] at kk; exact kk) (fun h => by rw [if_neg h] at kk; exact kk)
      · have kk := kk lsC H locs cells slots hJ hL hV rfl rfl
        simp only [pm_cmp, decide_eq_true_eq] at kk
        exact lv_icmp_ge hx hb hd ht (fun h => by rw [if_pos h] at kk; exact kk) (fun h => by rw [if_neg h] at kk; exact kk)
      · have kk := kk lsC H locs cells slots hJ hL hV rfl rfl
        simp only [pm_cmp, decide_eq_true_eq] at kk
        exact lv_icmp_gt hx hb hd ht (fun h => by rw [if_pos h] at kk; exact kk) (fun h => by rw [if_neg h] at kk; exact kk)
      · have kk := kk lsC H locs cells slots hJ hL hV rfl rfl
        simp only [pm_cmp, decide_eq_true_eq] at kk
        exact lv_icmp_le hx hb hd ht (fun h => by rw [if_pos h] at kk; exact kk) (fun h => by rw [if_neg h] at kk; exact kk)
    · cases hk
  · cases hn
theorem pm_s42 : pm_Snd 42 := by
  intro p l e R s mi args below meth c Q m z L xs D dA ad pc len a b n ls ls' st st' M M' g pc' i lsC H locs cells slots hX hd hk hs hs0 hn hg hJ hL hV hph hR kk
  obtain ⟨⟨hx, hb, hml, hown, hlocks, hnm, hret⟩, hK, hF, had, hz⟩ := hX
  cases hn
  have kk := kk lsC H locs cells slots hJ hL hV rfl rfl
  simp only [pm_dk] at hk
  split at hk
  · simp only [Bool.and_eq_true, decide_eq_true_eq, beq_iff_eq] at hk
    obtain ⟨h1, rfl⟩ := hk
    exact lv_goto hx hb hd h1 kk
  · cases hk
theorem pm_swt_eq {d : Nat} {x : Int32} : ∀ (ts : List Nat) (k : Int32), 0 ≤ k.toInt → k.toInt + ts.length < 2147483648 → pm_swt ts k d x = if k.toInt ≤ x.toInt ∧ x.toInt < k.toInt + ts.length then ts.getD (x.toInt - k.toInt).toNat d else d := by
  intro ts
  induction ts with
  | nil =>
    intro k h0 h1
    rw [if_neg (fun h => by simp only [List.length_nil] at h; omega)]
    rfl
  | cons t ts ih =>
    intro k h0 h1
    simp only [List.length_cons] at h1 ⊢
    have e : (k + 1).toInt = k.toInt + 1 := by
      rw [Int32.toInt_add, Int32.toInt_one, Int.bmod_eq_of_le (by omega) (by omega)]
    rw [show pm_swt (t :: ts) k d x = if x = k then t else pm_swt ts (k + 1) d x from rfl]
    by_cases hx : x = k
    · subst hx
      rw [if_pos rfl, if_pos (by omega)]
      simp
    · have hne : ¬ x.toInt = k.toInt := fun q => hx (Int32.toInt_inj.mp q)
      rw [if_neg hx, ih (k + 1) (by omega) (by omega), e]
      by_cases h : k.toInt ≤ x.toInt ∧ x.toInt < k.toInt + (ts.length + 1)
      · rw [if_pos (by omega), if_pos (by omega)]
        rw [show (x.toInt - k.toInt).toNat = (x.toInt - (k.toInt + 1)).toNat + 1 by omega]
        simp
      · rw [if_neg (by omega), if_neg (by omega)]
theorem pm_s43 : pm_Snd 43 := by
  intro p l e R s mi args below meth c Q m z L xs D dA ad pc len a b n ls ls' st st' M M' g pc' i lsC H locs cells slots hX hd hk hs hs0 hn hg hJ hL hV hph hR kk
  obtain ⟨⟨hx, hb, hml, hown, hlocks, hnm, hret⟩, hK, hF, had, hz⟩ := hX
  simp only [pm_next, pm_k1] at hn
  split at hn
  · rename_i x t
    cases hn
    have kk := kk lsC H locs cells slots hJ hL hV rfl rfl
    simp only [pm_dk] at hk
    split at hk
    · rename_i d lo hi offs
      simp only [Bool.and_eq_true, decide_eq_true_eq, List.all_eq_true, List.mem_range] at hk
      obtain ⟨⟨⟨⟨⟨⟨h1, h2⟩, h3⟩, h4⟩, h5⟩, h6⟩, h7⟩ := hk
      have e : n.toInt = lo := by
        rw [← h2, Int32.toInt_ofInt, Int.bmod_eq_of_le (by rw [show Int32.size = 4294967296 from rfl]; omega) (by rw [show Int32.size = 4294967296 from rfl]; omega)]
      rw [pm_swt_eq _ _ (by omega) (by omega), e, h3] at kk
      by_cases hin : lo ≤ x.toInt ∧ x.toInt < lo + offs.size
      · rw [if_pos hin] at kk
        have hlt : (x.toInt - lo).toNat < offs.size := by omega
        have h8 := h7 _ hlt
        rw [getElem!_pos offs _ hlt] at h8
        have e9 : (pm_sw a).getD (x.toInt - lo).toNat b = (pm_sw a).getD (x.toInt - lo).toNat 0 := by
          simp [List.getD_eq_getElem?_getD, List.getElem?_eq_getElem (show (x.toInt - lo).toNat < (pm_sw a).length by omega)]
        rw [e9] at kk
        exact lv_tableIn hx hb hd (by omega) (by omega) (Array.getElem?_eq_getElem hlt) h8 kk
      · rw [if_neg hin] at kk
        exact lv_tableOut hx hb hd (by omega) h1 kk
    · cases hk
  · cases hn
