theorem pm_s40 : pm_Snd 40 := by
  intro p l e R s mi args below meth c Q m z L xs D dA ad pc len a b n ls ls' st st' M M' g pc' i lsC H locs cells slots hX hd hk hs hn hg hJ hL hV hR kk
  obtain ⟨⟨hx, hb, hml, hown, hlocks, hnm, hret⟩, hK, hF, had, hz⟩ := hX
  simp only [pm_next, pm_k1] at hn
  split at hn
  · rename_i x t
    cases hn
    simp only [pm_dk] at hk
    split at hk
    · simp only [Bool.and_eq_true, decide_eq_true_eq, beq_iff_eq] at hk
      obtain ⟨⟨⟨hc, ht⟩, rfl⟩, h6⟩ := hk
      subst hc
      rcases (show b = 0 ∨ b = 1 ∨ b = 2 ∨ b = 3 ∨ b = 4 ∨ b = 5 by omega) with rfl | rfl | rfl | rfl | rfl | rfl
      · have kk := kk lsC H locs cells slots hJ hL hV rfl rfl
        simp only [pm_cmp, decide_eq_true_eq] at kk
        exact lv_if_eq hx hb hd ht (fun h => by rw [if_pos h] at kk; exact kk) (fun h => by rw [if_neg h] at kk; exact kk)
      · have kk := kk lsC H locs cells slots hJ hL hV rfl rfl
        simp only [pm_cmp, decide_eq_true_eq] at kk
        exact lv_if_ne hx hb hd ht (fun h => by rw [if_pos h] at kk; exact kk) (fun h => by rw [if_neg h] at kk; exact kk)
      · have kk := kk lsC H locs cells slots hJ hL hV rfl rfl
        simp only [pm_cmp, decide_eq_true_eq] at kk
        exact lv_if_lt hx hb hd ht (fun h => by rw [if_pos h] at kk; exact kk) (fun h => by rw [if_neg h] at kk; exact kk)
      · have kk := kk lsC H locs cells slots hJ hL hV rfl rfl
        simp only [pm_cmp, decide_eq_true_eq] at kk
        exact lv_if_ge hx hb hd ht (fun h => by rw [if_pos h] at kk; exact kk) (fun h => by rw [if_neg h] at kk; exact kk)
      · have kk := kk lsC H locs cells slots hJ hL hV rfl rfl
        simp only [pm_cmp, decide_eq_true_eq] at kk
        exact lv_if_gt hx hb hd ht (fun h => by rw [if_pos h] at kk; exact kk) (fun h => by rw [if_neg h] at kk; exact kk)
      · have kk := kk lsC H locs cells slots hJ hL hV rfl rfl
        simp only [pm_cmp, decide_eq_true_eq] at kk
        exact lv_if_le hx hb hd ht (fun h => by rw [if_pos h] at kk; exact kk) (fun h => by rw [if_neg h] at kk; exact kk)
    · cases hk
  · cases hn
theorem pm_s41 : pm_Snd 41 := by
  intro p l e R s mi args below meth c Q m z L xs D dA ad pc len a b n ls ls' st st' M M' g pc' i lsC H locs cells slots hX hd hk hs hn hg hJ hL hV hR kk
  obtain ⟨⟨hx, hb, hml, hown, hlocks, hnm, hret⟩, hK, hF, had, hz⟩ := hX
  simp only [pm_next, pm_k2] at hn
  split at hn
  · rename_i y x t
    cases hn
    simp only [pm_dk] at hk
    split at hk
    · simp only [Bool.and_eq_true, decide_eq_true_eq, beq_iff_eq] at hk
      obtain ⟨⟨⟨hc, ht⟩, rfl⟩, h6⟩ := hk
      subst hc
      rcases (show b = 0 ∨ b = 1 ∨ b = 2 ∨ b = 3 ∨ b = 4 ∨ b = 5 by omega) with rfl | rfl | rfl | rfl | rfl | rfl
      · have kk := kk lsC H locs cells slots hJ hL hV rfl rfl
        simp only [pm_cmp, decide_eq_true_eq] at kk
        exact lv_icmp_eq hx hb hd ht (fun h => by rw [if_pos h] at kk; exact kk) (fun h => by rw [if_neg h] at kk; exact kk)
      · have kk := kk lsC H locs cells slots hJ hL hV rfl rfl
        simp only [pm_cmp, decide_eq_true_eq] at kk
        exact lv_icmp_ne hx hb hd ht (fun h => by rw [if_pos h] at kk; exact kk) (fun h => by rw [if_neg h] at kk; exact kk)
      · have kk := kk lsC H locs cells slots hJ hL hV rfl rfl
        simp only [pm_cmp, decide_eq_true_eq] at kk
        exact lv_icmp_lt hx hb hd ht (fun h => by rw [if_pos h] at kk; exact kk) (fun h => by rw [if_neg h] at kk; exact kk)
      · have kk := kk lsC H locs cells slots hJ hL hV rfl rfl
        simp only [pm_cmp, decide_eq_true_eq] at kk
        exact lv_icmp_ge hx hb hd ht (fun h => by rw [if_pos h] at kk; exact kk) (fun h => by rw [if_neg h] at kk; exact kk)
      · have kk := kk lsC H locs cells slots hJ hL hV rfl rfl
        simp only [pm_cmp, decide_eq_true_eq] at kk
        exact lv_icmp_gt hx hb hd ht (fun h => by rw [if_pos h] at kk; exact kk) (fun h => by rw [if_neg h] at kk; exact kk)
      · have kk := kk lsC H locs cells slots hJ hL hV rfl rfl
        simp only [pm_cmp, decide_eq_true_eq] at kk
        exact lv_icmp_le hx hb hd ht (fun h => by rw [if_pos h] at kk; exact kk) (fun h => by rw [if_neg h] at kk; exact kk)
    · cases hk
  · cases hn
theorem pm_s42 : pm_Snd 42 := by
  intro p l e R s mi args below meth c Q m z L xs D dA ad pc len a b n ls ls' st st' M M' g pc' i lsC H locs cells slots hX hd hk hs hn hg hJ hL hV hR kk
  obtain ⟨⟨hx, hb, hml, hown, hlocks, hnm, hret⟩, hK, hF, had, hz⟩ := hX
  cases hn
  have kk := kk lsC H locs cells slots hJ hL hV rfl rfl
  simp only [pm_dk] at hk
  split at hk
  · simp only [decide_eq_true_eq] at hk
    obtain rfl : len = 3 := pm_goto3 hd
    exact lv_goto hx hb hd hk kk
  · cases hk
