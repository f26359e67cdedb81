theorem pm_lw_a : tables_1[323]? = some (.native arraycopyName) ∧ tables_1[322]? = some (.static arraycopyName) ∧ tables_1[19]? = some (.initialized "java/lang/System") := by decide +kernel
theorem pm_lw_o1 : tables_1[29]? = some (.instanceMethod objectInit) := by decide +kernel
theorem pm_lw_o2 : tables_1[30]? = some (.code objectInit ⟨#[0xb1]⟩ 1 none) := by rfl
theorem pm_sum8 {ad : Nat → Nat} {t : List Value} (h : t.length ≤ 4) : ((t.map (pm_cz ad)).map fun v => v.category).sum ≤ 8 := by
  have key : ∀ (t : List Value), ((t.map (pm_cz ad)).map fun v => v.category).sum ≤ 2 * t.length := by
    intro t
    induction t with
    | nil => simp
    | cons v t ih =>
      simp only [List.map_cons, List.sum_cons, List.length_cons]
      have : (pm_cz ad v).category ≤ 2 := by rw [pm_cz_cat]; cases v <;> simp [Value.category]
      omega
  have := key t
  omega
theorem pm_cont {l : List (Nat × Nat)} {q : Nat × Nat} (h : l.contains q = true) : ∃ k, k < l.length ∧ l.getD k (0, 0) = q := by
  obtain ⟨k, hk⟩ := List.getElem?_of_mem (List.contains_iff_mem.mp h)
  exact ⟨k, (List.getElem?_eq_some_iff.mp hk).1, by rw [List.getD_eq_getElem?_getD, hk]; rfl⟩
theorem pm_s61 : pm_Snd 61 := by
  intro p l e R s mi args below meth c Q m z L xs D dA ad pc len a b n ls ls' st st' M M' g pc' i lsC H locs cells slots hX hd hk hs hs0 hn hg hJ hL hV hph hR kk
  obtain ⟨⟨hx, hb, hml, hown, hlocks, hnm, hret⟩, hK, hF, had, hz⟩ := hX
  simp only [pm_next, pm_kcp] at hn
  split at hn
  · rename_i k dp y sp x t
    cases hn
    simp only [pm_dk] at hk
    split at hk
    · rename_i j
      simp only [Bool.and_eq_true, beq_iff_eq] at hk
      obtain ⟨rfl, hk⟩ := hk
      obtain ⟨q, hq1, hq2⟩ := pm_cont hk
      have hlink := pm_acl_ok q hq1
      rw [hq2] at hlink
      obtain ⟨g1, g2, g3, g4, g5, g6, g7, g8, g9, g10⟩ := hg
      have hD := pm_wsD (dA := dA) had hV.2.2.1
      have hy5 := pm_n_lt g2 hV.2.2.1
      have u1 : ∀ w i, w ≠ y → pm_cpy M.2.1 x sp.toNatClampNeg y dp.toNatClampNeg k.toNatClampNeg w i = M.2.1 w i := fun w i hw => if_neg (fun q => hw q.1)
      have u2 : pm_cpy M.2.1 x sp.toNatClampNeg y dp.toNatClampNeg k.toNatClampNeg y = va_cpy (M.2.1 x) (M.2.1 y) sp.toNatClampNeg dp.toNatClampNeg k.toNatClampNeg := by
        funext i
        unfold pm_cpy va_cpy
        by_cases e : dp.toNatClampNeg ≤ i ∧ i < dp.toNatClampNeg + k.toNatClampNeg
        · rw [if_pos ⟨rfl, e⟩, if_pos e]
        · rw [if_neg (fun q => e q.2), if_neg e]
      have h8 := pm_sum8 (ad := ad) g10
      refine va_copyi hx hb (by rw [hml, hL.1, hJ.1]) hown (hF.1 _ _ (pm_Ts_of _ hlink rfl)) (hF.1 _ _ (pm_Ts_of _ pm_lw_a.1 rfl)) (hF.1 _ _ (pm_Ts_of _ pm_lw_a.2.1 rfl)) (hF.1 _ _ (pm_Ts_of _ pm_lw_a.2.2 rfl)) hK hV.1 hD hV.2.1 x y 0 0 (pm_at_a (dA := dA) (ad := ad) (k := 0) g1 g3) (pm_at_a (dA := dA) (ad := ad) (k := 0) g2 g4) pm_tys_at.1 pm_tys_at.1 rfl g5 g6 g7 g8 g9 (fun _ _ => rfl) (by omega) (by
        have e : nativeFrameWords "java/lang/System" "arraycopy" 5 = 7 := by decide
        rw [e]
        omega) hd (fun H1 locs1 w1 _ w2 => kk lsC H1 locs1 cells slots hJ hL ⟨?_, w2, hV.2.2.1, fun i hi => ?_, ?_, hV.2.2.2.2.2⟩ rfl rfl)
      · rw [← pm_ws_set (M := M) (M' := (M.1, pm_cpy M.2.1 x sp.toNatClampNeg y dp.toNatClampNeg k.toNatClampNeg, M.2.2)) (a := y) rfl (fun _ => ?_) (fun w hw => pm_cell_c (fun i => u1 w i hw) (fun _ => rfl) (fun _ => rfl))]
        · exact w1
        · rw [pm_cell_a (k := 0) g4]
          show Sum.inl (dA 0, _, Sum.inl (pm_cpy M.2.1 x sp.toNatClampNeg y dp.toNatClampNeg k.toNatClampNeg y)) = _
          rw [u2]
      · show pm_cpy _ _ _ _ _ _ 20000 i = _
        rw [u1 20000 i (Nat.ne_of_gt (Nat.lt_of_lt_of_le hy5 (by decide)))]
        exact hV.2.2.2.1 i hi
      · show pm_cpy _ _ _ _ _ _ 20001 0 = _
        rw [u1 20001 0 (Nat.ne_of_gt (Nat.lt_of_lt_of_le hy5 (by decide)))]
        exact hV.2.2.2.2.1
    · cases hk
  · cases hn
theorem pm_s74 : pm_Snd 74 := by
  intro p l e R s mi args below meth c Q m z L xs D dA ad pc len a b n ls ls' st st' M M' g pc' i lsC H locs cells slots hX hd hk hs hs0 hn hg hJ hL hV hph hR kk
  obtain ⟨⟨hx, hb, hml, hown, hlocks, hnm, hret⟩, hK, hF, had, hz⟩ := hX
  simp only [pm_next, pm_kr] at hn
  split at hn
  · rename_i x t
    cases hn
    have kk := kk lsC H locs cells slots hJ hL hV rfl rfl
    simp only [pm_dk] at hk
    split at hk
    · rename_i j
      simp only [Bool.and_eq_true, beq_iff_eq] at hk
      obtain ⟨rfl, hk⟩ := hk
      obtain ⟨q, hq1, hq2⟩ := pm_cont hk
      have hlink := pm_obl_ok q hq1
      rw [hq2] at hlink
      have h8 := pm_sum8 (ad := ad) hg
      exact W.objInit hx hb hown (hF.1 _ _ (pm_Ts_of _ hlink rfl)) (hF.1 _ _ (pm_Ts_of _ pm_lw_o1 rfl)) (hF.1 _ _ (pm_Ts_of _ pm_lw_o2 rfl)) rfl (by show lsC.size = _; rw [hml, hL.1, hJ.1]) (a := ad x) (rest := List.map (pm_cz ad) st') rfl hd (by omega) (by show 2 * 0 + _ + 12 ≤ _; omega) kk
    · cases hk
  · cases hn
theorem pm_lw_s : tables_1[473]? = some (.fieldLink "java/lang/String" 38 "java/lang/String" "COMPACT_STRINGS" "Z") ∧ tables_1[563]? = some (.fieldLink "CardWorkshop$Reader" 109 "CardWorkshop$Reader" "OPERATOR_LEVELS" "[I") ∧ tables_1[565]? = some (.fieldLink "CardWorkshop$Reader" 112 "CardWorkshop$Reader" "OPERATOR_CODES" "[I") ∧ tables_1[1063]? = some (.fieldLink "java/lang/String" 15 "java/lang/String" "coder" "B") ∧ tables_1[1064]? = some (.fieldLink "java/lang/String" 9 "java/lang/String" "value" "[B") := by decide +kernel
theorem pm_sk_rg : ∀ q ∈ pm_sk, q.2.1 = 10000 ∨ q.2.1 = 10010 ∨ q.2.1 = 10020 := by decide +kernel
theorem pm_F.S {z L x : Nat} {ad : Nat → Nat} {xs : Nat → Int32} {U : State} (h : pm_F z ad L xs U) (hx : pm_str x) : pm_FS z ad x U := by
  rcases hx with rfl | rfl | rfl
  · exact h.2.1.1
  · exact h.2.1.2.1
  · exact h.2.1.2.2
theorem pm_F.B {z L x : Nat} {ad : Nat → Nat} {xs : Nat → Int32} {U : State} (h : pm_F z ad L xs U) (hx : pm_stl x) : va_T .byte (ad x) (pm_tabn x) (fun j => .int (pm_tab x j)) (fun q => z ≤ q) U U.heap := by
  rcases hx with rfl | rfl | rfl
  · exact h.2.1.1.2.2.2.2
  · exact h.2.1.2.1.2.2.2.2
  · exact h.2.1.2.2.2.2.2.2
theorem pm_s80 : pm_Snd 80 := by
  intro p l e R s mi args below meth c Q m z L xs D dA ad pc len a b n ls ls' st st' M M' g pc' i lsC H locs cells slots hX hd hk hs hs0 hn hg hJ hL hV hph hR kk
  obtain ⟨⟨hx, hb, hml, hown, hlocks, hnm, hret⟩, hK, hF, had, hz⟩ := hX
  cases hn
  have kk := kk lsC H locs cells slots hJ hL hV rfl rfl
  simp only [pm_dk] at hk
  split at hk
  · rename_i j
    simp only [Bool.and_eq_true, decide_eq_true_eq, beq_iff_eq] at hk
    obtain ⟨⟨h1, rfl⟩, h2⟩ := hk
    obtain ⟨⟨a1, w⟩, hl, he⟩ := Option.map_eq_some_iff.mp h1
    obtain rfl : a = a1 := he.symm
    have hm := pm_lk hl
    have hs := hF.S (pm_sk_rg _ hm)
    have h9 : vk_R (pm_onm (pm_ow m)) j (pm_txt a) (ad a) s := hs.1 ((pm_ow m, j), a, w) hm rfl
    exact va_ldcS hx hb hown h9 hd kk
  · rename_i j
    simp only [Bool.and_eq_true, beq_iff_eq, Bool.or_eq_true] at hk
    obtain ⟨rfl, hk⟩ := hk
    rcases hk with ⟨⟨h1, rfl⟩, rfl⟩ | ⟨⟨h1, rfl⟩, rfl⟩
    · rw [h1] at hown
      exact va_gets hx hb hF.2.2.1.1.1 hV.2.1 hown (hF.1 _ _ (pm_Ts_of _ pm_lw_s.2.1 rfl)) (fun _ h9 => h9) hd kk
    · rw [h1] at hown
      exact va_gets hx hb hF.2.2.1.2.1 hV.2.1 hown (hF.1 _ _ (pm_Ts_of _ pm_lw_s.2.2.1 rfl)) (fun _ h9 => h9) hd kk
  · cases hk
theorem pm_s81 : pm_Snd 81 := by
  intro p l e R s mi args below meth c Q m z L xs D dA ad pc len a b n ls ls' st st' M M' g pc' i lsC H locs cells slots hX hd hk hs hs0 hn hg hJ hL hV hph hR kk
  obtain ⟨⟨hx, hb, hml, hown, hlocks, hnm, hret⟩, hK, hF, had, hz⟩ := hX
  simp only [pm_next, pm_kri] at hn
  split at hn
  · rename_i j x t
    cases hn
    have kk := kk lsC H locs cells slots hJ hL hV rfl rfl
    simp only [pm_dk, Bool.and_eq_true, decide_eq_true_eq, beq_iff_eq] at hk
    obtain ⟨h1, rfl⟩ := hk
    obtain ⟨h2, h3⟩ := hg
    rcases h2 with ⟨rfl, h2⟩ | ⟨rfl, h2⟩
    · rw [if_neg (by decide)] at h1
      subst h1
      exact va_tb hx hb (hF.B h2) hV.2.1 h3 rfl hd kk
    · rw [if_pos rfl] at h1
      subst h1
      rcases h2 with rfl | rfl
      · exact va_ti hx hb hF.2.2.1.1.2 hV.2.1 h3 rfl hd kk
      · exact va_ti hx hb hF.2.2.1.2.2 hV.2.1 h3 rfl hd kk
  · cases hn
theorem pm_s82 : pm_Snd 82 := by
  intro p l e R s mi args below meth c Q m z L xs D dA ad pc len a b n ls ls' st st' M M' g pc' i lsC H locs cells slots hX hd hk hs hs0 hn hg hJ hL hV hph hR kk
  obtain ⟨⟨hx, hb, hml, hown, hlocks, hnm, hret⟩, hK, hF, had, hz⟩ := hX
  simp only [pm_next, pm_kr] at hn
  split at hn
  · rename_i x t
    cases hn
    have kk := kk lsC H locs cells slots hJ hL hV rfl rfl
    simp only [pm_dk, Bool.and_eq_true, decide_eq_true_eq, beq_iff_eq] at hk
    obtain ⟨rfl, rfl⟩ := hk
    exact va_tlen hx hb (hF.B hg) hV.2.1 rfl hd kk
  · cases hn
theorem pm_s83 : pm_Snd 83 := by
  intro p l e R s mi args below meth c Q m z L xs D dA ad pc len a b n ls ls' st st' M M' g pc' i lsC H locs cells slots hX hd hk hs hs0 hn hg hJ hL hV hph hR kk
  obtain ⟨⟨hx, hb, hml, hown, hlocks, hnm, hret⟩, hK, hF, had, hz⟩ := hX
  simp only [pm_next, pm_kri] at hn
  split at hn
  · rename_i j x t
    cases hn
    have kk := kk lsC H locs cells slots hJ hL hV rfl rfl
    simp only [pm_dk, Bool.and_eq_true, decide_eq_true_eq, beq_iff_eq] at hk
    obtain ⟨rfl, rfl⟩ := hk
    obtain ⟨rfl, h2⟩ := hg
    have hX := hF.2.2.2.2.1
    rw [hV.2.2.2.2.1, nI_clamp (by have := hV.2.2.2.2.2; omega)] at h2
    have hlt : j.toNatClampNeg < L := Nat.not_le.mp fun q => h2 (Or.inr q)
    refine va_sld hx hb hX.1 (Nat.lt_of_lt_of_le hX.2 hz) (fun q => Nat.lt_irrefl _ (Nat.lt_of_lt_of_le hX.2 q)) hV.2.1 h2 hd ?_
    rw [← hV.2.2.2.1 _ hlt]
    exact kk
  · cases hn
theorem pm_s84 : pm_Snd 84 := by
  intro p l e R s mi args below meth c Q m z L xs D dA ad pc len a b n ls ls' st st' M M' g pc' i lsC H locs cells slots hX hd hk hs hs0 hn hg hJ hL hV hph hR kk
  obtain ⟨⟨hx, hb, hml, hown, hlocks, hnm, hret⟩, hK, hF, had, hz⟩ := hX
  simp only [pm_next, pm_kr] at hn
  split at hn
  · rename_i x t
    cases hn
    have kk := kk lsC H locs cells slots hJ hL hV rfl rfl
    simp only [pm_dk, Bool.and_eq_true, decide_eq_true_eq, beq_iff_eq] at hk
    obtain ⟨rfl, rfl⟩ := hk
    have hX := hF.2.2.2.2.1
    subst hg
    rw [hV.2.2.2.2.1] at kk
    exact va_slen hx hb hX.1 (Nat.lt_of_lt_of_le hX.2 hz) (fun q => Nat.lt_irrefl _ (Nat.lt_of_lt_of_le hX.2 q)) hV.2.1 hd kk
  · cases hn
theorem pm_s85 : pm_Snd 85 := by
  intro p l e R s mi args below meth c Q m z L xs D dA ad pc len a b n ls ls' st st' M M' g pc' i lsC H locs cells slots hX hd hk hs hs0 hn hg hJ hL hV hph hR kk
  obtain ⟨⟨hx, hb, hml, hown, hlocks, hnm, hret⟩, hK, hF, had, hz⟩ := hX
  simp only [pm_next, pm_kr] at hn
  split at hn
  · rename_i x t
    cases hn
    have kk := kk lsC H locs cells slots hJ hL hV rfl rfl
    simp only [pm_dk] at hk
    split at hk
    · simp only [Bool.and_eq_true, beq_iff_eq] at hk
      obtain ⟨⟨h1, rfl⟩, rfl⟩ := hk
      rw [h1] at hown
      exact vk_getf hx hb (hF.S hg).2.2.1 hV.2.1 hown (hF.1 _ _ (pm_Ts_of _ pm_lw_s.2.2.2.2 rfl)) (fun _ h9 => h9) hd kk
    · cases hk
  · cases hn
theorem pm_s86 : pm_Snd 86 := by
  intro p l e R s mi args below meth c Q m z L xs D dA ad pc len a b n ls ls' st st' M M' g pc' i lsC H locs cells slots hX hd hk hs hs0 hn hg hJ hL hV hph hR kk
  obtain ⟨⟨hx, hb, hml, hown, hlocks, hnm, hret⟩, hK, hF, had, hz⟩ := hX
  simp only [pm_next, pm_kr] at hn
  split at hn
  · rename_i x t
    cases hn
    have kk := kk lsC H locs cells slots hJ hL hV rfl rfl
    simp only [pm_dk] at hk
    split at hk
    · simp only [Bool.and_eq_true, beq_iff_eq] at hk
      obtain ⟨⟨h1, rfl⟩, rfl⟩ := hk
      rw [h1] at hown
      exact vk_getf hx hb (hF.S hg).2.2.2.1 hV.2.1 hown (hF.1 _ _ (pm_Ts_of _ pm_lw_s.2.2.2.1 rfl)) (fun _ h9 => h9) hd kk
    · cases hk
  · cases hn
theorem pm_s87 : pm_Snd 87 := by
  intro p l e R s mi args below meth c Q m z L xs D dA ad pc len a b n ls ls' st st' M M' g pc' i lsC H locs cells slots hX hd hk hs hs0 hn hg hJ hL hV hph hR kk
  obtain ⟨⟨hx, hb, hml, hown, hlocks, hnm, hret⟩, hK, hF, had, hz⟩ := hX
  cases hn
  have kk := kk lsC H locs cells slots hJ hL hV rfl rfl
  simp only [pm_dk] at hk
  split at hk
  · simp only [Bool.and_eq_true, decide_eq_true_eq, beq_iff_eq] at hk
    obtain ⟨⟨⟨h1, rfl⟩, rfl⟩, rfl⟩ := hk
    rw [h1] at hown
    exact va_gets hx hb hF.2.2.2.1 hV.2.1 hown (hF.1 _ _ (pm_Ts_of _ pm_lw_s.1 rfl)) (fun _ h9 => h9) hd kk
  · cases hk
