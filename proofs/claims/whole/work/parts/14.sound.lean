theorem pm_tys_at {dA : Nat → ClassId} : (pm_tys dA)[0]? = some (dA 0, .int) ∧ (pm_tys dA)[1]? = some (dA 1, .char) ∧ (pm_tys dA)[2]? = some (dA 2, .boolean) ∧ (pm_tys dA)[3]? = some (dA 3, .long) ∧ (pm_tys dA)[4]? = some (dA 4, .object "CardWorkshop$Table") ∧ (pm_tys dA)[5]? = some (dA 5, .array .int) := ⟨rfl, rfl, rfl, rfl, rfl, rfl⟩
theorem pm_at_a {dA : Nat → ClassId} {ad : Nat → Nat} {M : pm_Mem} {x k : Nat} (h0 : x < M.1) (h : (pm_sh x).1 = 1 + k) : (pm_ws dA ad M)[x]? = some (ad x, .inl (dA k, (pm_sh x).2, pm_ac ad M x k)) := by
  rw [pm_ws_at h0, pm_cell_a h]
theorem pm_up_V {s : State} {z L : Nat} {xs : Nat → Int32} {D : va_G} {dA : Nat → ClassId} {ad : Nat → Nat} {M : pm_Mem} {H H1 : Heap} {locs locs1 : List Loc} {x i k : Nat} {v : Int32} (hV : pm_V s z L xs D dA ad M H locs) (h0 : x < M.1) (hk : k < 3) (h : (pm_sh x).1 = 1 + k)
    (g1 : va_P D pm_vw ((pm_ws dA ad M).set x (ad x, .inl (dA k, (pm_sh x).2, .inl (upd (M.2.1 x) i v)))) H1) (g2 : va_S (fun q => z ≤ q) s.heap H1 locs1) : pm_V s z L xs D dA ad (M.1, pm_up M.2.1 x i v, M.2.2) H1 locs1 := by
  have hx5 := pm_n_lt h0 hV.2.2.1
  have u1 : ∀ y k, y ≠ x → pm_up M.2.1 x i v y k = M.2.1 y k := fun y k hy => if_neg (fun q => hy q.1)
  have u2 : pm_up M.2.1 x i v x = upd (M.2.1 x) i v := by
    funext j
    unfold pm_up upd
    by_cases e : j = i
    · rw [if_pos ⟨rfl, e⟩, if_pos e]
    · rw [if_neg (fun q => e q.2), if_neg e]
  refine ⟨?_, g2, hV.2.2.1, fun k hk => ?_, ?_, hV.2.2.2.2.2⟩
  · rw [← pm_ws_set (M := M) (M' := (M.1, pm_up M.2.1 x i v, M.2.2)) (a := x) rfl (fun _ => ?_) (fun y hy => pm_cell_c (fun k => u1 y k hy) (fun _ => rfl) (fun _ => rfl))]
    · exact g1
    · rw [pm_cell_a h]
      rcases (show k = 0 ∨ k = 1 ∨ k = 2 by omega) with rfl | rfl | rfl
      · show Sum.inl (dA 0, _, Sum.inl (pm_up M.2.1 x i v x)) = _
        rw [u2]
      · show Sum.inl (dA 1, _, Sum.inl (pm_up M.2.1 x i v x)) = _
        rw [u2]
      · show Sum.inl (dA 2, _, Sum.inl (pm_up M.2.1 x i v x)) = _
        rw [u2]
  · show pm_up M.2.1 x i v 20000 k = _
    rw [u1 20000 k (Nat.ne_of_gt (Nat.lt_of_lt_of_le hx5 (by decide)))]
    exact hV.2.2.2.1 k hk
  · show pm_up M.2.1 x i v 20001 0 = _
    rw [u1 20001 0 (Nat.ne_of_gt (Nat.lt_of_lt_of_le hx5 (by decide)))]
    exact hV.2.2.2.2.1
theorem pm_s54 : pm_Snd 54 := by
  intro p l e R s mi args below meth c Q m z L xs D dA ad pc len a b n ls ls' st st' M M' g pc' i lsC H locs cells slots hX hd hk hs hs0 hn hg hJ hL hV hph hR kk
  obtain ⟨⟨hx, hb, hml, hown, hlocks, hnm, hret⟩, hK, hF, had, hz⟩ := hX
  simp only [pm_next, pm_kri] at hn
  split at hn
  · rename_i j x t
    cases hn
    have kk := kk lsC H locs cells slots hJ hL hV rfl rfl
    simp only [pm_dk, Bool.and_eq_true, decide_eq_true_eq, beq_iff_eq] at hk
    obtain ⟨⟨h1, rfl⟩, h3⟩ := hk
    obtain ⟨h4, h5, h6⟩ := hg
    have hat := pm_at_a (dA := dA) (ad := ad) h4 h5
    rcases (show a = 0 ∨ a = 1 ∨ a = 2 by omega) with rfl | rfl | rfl
    · rw [if_pos rfl] at h1
      subst h1
      exact va_iald hx hb hK hV.1 x 0 hat pm_tys_at.1 h6 hd kk
    · rw [if_neg (by decide), if_pos rfl] at h1
      subst h1
      exact va_cald hx hb hK hV.1 x 1 hat pm_tys_at.2.1 h6 hd kk
    · rw [if_neg (by decide), if_neg (by decide)] at h1
      subst h1
      exact va_zald hx hb hK hV.1 x 2 hat pm_tys_at.2.2.1 h6 hd kk
  · cases hn
theorem pm_s55 : pm_Snd 55 := by
  intro p l e R s mi args below meth c Q m z L xs D dA ad pc len a b n ls ls' st st' M M' g pc' i lsC H locs cells slots hX hd hk hs hs0 hn hg hJ hL hV hph hR kk
  obtain ⟨⟨hx, hb, hml, hown, hlocks, hnm, hret⟩, hK, hF, had, hz⟩ := hX
  simp only [pm_next, pm_krii] at hn
  split at hn
  · rename_i v j x t
    cases hn
    simp only [pm_dk, Bool.and_eq_true, decide_eq_true_eq, beq_iff_eq] at hk
    obtain ⟨⟨h1, rfl⟩, h3⟩ := hk
    obtain ⟨h4, h5, h6⟩ := hg
    have hat := pm_at_a (dA := dA) (ad := ad) h4 h5
    have hD := pm_wsD (dA := dA) had hV.2.2.1
    rcases (show a = 0 ∨ a = 1 ∨ a = 2 by omega) with rfl | rfl | rfl
    · rw [if_pos rfl] at h1
      subst h1
      exact va_iast hx hb hK hV.1 hD hV.2.1 x 0 hat pm_tys_at.1 h6 hd (fun H1 locs1 g1 _ g2 => kk lsC H1 locs1 cells slots hJ hL (pm_up_V hV h4 h3 h5 g1 g2) rfl rfl)
    · rw [if_neg (by decide), if_pos rfl] at h1
      subst h1
      exact va_cast hx hb hK hV.1 hD hV.2.1 x 1 hat pm_tys_at.2.1 h6 hd (fun H1 locs1 g1 _ g2 => kk lsC H1 locs1 cells slots hJ hL (pm_up_V hV h4 h3 h5 g1 g2) rfl rfl)
    · rw [if_neg (by decide), if_neg (by decide)] at h1
      subst h1
      exact va_zast hx hb hK hV.1 hD hV.2.1 x 2 hat pm_tys_at.2.2.1 h6 hd (fun H1 locs1 g1 _ g2 => kk lsC H1 locs1 cells slots hJ hL (pm_up_V hV h4 h3 h5 g1 g2) rfl rfl)
  · cases hn
theorem pm_sh_le : ∀ x, x < 560 → (pm_sh x).1 ≤ 6 := by decide +kernel
theorem pm_s56 : pm_Snd 56 := by
  intro p l e R s mi args below meth c Q m z L xs D dA ad pc len a b n ls ls' st st' M M' g pc' i lsC H locs cells slots hX hd hk hs hs0 hn hg hJ hL hV hph hR kk
  obtain ⟨⟨hx, hb, hml, hown, hlocks, hnm, hret⟩, hK, hF, had, hz⟩ := hX
  simp only [pm_next, pm_kr] at hn
  split at hn
  · rename_i x t
    cases hn
    have kk := kk lsC H locs cells slots hJ hL hV rfl rfl
    simp only [pm_dk, Bool.and_eq_true, decide_eq_true_eq, beq_iff_eq] at hk
    obtain ⟨rfl, rfl⟩ := hk
    obtain ⟨h4, h5⟩ := hg
    have h6 := pm_sh_le x (pm_n_lt h4 hV.2.2.1)
    obtain ⟨k, hk⟩ : ∃ k, (pm_sh x).1 = 1 + k := ⟨(pm_sh x).1 - 1, by omega⟩
    have hat := pm_at_a (dA := dA) (ad := ad) h4 hk
    obtain ⟨ty, hty⟩ : ∃ ty, (pm_tys dA)[k]? = some (dA k, ty) := by
      rcases (show k = 0 ∨ k = 1 ∨ k = 2 ∨ k = 3 ∨ k = 4 ∨ k = 5 by omega) with rfl | rfl | rfl | rfl | rfl | rfl <;> exact ⟨_, rfl⟩
    exact va_alen hx hb hK hV.1 x k hat hty rfl hd kk
  · cases hn
theorem pm_s57 : pm_Snd 57 := by
  intro p l e R s mi args below meth c Q m z L xs D dA ad pc len a b n ls ls' st st' M M' g pc' i lsC H locs cells slots hX hd hk hs hs0 hn hg hJ hL hV hph hR kk
  obtain ⟨⟨hx, hb, hml, hown, hlocks, hnm, hret⟩, hK, hF, had, hz⟩ := hX
  simp only [pm_next, pm_kri] at hn
  split at hn
  · rename_i j x t
    cases hn
    have kk := kk lsC H locs cells slots hJ hL hV rfl rfl
    simp only [pm_dk, Bool.and_eq_true, decide_eq_true_eq, beq_iff_eq] at hk
    obtain ⟨rfl, rfl⟩ := hk
    obtain ⟨h4, h5, h6⟩ := hg
    exact va_lald hx hb hK hV.1 x 3 (pm_at_a (dA := dA) (ad := ad) h4 h5) pm_tys_at.2.2.2.1 h6 hd kk
  · cases hn
theorem pm_s58 : pm_Snd 58 := by
  intro p l e R s mi args below meth c Q m z L xs D dA ad pc len a b n ls ls' st st' M M' g pc' i lsC H locs cells slots hX hd hk hs hs0 hn hg hJ hL hV hph hR kk
  obtain ⟨⟨hx, hb, hml, hown, hlocks, hnm, hret⟩, hK, hF, had, hz⟩ := hX
  simp only [pm_next, pm_kril] at hn
  split at hn
  · rename_i v j x t
    cases hn
    simp only [pm_dk, Bool.and_eq_true, decide_eq_true_eq, beq_iff_eq] at hk
    obtain ⟨rfl, rfl⟩ := hk
    obtain ⟨h4, h5, h6⟩ := hg
    have hD := pm_wsD (dA := dA) had hV.2.2.1
    have u1 : ∀ y k, y ≠ x → pm_upL M.2.2.2 x j.toNatClampNeg v y k = M.2.2.2 y k := fun y k hy => if_neg (fun q => hy q.1)
    have u2 : pm_upL M.2.2.2 x j.toNatClampNeg v x = vp_updL (M.2.2.2 x) j.toNatClampNeg v := by
      funext k
      unfold pm_upL vp_updL
      by_cases e : k = j.toNatClampNeg
      · rw [if_pos ⟨rfl, e⟩, if_pos e]
      · rw [if_neg (fun q => e q.2), if_neg e]
    refine va_last hx hb hK hV.1 hD hV.2.1 x 3 (pm_at_a (dA := dA) (ad := ad) h4 h5) pm_tys_at.2.2.2.1 h6 hd (fun H1 locs1 g1 _ g2 => kk lsC H1 locs1 cells slots hJ hL ⟨?_, g2, hV.2.2⟩ rfl rfl)
    rw [← pm_ws_set (M := M) (M' := (M.1, M.2.1, M.2.2.1, pm_upL M.2.2.2 x j.toNatClampNeg v)) (a := x) rfl (fun _ => ?_) (fun y hy => pm_cell_c (fun _ => rfl) (fun _ => rfl) (fun k => u1 y k hy))]
    · exact g1
    · rw [pm_cell_a h5]
      show Sum.inl (dA 3, _, Sum.inr (Sum.inl (pm_upL M.2.2.2 x j.toNatClampNeg v x))) = _
      rw [u2]
  · cases hn
theorem pm_s59 : pm_Snd 59 := by
  intro p l e R s mi args below meth c Q m z L xs D dA ad pc len a b n ls ls' st st' M M' g pc' i lsC H locs cells slots hX hd hk hs hs0 hn hg hJ hL hV hph hR kk
  obtain ⟨⟨hx, hb, hml, hown, hlocks, hnm, hret⟩, hK, hF, had, hz⟩ := hX
  simp only [pm_next, pm_kri] at hn
  split at hn
  · rename_i j x t
    cases hn
    have kk := kk lsC H locs cells slots hJ hL hV rfl rfl
    simp only [pm_dk, Bool.and_eq_true, decide_eq_true_eq, beq_iff_eq, Bool.or_eq_true] at hk
    obtain ⟨⟨rfl, rfl⟩, h3⟩ := hk
    obtain ⟨h4, h5, h6⟩ := hg
    have hat := pm_at_a (dA := dA) (ad := ad) h4 h5
    have hlt : j.toNatClampNeg < (pm_sh x).2 := Nat.not_le.mp fun q => h6 (Or.inr q)
    simp only [List.map_cons, pm_cz_rv] at kk
    rcases h3 with rfl | rfl
    · exact va_aldq hx hb hK hV.1 x 4 hat pm_tys_at.2.2.2.2.1 h6 hd kk
    · exact W.aald (v := va_rf ((M.2.2.1 x j.toNatClampNeg).map ad)) (ty := .array .int) hx hb (hV.1 x _ hat) ((hK.2 5 _ pm_tys_at.2.2.2.2.2).1 _ (fun j => va_rf ((M.2.2.1 x j).map ad))) rfl (fun q => by cases q) (by show ¬ (j < 0 ∨ (arrV _ _ _).slots.size ≤ _); rw [arrV_size]; exact h6) (by show (arrV _ _ _).slots[_]? = _; rw [arrV_read _ _ hlt]) rfl rfl hd kk
  · cases hn
theorem pm_s70 : pm_Snd 70 := by
  intro p l e R s mi args below meth c Q m z L xs D dA ad pc len a b n ls ls' st st' M M' g pc' i lsC H locs cells slots hX hd hk hs hs0 hn hg hJ hL hV hph hR kk
  obtain ⟨⟨hx, hb, hml, hown, hlocks, hnm, hret⟩, hK, hF, had, hz⟩ := hX
  simp only [pm_next, pm_krir] at hn
  split at hn
  · rename_i v j x t
    cases hn
    simp only [pm_dk, Bool.and_eq_true, decide_eq_true_eq, beq_iff_eq] at hk
    obtain ⟨rfl, rfl⟩ := hk
    obtain ⟨⟨h4, h5, h6⟩, h7⟩ := hg
    have hat := pm_at_a (dA := dA) (ad := ad) h4 h5
    have hav := pm_ws_at (dA := dA) (ad := ad) h7.1
    rw [pm_cell_o h7.2] at hav
    have hD := pm_wsD (dA := dA) had hV.2.2.1
    have u1 : ∀ y k, y ≠ x → pm_upR M.2.2.1 x j.toNatClampNeg (some v) y k = M.2.2.1 y k := fun y k hy => if_neg (fun q => hy q.1)
    refine va_astq (r := (pm_cnm 4, pm_T 4, pm_nf 4)) hx hb hK hV.1 hD hV.2.1 x 4 v 4 hat pm_tys_at.2.2.2.2.1 hav (pm_vw_at (by decide)) h6 hd (fun H1 locs1 g1 _ g2 => kk lsC H1 locs1 cells slots hJ hL ⟨?_, g2, hV.2.2⟩ rfl rfl)
    rw [← pm_ws_set (M := M) (M' := (M.1, M.2.1, pm_upR M.2.2.1 x j.toNatClampNeg (some v), M.2.2.2)) (a := x) rfl (fun _ => ?_) (fun y hy => pm_cell_c (fun _ => rfl) (fun k => u1 y k hy) (fun _ => rfl))]
    · exact g1
    · rw [pm_cell_a h5]
      refine congrArg (fun f => Sum.inl (dA 4, (pm_sh x).2, Sum.inr (Sum.inr (Sum.inr (Sum.inr f))))) (funext fun k => ?_)
      show (pm_upR M.2.2.1 x j.toNatClampNeg (some v) x k).map ad = va_up (fun i => (M.2.2.1 x i).map ad) j.toNatClampNeg (some (ad v)) k
      unfold pm_upR va_up
      by_cases e : k = j.toNatClampNeg
      · rw [if_pos ⟨rfl, e⟩, if_pos e]
        rfl
      · rw [if_neg (fun q => e q.2), if_neg e]
  · cases hn
