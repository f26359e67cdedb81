theorem pm_fk_rg : ∀ q ∈ pm_fk, q.2.1 < 7 ∧ q.2.2.1 < pm_nf q.2.1 := by decide +kernel
theorem pm_cnm_onm : ∀ a, a < 7 → pm_cnm a = pm_onm a := by decide +kernel
theorem pm_cell_o {dA : Nat → ClassId} {ad : Nat → Nat} {M : pm_Mem} {x c : Nat} (h : pm_sh x = (0, c)) : pm_cell dA ad M x = .inr (c, (List.range (pm_nf c)).map (pm_fv ad M c x)) := by
  unfold pm_cell
  rw [h]
theorem pm_cell_a {dA : Nat → ClassId} {ad : Nat → Nat} {M : pm_Mem} {x k : Nat} (h : (pm_sh x).1 = 1 + k) : pm_cell dA ad M x = .inl (dA k, (pm_sh x).2, pm_ac ad M x k) := by
  obtain ⟨u, v⟩ : ∃ q, pm_sh x = q := ⟨_, rfl⟩
  rw [v] at h ⊢
  unfold pm_cell
  rw [v]
  obtain ⟨k1, n1⟩ := u
  have h : k1 = 1 + k := h
  rw [show k1 = k + 1 by omega]
theorem pm_cell_c {dA : Nat → ClassId} {ad : Nat → Nat} {M M' : pm_Mem} {y : Nat} (h1 : ∀ j, M'.2.1 y j = M.2.1 y j) (h2 : ∀ j, M'.2.2.1 y j = M.2.2.1 y j) (h3 : ∀ j, M'.2.2.2 y j = M.2.2.2 y j) : pm_cell dA ad M' y = pm_cell dA ad M y := by
  have e1 : M'.2.1 y = M.2.1 y := funext h1
  have e2 : M'.2.2.1 y = M.2.2.1 y := funext h2
  have e3 : M'.2.2.2 y = M.2.2.2 y := funext h3
  unfold pm_cell pm_ac pm_fv
  rw [e1, e2, e3]
theorem pm_fl_at {ad : Nat → Nat} {M : pm_Mem} {c x b : Nat} (h : b < pm_nf c) : ((List.range (pm_nf c)).map (pm_fv ad M c x))[b]? = some (pm_fv ad M c x b) := by
  simp [List.getElem?_range h]
theorem pm_fl_set {ad : Nat → Nat} {M M' : pm_Mem} {c x b : Nat} {v : Value} (h1 : b < pm_nf c → pm_fv ad M' c x b = v) (h2 : ∀ j, j ≠ b → pm_fv ad M' c x j = pm_fv ad M c x j) : ((List.range (pm_nf c)).map (pm_fv ad M c x)).set b v = (List.range (pm_nf c)).map (pm_fv ad M' c x) := by
  apply List.ext_getElem?
  intro i
  by_cases hi : i < pm_nf c
  · rw [pm_fl_at hi]
    by_cases e : i = b
    · subst e
      rw [List.getElem?_set_self (by simpa using hi), h1 hi]
    · rw [List.getElem?_set_ne (fun q => e q.symm), pm_fl_at hi, h2 i e]
  · rw [List.getElem?_eq_none (by simpa using hi), List.getElem?_eq_none (by simpa using hi)]
section PMG
variable {p : Program} {l : Launch} {e : Env} {R : Room} {s : State} {mi : MethodId} {args : Array Value} {below : List Frame} {meth : Method} {c : Code} {H : Heap} {locs : List Loc} {cells slots : Nat} {Q : State → Prop} {cc : ByteArray}
theorem pm_getf {z L own j a b x pc : Nat} {xs : Nat → Int32} {D : va_G} {dA : Nat → ClassId} {ad : Nat → Nat} {M : pm_Mem} {lsC : Array Slot} {rest : List Value} (hx : p.tables.exec = Jvm.exec) (hb : c.code = cc) (hown : s.vm.findClass (pm_onm own) = some mi.cls) (hK : va_K D pm_vw (pm_tys dA) s) (hW : pm_Wd s) (hV : pm_V s z L xs D dA ad M H locs)
    (h1 : (pm_fk.lookup (own, j)).map (fun q => (q.1, q.2.1)) = some (a, b)) (hg : pm_obj M x a) (hd : decode cc pc = .ok (.getfield j, 3)) (kk : W p l e R s mi args below meth c H locs cells slots Q (F0 mi (pc + 3) lsC (pm_fv ad M a x b :: rest))) : W p l e R s mi args below meth c H locs cells slots Q (F0 mi pc lsC (.ref (ad x) :: rest)) := by
  obtain ⟨⟨c1, k1, ne, w⟩, hl, he⟩ := Option.map_eq_some_iff.mp h1
  obtain ⟨rfl, rfl⟩ : a = c1 ∧ b = k1 := by cases he; exact ⟨rfl, rfl⟩
  have hm := pm_lk hl
  have hw := pm_fk_ok _ hm
  obtain ⟨ha, hbk⟩ := pm_fk_rg _ hm
  have hat := pm_ws_at (dA := dA) (ad := ad) hg.1
  rw [pm_cell_o hg.2] at hat
  have hsame : ∀ y, s.fieldFound? (pm_T a b).1 (pm_T a b).2.1 (pm_T a b).2.2.1 = some y → s.fieldFound? (pm_cnm a) (pm_T a b).2.1 (pm_T a b).2.2.1 = some y := fun y hy => by rw [← pm_dc0 a ha b hbk]; exact hy
  by_cases hne : ne = 1
  · rw [if_pos hne] at hw
    exact va_getN hx hb (fun w h => hW args w h) (pm_in1 ha) hown hK hV.1 x hat (pm_vw_at ha) b hbk (hW _ _ (pm_Ts_of _ hw rfl)) hsame (pm_fl_at hbk) hd kk
  · rw [if_neg hne] at hw
    exact va_get hx hb (fun w h => hW args w h) (pm_in1 ha) hown hK hV.1 x hat (pm_vw_at ha) b hbk (hW _ _ (pm_Ts_of _ hw rfl)) hsame (pm_fl_at hbk) hd kk
theorem pm_putf {z L own j a b x pc : Nat} {xs : Nat → Int32} {D : va_G} {dA : Nat → ClassId} {ad : Nat → Nat} {M M' : pm_Mem} {lsC : Array Slot} {rest : List Value} {v : Value} (hx : p.tables.exec = Jvm.exec) (hb : c.code = cc) (hown : s.vm.findClass (pm_onm own) = some mi.cls) (hK : va_K D pm_vw (pm_tys dA) s) (hW : pm_Wd s) (had : pm_ad z ad) (hV : pm_V s z L xs D dA ad M H locs)
    (h1 : (pm_fk.lookup (own, j)).map (fun q => (q.1, q.2.1)) = some (a, b)) (hg : pm_obj M x a) (hfin : (pm_T a b).2.2.2 = false ∨ ((pm_T a b).2.2.2 = true ∧ meth.name = "<init>" ∧ pm_cnm a = pm_onm own ∧ (pm_fk.lookup (own, j)).map (fun q => q.2.2.1) = some 0)) (hn : narrow (pm_ft a b) v = v) (hf : fits (pm_ft a b) v = true)
    (e1 : M'.1 = M.1) (e2 : b < pm_nf a → pm_fv ad M' a x b = v) (e3 : ∀ k, k ≠ b → pm_fv ad M' a x k = pm_fv ad M a x k) (e4 : ∀ y, y ≠ x → pm_cell dA ad M' y = pm_cell dA ad M y) (e5 : ((∀ k, k < L → M'.2.1 20000 k = xs k) ∧ M'.2.1 20001 0 = nI L ∧ L ≤ 2048))
    (hd : decode cc pc = .ok (.putfield j, 3)) (kk : ∀ (H' : Heap) (locs' : List Loc), pm_V s z L xs D dA ad M' H' locs' → W p l e R s mi args below meth c H' locs' cells slots Q (F0 mi (pc + 3) lsC rest)) : W p l e R s mi args below meth c H locs cells slots Q (F0 mi pc lsC (v :: .ref (ad x) :: rest)) := by
  obtain ⟨⟨c1, k1, ne, w⟩, hl, he⟩ := Option.map_eq_some_iff.mp h1
  obtain ⟨rfl, rfl⟩ : a = c1 ∧ b = k1 := by cases he; exact ⟨rfl, rfl⟩
  have hm := pm_lk hl
  have hw := pm_fk_ok _ hm
  obtain ⟨ha, hbk⟩ := pm_fk_rg _ hm
  have hat := pm_ws_at (dA := dA) (ad := ad) hg.1
  rw [pm_cell_o hg.2] at hat
  have hsame : ∀ y, s.fieldFound? (pm_T a b).1 (pm_T a b).2.1 (pm_T a b).2.2.1 = some y → s.fieldFound? (pm_cnm a) (pm_T a b).2.1 (pm_T a b).2.2.1 = some y := fun y hy => by rw [← pm_dc0 a ha b hbk]; exact hy
  have hset : (pm_ws dA ad M).set x (ad x, .inr (a, ((List.range (pm_nf a)).map (pm_fv ad M a x)).set b v)) = pm_ws dA ad M' := pm_ws_set e1 (fun _ => by rw [pm_cell_o hg.2, pm_fl_set e2 e3]) e4
  have hD := pm_wsD (dA := dA) had hV.2.2.1
  have fin : ∀ (H1 : Heap) (locs1 : List Loc), va_P D pm_vw ((pm_ws dA ad M).set x (ad x, .inr (a, ((List.range (pm_nf a)).map (pm_fv ad M a x)).set b v))) H1 → va_S (fun q => z ≤ q) s.heap H1 locs1 → W p l e R s mi args below meth c H1 locs1 cells slots Q (F0 mi (pc + 3) lsC rest) := fun H1 locs1 g1 g2 => kk H1 locs1 ⟨by rw [← hset]; exact g1, g2, by rw [e1]; exact hV.2.2.1, e5⟩
  rcases hfin with hfin | ⟨hfin, hini, hcn, hne⟩
  · by_cases hne : ne = 1
    · rw [if_pos hne] at hw
      exact va_putN hx hb (fun w h => hW args w h) (pm_in1 ha) (pm_ft a) (pm_ty0 a ha) (pm_nm0 a ha) hown hK hV.1 hD hV.2.1 x hat (pm_vw_at ha) b hbk (hW _ _ (pm_Ts_of _ hw rfl)) hsame hfin (pm_ty0 a ha b hbk) hn hf (by simpa using hbk) hd (fun H1 locs1 g1 _ g2 => fin H1 locs1 g1 g2)
    · rw [if_neg hne] at hw
      exact va_put hx hb (fun w h => hW args w h) (pm_in1 ha) (pm_ft a) (pm_ty0 a ha) (pm_nm0 a ha) hown hK hV.1 hD hV.2.1 x hat (pm_vw_at ha) b hbk (hW _ _ (pm_Ts_of _ hw rfl)) hsame hfin (pm_ty0 a ha b hbk) hn hf (by simpa using hbk) hd (fun H1 locs1 g1 _ g2 => fin H1 locs1 g1 g2)
  · rw [hl] at hne
    have hne : ne = 0 := Option.some.inj hne
    rw [if_neg (fun q => absurd (hne.symm.trans q) (by decide))] at hw
    exact va_putF hx hb (fun w h => hW args w h) (pm_in1 ha) (pm_ft a) (pm_ty0 a ha) (pm_nm0 a ha) hown hK hV.1 hD hV.2.1 x hat (pm_vw_at ha) b hbk (hW _ _ (pm_Ts_of _ hw rfl)) hsame hfin hini (by rw [pm_dc0 a ha b hbk]; exact hcn) (pm_ty0 a ha b hbk) hn hf (by simpa using hbk) hd (fun H1 locs1 g1 _ g2 => fin H1 locs1 g1 g2)
end PMG
theorem pm_s50 : pm_Snd 50 := by
  intro p l e R s mi args below meth c Q m z L xs D dA ad pc len a b n ls ls' st st' M M' g pc' i lsC H locs cells slots hX hd hk hs hs0 hn hg hJ hL hV hph hR kk
  obtain ⟨⟨hx, hb, hml, hown, hlocks, hnm, hret⟩, hK, hF, had, hz⟩ := hX
  simp only [pm_next, pm_kr] at hn
  split at hn
  · rename_i x t
    cases hn
    have kk := kk lsC H locs cells slots hJ hL hV rfl rfl
    simp only [pm_dk] at hk
    split at hk
    · rename_i j
      simp only [Bool.and_eq_true, decide_eq_true_eq, beq_iff_eq, Bool.not_eq_true'] at hk
      obtain ⟨⟨h1, h2⟩, rfl⟩ := hk
      have e1 : pm_fv ad M a x b = .int (M.2.1 x b) := by
        unfold pm_fv
        rw [h2]
        rfl
      refine pm_getf hx hb hown hK hF.1 hV h1 hg hd ?_
      rw [e1]
      exact kk
    · cases hk
  · cases hn
theorem pm_s51 : pm_Snd 51 := by
  intro p l e R s mi args below meth c Q m z L xs D dA ad pc len a b n ls ls' st st' M M' g pc' i lsC H locs cells slots hX hd hk hs hs0 hn hg hJ hL hV hph hR kk
  obtain ⟨⟨hx, hb, hml, hown, hlocks, hnm, hret⟩, hK, hF, had, hz⟩ := hX
  simp only [pm_next, pm_kr] at hn
  split at hn
  · rename_i x t
    cases hn
    have kk := kk lsC H locs cells slots hJ hL hV rfl rfl
    simp only [pm_dk] at hk
    split at hk
    · rename_i j
      simp only [Bool.and_eq_true, decide_eq_true_eq, beq_iff_eq] at hk
      obtain ⟨⟨h1, h2⟩, rfl⟩ := hk
      have e1 : pm_fv ad M a x b = pm_cz ad (pm_rv (M.2.2.1 x b)) := by
        unfold pm_fv
        rw [h2]
        rfl
      refine pm_getf hx hb hown hK hF.1 hV h1 hg hd ?_
      rw [e1]
      exact kk
    · cases hk
  · cases hn
theorem pm_isr_ty {c k n : Nat} (h : pm_ft c k = pm_ty n) : pm_isr c k = false := by
  unfold pm_isr
  rw [h]
  rcases n with _ | _ | _ | n <;> rfl
theorem pm_n_lt {M : pm_Mem} {x : Nat} (h : x < M.1) (hn : M.1 ≤ pm_n) : x < 560 := by
  have : pm_n = 560 := rfl
  omega
theorem pm_s52 : pm_Snd 52 := by
  intro p l e R s mi args below meth c Q m z L xs D dA ad pc len a b n ls ls' st st' M M' g pc' i lsC H locs cells slots hX hd hk hs hs0 hn hg hJ hL hV hph hR kk
  obtain ⟨⟨hx, hb, hml, hown, hlocks, hnm, hret⟩, hK, hF, had, hz⟩ := hX
  simp only [pm_next, pm_kri] at hn
  split at hn
  · rename_i v x t
    cases hn
    simp only [pm_dk] at hk
    split at hk
    · rename_i j
      simp only [Bool.and_eq_true, decide_eq_true_eq, beq_iff_eq, Bool.not_eq_true'] at hk
      obtain ⟨⟨⟨h1, h2⟩, h3⟩, rfl⟩ := hk
      obtain ⟨hg, hf⟩ := hg
      have hi := pm_isr_ty h2
      have hx5 := pm_n_lt hg.1 hV.2.2.1
      have u1 : ∀ y k, y ≠ x → pm_up M.2.1 x b v y k = M.2.1 y k := fun y k hy => if_neg (fun q => hy q.1)
      refine pm_putf (M' := (M.1, pm_up M.2.1 x b v, M.2.2)) hx hb hown hK hF.1 had hV h1 hg (Or.inl h3) (by rw [h2]; exact narrow_of_fits hf) (by rw [h2]; exact hf) rfl (fun _ => ?_) (fun k hk => ?_) (fun y hy => pm_cell_c (fun k => u1 y k hy) (fun _ => rfl) (fun _ => rfl)) ⟨fun k hk => ?_, ?_, hV.2.2.2.2.2⟩ hd (fun H' locs' hV' => kk lsC H' locs' cells slots hJ hL hV' rfl rfl)
      · unfold pm_fv
        rw [hi]
        show Value.int (pm_up M.2.1 x b v x b) = _
        rw [show pm_up M.2.1 x b v x b = v from if_pos ⟨rfl, rfl⟩]
        rfl
      · unfold pm_fv
        show (if _ then _ else Value.int (pm_up M.2.1 x b v x k)) = _
        rw [show pm_up M.2.1 x b v x k = M.2.1 x k from if_neg (fun q => hk q.2)]
      · show pm_up M.2.1 x b v 20000 k = _
        rw [u1 20000 k (Nat.ne_of_gt (Nat.lt_of_lt_of_le hx5 (by decide)))]
        exact hV.2.2.2.1 k hk
      · show pm_up M.2.1 x b v 20001 0 = _
        rw [u1 20001 0 (Nat.ne_of_gt (Nat.lt_of_lt_of_le hx5 (by decide)))]
        exact hV.2.2.2.2.1
    · cases hk
  · cases hn
theorem pm_s53 : pm_Snd 53 := by
  intro p l e R s mi args below meth c Q m z L xs D dA ad pc len a b n ls ls' st st' M M' g pc' i lsC H locs cells slots hX hd hk hs hs0 hn hg hJ hL hV hph hR kk
  obtain ⟨⟨hx, hb, hml, hown, hlocks, hnm, hret⟩, hK, hF, had, hz⟩ := hX
  simp only [pm_next, pm_krr] at hn
  split at hn
  · rename_i v x t
    cases hn
    simp only [pm_dk] at hk
    split at hk
    · rename_i j
      simp only [Bool.and_eq_true, decide_eq_true_eq, beq_iff_eq] at hk
      obtain ⟨⟨⟨⟨⟨h1, hi⟩, h3⟩, h4⟩, h5⟩, rfl⟩ := hk
      obtain ⟨hg, hv⟩ := hg
      have u1 : ∀ y k, y ≠ x → pm_upR M.2.2.1 x b (some v) y k = M.2.2.1 y k := fun y k hy => if_neg (fun q => hy q.1)
      have hrf : narrow (pm_ft a b) (.ref (ad v)) = .ref (ad v) ∧ fits (pm_ft a b) (.ref (ad v)) = true := by
        unfold pm_isr at hi
        split at hi
        · rename_i q; rw [q]; exact ⟨rfl, rfl⟩
        · rename_i q; rw [q]; exact ⟨rfl, rfl⟩
        · cases hi
      have hown5 : pm_cnm a = pm_onm (pm_ow m) ∧ meth.name = "<init>" := by
        obtain ⟨⟨c1, k1, ne, w⟩, hl, he⟩ := Option.map_eq_some_iff.mp h1
        obtain ⟨rfl, rfl⟩ : a = c1 ∧ b = k1 := by cases he; exact ⟨rfl, rfl⟩
        have ha := (pm_fk_rg _ (pm_lk hl)).1
        refine ⟨by rw [h4]; exact pm_cnm_onm a ha, ?_⟩
        rw [hnm]
        exact hs0 rfl
      refine pm_putf (M' := (M.1, M.2.1, pm_upR M.2.2.1 x b (some v), M.2.2.2)) hx hb hown hK hF.1 had hV h1 hg (Or.inr ⟨h3, hown5.2, hown5.1, h5⟩) hrf.1 hrf.2 rfl (fun _ => ?_) (fun k hk => ?_) (fun y hy => pm_cell_c (fun _ => rfl) (fun k => u1 y k hy) (fun _ => rfl)) hV.2.2.2 hd (fun H' locs' hV' => kk lsC H' locs' cells slots hJ hL hV' rfl rfl)
      · unfold pm_fv
        rw [hi]
        show pm_cz ad (pm_rv (pm_upR M.2.2.1 x b (some v) x b)) = _
        rw [show pm_upR M.2.2.1 x b (some v) x b = some v from if_pos ⟨rfl, rfl⟩]
        rfl
      · unfold pm_fv
        show (if _ then pm_cz ad (pm_rv (pm_upR M.2.2.1 x b (some v) x k)) else _) = _
        rw [show pm_upR M.2.2.1 x b (some v) x k = M.2.2.1 x k from if_neg (fun q => hk q.2)]
    · cases hk
  · cases hn
