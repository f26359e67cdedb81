section PMN
variable {p : Program} {l : Launch} {e : Env} {R : Room} {s : State} {mi : MethodId} {args : Array Value} {below : List Frame} {meth : Method} {c : Code} {H H1 : Heap} {locs : List Loc} {cells slots : Nat} {Q : State → Prop} {z L : Nat} {xs : Nat → Int32} {D : va_G} {dA : Nat → ClassId} {ad : Nat → Nat} {M M' : pm_Mem}
theorem pm_size {g : JFrame} (h : H.size ≤ s.heap.size + cells → W p l e R s mi args below meth c H locs cells slots Q g) : W p l e R s mi args below meth c H locs cells slots Q g := fun T hT X => h (by rw [← hT]; exact X.heapSize) T hT X
theorem pm_szeq (had : pm_ad z ad) (hz : z ≤ s.heap.size) (hV : pm_V s z L xs D dA ad M H locs) (h0 : M.1 < pm_n) (h1 : s.heap.size + cells = z + M.1) (h2 : H.size ≤ s.heap.size + cells) : H.size = z + M.1 := by
  have h3 : z + M.1 ≤ H.size := by
    rcases Nat.eq_zero_or_pos M.1 with e | e
    · have := hV.2.1.1
      omega
    · have h4 : (ad (M.1 - 1), pm_cell dA ad M (M.1 - 1)).1 < H.size := (hV.1 (M.1 - 1) _ (pm_ws_at (by omega))).lt
      have h4 : ad (M.1 - 1) < H.size := h4
      have e2 := had (M.1 - 1) (by omega)
      omega
  omega
theorem pm_ws_push (h1 : M'.1 = M.1 + 1) (h2 : ∀ a, a < M.1 → pm_cell dA ad M' a = pm_cell dA ad M a) : pm_ws dA ad M' = pm_ws dA ad M ++ [(ad M.1, pm_cell dA ad M' M.1)] := by
  unfold pm_ws
  rw [h1, List.range_succ, List.map_append]
  congr 1
  apply List.map_congr_left
  intro a ha
  rw [h2 a (List.mem_range.mp ha)]
theorem pm_newV (hV : pm_V s z L xs D dA ad M H locs) (h1 : M'.1 = M.1 + 1) (h2 : ∀ a, a < M.1 → pm_cell dA ad M' a = pm_cell dA ad M a) (hlt : M.1 < pm_n) (o1 : ∀ q : Nat, q < H.size → H1[q]? = H[q]?) (z1 : H.size ≤ H1.size) (hat : va_at D pm_vw (ad M.1, pm_cell dA ad M' M.1) H1) (hsc : ∀ x j, 560 ≤ x → M'.2.1 x j = M.2.1 x j) : pm_V s z L xs D dA ad M' H1 locs := by
  refine ⟨?_, ⟨Nat.le_trans hV.2.1.1 z1, fun q g1 g2 => (o1 q (Nat.lt_of_lt_of_le g1 hV.2.1.1)).trans (hV.2.1.2.1 q g1 g2), hV.2.1.2.2⟩, by omega, fun j hj => ?_, ?_, hV.2.2.2.2.2⟩
  · rw [pm_ws_push h1 h2]
    refine (hV.1.kept (fun k q hq => o1 q.1 ((hV.1 k q hq).lt))).app (fun k q hq => ?_)
    have hz : k < 1 := (List.getElem?_eq_some_iff.mp hq).1
    rw [show k = 0 by omega] at hq
    cases hq
    exact hat
  · rw [hsc _ _ (by decide)]
    exact hV.2.2.2.1 j hj
  · rw [hsc _ _ (by decide)]
    exact hV.2.2.2.2.1
end PMN
def pm_inl : List Nat := [38, 118, 32, 137, 146, 24, 721]
def pm_itl : List Nat := [3, 4, 2, 5, 6, 1, 7]
theorem pm_inl_ok : ∀ c, c < 7 → tables_1[pm_inl.getD c 0]? = some (.instantiable (pm_cnm c) (pm_nf c)) ∧ tables_1[pm_itl.getD c 0]? = some (.initialized (pm_cnm c)) := by decide +kernel
theorem pm_dfl : ∀ c, c < 7 → ∀ k, k < pm_nf c → defaultValue (pm_ft c k) = if pm_isr c k = true then .null else .int 0 := by decide +kernel
theorem pm_sh_bd : ∀ x, x < 560 → (pm_sh x).2 ≤ 9420 := by decide +kernel
theorem pm_s71 : pm_Snd 71 := by
  intro p l e R s mi args below meth c Q m z L xs D dA ad pc len a b n ls ls' st st' M M' g pc' i lsC H locs cells slots hX hd hk hs hs0 hn hg hJ hL hV hph hR kk
  obtain ⟨⟨hx, hb, hml, hown, hlocks, hnm, hret⟩, hK, hF, had, hz⟩ := hX
  cases hn
  simp only [pm_dk] at hk
  split at hk
  · rename_i j
    simp only [Bool.and_eq_true, decide_eq_true_eq, beq_iff_eq] at hk
    obtain ⟨⟨h1, rfl⟩, ha⟩ := hk
    obtain ⟨⟨a1, w⟩, hl, he⟩ := Option.map_eq_some_iff.mp h1
    obtain rfl : a = a1 := he.symm
    have hw := pm_kk_ok _ (pm_lk hl)
    obtain ⟨⟨hsh, hlt⟩, hct⟩ := hg
    refine pm_size (fun hsz => ?_)
    have hH := pm_szeq had hz hV hlt (hph hlt hct) hsz
    have hA := had _ hlt
    have hKn := hK.1 a _ (pm_vw_at ha)
    have hsl : pm_sl (M.1 + 1) = pm_sl M.1 + pm_nf a := by
      show pm_sl M.1 + pm_slt (pm_sh M.1) = _
      rw [hsh]
      rfl
    have hR1 : cells + (M.1 + 1) ≤ R.cells + M.1 := hR.1
    have hR2 : slots + pm_sl (M.1 + 1) ≤ R.slots + pm_sl M.1 := hR.2.1
    refine W.newcK hx hb hown (hF.1 _ _ (pm_Ts_of _ hw rfl)) (hF.1 _ _ (pm_Ts_of _ (pm_inl_ok a ha).1 rfl)) (hF.1 _ _ (pm_Ts_of _ (pm_inl_ok a ha).2 rfl)) rfl hd (by omega) (by omega) hKn.2.1 hH (fun H1 kC hkC e1 z1 o1 => ?_)
    have hat : va_at D pm_vw (ad M.1, pm_cell dA ad (M.1 + 1, (fun x j => if x = M.1 then 0 else M.2.1 x j), (fun x j => if x = M.1 then none else M.2.2.1 x j), M.2.2.2) M.1) H1 := by
      rw [pm_cell_o hsh, hA]
      refine ⟨_, pm_vw_at ha, (u_born (pm_ft a) (fun w h => hF.1 args w h) (pm_in1 ha) hKn hkC e1 (pm_ty0 a ha)).to (fun k hk => ?_)⟩
      show defaultValue (pm_ft a k) = List.getD _ k .null
      rw [List.getD_eq_getElem?_getD, pm_fl_at hk, pm_dfl a ha k hk]
      unfold pm_fv
      by_cases h9 : pm_isr a k = true
      · rw [if_pos h9, if_pos h9]
        show Value.null = pm_cz ad (pm_rv (if M.1 = M.1 then none else M.2.2.1 M.1 k))
        rw [if_pos rfl]
        rfl
      · rw [if_neg h9, if_neg h9]
        show Value.int 0 = Value.int (if M.1 = M.1 then 0 else M.2.1 M.1 k)
        rw [if_pos rfl]
    have hV' := pm_newV (M' := (M.1 + 1, (fun x j => if x = M.1 then 0 else M.2.1 x j), (fun x j => if x = M.1 then none else M.2.2.1 x j), M.2.2.2)) hV rfl (fun y hy => pm_cell_c (fun k => if_neg (Nat.ne_of_lt hy)) (fun k => if_neg (Nat.ne_of_lt hy)) (fun _ => rfl)) hlt (by rw [hH]; exact o1) (by omega) hat (fun x k hx => if_neg (fun q => by have : pm_n = 560 := rfl; omega))
    have kk := kk lsC H1 locs (cells + 1) (slots + pm_nf a) hJ hL hV' (by show cells + 1 + M.1 = cells + (M.1 + 1); omega) (by rw [hsl]; omega)
    simp only [List.map_cons, pm_cz, hA] at kk
    exact kk
  · cases hk
def pm_arw : List Nat := [98, 97, 841, 1061]
theorem pm_arw_ok : ∀ k, k < 4 → tables_1[pm_arw.getD k 0]? = some (.arrayClass (newarray.typeOf (pm_at1 k))) := by decide +kernel
theorem pm_cb : ∀ k, k < 4 → componentBytes (newarray.typeOf (pm_at1 k)) ≤ 8 := by decide +kernel
theorem pm_isrt (n : Nat) : pm_slt (1 + n, 7) = 7 := by
  unfold pm_slt
  rw [if_neg (by show ¬ 1 + n = 0; omega)]
theorem pm_slt_a {q : Nat × Nat} {k n : Nat} (h : q = (1 + k, n)) : pm_slt q = n := by
  rw [h]
  unfold pm_slt
  rw [if_neg (by show ¬ 1 + k = 0; omega)]
theorem pm_s72 : pm_Snd 72 := by
  intro p l e R s mi args below meth c Q m z L xs D dA ad pc len a b n ls ls' st st' M M' g pc' i lsC H locs cells slots hX hd hk hs hs0 hn hg hJ hL hV hph hR kk
  obtain ⟨⟨hx, hb, hml, hown, hlocks, hnm, hret⟩, hK, hF, had, hz⟩ := hX
  simp only [pm_next, pm_k1] at hn
  split at hn
  · rename_i k t
    cases hn
    obtain ⟨⟨hsh, hk0, hlt⟩, hct⟩ := hg
    have hA := had _ hlt
    have hsl : pm_sl (M.1 + 1) = pm_sl M.1 + k.toNatClampNeg := by
      show pm_sl M.1 + pm_slt (pm_sh M.1) = _
      rw [pm_slt_a hsh]
    have hR1 : cells + (M.1 + 1) ≤ R.cells + M.1 := hR.1
    have hR2 : slots + pm_sl (M.1 + 1) ≤ R.slots + pm_sl M.1 := hR.2.1
    have hbd : k.toNatClampNeg ≤ 9420 := by
      have := pm_sh_bd M.1 (by have : pm_n = 560 := rfl; omega)
      rw [hsh] at this
      exact this
    refine pm_size (fun hsz => ?_)
    have hH := pm_szeq had hz hV hlt (hph hlt hct) hsz
    have hk1 : (pm_sh M.1).1 = 1 + a := by rw [hsh]
    have hk2 : (pm_sh M.1).2 = k.toNatClampNeg := by rw [hsh]
    have fin : ∀ (H1 : Heap), H1.size = z + M.1 + 1 → (∀ q : Nat, q < z + M.1 → H1[q]? = H[q]?) → H1[z + M.1]? = some (vp_cell (dA a) (k.toNatClampNeg, pm_ac ad (M.1 + 1, (fun x j => if x = M.1 then 0 else M.2.1 x j), (fun x j => if x = M.1 then none else M.2.2.1 x j), (fun x j => if x = M.1 then 0 else M.2.2.2 x j)) M.1 a)) →
        W p l e R s mi args below meth c H1 locs (cells + 1) (slots + k.toNatClampNeg) Q (F0 mi (pc + len) lsC (.ref (z + M.1) :: List.map (pm_cz ad) t)) := by
      intro H1 z1 o1 e1
      have hat : va_at D pm_vw (ad M.1, pm_cell dA ad (M.1 + 1, (fun x j => if x = M.1 then 0 else M.2.1 x j), (fun x j => if x = M.1 then none else M.2.2.1 x j), (fun x j => if x = M.1 then 0 else M.2.2.2 x j)) M.1) H1 := by
        rw [pm_cell_a hk1, hA, hk2]
        exact e1
      have hV' := pm_newV (M' := (M.1 + 1, (fun x j => if x = M.1 then 0 else M.2.1 x j), (fun x j => if x = M.1 then none else M.2.2.1 x j), (fun x j => if x = M.1 then 0 else M.2.2.2 x j))) hV rfl (fun y hy => pm_cell_c (fun k => if_neg (Nat.ne_of_lt hy)) (fun k => if_neg (Nat.ne_of_lt hy)) (fun k => if_neg (Nat.ne_of_lt hy))) hlt (by rw [hH]; exact o1) (by omega) hat (fun x k hx => if_neg (fun q => by have : pm_n = 560 := rfl; omega))
      have kk := kk lsC H1 locs (cells + 1) (slots + k.toNatClampNeg) hJ hL hV' (by show cells + 1 + M.1 = cells + (M.1 + 1); omega) (by rw [hsl]; omega)
      simp only [List.map_cons, pm_cz, hA] at kk
      exact kk
    simp only [pm_dk] at hk
    split at hk
    · rename_i at9
      simp only [Bool.and_eq_true, decide_eq_true_eq, beq_iff_eq] at hk
      obtain ⟨⟨ha, rfl⟩, rfl⟩ := hk
      have hcb := pm_cb a ha
      refine va_newaK hx hb (hF.1 _ _ (pm_Ts_of _ (pm_arw_ok a ha) rfl)) rfl hd (rest := List.map (pm_cz ad) t) rfl hk0 rfl (Nat.le_trans (Nat.mul_le_mul hbd hcb) (by decide)) (by omega) (by omega) hH (fun H1 cA e1 z1 o1 hAr hNm => fin H1 z1 o1 ?_)
      rw [e1]
      rcases (show a = 0 ∨ a = 1 ∨ a = 2 ∨ a = 3 by omega) with rfl | rfl | rfl | rfl
      · have e2 : cA = dA 0 := Option.some.inj (hNm.symm.trans (hK.2 0 _ pm_tys_at.1).2)
        rw [e2]
        show _ = some (vp_cell (dA 0) (_, .inl (fun j => if M.1 = M.1 then (0 : Int32) else M.2.1 M.1 j)))
        rw [vp_cell_i]
        simp only [if_pos]
        rfl
      · have e2 : cA = dA 1 := Option.some.inj (hNm.symm.trans (hK.2 1 _ pm_tys_at.2.1).2)
        rw [e2]
        show _ = some (vp_cell (dA 1) (_, .inl (fun j => if M.1 = M.1 then (0 : Int32) else M.2.1 M.1 j)))
        rw [vp_cell_i]
        simp only [if_pos]
        rfl
      · have e2 : cA = dA 2 := Option.some.inj (hNm.symm.trans (hK.2 2 _ pm_tys_at.2.2.1).2)
        rw [e2]
        show _ = some (vp_cell (dA 2) (_, .inl (fun j => if M.1 = M.1 then (0 : Int32) else M.2.1 M.1 j)))
        rw [vp_cell_i]
        simp only [if_pos]
        rfl
      · have e2 : cA = dA 3 := Option.some.inj (hNm.symm.trans (hK.2 3 _ pm_tys_at.2.2.2.1).2)
        rw [e2]
        show _ = some (vp_cell (dA 3) (_, .inr (.inl (fun j => if M.1 = M.1 then (0 : Int64) else M.2.2.2 M.1 j))))
        rw [vp_cell_l]
        simp only [if_pos]
        rfl
    · rename_i j
      simp only [Bool.and_eq_true, decide_eq_true_eq, beq_iff_eq] at hk
      obtain ⟨⟨rfl, h1⟩, rfl⟩ := hk
      obtain ⟨⟨a1, w⟩, hl, he⟩ := Option.map_eq_some_iff.mp h1
      obtain rfl : 4 = a1 := he.symm
      have hw := pm_kk_ok _ (pm_lk hl)
      refine W.anew hx hb hown (hF.1 _ _ (pm_Ts_of _ hw rfl)) (va_AO.use hF.2.2.2.2.2.1.1) rfl hd rfl hk0 (by omega) (by omega) (by omega) (fun cA kA comp f1 f2 f3 f4 => ?_)
      have e2 : cA = dA 4 := by
        obtain ⟨kA9, comp9, q1, q2, q3, q4⟩ := (hK.2 4 _ pm_tys_at.2.2.2.2.1).2
        exact Option.some.inj (f1.symm.trans q4)
      subst e2
      rw [hH]
      refine fin _ (by rw [Array.size_push, hH]) (fun q hq => by rw [Array.getElem?_push, if_neg (by rw [hH]; exact Nat.ne_of_lt hq)]) ?_
      rw [← hH, Array.getElem?_push_size]
      show _ = some (vp_cell (dA 4) (_, .inr (.inr (.inr (.inr (fun i => (if M.1 = M.1 then (none : Option Nat) else M.2.2.1 M.1 i).map ad))))))
      rw [vp_cell_q]
      simp only [if_pos, Option.map_none]
      show _ = some (arrV _ _ (fun _ => Value.null))
      rw [← arrV_new]
    · cases hk
  · cases hn
theorem vr_outer (c : ClassId) (N h0 : Nat) : ∀ i : Nat, Jvm.Free.Multi.outerC c N h0 i = arrV c N (fun j => va_rf (if j < i then some (h0 + 1 + j) else none))
  | 0 => by
    show ({ cls := c, slots := Array.replicate N .null, vm := .none } : Cell) = _
    rw [arrV_new]
    refine congrArg (arrV c N) (funext fun j => ?_)
    simp [va_rf]
  | i + 1 => by
    show (Jvm.Free.Multi.outerC c N h0 i).setSlot i (.ref (h0 + 1 + i)) = _
    rw [vr_outer c N h0 i, arrV_store]
    refine congrArg (arrV c N) (funext fun j => ?_)
    by_cases e : j = i
    · subst e
      simp [updV, va_rf]
    · by_cases h : j < i
      · simp [updV, e, h, Nat.lt_succ_of_lt h]
      · simp [updV, e, h, show ¬ j < i + 1 by omega]
theorem pm_lw_m : tables_1[144]? = some (.classLink "CardWorkshop$Solver" 17 ("[" ++ (FieldType.array .int).toString)) ∧ tables_1[98]? = some (.arrayClass .int) := by decide +kernel
theorem pm_sl_m {n h k : Nat} (h1 : pm_sh n = (6, h)) (h2 : ∀ j, j < h → pm_sh (n + 1 + j) = (1, k)) : ∀ j, j ≤ h → pm_sl (n + 1 + j) = pm_sl n + h + j * k := by
  intro j
  induction j with
  | zero =>
    intro _
    show pm_sl n + pm_slt (pm_sh n) = _
    rw [h1]
    show pm_sl n + h = _
    omega
  | succ j ih =>
    intro hj
    have e := ih (by omega)
    show pm_sl (n + 1 + j) + pm_slt (pm_sh (n + 1 + j)) = _
    rw [e, h2 j (by omega), Nat.succ_mul]
    show pm_sl n + h + j * k + k = _
    omega
theorem pm_inner (c : ClassId) (k : Nat) : Jvm.Free.Multi.innerC c k (defaultValue .int) = vp_cell c (k, .inl (fun _ => (0 : Int32))) := by
  rw [vp_cell_i]
  show ({ cls := c, slots := Array.replicate k (.int 0), vm := .none } : Cell) = _
  rw [arrV_new]
theorem pm_h11a : ∀ x, x < 560 → (pm_sh x).1 = 6 → (pm_sh x).2 = 11 := by decide +kernel
theorem pm_h11 {n h : Nat} (h1 : pm_sh n = (6, h)) (hn : n < 560) : h = 11 := by
  have := pm_h11a n hn (by rw [h1])
  rw [h1] at this
  exact this
theorem pm_s73 : pm_Snd 73 := by
  intro p l e R s mi args below meth c Q m z L xs D dA ad pc len a b n ls ls' st st' M M' g pc' i lsC H locs cells slots hX hd hk hs hs0 hn hg hJ hL hV hph hR kk
  obtain ⟨⟨hx, hb, hml, hown, hlocks, hnm, hret⟩, hK, hF, had, hz⟩ := hX
  simp only [pm_next, pm_k2] at hn
  split at hn
  · rename_i k h t
    cases hn
    obtain ⟨⟨hsh, hk0, hh0, hin, hlt0⟩, hct⟩ := hg
    have hlt : M.1 < pm_n := by omega
    have h560 : pm_n = 560 := rfl
    simp only [pm_dk] at hk
    split at hk
    · simp only [Bool.and_eq_true, beq_iff_eq] at hk
      obtain ⟨⟨⟨hw, rfl⟩, rfl⟩, rfl⟩ := hk
      rw [hw] at hown
      have hsl := pm_sl_m hsh hin _ (Nat.le_refl _)
      have hR1 : cells + (M.1 + 1 + h.toNatClampNeg) ≤ R.cells + M.1 := hR.1
      have hR2 : slots + pm_sl (M.1 + 1 + h.toNatClampNeg) ≤ R.slots + pm_sl M.1 := hR.2.1
      have hbh : h.toNatClampNeg ≤ 560 := by omega
      refine pm_size (fun hsz => ?_)
      have hH := pm_szeq had hz hV hlt (hph hlt hct) hsz
      have hbk : 0 < h.toNatClampNeg → k.toNatClampNeg ≤ 9420 := fun q => by
        have := pm_sh_bd (M.1 + 1 + 0) (by omega)
        rw [hin 0 q] at this
        exact this
      by_cases hpos : 0 < h.toNatClampNeg
      · have hbk := hbk hpos
        intro T hT Xs
        obtain ⟨vm₁, cA, comp, -, fA, fC, hO, -, X', step⟩ := Xs.multianewarray2F hx hown (hF.1 _ _ (pm_Ts_of _ pm_lw_m.1 rfl)) hF.2.2.2.2.2.1.2 (hF.1 _ _ (pm_Ts_of _ pm_lw_m.2 rfl)) (g := F0 mi pc lsC (.int k :: .int h :: List.map (pm_cz ad) t)) rfl (by rw [hb]; exact hd) rfl hh0 hk0 (by omega) (Nat.le_trans (Nat.mul_le_mul hbk (show componentBytes .int ≤ 8 by decide)) (by decide)) (by omega) rfl rfl (by omega) (by omega)
        have ec : comp = dA 0 := Option.some.inj (fC.symm.trans (hK.2 0 _ pm_tys_at.1).2)
        have ea : cA = dA 5 := Option.some.inj (fA.symm.trans (hK.2 5 _ pm_tys_at.2.2.2.2.2).2)
        subst ec
        subst ea
        generalize hFl : Jvm.Free.Multi.fill (T.setVm vm₁) (dA 5) (dA 0) h.toNatClampNeg k.toNatClampNeg (defaultValue .int) h.toNatClampNeg = F at X' step
        have hTh : (T.setVm vm₁).heap = H := hT
        obtain ⟨f1, f2, -, -⟩ := Jvm.Free.Multi.fill_facts (T.setVm vm₁) (dA 5) (dA 0) h.toNatClampNeg k.toNatClampNeg (defaultValue .int) h.toNatClampNeg
        rw [hFl, hTh] at f1 f2
        have hold : ∀ x : Nat, x < H.size → F.heap[x]? = H[x]? := fun x hx => by
          have := Jvm.Free.Multi.fill_old (T.setVm vm₁) (dA 5) (dA 0) h.toNatClampNeg k.toNatClampNeg (defaultValue .int) (a := x) (by rw [hTh]; exact hx) h.toNatClampNeg
          rw [hFl, hTh] at this
          exact this
        have hrow : ∀ j : Nat, j < h.toNatClampNeg → F.heap[H.size + 1 + j]? = some (vp_cell (dA 0) (k.toNatClampNeg, .inl (fun _ => (0 : Int32)))) := fun j hj => by
          have := Jvm.Free.Multi.fill_inner (T.setVm vm₁) (dA 5) (dA 0) h.toNatClampNeg k.toNatClampNeg (defaultValue .int) h.toNatClampNeg j hj
          rw [hFl, hTh, pm_inner] at this
          exact this
        rw [vr_outer] at f2
        have hP' : va_P D pm_vw (pm_ws dA ad (M.1 + 1 + h.toNatClampNeg, (fun x j => if M.1 ≤ x ∧ x < M.1 + 1 + h.toNatClampNeg then 0 else M.2.1 x j), (fun x j => if x = M.1 then (if j < h.toNatClampNeg then some (M.1 + 1 + j) else none) else if M.1 ≤ x ∧ x < M.1 + 1 + h.toNatClampNeg then none else M.2.2.1 x j), M.2.2.2)) F.heap := by
          intro x q hq
          have hx9 : x < M.1 + 1 + h.toNatClampNeg := by
            have := (List.getElem?_eq_some_iff.mp hq).1
            rwa [pm_ws_len] at this
          rw [pm_ws_at (M := (M.1 + 1 + h.toNatClampNeg, (fun x j => if M.1 ≤ x ∧ x < M.1 + 1 + h.toNatClampNeg then 0 else M.2.1 x j), (fun x j => if x = M.1 then (if j < h.toNatClampNeg then some (M.1 + 1 + j) else none) else if M.1 ≤ x ∧ x < M.1 + 1 + h.toNatClampNeg then none else M.2.2.1 x j), M.2.2.2)) hx9] at hq
          cases hq
          rcases Nat.lt_trichotomy x M.1 with g1 | g1 | g1
          · have e9 : pm_cell dA ad (M.1 + 1 + h.toNatClampNeg, (fun x j => if M.1 ≤ x ∧ x < M.1 + 1 + h.toNatClampNeg then 0 else M.2.1 x j), (fun x j => if x = M.1 then (if j < h.toNatClampNeg then some (M.1 + 1 + j) else none) else if M.1 ≤ x ∧ x < M.1 + 1 + h.toNatClampNeg then none else M.2.2.1 x j), M.2.2.2) x = pm_cell dA ad M x := pm_cell_c (fun j => by
                show (if M.1 ≤ x ∧ x < M.1 + 1 + h.toNatClampNeg then 0 else M.2.1 x j) = _
                rw [if_neg (by omega)]) (fun j => by
                show (if x = M.1 then _ else if M.1 ≤ x ∧ x < M.1 + 1 + h.toNatClampNeg then none else M.2.2.1 x j) = _
                rw [if_neg (by omega), if_neg (by omega)]) (fun _ => rfl)
            rw [e9]
            have g2 := hV.1 x _ (pm_ws_at g1)
            exact g2.kept (hold _ g2.lt)
          · subst g1
            rw [pm_cell_a (k := 5) (by rw [hsh])]
            show F.heap[ad M.1]? = some (vp_cell _ _)
            rw [had _ hlt, ← hH, f2, hsh]
            show _ = some (vp_cell (dA 5) (_, .inr (.inr (.inr (.inr (fun i => (if M.1 = M.1 then (if i < h.toNatClampNeg then some (M.1 + 1 + i) else none) else if M.1 ≤ M.1 ∧ M.1 < M.1 + 1 + h.toNatClampNeg then none else M.2.2.1 M.1 i).map ad))))))
            rw [vp_cell_q]
            refine congrArg some (congrArg (arrV (dA 5) h.toNatClampNeg) (funext fun j => ?_))
            rw [if_pos rfl]
            by_cases hj : j < h.toNatClampNeg
            · rw [if_pos hj, if_pos hj]
              show va_rf (some _) = va_rf (some (ad _))
              rw [had _ (by omega), hH]
              congr 2
              omega
            · rw [if_neg hj, if_neg hj]
              rfl
          · obtain ⟨j, rfl⟩ : ∃ j, x = M.1 + 1 + j := ⟨x - M.1 - 1, by omega⟩
            have hj : j < h.toNatClampNeg := by omega
            rw [pm_cell_a (k := 0) (by rw [hin j hj])]
            show F.heap[ad (M.1 + 1 + j)]? = some (vp_cell _ _)
            have e9 := hrow j hj
            rw [hH] at e9
            rw [had _ (by omega), show z + (M.1 + 1 + j) = z + M.1 + 1 + j by omega, e9, hin j hj]
            refine congrArg (fun f => some (vp_cell (dA 0) (k.toNatClampNeg, .inl f))) (funext fun i => ?_)
            show 0 = (if M.1 ≤ M.1 + 1 + j ∧ M.1 + 1 + j < M.1 + 1 + h.toNatClampNeg then 0 else M.2.1 (M.1 + 1 + j) i)
            rw [if_pos (by omega)]
        have hV' : pm_V s z L xs D dA ad (M.1 + 1 + h.toNatClampNeg, (fun x j => if M.1 ≤ x ∧ x < M.1 + 1 + h.toNatClampNeg then 0 else M.2.1 x j), (fun x j => if x = M.1 then (if j < h.toNatClampNeg then some (M.1 + 1 + j) else none) else if M.1 ≤ x ∧ x < M.1 + 1 + h.toNatClampNeg then none else M.2.2.1 x j), M.2.2.2) F.heap locs := by
          refine ⟨hP', ⟨by rw [f1]; have := hV.2.1.1; omega, fun q w1 w2 => (hold q (Nat.lt_of_lt_of_le w1 hV.2.1.1)).trans (hV.2.1.2.1 q w1 w2), hV.2.1.2.2⟩, by show M.1 + 1 + h.toNatClampNeg ≤ pm_n; omega, fun j hj => ?_, ?_, hV.2.2.2.2.2⟩
          · show (if M.1 ≤ 20000 ∧ 20000 < M.1 + 1 + h.toNatClampNeg then 0 else M.2.1 20000 j) = _
            rw [if_neg (by omega)]
            exact hV.2.2.2.1 j hj
          · show (if M.1 ≤ 20001 ∧ 20001 < M.1 + 1 + h.toNatClampNeg then 0 else M.2.1 20001 0) = _
            rw [if_neg (by omega)]
            exact hV.2.2.2.2.1
        have kk := kk lsC F.heap locs (cells + 1 + h.toNatClampNeg) (slots + h.toNatClampNeg + h.toNatClampNeg * k.toNatClampNeg) hJ hL hV' (by show cells + 1 + h.toNatClampNeg + M.1 = cells + (M.1 + 1 + h.toNatClampNeg); omega) (by show _ = slots + pm_sl (M.1 + 1 + h.toNatClampNeg); rw [hsl]; omega)
        simp only [List.map_cons, pm_cz, had _ hlt] at kk
        obtain ⟨t9, a1, b1⟩ := kk F rfl X'
        refine ⟨t9, step t9 ?_, b1⟩
        rw [hT, hH]
        exact a1
      · exact absurd (show 0 < h.toNatClampNeg by have := pm_h11 hsh (by omega); omega) hpos
    · cases hk
  · cases hn
