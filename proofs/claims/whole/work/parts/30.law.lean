/-! THE LAW, out of a run of the pure machine -/
def pm_M0 (L : Nat) (xs : Nat → Int32) : pm_Mem := (0, fun x j => if x = 20000 then xs j else if x = 20001 then nI L else 0, fun _ _ => none, fun _ _ => 0)
theorem pm_sl560 : pm_sl 560 ≤ 1000000 := by decide +kernel
theorem pm_law121 : pm_b 121 = code ∧ pm_ml 121 = 7 ∧ pm_rt 121 = ret ∧ pm_y 121 = x ∧ pm_onm (pm_ow 121) = "CardWorkshopLaw" ∧ pm_hh 121 = [] := by
  refine ⟨rfl, by decide +kernel, by decide +kernel, by decide +kernel, by decide +kernel, by decide +kernel⟩
theorem pm_same_drop {s t : State} {locs : List Loc} {c n c' n' : Nat} (h : s.sameButNew t locs c n) (hl : ∀ q ∈ locs, s.heap.size ≤ q.base) (hc : c ≤ c') (hn : n ≤ n') : s.sameButNew t [] c' n' := by
  obtain ⟨h1, h2, h3, h4, h5, h6⟩ := h
  refine ⟨h1, h2, by omega, h4, by omega, fun a cl ha => ?_⟩
  obtain ⟨c1, g1, g2, g3, g4⟩ := h6 a cl ha
  refine ⟨c1, g1, g2, g3, fun i _ => g4 i (fun hm => ?_)⟩
  have := hl _ hm
  have h7 := (Array.getElem?_eq_some_iff.mp ha).1
  simp only at this
  omega
theorem pm_startW {p : Program} {e : Env} {s : State} {m : MethodId} {below : List Frame} {meth : Method} {c : Code} {l : Launch} {b L : Nat} {xs : Nat → Int32} (hL : L ≤ 2048) (hfl : l.flags = flags0) (hn : s.methodNamed? x = some m) (hcw : (Jvm.Cond.code x code maxLocals ret).before #[Value.ref b] s = true)
    (hx : p.tables.exec = Jvm.exec) (hb : c.code = code) (hr : meth.sig.returnType = ret) (hml : c.maxLocals = 7) (hown : s.vm.findClass "CardWorkshopLaw" = some m.cls) (hts : ∀ w ∈ lw_tbl, w.before #[Value.ref b] s = true) (hX : va_X b L xs s s.heap) (hbl : b < s.heap.size) (hlocks : meth.locks = false) (hgv : (Jvm.Cond.and given_1 narrow_1).before #[Value.ref b] s = true)
    {d : Nat} {M' : pm_Mem} (hd : d ≤ 2000) (hp : pm_C (d + 1) 121 [.ref 20000] (pm_M0 L xs) (.inl (some (.int 1)), M')) (hct : pm_ct M' ≤ 10000) :
    W p l e room_1 s m #[Value.ref b] below meth c s.heap [] 0 0 (fun t => ∃ o, t.status = .running ∧ Ended t below o ∧ o = .returned (some (.int 1)) ∧ s.WarmedH t.vm ∧ s.sameButNew ({ t with vm := s.vm } : State) [] 601024 7293034) (entryFrame m ([Value.ref b] : List Value).toArray 7) := by
  intro T hT X

  have hex : c.exceptionTable.toList.map (fun h => (h.startPc, h.endPc, h.handlerPc, h.catchType)) = pm_hh 121 := by
    obtain ⟨meth', c', h1, h2, -, -, -, -, h7, -⟩ := Cond.code_spec hn hcw
    have e1 := h1.symm.trans X.method
    cases e1
    have e2 := h2.symm.trans X.code
    cases e2
    have e : c.exceptionTable = #[] := by simpa using h7
    rw [e, pm_law121.2.2.2.2.2]
    rfl
  have hnm : meth.name = (pm_y 121).name := by
    rw [pm_law121.2.2.2.1]
    exact (name_of_methodNamed hn X.method).1
  obtain ⟨ad, had, hadb, hF⟩ := pm_startF hts hX hbl hgv
  obtain ⟨D, dA, hK⟩ := pm_startK hts
  have hPX : pm_X p s m #[Value.ref b] meth c 121 s.heap.size L xs D dA ad := ⟨⟨hx, hb.trans pm_law121.1.symm, hml.trans pm_law121.2.1.symm, by rw [pm_law121.2.2.2.2.1]; exact hown, hlocks, hnm, hr.trans pm_law121.2.2.1.symm⟩, hK, hF, had, Nat.le_refl _⟩
  have hmn := pm_C_mono _ _ _ _ _ hp (Nat.zero_le _)
  have h560 : M'.1 ≤ 560 := hmn.1.2.1
  have hsl := Nat.le_trans (pm_sl_mono h560) pm_sl560
  obtain ⟨n, hp⟩ := hp
  obtain ⟨lsC, he, hJ, hLV⟩ := pm_entry (m := 121) (as := [.ref 20000]) (ad := ad) (mi := m) (by decide) (by decide +kernel)
  have hct0 : pm_ct (pm_M0 L xs) = 0 := rfl
  have hm0 : (pm_M0 L xs).1 = 0 := rfl
  have hsl0 : pm_sl (pm_M0 L xs).1 = 0 := rfl
  have hV : pm_V s s.heap.size L xs D dA ad (pm_M0 L xs) s.heap [] := by
    refine ⟨fun k q hk => ?_, va_S.rf, Nat.zero_le _, fun j hj => rfl, rfl, hL⟩
    cases hk
  have hw := pm_walk (p := p) (l := l) (e := e) (R := room_1) (below := below) (d := d) (M0 := pm_M0 L xs) (pm_sound d) hfl hPX hex ⟨by show d + 9 ≤ 2048; omega, by show _ ≤ 84000; omega, by show pm_kc _ _ ≤ 601024; unfold pm_kc; show M'.1 - 0 + (pm_ct M' - 0) ≤ _; omega, by show pm_ks _ _ ≤ 7293034; unfold pm_ks; show pm_sl M'.1 - 0 + 6 * (pm_ct M' - 0) ≤ _; omega⟩ (fun _ _ => rfl) n 0 _ [] (pm_M0 L xs) hp lsC s.heap [] 0 0 hJ hLV hV ⟨Nat.le_refl _, Nat.le_refl _, rfl, rfl⟩
  have e1 : entryFrame m ([Value.ref b] : List Value).toArray 7 = F0 m 0 lsC [] := by
    rw [← hadb, ← he, pm_law121.2.1]
    rfl
  rw [e1]
  obtain ⟨t, ht, o, Lc, h1, h2, h3, h4, h5, h6⟩ := hw T hT X
  refine ⟨t, ht, o, h1, h2, h6, h3, pm_same_drop h4 (fun q hq => h5.2.1.2.2 q hq) ?_ ?_⟩
  · unfold pm_kc; show M'.1 - 0 + (pm_ct M' - 0) ≤ _; omega
  · unfold pm_ks; show pm_sl M'.1 - 0 + 6 * (pm_ct M' - 0) ≤ _; omega
