/-! WHAT HOLDS AT THE LAW'S START -/
def pm_nw : List Cond := flatC (Jvm.Cond.and given_1 narrow_1)
theorem pm_Wd_of {args : Array Value} {s : State} (h : ∀ w ∈ lw_tbl, w.before args s = true) : pm_Wd s := by
  intro a w hw
  have hb := h w (List.mem_filter.mp hw).1
  have hg := (List.mem_filter.mp hw).2
  have hW := State.WarmedH.refl s
  unfold pm_gw at hg
  rw [Bool.or_eq_true] at hg
  rcases hg with hg | hg
  · exact word_at hW (good_of_word hg) hb
  · split at hg
    · exact va_Nw.use rfl (va_Nw.warmF hW (va_Nw.of rfl hb))
    · exact va_Nw.use rfl (va_Nw.warmM hW (va_Nw.of rfl hb))
    · rw [Bool.and_eq_true] at hg
      exact va_tabs hg.1 (rfl : (s.setVm s.vm).vm = s.vm) (Cond.before_shiftedFace (State.Shifted.of_warmed hW) w hg.2 hb)
def pm_sen (x : Nat) : Nat := if x = 10000 then 93 else if x = 10010 then 121 else 107
def pm_stm (x : Nat) : Term := .string "CardWorkshop$Reader" (pm_sen x)
def pm_vtm (x : Nat) : Term := .field (pm_stm x) "java/lang/String" "value" "[B"
def pm_sts : List Nat := [10000, 10010, 10020]
theorem pm_sts_w : ∀ x ∈ pm_sts, (Cond.stringRef "CardWorkshop$Reader" (pm_sen x) (pm_txt x)) ∈ lw_tbl := by decide +kernel
theorem pm_sts_1 : ∀ x ∈ pm_sts, (Cond.exactly (pm_stm x) "java/lang/String") ∈ pm_nw := by decide +kernel
theorem pm_sts_2 : ∀ x ∈ pm_sts, (Cond.eq (.field (pm_stm x) "java/lang/String" "coder" "B") (.int 0)) ∈ pm_nw := by decide +kernel
theorem pm_sts_3 : ∀ x ∈ pm_sts, (Cond.arrayOf (pm_vtm x) .byte) ∈ pm_nw := by decide +kernel
theorem pm_sts_4 : ∀ x ∈ pm_sts, (Cond.eq (.length (pm_vtm x)) (.int (Int32.ofNat (pm_tabn (x + 1))))) ∈ pm_nw := by decide +kernel
theorem pm_sts_5 : ∀ x ∈ pm_sts, ∀ j, j < pm_tabn (x + 1) → (Cond.eq (.elem (pm_vtm x) (.int (Int32.ofNat j))) (.int (pm_tab (x + 1) j))) ∈ pm_nw := by decide +kernel
theorem pm_sts_6 : ∀ x ∈ pm_sts, pm_tabn (x + 1) < 2 ^ 31 := by decide +kernel
theorem pm_sts_7 : ∀ x ∈ pm_sts, ∀ q ∈ pm_sk, q.2.1 = x → q.1 = (2, pm_sen x) := by decide +kernel
theorem pm_FSof {args : Array Value} {s : State} {x : Nat} (hx : x ∈ pm_sts) (hts : ∀ w ∈ lw_tbl, w.before args s = true) (hnw : ∀ w ∈ pm_nw, w.before args s = true) : ∃ a t : Nat, ∀ ad : Nat → Nat, ad x = a → ad (x + 1) = t → pm_FS s.heap.size ad x s := by
  have hA : ∀ a : Nat, a < s.heap.size → ¬ s.heap.size ≤ a := fun a h => by omega
  obtain ⟨a, c, cA, kA, q1, q2, q3, q4, q5, q6, -⟩ := Cond.exactly_spec (args := args) (first := s) (o := none) (s := s) (idx := []) (hnw _ (pm_sts_1 x hx))
  obtain ⟨t, ht, hT⟩ := va_Tof (f := fun j => .int (pm_tab (x + 1) j)) (A := fun q => s.heap.size ≤ q) (pm_sts_6 x hx) (hnw _ (pm_sts_3 x hx)) (va_eqt (hnw _ (pm_sts_4 x hx))) (fun j hj => va_eqt (hnw _ (pm_sts_5 x hx j hj))) hA
  refine ⟨a, t, fun ad h1 h2 => ?_⟩
  unfold pm_FS
  rw [h1, h2]
  refine ⟨fun q hq hqx => ?_, ⟨cA, q3, q5, by rw [q6]; exact q2, hA a (Array.getElem?_eq_some_iff.mp q3).1⟩, vk_OFof q1 ht hA, vk_OFof q1 (va_eqt (hnw _ (pm_sts_2 x hx))) hA, hT⟩
  have e := pm_sts_7 x hx q hq hqx
  rw [e]
  exact vk_R.of (hts _ (pm_sts_w x hx)) q1
def pm_sar (x : Nat) : String := if x = 10030 then "OPERATOR_LEVELS" else "OPERATOR_CODES"
def pm_atm (x : Nat) : Term := .static "CardWorkshop$Reader" (pm_sar x) "[I"
def pm_sas : List Nat := [10030, 10040]
theorem pm_sas_w : ∀ x ∈ pm_sas, (Cond.laysStatic "CardWorkshop$Reader" (pm_sar x) "[I") ∈ lw_tbl ∧ (Cond.initialized "CardWorkshop$Reader") ∈ lw_tbl := by decide +kernel
theorem pm_sas_3 : ∀ x ∈ pm_sas, (Cond.arrayOf (pm_atm x) .int) ∈ pm_nw := by decide +kernel
theorem pm_sas_4 : ∀ x ∈ pm_sas, (Cond.eq (.length (pm_atm x)) (.int (Int32.ofNat (pm_tabn x)))) ∈ pm_nw := by decide +kernel
theorem pm_sas_5 : ∀ x ∈ pm_sas, ∀ j, j < pm_tabn x → (Cond.eq (.elem (pm_atm x) (.int (Int32.ofNat j))) (.int (pm_tab x j))) ∈ pm_nw := by decide +kernel
theorem pm_sas_6 : ∀ x ∈ pm_sas, pm_tabn x < 2 ^ 31 := by decide +kernel
theorem pm_FTof {args : Array Value} {s : State} {x : Nat} (hx : x ∈ pm_sas) (hts : ∀ w ∈ lw_tbl, w.before args s = true) (hnw : ∀ w ∈ pm_nw, w.before args s = true) : ∃ t : Nat, ∀ ad : Nat → Nat, ad x = t → pm_FT s.heap.size ad x (pm_sar x) s := by
  have hA : ∀ a : Nat, a < s.heap.size → ¬ s.heap.size ≤ a := fun a h => by omega
  obtain ⟨t, ht, hT⟩ := va_Tof (f := fun j => .int (pm_tab x j)) (A := fun q => s.heap.size ≤ q) (pm_sas_6 x hx) (hnw _ (pm_sas_3 x hx)) (va_eqt (hnw _ (pm_sas_4 x hx))) (fun j hj => va_eqt (hnw _ (pm_sas_5 x hx j hj))) hA
  refine ⟨t, fun ad h1 => ?_⟩
  unfold pm_FT
  rw [h1]
  exact ⟨va_Zref (hts _ (pm_sas_w x hx).1) (hts _ (pm_sas_w x hx).2) ht hA, hT⟩
theorem pm_LSof {args : Array Value} {s : State} {n d : String} (hl : (Cond.laysStatic "java/lang/Throwable" n d).before args s = true) (hr : (Cond.isRef (.static "java/lang/Throwable" n d)).before args s = true) : pm_LS s.heap.size n d s := by
  obtain ⟨c, k, i, f, a, cell, h1, h2, h3, h4, h5, h6, h7, h8, h9⟩ := Cond.laysStatic_spec hl
  obtain ⟨v, hv, hvr⟩ := Cond.isRef_spec hr
  have h10 : cell.slots[f.slot]? = some cell.slots[f.slot] := Array.getElem?_eq_getElem h8
  have hv2 : (Term.static "java/lang/Throwable" n d).eval args s none [] s = some cell.slots[f.slot] := Term.static_eval h2 h3 h4 h5 h6 h10
  cases hv.symm.trans hv2
  refine ⟨c, k, i, f, a, cell, _, h1, h2, h3, h4, h5, h6, h7, h8, h9, h10, ?_, (Array.getElem?_eq_some_iff.mp h5).1⟩
  cases hc : cell.slots[f.slot] <;> rw [hc] at hvr <;> first | exact Or.inl rfl | exact Or.inr ⟨_, rfl⟩ | cases hvr
def pm_mtx : List ((Nat × Nat) × String) := [((2, 127), "a character is missing"), ((2, 125), "a digit is missing or too great"), ((2, 123), "no zone where one is due"), ((2, 119), "no unit where one is due"), ((2, 71), "there is more behind the game"), ((5, 82), "the code would be too long"), ((5, 96), "no such instruction"), ((5, 107), "there is no game"), ((5, 112), "n is below 0"), ((5, 150), "no such move"), ((5, 152), "too many moves were made"), ((5, 171), "no such counter"), ((5, 185), "nothing was dealt"), ((5, 187), "the budget is not 1 .. 2000"), ((3, 50), "too many positions, or one too deep")]
def pm_mt (q : Nat × Nat) : String := (pm_mtx.lookup q).getD ""
theorem pm_msg_w : ∀ q ∈ pm_msg, (Cond.stringRef (pm_onm q.1) q.2 (pm_mt q)) ∈ lw_tbl ∧ (Cond.exactly (.string (pm_onm q.1) q.2) "java/lang/String") ∈ pm_nw := by decide +kernel
theorem pm_nc_w : ∀ j, j < 4 → ∀ k, k < 4 → j ≠ k → (Cond.not (.castable (pm_ex j) (pm_ex k))) ∈ pm_nw := by decide +kernel
theorem pm_oth_w : (Cond.laysStatic "java/lang/String" "COMPACT_STRINGS" "Z") ∈ lw_tbl ∧ (Cond.initialized "java/lang/String") ∈ lw_tbl ∧ (Cond.eq (.static "java/lang/String" "COMPACT_STRINGS" "Z") (.int 1)) ∈ pm_nw ∧ (Cond.arrayOver (.object "CardWorkshop$Table")) ∈ lw_tbl ∧ (Cond.arrayOver (.array .int)) ∈ lw_tbl ∧
  (Cond.laysStatic "java/lang/Throwable" "UNASSIGNED_STACK" "[Ljava/lang/StackTraceElement;") ∈ lw_tbl ∧ (Cond.laysStatic "java/lang/Throwable" "SUPPRESSED_SENTINEL" "Ljava/util/List;") ∈ lw_tbl ∧ (Cond.isRef (.static "java/lang/Throwable" "UNASSIGNED_STACK" "[Ljava/lang/StackTraceElement;")) ∈ pm_nw ∧ (Cond.isRef (.static "java/lang/Throwable" "SUPPRESSED_SENTINEL" "Ljava/util/List;")) ∈ pm_nw := by decide +kernel
theorem pm_ac_w : (Cond.arrayClass .int) ∈ lw_tbl ∧ (Cond.arrayClass .char) ∈ lw_tbl ∧ (Cond.arrayClass .boolean) ∈ lw_tbl ∧ (Cond.arrayClass .long) ∈ lw_tbl := by decide +kernel
theorem pm_startF {s : State} {b L : Nat} {xs : Nat → Int32} (hts : ∀ w ∈ lw_tbl, w.before #[Value.ref b] s = true) (hX : va_X b L xs s s.heap) (hb : b < s.heap.size) (hgv : (Jvm.Cond.and given_1 narrow_1).before #[Value.ref b] s = true) :
    ∃ ad : Nat → Nat, pm_ad s.heap.size ad ∧ ad 20000 = b ∧ pm_F s.heap.size ad L xs s := by
  have hnw : ∀ w ∈ pm_nw, w.before #[Value.ref b] s = true := flat_of_before _ hgv
  have hA : ∀ a : Nat, a < s.heap.size → ¬ s.heap.size ≤ a := fun a h => by omega
  obtain ⟨a0, t0, h0⟩ := pm_FSof (x := 10000) (by decide) hts hnw
  obtain ⟨a1, t1, h1⟩ := pm_FSof (x := 10010) (by decide) hts hnw
  obtain ⟨a2, t2, h2⟩ := pm_FSof (x := 10020) (by decide) hts hnw
  obtain ⟨t3, h3⟩ := pm_FTof (x := 10030) (by decide) hts hnw
  obtain ⟨t4, h4⟩ := pm_FTof (x := 10040) (by decide) hts hnw
  refine ⟨fun x => if x < 560 then s.heap.size + x else if x = 10000 then a0 else if x = 10001 then t0 else if x = 10010 then a1 else if x = 10011 then t1 else if x = 10020 then a2 else if x = 10021 then t2 else if x = 10030 then t3 else if x = 10040 then t4 else b, fun a ha => if_pos ha, rfl, ?_⟩
  obtain ⟨w1, w2, w3, w4, w5, w6, w7, w8, w9⟩ := pm_oth_w
  refine ⟨pm_Wd_of hts, ⟨h0 _ rfl rfl, h1 _ rfl rfl, h2 _ rfl rfl⟩, ⟨h3 _ rfl, h4 _ rfl⟩, va_Zof (hts _ w1) (hts _ w2) (va_eqt (hnw _ w3)) hA, ⟨hX, hb⟩, ⟨va_AO.of (hts _ w4), hts _ w5⟩, ⟨pm_LSof (hts _ w6) (hnw _ w8), pm_LSof (hts _ w7) (hnw _ w9)⟩, fun j k hj hk hjk => va_Nc.of (hnw _ (pm_nc_w j hj k hk hjk)), fun q hq => ?_⟩
  obtain ⟨g1, g2⟩ := pm_msg_w q hq
  obtain ⟨a, c, cA, kA, q1, -⟩ := Cond.exactly_spec (args := #[Value.ref b]) (first := s) (o := none) (s := s) (idx := []) (hnw _ g2)
  exact ⟨_, a, vk_R.of (hts _ g1) q1⟩
theorem pm_startK {args : Array Value} {s : State} (hts : ∀ w ∈ lw_tbl, w.before args s = true) : ∃ (D : va_G) (dA : Nat → ClassId), va_K D pm_vw (pm_tys dA) s := by
  have hk : ∀ c : Nat, ∃ q : ClassId × (Nat → Nat), c < 7 → u_Kn s (pm_cnm c) (pm_T c) (pm_nf c) q.1 q.2 := by
    intro c
    by_cases hc : c < 7
    · obtain ⟨cC, iS, h⟩ := u_known (n := pm_nf c) hts (pm_in0 hc) (hts _ (lw_of _ (pm_inl_ok c hc).1))
      exact ⟨(cC, iS), fun _ => h⟩
    · exact ⟨(0, fun _ => 0), fun h => absurd h hc⟩
  obtain ⟨g, hg⟩ := Classical.axiomOfChoice hk
  have hprim : ∀ ty : FieldType, (Cond.arrayClass ty) ∈ lw_tbl → ∃ cA, ArrOfT s cA ty ∧ s.vm.findClass ("[" ++ ty.toString) = some cA := by
    intro ty hty
    obtain ⟨cA, kA, comp, h1, h2, h3⟩ := Cond.arrayClass_spec (hts _ hty)
    exact ⟨cA, fun n z => ⟨fun k h => (by cases h), kA, h2, comp, h3⟩, h1⟩
  obtain ⟨c0, i0, j0⟩ := hprim _ pm_ac_w.1
  obtain ⟨c1, i1, j1⟩ := hprim _ pm_ac_w.2.1
  obtain ⟨c2, i2, j2⟩ := hprim _ pm_ac_w.2.2.1
  obtain ⟨c3, i3, j3⟩ := hprim _ pm_ac_w.2.2.2
  obtain ⟨comp4, c4, k4, r1, r2, r3, r4, r5⟩ := Cond.arrayOver_spec (hts _ pm_oth_w.2.2.2.1)
  obtain ⟨comp5, c5, k5, v1, v2, v3, v4⟩ := Cond.arrayOver_specA (hts _ pm_oth_w.2.2.2.2.1)
  refine ⟨(fun c => (g c).1, fun c => (g c).2), fun k => [c0, c1, c2, c3, c4, c5].getD k 0, ⟨fun c q hq => ?_, fun k q hq => ?_⟩⟩
  · have hc : c < 7 := (List.getElem?_eq_some_iff.mp hq).1
    rw [pm_vw_at hc] at hq
    cases hq
    exact hg c hc
  · have hk6 : k < 6 := (List.getElem?_eq_some_iff.mp hq).1
    rcases (show k = 0 ∨ k = 1 ∨ k = 2 ∨ k = 3 ∨ k = 4 ∨ k = 5 by omega) with rfl | rfl | rfl | rfl | rfl | rfl
    · cases hq; exact ⟨i0, j0⟩
    · cases hq; exact ⟨i1, j1⟩
    · cases hq; exact ⟨i2, j2⟩
    · cases hq; exact ⟨i3, j3⟩
    · cases hq; exact ⟨fun n z => ⟨fun k h => (by cases h), k4, r3, comp4, r4⟩, ⟨k4, comp4, r3, r4, r1, r5⟩⟩
    · cases hq; exact ⟨fun n z => ⟨fun k h => (by cases h), k5, v2, comp5, v3⟩, v4⟩
