/-! THE INVOKING INSTRUCTIONS, up to the callee's entry -/
theorem pm_sh_cl : ∀ x, x < 560 → (pm_sh x).1 = 0 → (pm_sh x).2 < 7 := by decide +kernel
theorem pm_ini_hh : ∀ k, k < 139 → (pm_y k).name = "<init>" → pm_hh k = [] ∧ pm_rt k = none := by decide +kernel
theorem pm_wsel_g (k : Nat) : pm_gw (.selects (pm_y k).cls (pm_y k) (pm_y k)) = true := rfl
theorem pm_wini_g (k : Nat) : pm_gw (.initialized (pm_y k).cls) = true := rfl
theorem pm_sel0 : ∀ k, k < 139 → k ≠ 121 → pm_stc k = false → (pm_y k).name ≠ "<init>" → ((pm_wat k).2.2.1 ≠ 0 ∨ k = 93) := by decide +kernel
theorem pm_len {k : Nat} {as : List Value} {sig : MethodDescriptor} (hk : k < 139) (hsg : pm_sg k as = true) (hs : parseMethodDescriptor (pm_y k).desc = some sig) : as.length = sig.parameters.length + (if pm_stc k = true then 0 else 1) := by
  have h1 := pm_y_ds k hk
  rw [hs] at h1
  have h1 := Option.some.inj h1
  unfold pm_sg at hsg
  have h2 := congrArg List.length (eq_of_beq hsg)
  rw [List.length_map] at h2
  rw [h2]
  exact h1.symm
theorem pm_prefix {p : Program} {l : Launch} {e : Env} {R : Room} {s : State} {mi : MethodId} {args : Array Value} {below : List Frame} {meth : Method} {c : Code} {T : State} {locs : List Loc} {cells slots : Nat} {m z L pc len a b : Nat} {n : Int32} {i : Instr} {xs : Nat → Int32} {D : va_G} {dA : Nat → ClassId} {ad : Nat → Nat} {as rest : List Value} {M : pm_Mem} {lsC : Array Slot}
    (hX : pm_X p s mi args meth c m z L xs D dA ad) (hd : decode (pm_b m) pc = .ok (i, len)) (hk : pm_dk (pm_ow m) 60 len a b n pc i = true) (hsg : pm_sg a as = true) (hrc : pm_rc a as M) (X : Stand p l e R s mi args below meth c T locs cells slots) (hV : pm_V s z L xs D dA ad M T.heap locs) :
    (len = 3 ∧ a < 139 ∧ a ≠ 121) ∧ ∃ (vm₁ : Vm) (mk : MethodId), s.methodNamed? (pm_y a) = some mk ∧ Stand p l e R s mi args below meth c (T.setVm vm₁) locs cells slots ∧
      ∀ target, (∀ acts, Steps p.tables e below (doInvoke e ((T.setVm vm₁).setTop (F0 mi pc lsC (rest.map (pm_cz ad)))) acts mk (as.map (pm_cz ad)).toArray).1 target) → Steps p.tables e below (T.setTop (F0 mi pc lsC ((as.reverse ++ rest).map (pm_cz ad)))) target := by
  obtain ⟨⟨hx, hb, hml, hown, hlocks, hnm, hret⟩, hK, hF, had, hz⟩ := hX
  have hWd := hF.1
  simp only [pm_dk] at hk
  split at hk
  · -- invokevirtual
    rename_i j
    simp only [Bool.and_eq_true, decide_eq_true_eq, beq_iff_eq, Bool.not_eq_true'] at hk
    obtain ⟨⟨⟨⟨⟨⟨h1, h2⟩, h3⟩, h4⟩, rfl⟩, ha⟩, h121⟩ := hk
    refine ⟨⟨rfl, ha, h121⟩, ?_⟩
    obtain ⟨⟨a1, ne, w⟩, hl, he⟩ := Option.map_eq_some_iff.mp h1
    obtain rfl : a = a1 := he.symm
    have hw := pm_mk_ok _ (pm_lk hl)
    obtain ⟨mk', methk, ck, hn', hmk', hck', -, -, -, -, -, hsig⟩ := pm_fct hWd ha h121
    have hlen := pm_len ha hsg hsig
    rw [h2] at hlen
    have hlen : as.length = methk.sig.parameters.length + 1 := hlen
    unfold pm_rc at hrc
    rw [if_neg (by rw [h2]; decide)] at hrc
    cases as with
    | nil => exact hrc.elim
    | cons v0 as' =>
      cases v0 with
      | ref x =>
        have hrc : if pm_ow a = 8 then pm_str x else pm_obj M x (pm_ow a) := hrc
        have hlen' : (as'.map (pm_cz ad)).length = methk.sig.parameters.length := by
          rw [List.length_map]
          simp only [List.length_cons] at hlen
          omega
        obtain ⟨cellB, hcell, hobj, hcls⟩ : ∃ cellB : Cell, T.heap[ad x]? = some cellB ∧ cellB.vm.isStatics = false ∧ s.vm.findClass (pm_y a).cls = some cellB.cls := by
          by_cases h8 : pm_ow a = 8
          · rw [if_pos h8] at hrc
            obtain ⟨cell, g1, g2, g3, -⟩ := (hF.S hrc).2.1.kept hV.2.1.2.1
            refine ⟨cell, g1, g2, ?_⟩
            show s.vm.findClass (pm_onm (pm_ow a)) = _
            rw [h8]
            exact g3
          · rw [if_neg h8] at hrc
            have hc7 : pm_ow a < 7 := by
              have := pm_sh_cl x (pm_n_lt hrc.1 hV.2.2.1) (by rw [hrc.2])
              rw [hrc.2] at this
              exact this
            have hat := pm_ws_at (dA := dA) (ad := ad) hrc.1
            rw [pm_cell_o hrc.2] at hat
            obtain ⟨cell, g1, g2, g3⟩ := va_recv hK hV.1 (pm_vw_at hc7) hat
            refine ⟨cell, g1, g2, ?_⟩
            show s.vm.findClass (pm_onm (pm_ow a)) = _
            rw [← pm_cnm_onm _ hc7]
            exact g3
        have hinst : (Cond.instanceMethod (pm_y a)).before args s = true := by
          have h9 := hWd args _ (pm_wT _ (pm_w_st a ha h121) (pm_wst_g a))
          unfold pm_wst at h9
          rw [if_neg (by rw [h2]; decide)] at h9
          exact h9
        have hsel := hWd args _ (pm_wT _ (pm_w_sel a ha h121 (pm_sel0 a ha h121 h2 h4)) (pm_wsel_g a))
        have hy := pm_y_mh a ha
        obtain ⟨mk, methM, hnamed, hmethM, hstM, habM⟩ := Cond.instanceMethod_spec hinst
        cases hnamed.symm.trans hn'
        cases hmethM.symm.trans hmk'
        obtain ⟨c2, r2, m2, q1, q2, q3, q4, kP, hkP, hkPi⟩ := Cond.selects_spec hsel
        cases hcls.symm.trans q1
        cases (State.methodFound?_of_named hnamed hy).symm.trans q2
        cases hnamed.symm.trans q3
        have hselP : selectMethod e.platform s.vm cellB.cls mk' = .method mk' := by rw [Launch.admits_selectMethod X.admits]; exact q4
        have hstk : ((Value.ref x :: as').reverse ++ rest).map (pm_cz ad) = (as'.map (pm_cz ad)).reverse ++ .ref (ad x) :: rest.map (pm_cz ad) := by
          simp [pm_cz]
        by_cases hne : ne = 1
        · rw [if_pos hne] at hw
          obtain ⟨vm₁, X₁, hstep₁⟩ := X.invokevirtualNest hx hown (hWd _ _ (pm_Ts_of _ hw rfl)) hnamed hmethM hstM hkP hkPi hy (a := ad x) (cell := cellB) hcell (fun z h => by rw [h] at hobj; cases hobj) hselP hmethM habM hkP hkPi (g := F0 mi pc lsC (((Value.ref x :: as').reverse ++ rest).map (pm_cz ad))) rfl (argsL := as'.map (pm_cz ad)) (rest := rest.map (pm_cz ad)) hlen' hstk (by rw [hb]; exact hd)
          exact ⟨vm₁, mk', hnamed, X₁, hstep₁⟩
        · rw [if_neg hne] at hw
          obtain ⟨vm₁, X₁, hstep₁⟩ := X.invokevirtual hx hown (hWd _ _ (pm_Ts_of _ hw rfl)) hnamed hmethM hstM hkP hkPi hy (a := ad x) (cell := cellB) hcell (fun z h => by rw [h] at hobj; cases hobj) hselP hmethM habM hkP hkPi (g := F0 mi pc lsC (((Value.ref x :: as').reverse ++ rest).map (pm_cz ad))) rfl (argsL := as'.map (pm_cz ad)) (rest := rest.map (pm_cz ad)) hlen' hstk (by rw [hb]; exact hd)
          exact ⟨vm₁, mk', hnamed, X₁, hstep₁⟩
      | _ => exact hrc.elim
  · -- invokestatic
    rename_i j
    simp only [Bool.and_eq_true, decide_eq_true_eq, beq_iff_eq] at hk
    obtain ⟨⟨⟨⟨⟨h1, h2⟩, h3⟩, rfl⟩, ha⟩, h121⟩ := hk
    refine ⟨⟨rfl, ha, h121⟩, ?_⟩
    obtain ⟨⟨a1, ne, w⟩, hl, he⟩ := Option.map_eq_some_iff.mp h1
    obtain rfl : a = a1 := he.symm
    have hw := pm_mk_ok _ (pm_lk hl)
    obtain ⟨mk, methM, ck, hnamed, hmethM, hck', -, -, -, -, -, hsig⟩ := pm_fct hWd ha h121
    have hlen := pm_len ha hsg hsig
    rw [if_pos h2] at hlen
    have hstat : (Cond.static (pm_y a)).before args s = true := by
      have h9 := hWd args _ (pm_wT _ (pm_w_st a ha h121) (pm_wst_g a))
      unfold pm_wst at h9
      rw [if_pos h2] at h9
      exact h9
    have hinit := hWd args _ (pm_wT _ (pm_w_ini a ha h121) (pm_wini_g a))
    have hy := pm_y_mh a ha
    have hstatic : methM.isStatic = true := Cond.static_spec hnamed hmethM hstat
    obtain ⟨kP, hkP, -⟩ := className_of_methodNamed hnamed
    have hinitP : kP.init = .initialized := Cond.initialized_spec (findClass_of_methodNamed hnamed) hkP hinit
    have hstk : (as.reverse ++ rest).map (pm_cz ad) = (as.map (pm_cz ad)).reverse ++ rest.map (pm_cz ad) := by
      simp
    by_cases hne : ne = 1
    · rw [if_pos hne] at hw
      obtain ⟨vm₁, X₁, hstep₁⟩ := X.invokestaticNest hx hown (hWd _ _ (pm_Ts_of _ hw rfl)) hnamed hmethM hstatic hkP hinitP hy (g := F0 mi pc lsC ((as.reverse ++ rest).map (pm_cz ad))) rfl (argsL := as.map (pm_cz ad)) (rest := rest.map (pm_cz ad)) (by rw [List.length_map]; exact hlen) hstk (by rw [hb]; exact hd)
      exact ⟨vm₁, mk, hnamed, X₁, hstep₁⟩
    · rw [if_neg hne] at hw
      obtain ⟨vm₁, X₁, hstep₁⟩ := X.invokestatic hx hown (hWd _ _ (pm_Ts_of _ hw rfl)) hnamed hmethM hstatic hkP hinitP hy (g := F0 mi pc lsC ((as.reverse ++ rest).map (pm_cz ad))) rfl (argsL := as.map (pm_cz ad)) (rest := rest.map (pm_cz ad)) (by rw [List.length_map]; exact hlen) hstk (by rw [hb]; exact hd)
      exact ⟨vm₁, mk, hnamed, X₁, hstep₁⟩
  · -- invokespecial
    rename_i j
    simp only [Bool.and_eq_true, decide_eq_true_eq, beq_iff_eq, Bool.not_eq_true'] at hk
    obtain ⟨⟨⟨⟨⟨⟨h1, h2⟩, h3⟩, h4⟩, rfl⟩, ha⟩, h121⟩ := hk
    refine ⟨⟨rfl, ha, h121⟩, ?_⟩
    obtain ⟨⟨a1, ne, w⟩, hl, he⟩ := Option.map_eq_some_iff.mp h1
    obtain rfl : a = a1 := he.symm
    have hw := pm_mk_ok _ (pm_lk hl)
    unfold pm_rc at hrc
    rw [if_neg (by rw [h2]; decide)] at hrc
    cases as with
    | nil => exact hrc.elim
    | cons v0 as' =>
      cases v0 with
      | ref x =>
        have hinst : (Cond.instanceMethod (pm_y a)).before args s = true := by
          have h9 := hWd args _ (pm_wT _ (pm_w_st a ha h121) (pm_wst_g a))
          unfold pm_wst at h9
          rw [if_neg (by rw [h2]; decide)] at h9
          exact h9
        have hhh : pm_hh a = [] ∧ pm_rt a = none := pm_ini_hh a ha h4
        have hcode : (Cond.code (pm_y a) (pm_b a) (pm_ml a) none).before args s = true := by
          have h9 := hWd args _ (pm_wT _ (pm_wca a ha h121) (pm_wcode_g a))
          unfold pm_wcode at h9
          rw [if_pos hhh.1, hhh.2] at h9
          exact h9
        have hy := pm_y_mh a ha
        have hpl : e.platform.magicAccessors = ({} : Platform).magicAccessors := by rw [X.admits.platform]
        have hlen : ∀ sig, parseMethodDescriptor (pm_y a).desc = some sig → (as'.map (pm_cz ad)).length = sig.parameters.length := fun sig hs => by
          have := pm_len ha hsg hs
          rw [h2] at this
          have this : (Value.ref x :: as').length = sig.parameters.length + 1 := this
          rw [List.length_map]
          simp only [List.length_cons] at this
          omega
        have hstk : ((Value.ref x :: as').reverse ++ rest).map (pm_cz ad) = (as'.map (pm_cz ad)).reverse ++ .ref (ad x) :: rest.map (pm_cz ad) := by
          simp [pm_cz]
        by_cases hne : ne = 1
        · rw [if_pos hne] at hw
          obtain ⟨mk, methM, cM, kP, vm₁, hnamed, hmethM, hcodeM, -, hlocalsM, -, hkP, -, hW₁, hstep₁⟩ := Steps.initColdArgsNest (e := e) X.here hx X.warmed hpl hown h4 hy (hWd args _ (pm_Ts_of _ hw rfl)) hinst hcode (f := F0 mi pc lsC (((Value.ref x :: as').reverse ++ rest).map (pm_cz ad))) rfl hlen hstk (by rw [hb]; exact hd)
          exact ⟨vm₁, mk, hnamed, X.noted hW₁, hstep₁⟩
        · rw [if_neg hne] at hw
          obtain ⟨mk, methM, cM, kP, vm₁, hnamed, hmethM, hcodeM, -, hlocalsM, -, hkP, -, hW₁, hstep₁⟩ := Steps.initColdArgs (e := e) X.here hx X.warmed hpl hown h4 hy (hWd args _ (pm_Ts_of _ hw rfl)) hinst hcode (f := F0 mi pc lsC (((Value.ref x :: as').reverse ++ rest).map (pm_cz ad))) rfl hlen hstk (by rw [hb]; exact hd)
          exact ⟨vm₁, mk, hnamed, X.noted hW₁, hstep₁⟩
      | _ => exact hrc.elim
  · cases hk
