/-! AN EXCEPTION ARRIVES: caught, or passed on -/
def pm_hr (m : Nat) : List (Nat × Nat × Nat × Nat × Nat × Nat) := pm_hdl.filter (fun h => h.1 == m)
def pm_ast (c : ByteArray) (pc nx i : Nat) : Bool := match decode c pc with
  | .ok (.astore_n k, 1) => k.val == i && nx == pc + 1
  | .ok (.astore k, 2) => k == i && nx == pc + 2
  | _ => false
def pm_relb (m : Nat) (r : Nat × Nat × Nat × Nat) (h : Nat × Nat × Nat × Nat × Nat × Nat) : Bool :=
  r.1 == h.2.1 && r.2.1 == h.2.2.1 && !(r.2.2.2 == 0) && decide ((pm_jk.lookup (pm_ow m, r.2.2.2)).map (fun q => q.1) = some h.2.2.2.1) && decide (h.2.2.2.1 < 4) && pm_ast (pm_b m) r.2.2.1 h.2.2.2.2.1 h.2.2.2.2.2 && decide (h.2.2.2.2.2 < pm_ml m) && (h.2.2.2.2.2 == 0 || !(pm_lgs 0 (pm_cat m)).contains (h.2.2.2.2.2 - 1))
def pm_relr (m : Nat) : List (Nat × Nat × Nat × Nat) → List (Nat × Nat × Nat × Nat × Nat × Nat) → Bool
  | [], [] => true
  | r :: rs, h :: hs => pm_relb m r h && pm_relr m rs hs
  | _, _ => false
theorem pm_hr_ok : ∀ m, m < 139 → pm_relr m (pm_hh m) (pm_hr m) = true := by decide +kernel
theorem pm_hd_eq {m pc k : Nat} : pm_hd m pc k = ((pm_hr m).find? (fun h => decide (h.2.1 ≤ pc) && (decide (pc < h.2.2.1) && h.2.2.2.1 == k))).map (fun h => (h.2.2.2.2.1, h.2.2.2.2.2)) := by
  unfold pm_hd pm_hr
  rw [List.find?_filter]
  congr 1
  congr 1
  funext a
  rw [Bool.eq_iff_iff]
  simp only [Bool.and_eq_true, decide_eq_true_eq]
section PMC
variable {p : Program} {l : Launch} {e : Env} {R : Room} {s : State} {mi : MethodId} {args : Array Value} {below : List Frame} {meth : Method} {c : Code} {T : State} {locs : List Loc} {cells slots : Nat} {m pc k : Nat} {cX : ClassId}
def pm_cov (pc k : Nat) (h : Nat × Nat × Nat × Nat × Nat × Nat) : Bool := decide (h.2.1 ≤ pc) && (decide (pc < h.2.2.1) && h.2.2.2.1 == k)
/-- a row that is passed -/
theorem pm_rowpass (X : Stand p l e R s mi args below meth c T locs cells slots) (hW : pm_Wd s) (hNc : ∀ j k, j < 4 → k < 4 → j ≠ k → va_Nc (pm_ex j) (pm_ex k) s) (hown : s.vm.findClass (pm_onm (pm_ow m)) = some mi.cls) (hk : k < 4) (hcX : s.vm.findClass (pm_ex k) = some cX)
    {x : ExceptionTableEntry} {h : Nat × Nat × Nat × Nat × Nat × Nat} (hr : pm_relb m (x.startPc, x.endPc, x.handlerPc, x.catchType) h = true) (hc : pm_cov pc k h = false) : RowPassed e.platform s mi.cls pc cX x := by
  unfold pm_relb at hr
  simp only [Bool.and_eq_true, decide_eq_true_eq, beq_iff_eq, Bool.not_eq_true', beq_eq_false_iff_ne] at hr
  obtain ⟨⟨⟨⟨⟨⟨⟨h1, h2⟩, h3⟩, h4⟩, h5⟩, h6⟩, h7⟩, h8⟩ := hr
  by_cases hcv : covers x pc = true
  · right
    rw [Option.map_eq_some_iff] at h4
    obtain ⟨⟨ka, jj⟩, h4, hka⟩ := h4
    have hj := pm_jk_ok _ (pm_lk h4)
    dsimp only at hj hka
    have hlink := hW args _ (pm_Ts_of _ hj rfl)
    have hpl : e.platform.magicAccessors = ({} : Platform).magicAccessors := by rw [X.admits.platform]
    obtain ⟨c', hc', hcl⟩ := Cond.classLink_spec hown hlink e.platform hpl
    refine ⟨h3, c', hcl, ?_⟩
    have hne : k ≠ ka := by
      intro hh
      subst hh
      unfold pm_cov at hc
      simp only [covers, Bool.and_eq_true, decide_eq_true_eq] at hcv
      rw [← h1, ← h2, ← hka] at hc
      simp at hc
      have := hc (by omega)
      omega
    obtain ⟨c1, c2, g1, g2, g3⟩ := hNc k ka hk (by omega) hne
    cases g1.symm.trans hcX
    cases g2.symm.trans hc'
    exact g3
  · exact Or.inl (by simpa using hcv)
theorem pm_hunt (X : Stand p l e R s mi args below meth c T locs cells slots) (hW : pm_Wd s) (hNc : ∀ j k, j < 4 → k < 4 → j ≠ k → va_Nc (pm_ex j) (pm_ex k) s) (hown : s.vm.findClass (pm_onm (pm_ow m)) = some mi.cls) (hk : k < 4) (hcX : s.vm.findClass (pm_ex k) = some cX) :
    ∀ (xs : List ExceptionTableEntry) (hs : List (Nat × Nat × Nat × Nat × Nat × Nat)), pm_relr m (xs.map (fun h => (h.startPc, h.endPc, h.handlerPc, h.catchType))) hs = true →
      match hs.find? (pm_cov pc k) with
      | none => ∀ y ∈ xs, RowPassed e.platform s mi.cls pc cX y
      | some h => ∃ pre x rest, xs = pre ++ x :: rest ∧ (∀ y ∈ pre, RowPassed e.platform s mi.cls pc cX y) ∧ pm_relb m (x.startPc, x.endPc, x.handlerPc, x.catchType) h = true ∧ pm_cov pc k h = true := by
  intro xs
  induction xs with
  | nil =>
    intro hs hr
    cases hs with
    | nil => simp
    | cons => simp [pm_relr] at hr
  | cons x xs ih =>
    intro hs hr
    cases hs with
    | nil => simp [pm_relr] at hr
    | cons h hs =>
      simp only [List.map_cons, pm_relr, Bool.and_eq_true] at hr
      rw [List.find?_cons]
      cases hc : pm_cov pc k h with
      | true => exact ⟨[], x, xs, rfl, by simp, hr.1, hc⟩
      | false =>
        dsimp only
        have h1 := pm_rowpass (pc := pc) X hW hNc hown hk hcX hr.1 hc
        have h2 := ih hs hr.2
        cases hf : hs.find? (pm_cov pc k) with
        | none =>
          rw [hf] at h2
          intro y hy
          rcases List.mem_cons.mp hy with rfl | hy
          · exact h1
          · exact h2 y hy
        | some g =>
          rw [hf] at h2
          obtain ⟨pre, x', rest, q1, q2, q3⟩ := h2
          refine ⟨x :: pre, x', rest, by rw [q1]; rfl, fun y hy => ?_, q3⟩
          rcases List.mem_cons.mp hy with rfl | hy
          · exact h1
          · exact q2 y hy
end PMC
theorem pm_arrives {p : Program} {l : Launch} {e : Env} {R : Room} {s : State} {mi : MethodId} {args : Array Value} {below : List Frame} {meth : Method} {c : Code} {T : State} {locs : List Loc} {cells slots : Nat} {m z L : Nat} {xs : Nat → Int32} {D : va_G} {dA : Nat → ClassId} {ad : Nat → Nat} {pc k : Nat} {lsC : Array Slot} {st : List Value} {x : Addr} {cell : Cell} {ls : pm_Loc}
    (hm : m < 139) (hX : pm_X p s mi args meth c m z L xs D dA ad) (hex : c.exceptionTable.toList.map (fun h => (h.startPc, h.endPc, h.handlerPc, h.catchType)) = pm_hh m) (hk : k < 4)
    (X : Stand p l e R s mi args below meth c T locs cells slots) (hcell : T.heap[x]? = some cell) (hobj : cell.vm.isStatics = false) (hcX : s.vm.findClass (pm_ex k) = some cell.cls) (hJ : pm_J m ls) (hL : pm_LV ad lsC ls) :
    match pm_hd m pc k with
    | none => ∃ U, Steps p.tables e below ((T.setTop (F0 mi pc lsC st)).pushFrame (.throwing x)) U ∧ U.status = .running ∧ Ended U below (.threw x) ∧ s.WarmedH U.vm ∧ s.sameButNew ({ U with vm := s.vm } : State) locs cells slots ∧ U.heap = T.heap
    | some h => pm_J m (ls.set h.2 none) ∧ ∀ Q, (∀ lsC', pm_LV ad lsC' (ls.set h.2 none) → W p l e R s mi args below meth c T.heap locs cells slots Q (F0 mi h.1 lsC' [])) → ∃ t, Steps p.tables e below ((T.setTop (F0 mi pc lsC st)).pushFrame (.throwing x)) t ∧ Q t := by
  obtain ⟨⟨hx, hb, hml, hown, hlocks, hnm, hret⟩, hK, hF, had, hz⟩ := hX
  have hrl := pm_hr_ok m hm
  rw [← hex] at hrl
  have hh := pm_hunt (pc := pc) X hF.1 hF.2.2.2.2.2.2.2.1 hown hk hcX _ _ hrl
  have hcc : s.WarmedH s.vm := State.WarmedH.refl s
  have hk0 : ∃ kk, s.vm.classes[cell.cls]? = some kk := by
    obtain ⟨c1, kX, g1, g2, -⟩ := Cond.instantiable_spec (hF.1 args _ (pm_Ts_of _ (pm_eil_ok _ hk).1 rfl))
    cases g1.symm.trans hcX
    exact ⟨kX, g2⟩
  rw [pm_hd_eq]
  have hfe : (fun h : Nat × Nat × Nat × Nat × Nat × Nat => decide (h.2.1 ≤ pc) && (decide (pc < h.2.2.1) && h.2.2.2.1 == k)) = pm_cov pc k := rfl
  rw [hfe]
  cases hf : (pm_hr m).find? (pm_cov pc k) with
  | none =>
    rw [hf] at hh
    show ∃ U, _
    obtain ⟨vm', hW', X', hst⟩ := X.outThrough hlocks x (g := F0 mi pc lsC st) rfl rfl rfl hcell hobj hk0 hh
    refine ⟨(T.setVm vm').setFrames (.throwing x :: below), ?_, X'.here.running, ?_, (X'.ends _).1, (X'.ends _).2, rfl⟩
    · rw [X.pushThrowing_eq]
      exact hst
    · obtain ⟨g₀, hfr⟩ := X'.frames_eq
      exact State.frames_setFrames _ (State.cur_lt_of_frames hfr)
  | some h =>
    rw [hf] at hh
    obtain ⟨pre, y, rest, hsplit, hpass, hrb, hcv⟩ := hh
    show pm_J m (ls.set h.2.2.2.2.2 none) ∧ _
    have hJ' : pm_J m (ls.set h.2.2.2.2.2 none) := hJ.set (fun w hw => by cases hw)
    refine ⟨hJ', fun Q kk => ?_⟩
    unfold pm_relb at hrb
    simp only [Bool.and_eq_true, decide_eq_true_eq, beq_iff_eq, Bool.not_eq_true', beq_eq_false_iff_ne] at hrb
    obtain ⟨⟨⟨⟨⟨⟨⟨h1, h2⟩, h3⟩, h4⟩, h5⟩, h6⟩, h7⟩, h8⟩ := hrb
    unfold pm_cov at hcv
    simp only [Bool.and_eq_true, decide_eq_true_eq, beq_iff_eq] at hcv
    rw [Option.map_eq_some_iff] at h4
    obtain ⟨⟨ka, jj⟩, h4, hka⟩ := h4
    have hj := pm_jk_ok _ (pm_lk h4)
    dsimp only at hj hka
    rw [hka, hcv.2.2] at hj
    have hlink := hF.1 args _ (pm_Ts_of _ hj rfl)
    have hcast : s.vm.assignable cell.cls cell.cls = true := by
      have hw : (Cond.castable (pm_ex k) (pm_ex k)).before args s = true := hF.1 args _ (List.mem_filter.mpr ⟨pm_oat_in hk _ (by simp [pm_oat]), rfl⟩)
      obtain ⟨c1, c2, g1, g2, g3⟩ := Cond.castable_spec hw
      cases g1.symm.trans hcX
      cases g2.symm.trans hcX
      exact g3
    have hend := (X.catches_of_link hown h3 hlink hcX hcast).1
    have hcvx : covers y pc = true := by
      simp only [covers, Bool.and_eq_true, decide_eq_true_eq]
      omega
    obtain ⟨vm', X', hst⟩ := X.caughtThrough x (g := F0 mi pc lsC st) rfl hcell hobj hk0 pre y rest hsplit hpass hcvx hend
    have hs : ∀ j, j + 1 = h.2.2.2.2.2 → j ∉ pm_lgs 0 (pm_cat m) := by
      intro j hj9 hmem
      rcases Bool.or_eq_true _ _ ▸ h8 with h8 | h8
      · have := eq_of_beq h8
        omega
      · have e9 : h.2.2.2.2.2 - 1 = j := by omega
        rw [e9] at h8
        simp [hmem] at h8
    have key : W p l e R s mi args below meth c T.heap locs cells slots Q (F0 mi y.handlerPc lsC [.ref x]) := by
      unfold pm_ast at h6
      split at h6
      · rename_i kf hd
        simp only [Bool.and_eq_true, beq_iff_eq] at h6
        obtain ⟨g1, g2⟩ := h6
        refine lv_astore_n hx hb hd g1 hL.has (by rw [hJ.1]; exact h7) rfl (fun lsC' h' => ?_)
        rw [← g2]
        exact kk lsC' (pm_LV.set hJ hs (fun w hw => by cases hw) h')
      · rename_i kf hd
        simp only [Bool.and_eq_true, beq_iff_eq] at h6
        obtain ⟨g1, g2⟩ := h6
        subst g1
        refine lv_astore hx hb hd hL.has (by rw [hJ.1]; exact h7) rfl (fun lsC' h' => ?_)
        rw [← g2]
        exact kk lsC' (pm_LV.set hJ hs (fun w hw => by cases hw) h')
      · cases h6
    obtain ⟨t, ht, hQ⟩ := key (T.setVm vm') rfl X'
    refine ⟨t, ?_, hQ⟩
    rw [X.pushThrowing_eq]
    exact hst t ht
