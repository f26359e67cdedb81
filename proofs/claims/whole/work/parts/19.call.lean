/-! WHAT A METHOD COMES TO, and a call of it -/
def pm_out (s : State) (ad : Nat → Nat) (r : pm_Res) (o : Outcome) (t : State) : Prop := match r.1 with
  | .inl v => o = .returned (v.map (pm_cz ad))
  | .inr k => ∃ (x : Addr) (cell : Cell), o = .threw x ∧ t.heap[x]? = some cell ∧ cell.vm.isStatics = false ∧ s.vm.findClass (pm_ex k) = some cell.cls
def pm_kc (M : pm_Mem) (r : pm_Res) : Nat := r.2.1 - M.1 + (pm_ct r.2 - pm_ct M)
def pm_ks (M : pm_Mem) (r : pm_Res) : Nat := pm_sl r.2.1 - pm_sl M.1 + 6 * (pm_ct r.2 - pm_ct M)
def pm_Q (below : List Frame) (s : State) (z L : Nat) (xs : Nat → Int32) (D : va_G) (dA : Nat → ClassId) (ad : Nat → Nat) (M : pm_Mem) (r : pm_Res) : State → Prop := fun t =>
  ∃ (o : Outcome) (Lc : List Loc), t.status = .running ∧ Ended t below o ∧ s.WarmedH t.vm ∧ s.sameButNew ({ t with vm := s.vm } : State) Lc (pm_kc M r) (pm_ks M r) ∧ pm_V s z L xs D dA ad r.2 t.heap Lc ∧ pm_out s ad r o t
def pm_K (d m : Nat) (as : List Value) (M : pm_Mem) (r : pm_Res) : Prop := (M.1 ≤ r.2.1 ∧ pm_ct M ≤ pm_ct r.2) ∧
  ∀ (p : Program) (l : Launch) (e : Env) (R : Room) (s : State) (mi : MethodId) (args : Array Value) (below : List Frame) (meth : Method) (c : Code) (z L : Nat) (xs : Nat → Int32) (D : va_G) (dA : Nat → ClassId) (ad : Nat → Nat),
  l.flags = flags0 → pm_X p s mi args meth c m z L xs D dA ad → c.exceptionTable.toList.map (fun h => (h.startPc, h.endPc, h.handlerPc, h.catchType)) = pm_hh m → args = (as.map (pm_cz ad)).toArray → pm_V s z L xs D dA ad M s.heap [] → (M.1 < pm_n → pm_ct M = 0 → s.heap.size = z + M.1) →
  (d + 8 ≤ R.frames ∧ 40 * d + 300 ≤ R.locals ∧ pm_kc M r ≤ R.cells ∧ pm_ks M r ≤ R.slots) →
  W p l e R s mi args below meth c s.heap [] 0 0 (pm_Q below s z L xs D dA ad M r) (entryFrame mi args (pm_ml m))
theorem pm_ml_le : ∀ k, k < 139 → pm_ml k ≤ 11 := by decide +kernel
theorem pm_y_all : ∀ k, k < 139 → plainFor (pm_y k) = true := by
  intro k hk
  by_cases h1 : k = 129
  · subst h1; exact pm_y_pl2.1
  · by_cases h2 : k = 130
    · subst h2; exact pm_y_pl2.2
    · exact pm_y_pl k hk h1 h2
theorem pm_S_trans {A : Nat → Prop} {H0 H H1 : Heap} {locs Lc : List Loc} (h : va_S A H0 H locs) (h1 : va_S A H H1 Lc) : va_S A H0 H1 (locs ++ Lc) := by
  refine ⟨Nat.le_trans h.1 h1.1, fun q g1 g2 => (h1.2.1 q (Nat.lt_of_lt_of_le g1 h.1) g2).trans (h.2.1 q g1 g2), fun q hq => ?_⟩
  rcases List.mem_append.mp hq with h2 | h2
  · exact h.2.2 q h2
  · exact h1.2.2 q h2
theorem pm_invoked {p : Program} {l : Launch} {e : Env} {R : Room} {s : State} {mi : MethodId} {args : Array Value} {below : List Frame} {meth : Method} {c : Code} {U : State} {locs : List Loc} {cells slots : Nat} {d m k z L : Nat} {xs : Nat → Int32} {D : va_G} {dA : Nat → ClassId} {ad : Nat → Nat} {as : List Value} {M : pm_Mem} {q : pm_Res}
    (hq : pm_K d k as M q) (hk : k < 139) (h121 : k ≠ 121) (hX : pm_X p s mi args meth c m z L xs D dA ad) (hfl : l.flags = flags0) (X : Stand p l e R s mi args below meth c U locs cells slots) (hV : pm_V s z L xs D dA ad M U.heap locs) (hct : M.1 < pm_n → pm_ct M = 0 → U.heap.size = z + M.1)
    {g : JFrame} (hg : g.method = mi) (hsize : g.locals.size = c.maxLocals) {ig : Instr} (hdg : decode c.code g.pc = .ok (ig, 3)) (hst : 2 * g.monitorRoom + (g.stack.map fun v => v.category).sum ≤ 8) {mk : MethodId} (hn : s.methodNamed? (pm_y k) = some mk)
    (hR : d + 9 ≤ R.frames ∧ 40 * (d + 1) + 300 ≤ R.locals ∧ cells + pm_kc M q ≤ R.cells ∧ slots + pm_ks M q ≤ R.slots) :
    ∃ (t T' : State) (Lc : List Loc), (∀ acts, Steps p.tables e below (doInvoke e (U.setTop g) acts mk (as.map (pm_cz ad)).toArray).1 t) ∧ Stand p l e R s mi args below meth c T' (locs ++ Lc) (cells + pm_kc M q) (slots + pm_ks M q) ∧ pm_V s z L xs D dA ad q.2 T'.heap (locs ++ Lc) ∧
      match q.1 with
      | .inl v => t = T'.setTop { g with pc := g.pc + 3, stack := (v.map (pm_cz ad)).toList ++ g.stack }
      | .inr j => ∃ (x : Addr) (cell : Cell), t = (T'.setTop g).pushFrame (.throwing x) ∧ T'.heap[x]? = some cell ∧ cell.vm.isStatics = false ∧ s.vm.findClass (pm_ex j) = some cell.cls := by
  obtain ⟨⟨hx, hb, hml, hown, hlocks, hnm, hret⟩, hK, hF, had, hz⟩ := hX
  have hWU : pm_Wd U := hF.1.warm X.warmed
  obtain ⟨mk', methk, ck, hnU, hmk, hck, hbk, hmlk, hretk, hlk, hexk, hsigk⟩ := pm_fct hWU hk h121
  have hnU' := X.named hn
  cases hnU.symm.trans hnU'
  have hpk : U.plainMethod mk := State.plainMethod.of_named (pm_y_all k hk) hnU hmk
  have hmle := pm_ml_le k hk
  obtain ⟨Y₀, hin⟩ := X.into hg hsize hdg (as.map (pm_cz ad)).toArray (R' := { frames := R.frames - 1, cells := pm_kc M q, slots := pm_ks M q, locals := R.locals - 40 }) hmk hck hlk hpk (by show R.frames - 1 + 1 ≤ _; omega) (by rw [hmlk]; show _ + (R.locals - 40) ≤ _; omega) hR.2.2.1 hR.2.2.2
  have hSU := hV.2.1
  have hal : s.WarmedH (U.calling g mk (as.map (pm_cz ad)).toArray).vm := X.warmed
  have hF' : pm_F z ad L xs (U.calling g mk (as.map (pm_cz ad)).toArray) := hF.go hal hz (fun w h1 h2 => hSU.2.1 w h1 h2)
  have hX' : pm_X p (U.calling g mk (as.map (pm_cz ad)).toArray) mk (as.map (pm_cz ad)).toArray methk ck k z L xs D dA ad :=
    ⟨⟨hx, hbk, hmlk, findClass_of_methodNamed hnU, hlk, (name_of_methodNamed hnU hmk).1, hretk⟩, hK.moved hal.alike, hF', had, Nat.le_trans hz hSU.1⟩
  obtain ⟨t, hst1, o, Lc, hrun, hend, hWt, hsame, hVt, hout⟩ := hq.2 p l e { frames := R.frames - 1, cells := pm_kc M q, slots := pm_ks M q, locals := R.locals - 40 } (U.calling g mk (as.map (pm_cz ad)).toArray) mk _ (.java g :: below) methk ck z L xs D dA ad hfl hX' hexk rfl ⟨hV.1, va_S.rf, hV.2.2⟩ hct ⟨by show d + 8 ≤ R.frames - 1; omega, by show 40 * d + 300 ≤ R.locals - 40; omega, Nat.le_refl _, Nat.le_refl _⟩ ((U.setTop g).pushFrame (.java (entryFrame mk (as.map (pm_cz ad)).toArray ck.maxLocals))) rfl Y₀
  have hstep : ∀ acts, Steps p.tables e below (doInvoke e (U.setTop g) acts mk (as.map (pm_cz ad)).toArray).1 t := fun acts => by
    rw [hin acts, hmlk]
    rw [hmlk] at hst1
    exact Steps.weaken (mid := [.java g]) hst1
  obtain ⟨r1, rM⟩ := q
  cases r1 with
  | inl v =>
    have ho : o = .returned (v.map (pm_cz ad)) := hout
    subst ho
    obtain ⟨T', X', hW', -, ht⟩ := X.outOf hg hdg hend hWt hsame
    have hh : T'.heap = t.heap := by rw [ht]; rfl
    exact ⟨t, T', Lc, hstep, X', ⟨by rw [hh]; exact hVt.1, by rw [hh]; exact pm_S_trans hSU hVt.2.1, hVt.2.2⟩, ht⟩
  | inr j =>
    obtain ⟨x, cell, ho, h1, h2, h3⟩ := hout
    subst ho
    obtain ⟨T', X', hW', -, ht⟩ := X.outOfThrown hg hend hWt hsame
    have hh : T'.heap = t.heap := by rw [ht]; rfl
    refine ⟨t, T', Lc, hstep, X', ⟨by rw [hh]; exact hVt.1, by rw [hh]; exact pm_S_trans hSU hVt.2.1, hVt.2.2⟩, x, cell, ht, by rw [hh]; exact h1, h2, ?_⟩
    have e9 : U.vm.findClass (pm_ex j) = some cell.cls := h3
    rw [X.warmed.alike.findClass] at e9
    exact e9
