/-! THE SAME PLACE, as if the invocation began here -/
theorem pm_rebase {p : Program} {l : Launch} {e : Env} {R R' : Room} {s : State} {m : MethodId} {args : Array Value} {below : List Frame} {meth : Method} {c : Code} {T : State} {locs : List Loc} {cells slots : Nat} (X : Stand p l e R s m args below meth c T locs cells slots)
    (hf : R'.frames ≤ R.frames) (hl : R'.locals ≤ R.locals) (hc : cells + R'.cells ≤ R.cells) (hs : slots + R'.slots ≤ R.slots) : Stand p l e R' (T.setFrames (.invoking m args :: below)) m args below meth c T [] 0 0 := by
  obtain ⟨g₀, hr⟩ := X.frames_eq
  have hcur : T.cur < T.threads.size := State.cur_lt_of_frames hr
  have hfr : (T.setFrames (.invoking m args :: below)).frames = .invoking m args :: below := State.frames_setFrames _ hcur
  have hm' : (T.setFrames (.invoking m args :: below)).vm.method? m = some meth := X.method'
  have hcode : ∀ x, (T.setFrames (.invoking m args :: below)).code? x = s.code? x := fun x => by
    rw [State.code?_eq, State.code?_eq]
    show (T.vm.method? x).bind _ = _
    rw [X.warmed.alike.method?]
  refine ⟨X.admits, X.cas, X.clock, hfr, ?_, ?_, hm', X.code, X.here, X.tail, State.WarmedH.refl (T.setFrames (.invoking m args :: below)), (State.stackLimits_setFrames _ _ _).symm, (State.stackBytes_setFrames _ _).symm, ?_⟩
  · have h := X.room
    have hsz := X.heapSize
    have hus := X.used
    have hbk := X.book
    have e1 : (T.setFrames (.invoking m args :: below)).localsInUse = s.localsInUse := by
      rw [State.localsInUse_invoking hfr hm' X.code, State.localsInUse_invoking X.frames X.method X.code]
    have e2 : (T.setFrames (.invoking m args :: below)).frames.length = s.frames.length := by rw [hfr, X.frames]
    have e3 : e.platform.stackLimits (T.setFrames (.invoking m args :: below)).me = e.platform.stackLimits s.me := by rw [State.stackLimits_setFrames, X.limits]
    have e4 : (T.setFrames (.invoking m args :: below)).me.stackBytes = s.me.stackBytes := by rw [State.stackBytes_setFrames, X.bytes]
    have e5 : (T.setFrames (.invoking m args :: below)).heap = T.heap := rfl
    have e6 : (T.setFrames (.invoking m args :: below)).slotsUsed = T.slotsUsed := rfl
    have e7 : (T.setFrames (.invoking m args :: below)).slotsTrue = T.slotsTrue := rfl
    unfold State.hasRoom at h ⊢
    rw [e1, e2, e3, e4, e5, e6, e7]
    simp only [Bool.and_eq_true, decide_eq_true_eq] at h ⊢
    obtain ⟨⟨⟨⟨h1, h2, h3, h4, h5, h6⟩, h7⟩, h8⟩, h9⟩ := h
    exact ⟨⟨⟨⟨by omega, by omega, by omega, by omega, by omega, h6⟩, by omega⟩, by omega⟩, hbk⟩
  · have h := X.hears
    unfold State.hears at h ⊢
    have hmm : ∀ x, (T.setFrames (.invoking m args :: below)).vm.method? x = s.vm.method? x := fun x => X.warmed.alike.method? x
    split at h
    · rw [hcode]; exact h
    · rfl
    · rfl
    · rw [hmm]; exact h
  · have hfrs : ∃ th, (T.setFrames (.invoking m args :: below)).threads[(T.setFrames (.invoking m args :: below)).cur]? = some th := by
      obtain ⟨th, hth, -⟩ := State.frames_cons hfr
      exact ⟨th, hth⟩
    obtain ⟨th, hth⟩ := hfrs
    have h := (State.sameButNew.refl (T.setFrames (.invoking m args :: below)) hth).setFrames T.frames (State.cur_lt_of_frames hfr)
    rw [State.setFrames_setFrames] at h
    obtain ⟨t0, ht0, -⟩ := State.frames_cons hr
    rw [State.setFrames_self ht0] at h
    exact h
