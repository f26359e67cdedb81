/-! THE WALK -/
section PMW
variable {p : Program} {l : Launch} {e : Env} {R : Room} {s : State} {mi : MethodId} {args : Array Value} {below : List Frame} {meth : Method} {c : Code} {d m z L : Nat} {xs : Nat → Int32} {D : va_G} {dA : Nat → ClassId} {ad : Nat → Nat} {M0 : pm_Mem} {r : pm_Res}
theorem pm_leave {T : State} {locs : List Loc} {cells slots : Nat} {v : Option Int32} {pc : Nat} {lsC : Array Slot} (hx : p.tables.exec = Jvm.exec) (hb : c.code = pm_b m) (hlocks : meth.locks = false) (hret : meth.sig.returnType = pm_rt m)
    (hv : match v with | none => pm_rt m = none ∧ decode (pm_b m) pc = .ok (.return_, 1) | some w => ∃ ty, pm_rt m = some ty ∧ fits ty (.int w) = true ∧ decode (pm_b m) pc = .ok (.ireturn, 1))
    (X : Stand p l e R s mi args below meth c T locs cells slots) : ∃ t, Steps p.tables e below (T.setTop (F0 mi pc lsC (v.map Value.int).toList)) t ∧ t.status = .running ∧ Ended t below (.returned (v.map Value.int)) ∧ s.WarmedH t.vm ∧ s.sameButNew ({ t with vm := s.vm } : State) locs cells slots ∧ t.heap = T.heap := by
  cases v with
  | none =>
    obtain ⟨h1, hd⟩ := hv
    rw [h1] at hret
    obtain ⟨fs, hrt, hrun, hended, hW, hframe⟩ := X.leave (v := none) (fun _ => rfl)
    have hmeth' : T.vm.method? mi = some meth := X.method'
    refine ⟨T.setFrames fs, ?_, hrun, hended, hW, hframe, rfl⟩
    show Steps p.tables e below (T.setTop (F0 mi pc lsC [])) _
    jvm_step X.here [X.here.top, hx, hb, hd, hmeth', hret]
    first
      | rw [hrt]
        exact Steps.refl _
      | (have hrt' := hrt; simp_all [Steps.refl])
  | some w =>
    obtain ⟨ty, h1, hf, hd⟩ := hv
    rw [h1] at hret
    have hn := narrow_of_fits hf
    obtain ⟨fs, hrt, hrun, hended, hW, hframe⟩ := X.leave (v := some (.int w)) (fun h => by rw [hret] at h; cases h)
    have hmeth' : T.vm.method? mi = some meth := X.method'
    refine ⟨T.setFrames fs, ?_, hrun, hended, hW, hframe, rfl⟩
    show Steps p.tables e below (T.setTop (F0 mi pc lsC [.int w])) _
    jvm_step X.here [X.here.top, hx, hb, hd, hmeth', hret, hn]
    first
      | rw [hrt]
        exact Steps.refl _
      | (have hrt' := hrt; simp_all [Steps.refl])
end PMW
