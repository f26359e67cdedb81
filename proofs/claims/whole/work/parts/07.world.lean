/-! THE REAL CELLS of a memory of the pure machine: number a lies at the address ad a -/
def pm_cz (ad : Nat → Nat) (v : Value) : Value := match v with
  | .ref a => .ref (ad a)
  | v => v
theorem pm_cz_cat (ad : Nat → Nat) (v : Value) : (pm_cz ad v).category = v.category := by cases v <;> rfl
theorem pm_cz_rv (ad : Nat → Nat) (r : Option Nat) : pm_cz ad (pm_rv r) = va_rf (r.map ad) := by cases r <;> rfl
def pm_fv (ad : Nat → Nat) (M : pm_Mem) (c a k : Nat) : Value := if pm_isr c k = true then pm_cz ad (pm_rv (M.2.2.1 a k)) else .int (M.2.1 a k)
def pm_ac (ad : Nat → Nat) (M : pm_Mem) (a k : Nat) : (Nat → Int32) ⊕ (Nat → Int64) ⊕ (Nat → UInt32) ⊕ (Nat → UInt64) ⊕ (Nat → Option Nat) := match k with
  | 0 => .inl (M.2.1 a)
  | 1 => .inl (M.2.1 a)
  | 2 => .inl (M.2.1 a)
  | 3 => .inr (.inl (M.2.2.2 a))
  | _ => .inr (.inr (.inr (.inr (fun i => (M.2.2.1 a i).map ad))))
def pm_cell (dA : Nat → ClassId) (ad : Nat → Nat) (M : pm_Mem) (a : Nat) : va_E := match pm_sh a with
  | (0, c) => .inr (c, (List.range (pm_nf c)).map (pm_fv ad M c a))
  | (k + 1, n) => .inl (dA k, n, pm_ac ad M a k)
def pm_ws (dA : Nat → ClassId) (ad : Nat → Nat) (M : pm_Mem) : va_W := (List.range M.1).map fun a => (ad a, pm_cell dA ad M a)
theorem pm_ws_at {dA : Nat → ClassId} {ad : Nat → Nat} {M : pm_Mem} {a : Nat} (h : a < M.1) : (pm_ws dA ad M)[a]? = some (ad a, pm_cell dA ad M a) := by
  simp [pm_ws, List.getElem?_range h]
theorem pm_ws_set {dA : Nat → ClassId} {ad : Nat → Nat} {M M' : pm_Mem} {a : Nat} {x : va_E} (h1 : M'.1 = M.1) (h2 : a < M.1 → pm_cell dA ad M' a = x) (h3 : ∀ b, b ≠ a → pm_cell dA ad M' b = pm_cell dA ad M b) : (pm_ws dA ad M).set a (ad a, x) = pm_ws dA ad M' := by
  apply List.ext_getElem?
  intro i
  by_cases hi : i < M.1
  · rw [pm_ws_at (M := M') (by rw [h1]; exact hi)]
    by_cases e : i = a
    · subst e
      rw [List.getElem?_set_self (by simp [pm_ws, hi]), h2 hi]
    · rw [List.getElem?_set_ne (fun q => e q.symm), pm_ws_at hi, h3 i e]
  · rw [List.getElem?_eq_none (by simp [pm_ws]; omega), List.getElem?_eq_none (by simp [pm_ws, h1]; omega)]
theorem pm_ws_len {dA : Nat → ClassId} {ad : Nat → Nat} {M : pm_Mem} : (pm_ws dA ad M).length = M.1 := by simp [pm_ws]
/-- the addresses: from z on, number by number -/
def pm_ad (z : Nat) (ad : Nat → Nat) : Prop := ∀ a, a < pm_n → ad a = z + a
theorem pm_wsD {dA : Nat → ClassId} {ad : Nat → Nat} {M : pm_Mem} {z : Nat} (h : pm_ad z ad) (hn : M.1 ≤ pm_n) : va_D (fun q : Nat => z ≤ q) (pm_ws dA ad M) := by
  have key : ∀ (i : Nat) (q : Nat × va_E), (pm_ws dA ad M)[i]? = some q → q.1 = z + i := by
    intro i q hq
    have hi : i < M.1 := by have := (List.getElem?_eq_some_iff.mp hq).1; rwa [pm_ws_len] at this
    rw [pm_ws_at hi] at hq
    cases hq
    exact h i (by omega)
  refine ⟨fun i j p q h1 h2 h3 => ?_, fun k q h1 => ?_⟩
  · have e1 := key i p h1
    have e2 := key j q h2
    omega
  · have e1 := key k q h1
    show z ≤ q.1
    omega
/-- the array classes -/
def pm_tys (dA : Nat → ClassId) : List (ClassId × FieldType) := [(dA 0, .int), (dA 1, .char), (dA 2, .boolean), (dA 3, .long), (dA 4, .object "CardWorkshop$Table"), (dA 5, .array .int)]
/-! the locals -/
def pm_LV (ad : Nat → Nat) (lsC : Array Slot) (ls : pm_Loc) : Prop := lsC.size = ls.length ∧ lv_wf lsC ∧ ∀ i v, pm_get ls i = some v → lsC[i]? = some (.val (pm_cz ad v))
/-- longs stand only where the method's descriptor lays them -/
def pm_lgs : Nat → List Nat → List Nat
  | _, [] => []
  | i, k :: t => if k = 2 then i :: pm_lgs (i + 2) t else pm_lgs (i + 1) t
def pm_J (m : Nat) (ls : pm_Loc) : Prop := ls.length = pm_ml m ∧ ∀ i v, pm_get ls i = some v → v.category = 2 → i ∈ pm_lgs 0 (pm_cat m)
def pm_lvs (ad : Nat → Nat) (ls : pm_Loc) : List (Nat × Value) := (List.range ls.length).filterMap fun i => (pm_get ls i).map fun v => (i, pm_cz ad v)
theorem pm_get_lt {ls : pm_Loc} {i : Nat} {v : Value} (h : pm_get ls i = some v) : i < ls.length := by
  unfold pm_get at h
  split at h
  · rename_i h1
    exact (List.getElem?_eq_some_iff.mp h1).1
  · cases h
theorem pm_lvs_mem {ad : Nat → Nat} {ls : pm_Loc} {i : Nat} {v : Value} (h : pm_get ls i = some v) : (i, pm_cz ad v) ∈ pm_lvs ad ls :=
  List.mem_filterMap.mpr ⟨i, List.mem_range.mpr (pm_get_lt h), by rw [h]; rfl⟩
theorem pm_LV.has {ad : Nat → Nat} {lsC : Array Slot} {ls : pm_Loc} (h : pm_LV ad lsC ls) : lv_has lsC ls.length (pm_lvs ad ls) := by
  refine ⟨h.1, h.2.1, fun q hq => ?_⟩
  obtain ⟨i, -, hi⟩ := List.mem_filterMap.mp hq
  cases e : pm_get ls i with
  | none => rw [e] at hi; cases hi
  | some v => rw [e] at hi; cases hi; exact h.2.2 i v e
theorem pm_get_set {ls : pm_Loc} {i j : Nat} {x : Option Value} {v : Value} (h : pm_get (ls.set i x) j = some v) : (j = i ∧ x = some v) ∨ (j ≠ i ∧ pm_get ls j = some v) := by
  have hj := pm_get_lt h
  rw [List.length_set] at hj
  unfold pm_get at h
  by_cases e : j = i
  · subst e
    rw [List.getElem?_set_self hj] at h
    cases x with
    | none => cases h
    | some y => exact Or.inl ⟨rfl, h⟩
  · rw [List.getElem?_set_ne (fun q => e q.symm)] at h
    exact Or.inr ⟨e, h⟩
theorem pm_J.set {m i : Nat} {ls : pm_Loc} {x : Option Value} (h : pm_J m ls) (hx : ∀ v, x = some v → ¬ v.category = 2) : pm_J m (ls.set i x) := by
  refine ⟨by rw [List.length_set]; exact h.1, fun j v h1 h2 => ?_⟩
  rcases pm_get_set h1 with ⟨-, e⟩ | ⟨-, e⟩
  · exact absurd h2 (hx v e)
  · exact h.2 j v e h2
/-- the locals behind a store of one slot -/
theorem pm_LV.set {ad : Nat → Nat} {m : Nat} {lsC' : Array Slot} {ls : pm_Loc} {i : Nat} {x : Option Value} {y : Value} (hJ : pm_J m ls) (hs : ∀ j, j + 1 = i → j ∉ pm_lgs 0 (pm_cat m)) (hx : ∀ v, x = some v → y = pm_cz ad v)
    (h' : lv_has lsC' ls.length ((i, y) :: (pm_lvs ad ls).filter (fun q => !(q.1 == i) && !(q.1 + 1 == i && q.2.category == 2)))) : pm_LV ad lsC' (ls.set i x) := by
  refine ⟨by rw [List.length_set]; exact h'.1, h'.2.1, fun j v hj => ?_⟩
  rcases pm_get_set hj with ⟨e1, e2⟩ | ⟨e1, e2⟩
  · subst e1
    rw [← hx v e2]
    exact h'.2.2 (j, y) List.mem_cons_self
  · refine h'.2.2 (j, pm_cz ad v) (List.mem_cons_of_mem _ (List.mem_filter.mpr ⟨pm_lvs_mem e2, ?_⟩))
    have h1 : (j == i) = false := by simpa using e1
    have h2 : (j + 1 == i && (pm_cz ad v).category == 2) = false := by
      rw [Bool.and_eq_false_iff]
      by_cases e3 : j + 1 = i
      · right
        have : ¬ v.category = 2 := fun q => hs j e3 (hJ.2 j v e2 q)
        rw [pm_cz_cat]
        simpa using this
      · left
        simpa using e3
    simp only [h1, h2]
    rfl
