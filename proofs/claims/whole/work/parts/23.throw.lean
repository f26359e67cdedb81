/-! A THROW: new, dup, ldc, invokespecial, athrow -/
def pm_nms : List String := ["java/lang/RuntimeException", "java/lang/Exception"]
def pm_oat (X : String) : List Cond := Bundle.throwableAtoms ++ Bundle.throwableSAtoms ++ Bundle.chainSAtoms X pm_nms ++
  [.instantiable X 6, .castable X X, .selects X Bundle.tFill0 Bundle.tFill0, .selects X Bundle.tFill Bundle.tFill,
   .lays X Bundle.tN "cause" "Ljava/lang/Throwable;", .lays X Bundle.tN "stackTrace" Bundle.steD, .lays X Bundle.tN "suppressedExceptions" Bundle.listD, .lays X Bundle.tN "detailMessage" "Ljava/lang/String;",
   .fieldLink Bundle.tN 198 Bundle.tN "backtrace" "Ljava/lang/Object;", .lays Bundle.tN Bundle.tN "backtrace" "Ljava/lang/Object;", .lays X Bundle.tN "backtrace" "Ljava/lang/Object;"]
theorem pm_oat_g : ∀ k, k < 4 → ∀ w ∈ pm_oat (pm_ex k), pm_gw w = true ∨ w = .laysStatic "java/lang/Throwable" "UNASSIGNED_STACK" "[Ljava/lang/StackTraceElement;" ∨ w = .laysStatic "java/lang/Throwable" "SUPPRESSED_SENTINEL" "Ljava/util/List;" := by decide +kernel
theorem pm_oat_0 : ∀ w ∈ pm_oat (pm_ex 0), w ∈ lw_tbl := by decide +kernel
theorem pm_oat_1 : ∀ w ∈ pm_oat (pm_ex 1), w ∈ lw_tbl := by decide +kernel
theorem pm_oat_2 : ∀ w ∈ pm_oat (pm_ex 2), w ∈ lw_tbl := by decide +kernel
theorem pm_oat_3 : ∀ w ∈ pm_oat (pm_ex 3), w ∈ lw_tbl := by decide +kernel
theorem pm_oat_in {k : Nat} (hk : k < 4) : ∀ w ∈ pm_oat (pm_ex k), w ∈ lw_tbl := by
  rcases (show k = 0 ∨ k = 1 ∨ k = 2 ∨ k = 3 by omega) with rfl | rfl | rfl | rfl
  · exact pm_oat_0
  · exact pm_oat_1
  · exact pm_oat_2
  · exact pm_oat_3
theorem pm_own_sub {own X : String} {ic : Nat} : ∀ w ∈ Bundle.ownAtoms own ic X pm_nms, w ∈ pm_oat X ∨ w = .methodLink own ic (Bundle.initS X) ∨ w = .isRef (.static Bundle.tN "UNASSIGNED_STACK" Bundle.steD) ∨ w = .isRef (.static Bundle.tN "SUPPRESSED_SENTINEL" Bundle.listD) := by
  intro w hw
  simp only [Bundle.ownAtoms, pm_oat, List.mem_append, List.mem_cons, List.not_mem_nil, or_false] at hw ⊢
  grind
/-- the words that the throw of an exception needs -/
theorem pm_own_w {z L k : Nat} {ad : Nat → Nat} {xs : Nat → Int32} {s : State} {args : Array Value} {own : String} {ic : Nat} (hF : pm_F z ad L xs s) (hk : k < 4) (hl : (Cond.methodLink own ic (Bundle.initS (pm_ex k))).before args s = true) : ∀ w ∈ Bundle.ownAtoms own ic (pm_ex k) pm_nms, w.before args s = true := by
  intro w hw
  have hLS := hF.2.2.2.2.2.2.1
  rcases pm_own_sub w hw with h | rfl | rfl | rfl
  · rcases pm_oat_g k hk w h with hg | rfl | rfl
    · exact hF.1 args w (List.mem_filter.mpr ⟨pm_oat_in hk w h, hg⟩)
    · exact hLS.1.lays args
    · exact hLS.2.lays args
  · exact hl
  · exact hLS.1.ref args
  · exact hLS.2.ref args
