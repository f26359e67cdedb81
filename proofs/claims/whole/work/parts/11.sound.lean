theorem pm_lk {α β : Type} [BEq α] [LawfulBEq α] {l : List (α × β)} {a : α} {b : β} (h : l.lookup a = some b) : (a, b) ∈ l := by
  induction l with
  | nil => cases h
  | cons x t ih =>
    obtain ⟨u, v⟩ := x
    rw [List.lookup_cons] at h
    cases e : a == u with
    | true =>
      rw [e] at h
      cases h
      rw [eq_of_beq e]
      exact List.mem_cons_self
    | false =>
      rw [e] at h
      exact List.mem_cons_of_mem _ (ih h)
/-! WHAT STANDS AT EACH PLACE of a method's walk -/
/-- words that stay true when the tables get warmer -/
def pm_gw (w : Cond) : Bool := goodWord w || match w with
  | .fieldLinkNest .. => true
  | .methodLinkNest .. => true
  | _ => w.onTables && w.keepsFace
def pm_Ts : List Cond := lw_tbl.filter pm_gw
def pm_Wd (U : State) : Prop := ∀ (a : Array Value) (w : Cond), w ∈ pm_Ts → w.before a U = true
theorem pm_Wd.warm {s U : State} (h : pm_Wd s) (hW : s.WarmedH U.vm) : pm_Wd U := by
  intro a w hw
  have hb := h #[] w hw
  have hg := (List.mem_filter.mp hw).2
  unfold pm_gw at hg
  rw [Bool.or_eq_true] at hg
  rcases hg with hg | hg
  · exact word_at hW (good_of_word hg) hb
  · split at hg
    · exact va_Nw.use rfl (va_Nw.warmF hW (va_Nw.of rfl hb))
    · exact va_Nw.use rfl (va_Nw.warmM hW (va_Nw.of rfl hb))
    · rw [Bool.and_eq_true] at hg
      exact va_tabs hg.1 (rfl : (s.setVm U.vm).vm = U.vm) (Cond.before_shiftedFace (State.Shifted.of_warmed hW) w hg.2 hb)
theorem pm_Ts_of {w : Cond} (i : Nat) (h : tables_1[i]? = some w) (hg : pm_gw w = true) : w ∈ pm_Ts := List.mem_filter.mpr ⟨lw_of i h, hg⟩
theorem pm_in1 {c : Nat} (hc : c < 7) : ∀ w ∈ u_ws (pm_cnm c) (pm_T c) (pm_nf c), w ∈ pm_Ts := by
  intro w hw
  refine List.mem_filter.mpr ⟨pm_in0 hc w hw, ?_⟩
  obtain ⟨k, hk, rfl⟩ := List.mem_map.mp hw
  unfold u_lay
  split <;> rfl
/-- the Strings: their numbers and texts -/
def pm_txt (x : Nat) : String := if x = 10000 then "wxyz" else if x = 10010 then "hgstpq" else "|&<=+-*"
/-- one String, its bytes -/
def pm_FS (z : Nat) (ad : Nat → Nat) (x : Nat) (U : State) : Prop := (∀ q ∈ pm_sk, q.2.1 = x → vk_R (pm_onm q.1.1) q.1.2 (pm_txt x) (ad x) U) ∧ va_O "java/lang/String" (ad x) (fun q => z ≤ q) U U.heap ∧ va_OF "java/lang/String" "value" "[B" (.ref (ad (x + 1))) (ad x) (fun q => z ≤ q) U U.heap ∧ va_OF "java/lang/String" "coder" "B" (.int 0) (ad x) (fun q => z ≤ q) U U.heap ∧ va_T .byte (ad (x + 1)) (pm_tabn (x + 1)) (fun j => .int (pm_tab (x + 1) j)) (fun q => z ≤ q) U U.heap
/-- a static array -/
def pm_FT (z : Nat) (ad : Nat → Nat) (x : Nat) (nm : String) (U : State) : Prop := va_Z "CardWorkshop$Reader" nm "[I" (.ref (ad x)) (fun q => z ≤ q) U U.heap ∧ va_T .int (ad x) (pm_tabn x) (fun j => .int (pm_tab x j)) (fun q => z ≤ q) U U.heap
/-- a static field of Throwable: laid, a reference or null -/
def pm_LS (z : Nat) (n d : String) (U : State) : Prop := ∃ (c : ClassId) (k : Class) (i : Nat) (f : Field) (a : Nat) (cell : Cell) (v : Value), U.vm.findClass "java/lang/Throwable" = some c ∧ U.fieldFound? "java/lang/Throwable" n d = some (c, k, i, f) ∧ f.isStatic = true ∧ k.statics = some a ∧ U.heap[a]? = some cell ∧ cell.vm.isStatics = true ∧ cell.cls = c ∧ f.slot < cell.slots.size ∧ k.staticTypes[f.slot]? = some f.type ∧ cell.slots[f.slot]? = some v ∧ (v = .null ∨ ∃ t, v = .ref t) ∧ a < z
theorem pm_LS.go {z : Nat} {n d : String} {s U : State} (h : pm_LS z n d s) (hal : s.vm.Alike U.vm) (hh : ∀ q : Nat, q < s.heap.size → ¬ z ≤ q → U.heap[q]? = s.heap[q]?) : pm_LS z n d U := by
  obtain ⟨c, k, i, f, a, cell, v, h1, h2, h3, h4, h5, h6, h7, h8, h9, h10, h11, h12⟩ := h
  obtain ⟨k', hf', he⟩ := State.fieldFound?_setVm hal h2
  exact ⟨c, k', i, f, a, cell, v, by rw [hal.findClass]; exact h1, hf', h3, by rw [he]; exact h4, (hh a (Array.getElem?_eq_some_iff.mp h5).1 (Nat.not_le.mpr h12)).trans h5, h6, h7, h8, by rw [he]; exact h9, h10, h11, h12⟩
theorem pm_LS.lays {z : Nat} {n d : String} {s : State} (h : pm_LS z n d s) (args : Array Value) : (Cond.laysStatic "java/lang/Throwable" n d).before args s = true := by
  obtain ⟨c, k, i, f, a, cell, v, h1, h2, h3, h4, h5, h6, h7, h8, h9, h10, h11, h12⟩ := h
  exact Cond.laysStatic_of h1 h2 h3 h4 h5 h6 h7 h8 h9
theorem pm_LS.ref {z : Nat} {n d : String} {s : State} (h : pm_LS z n d s) (args : Array Value) : (Cond.isRef (.static "java/lang/Throwable" n d)).before args s = true := by
  obtain ⟨c, k, i, f, a, cell, v, h1, h2, h3, h4, h5, h6, h7, h8, h9, h10, h11, h12⟩ := h
  have hv : (Term.static "java/lang/Throwable" n d).eval args s none [] s = some v := Term.static_eval h2 h3 h4 h5 h6 h10
  rcases h11 with rfl | ⟨t, rfl⟩ <;> simp [Cond.before, Cond.holds, Cond.value, hv]
/-- what stays the same from the law's start on: the words, the Strings, the static arrays, the script -/
def pm_F (z : Nat) (ad : Nat → Nat) (L : Nat) (xs : Nat → Int32) (U : State) : Prop :=
  pm_Wd U ∧ (pm_FS z ad 10000 U ∧ pm_FS z ad 10010 U ∧ pm_FS z ad 10020 U) ∧ (pm_FT z ad 10030 "OPERATOR_LEVELS" U ∧ pm_FT z ad 10040 "OPERATOR_CODES" U) ∧ va_Z "java/lang/String" "COMPACT_STRINGS" "Z" (.int 1) (fun q => z ≤ q) U U.heap ∧
  (va_X (ad 20000) L xs U U.heap ∧ ad 20000 < z) ∧ (va_AO "CardWorkshop$Table" U ∧ (Cond.arrayOver (.array .int)).before #[] U = true) ∧
  (pm_LS z "UNASSIGNED_STACK" "[Ljava/lang/StackTraceElement;" U ∧ pm_LS z "SUPPRESSED_SENTINEL" "Ljava/util/List;" U) ∧ (∀ j k, j < 4 → k < 4 → j ≠ k → va_Nc (pm_ex j) (pm_ex k) U) ∧ (∀ q ∈ pm_msg, ∃ (tx : String) (a : Nat), vk_R (pm_onm q.1) q.2 tx a U)
def pm_X (p : Program) (s : State) (mi : MethodId) (args : Array Value) (meth : Method) (c : Code) (m z L : Nat) (xs : Nat → Int32) (D : va_G) (dA : Nat → ClassId) (ad : Nat → Nat) : Prop :=
  (p.tables.exec = Jvm.exec ∧ c.code = pm_b m ∧ c.maxLocals = pm_ml m ∧ s.vm.findClass (pm_onm (pm_ow m)) = some mi.cls ∧ meth.locks = false ∧ meth.name = (pm_y m).name ∧ meth.sig.returnType = pm_rt m) ∧ va_K D pm_vw (pm_tys dA) s ∧ pm_F z ad L xs s ∧ pm_ad z ad ∧ z ≤ s.heap.size
def pm_V (s : State) (z L : Nat) (xs : Nat → Int32) (D : va_G) (dA : Nat → ClassId) (ad : Nat → Nat) (M : pm_Mem) (H : Heap) (locs : List Loc) : Prop :=
  va_P D pm_vw (pm_ws dA ad M) H ∧ va_S (fun q => z ≤ q) s.heap H locs ∧ M.1 ≤ pm_n ∧ ((∀ j, j < L → M.2.1 20000 j = xs j) ∧ M.2.1 20001 0 = nI L ∧ L ≤ 2048)
def pm_slt (q : Nat × Nat) : Nat := if q.1 = 0 then pm_nf q.2 else q.2
/-- the slots of the first k cells -/
def pm_sl : Nat → Nat
  | 0 => 0
  | k + 1 => pm_sl k + pm_slt (pm_sh k)
/-- an instruction by its number is sound -/
def pm_Snd (op : Nat) : Prop := ∀ (p : Program) (l : Launch) (e : Env) (R : Room) (s : State) (mi : MethodId) (args : Array Value) (below : List Frame) (meth : Method) (c : Code) (Q : State → Prop) (m z L : Nat) (xs : Nat → Int32) (D : va_G) (dA : Nat → ClassId) (ad : Nat → Nat) (pc len a b : Nat) (n : Int32) (ls ls' : pm_Loc) (st st' : List Value) (M M' : pm_Mem) (g : Prop) (pc' : Nat) (i : Instr) (lsC : Array Slot) (H : Heap) (locs : List Loc) (cells slots : Nat),
  pm_X p s mi args meth c m z L xs D dA ad → decode (pm_b m) pc = .ok (i, len) → pm_dk (pm_ow m) op len a b n pc i = true → ((op = 5 ∨ op = 6 ∨ op = 8) → ∀ j, j + 1 = a → j ∉ pm_lgs 0 (pm_cat m)) → (op = 53 → (pm_y m).name = "<init>") → pm_next op len a b n pc ls st M = some (g, pc', ls', st', M') → g → pm_J m ls → pm_LV ad lsC ls → pm_V s z L xs D dA ad M H locs → (M.1 < pm_n → pm_ct M = 0 → s.heap.size + cells = z + M.1) →
  (cells + M'.1 ≤ R.cells + M.1 ∧ slots + pm_sl M'.1 ≤ R.slots + pm_sl M.1 ∧ 4 ≤ R.frames ∧ 200 ≤ R.locals) →
  (∀ (lsC' : Array Slot) (H' : Heap) (locs' : List Loc) (cells' slots' : Nat), pm_J m ls' → pm_LV ad lsC' ls' → pm_V s z L xs D dA ad M' H' locs' → cells' + M.1 = cells + M'.1 → slots' + pm_sl M.1 = slots + pm_sl M'.1 → W p l e R s mi args below meth c H' locs' cells' slots' Q (F0 mi pc' lsC' (st'.map (pm_cz ad)))) →
  W p l e R s mi args below meth c H locs cells slots Q (F0 mi pc lsC (st.map (pm_cz ad)))
theorem pm_s1 : pm_Snd 1 := by
  intro p l e R s mi args below meth c Q m z L xs D dA ad pc len a b n ls ls' st st' M M' g pc' i lsC H locs cells slots hX hd hk hs hs0 hn hg hJ hL hV hph hR kk
  obtain ⟨⟨hx, hb, hml, hown, hlocks, hnm, hret⟩, hK, hF, had, hz⟩ := hX
  cases hn
  have kk := kk lsC H locs cells slots hJ hL hV rfl rfl
  simp only [pm_dk] at hk
  split at hk
  · simp only [Bool.and_eq_true, decide_eq_true_eq, beq_iff_eq] at hk
    obtain ⟨h1, rfl⟩ := hk
    exact lv_iconst hx hb hd h1 kk
  · simp only [Bool.and_eq_true, decide_eq_true_eq, beq_iff_eq] at hk
    obtain ⟨h1, rfl⟩ := hk
    exact lv_bipush hx hb hd h1 kk
  · simp only [Bool.and_eq_true, decide_eq_true_eq, beq_iff_eq] at hk
    obtain ⟨h1, rfl⟩ := hk
    exact lv_sipush hx hb hd h1 kk
  · simp only [Bool.and_eq_true, decide_eq_true_eq, beq_iff_eq] at hk
    obtain ⟨h1, rfl⟩ := hk
    rw [Option.map_eq_some_iff] at h1
    obtain ⟨⟨w, j⟩, h1, rfl⟩ := h1
    exact lv_ldc hx hb hown (hF.1 _ _ (pm_Ts_of _ (pm_ck_ok _ (pm_lk h1)) rfl)) hd kk
  · cases hk
theorem pm_s2 : pm_Snd 2 := by
  intro p l e R s mi args below meth c Q m z L xs D dA ad pc len a b n ls ls' st st' M M' g pc' i lsC H locs cells slots hX hd hk hs hs0 hn hg hJ hL hV hph hR kk
  obtain ⟨⟨hx, hb, hml, hown, hlocks, hnm, hret⟩, hK, hF, had, hz⟩ := hX
  simp only [pm_next, pm_li] at hn
  split at hn
  · rename_i v hv
    cases hn
    have kk := kk lsC H locs cells slots hJ hL hV rfl rfl
    have hl := hL.2.2 _ _ hv
    simp only [pm_dk] at hk
    split at hk
    · simp only [Bool.and_eq_true, beq_iff_eq] at hk
      obtain ⟨h1, rfl⟩ := hk
      exact lv_iload_n hx hb hd h1 hl kk
    · simp only [Bool.and_eq_true, beq_iff_eq] at hk
      obtain ⟨h1, rfl⟩ := hk
      subst h1
      exact lv_iload hx hb hd hl kk
    · cases hk
  · cases hn
theorem pm_s3 : pm_Snd 3 := by
  intro p l e R s mi args below meth c Q m z L xs D dA ad pc len a b n ls ls' st st' M M' g pc' i lsC H locs cells slots hX hd hk hs hs0 hn hg hJ hL hV hph hR kk
  obtain ⟨⟨hx, hb, hml, hown, hlocks, hnm, hret⟩, hK, hF, had, hz⟩ := hX
  simp only [pm_next, pm_lr] at hn
  split at hn
  · rename_i v hv
    cases hn
    have kk := kk lsC H locs cells slots hJ hL hV rfl rfl
    have hl := hL.2.2 _ _ hv
    simp only [pm_dk] at hk
    split at hk
    · simp only [Bool.and_eq_true, beq_iff_eq] at hk
      obtain ⟨h1, rfl⟩ := hk
      exact lv_aload_n hx hb hd h1 hl kk
    · simp only [Bool.and_eq_true, beq_iff_eq] at hk
      obtain ⟨h1, rfl⟩ := hk
      subst h1
      exact lv_aload hx hb hd hl kk
    · cases hk
  · cases hn
theorem pm_s4 : pm_Snd 4 := by
  intro p l e R s mi args below meth c Q m z L xs D dA ad pc len a b n ls ls' st st' M M' g pc' i lsC H locs cells slots hX hd hk hs hs0 hn hg hJ hL hV hph hR kk
  obtain ⟨⟨hx, hb, hml, hown, hlocks, hnm, hret⟩, hK, hF, had, hz⟩ := hX
  simp only [pm_next, pm_ll] at hn
  split at hn
  · rename_i v hv
    cases hn
    have kk := kk lsC H locs cells slots hJ hL hV rfl rfl
    have hl := hL.2.2 _ _ hv
    simp only [pm_dk] at hk
    split at hk
    · simp only [Bool.and_eq_true, beq_iff_eq] at hk
      obtain ⟨h1, rfl⟩ := hk
      exact lv_lload_n hx hb hd h1 hl kk
    · simp only [Bool.and_eq_true, beq_iff_eq] at hk
      obtain ⟨h1, rfl⟩ := hk
      subst h1
      exact lv_lload hx hb hd hl kk
    · cases hk
  · cases hn
theorem pm_s5 : pm_Snd 5 := by
  intro p l e R s mi args below meth c Q m z L xs D dA ad pc len a b n ls ls' st st' M M' g pc' i lsC H locs cells slots hX hd hk hs hs0 hn hg hJ hL hV hph hR kk
  obtain ⟨⟨hx, hb, hml, hown, hlocks, hnm, hret⟩, hK, hF, had, hz⟩ := hX
  simp only [pm_next, pm_k1] at hn
  split at hn
  · rename_i v t
    cases hn
    have hJ' : pm_J m (ls.set a (some (.int v))) := hJ.set (fun w hw => by cases hw; exact fun q => by cases q)
    simp only [pm_dk] at hk
    split at hk
    · simp only [Bool.and_eq_true, beq_iff_eq] at hk
      obtain ⟨h1, rfl⟩ := hk
      exact lv_istore_n hx hb hd h1 hL.has hg rfl (fun lsC' h' => kk lsC' H locs cells slots hJ' (pm_LV.set hJ (hs (by decide)) (fun w hw => by cases hw; rfl) h') hV rfl rfl)
    · simp only [Bool.and_eq_true, beq_iff_eq] at hk
      obtain ⟨h1, rfl⟩ := hk
      subst h1
      exact lv_istore hx hb hd hL.has hg rfl (fun lsC' h' => kk lsC' H locs cells slots hJ' (pm_LV.set hJ (hs (by decide)) (fun w hw => by cases hw; rfl) h') hV rfl rfl)
    · cases hk
  · cases hn
theorem pm_s6 : pm_Snd 6 := by
  intro p l e R s mi args below meth c Q m z L xs D dA ad pc len a b n ls ls' st st' M M' g pc' i lsC H locs cells slots hX hd hk hs hs0 hn hg hJ hL hV hph hR kk
  obtain ⟨⟨hx, hb, hml, hown, hlocks, hnm, hret⟩, hK, hF, had, hz⟩ := hX
  simp only [pm_next, pm_kr] at hn
  split at hn
  · rename_i v t
    cases hn
    have hJ' : pm_J m (ls.set a (some (.ref v))) := hJ.set (fun w hw => by cases hw; exact fun q => by cases q)
    simp only [pm_dk] at hk
    split at hk
    · simp only [Bool.and_eq_true, beq_iff_eq] at hk
      obtain ⟨h1, rfl⟩ := hk
      exact lv_astore_n hx hb hd h1 hL.has hg rfl (fun lsC' h' => kk lsC' H locs cells slots hJ' (pm_LV.set hJ (hs (by decide)) (fun w hw => by cases hw; rfl) h') hV rfl rfl)
    · simp only [Bool.and_eq_true, beq_iff_eq] at hk
      obtain ⟨h1, rfl⟩ := hk
      subst h1
      exact lv_astore hx hb hd hL.has hg rfl (fun lsC' h' => kk lsC' H locs cells slots hJ' (pm_LV.set hJ (hs (by decide)) (fun w hw => by cases hw; rfl) h') hV rfl rfl)
    · cases hk
  · cases hn
theorem pm_lvs_ix {ad : Nat → Nat} {ls : pm_Loc} {i : Nat} {v : Value} (h : pm_get ls i = some v) : ∃ k : Nat, (pm_lvs ad ls)[k]? = some (i, pm_cz ad v) := List.getElem?_of_mem (pm_lvs_mem h)
theorem pm_s8 : pm_Snd 8 := by
  intro p l e R s mi args below meth c Q m z L xs D dA ad pc len a b n ls ls' st st' M M' g pc' i lsC H locs cells slots hX hd hk hs hs0 hn hg hJ hL hV hph hR kk
  obtain ⟨⟨hx, hb, hml, hown, hlocks, hnm, hret⟩, hK, hF, had, hz⟩ := hX
  simp only [pm_next, pm_li] at hn
  split at hn
  · rename_i v hv
    cases hn
    have hJ' : pm_J m (ls.set a (some (.int (v + n)))) := hJ.set (fun w hw => by cases hw; exact fun q => by cases q)
    simp only [pm_dk] at hk
    split at hk
    · simp only [Bool.and_eq_true, decide_eq_true_eq, beq_iff_eq] at hk
      obtain ⟨⟨h1, h2⟩, rfl⟩ := hk
      subst h1
      obtain ⟨k, hk9⟩ := pm_lvs_ix (ad := ad) hv
      exact lv_iinc (v := v + n) hx hb hd hL.has hk9 (by rw [h2]) (pm_get_lt hv) rfl (fun lsC' h' => kk lsC' H locs cells slots hJ' (pm_LV.set hJ (hs (by decide)) (fun w hw => by cases hw; rfl) h') hV rfl rfl)
    · cases hk
  · cases hn
theorem pm_s9 : pm_Snd 9 := by
  intro p l e R s mi args below meth c Q m z L xs D dA ad pc len a b n ls ls' st st' M M' g pc' i lsC H locs cells slots hX hd hk hs hs0 hn hg hJ hL hV hph hR kk
  obtain ⟨⟨hx, hb, hml, hown, hlocks, hnm, hret⟩, hK, hF, had, hz⟩ := hX
  simp only [pm_next, pm_k2] at hn
  split at hn
  · rename_i y x t
    cases hn
    have kk := kk lsC H locs cells slots hJ hL hV rfl rfl
    simp only [pm_dk, Bool.and_eq_true, decide_eq_true_eq, beq_iff_eq] at hk
    obtain ⟨rfl, rfl⟩ := hk
    exact lv_iadd hx hb hd kk
  · cases hn
theorem pm_s10 : pm_Snd 10 := by
  intro p l e R s mi args below meth c Q m z L xs D dA ad pc len a b n ls ls' st st' M M' g pc' i lsC H locs cells slots hX hd hk hs hs0 hn hg hJ hL hV hph hR kk
  obtain ⟨⟨hx, hb, hml, hown, hlocks, hnm, hret⟩, hK, hF, had, hz⟩ := hX
  simp only [pm_next, pm_k2] at hn
  split at hn
  · rename_i y x t
    cases hn
    have kk := kk lsC H locs cells slots hJ hL hV rfl rfl
    simp only [pm_dk, Bool.and_eq_true, decide_eq_true_eq, beq_iff_eq] at hk
    obtain ⟨rfl, rfl⟩ := hk
    exact lv_isub hx hb hd kk
  · cases hn
theorem pm_s11 : pm_Snd 11 := by
  intro p l e R s mi args below meth c Q m z L xs D dA ad pc len a b n ls ls' st st' M M' g pc' i lsC H locs cells slots hX hd hk hs hs0 hn hg hJ hL hV hph hR kk
  obtain ⟨⟨hx, hb, hml, hown, hlocks, hnm, hret⟩, hK, hF, had, hz⟩ := hX
  simp only [pm_next, pm_k2] at hn
  split at hn
  · rename_i y x t
    cases hn
    have kk := kk lsC H locs cells slots hJ hL hV rfl rfl
    simp only [pm_dk, Bool.and_eq_true, decide_eq_true_eq, beq_iff_eq] at hk
    obtain ⟨rfl, rfl⟩ := hk
    exact lv_imul hx hb hd kk
  · cases hn
theorem pm_s14 : pm_Snd 14 := by
  intro p l e R s mi args below meth c Q m z L xs D dA ad pc len a b n ls ls' st st' M M' g pc' i lsC H locs cells slots hX hd hk hs hs0 hn hg hJ hL hV hph hR kk
  obtain ⟨⟨hx, hb, hml, hown, hlocks, hnm, hret⟩, hK, hF, had, hz⟩ := hX
  simp only [pm_next, pm_k2] at hn
  split at hn
  · rename_i y x t
    cases hn
    have kk := kk lsC H locs cells slots hJ hL hV rfl rfl
    simp only [pm_dk, Bool.and_eq_true, decide_eq_true_eq, beq_iff_eq] at hk
    obtain ⟨rfl, rfl⟩ := hk
    exact lv_iand hx hb hd kk
  · cases hn
theorem pm_s17 : pm_Snd 17 := by
  intro p l e R s mi args below meth c Q m z L xs D dA ad pc len a b n ls ls' st st' M M' g pc' i lsC H locs cells slots hX hd hk hs hs0 hn hg hJ hL hV hph hR kk
  obtain ⟨⟨hx, hb, hml, hown, hlocks, hnm, hret⟩, hK, hF, had, hz⟩ := hX
  simp only [pm_next, pm_k2] at hn
  split at hn
  · rename_i y x t
    cases hn
    have kk := kk lsC H locs cells slots hJ hL hV rfl rfl
    simp only [pm_dk, Bool.and_eq_true, decide_eq_true_eq, beq_iff_eq] at hk
    obtain ⟨rfl, rfl⟩ := hk
    exact lv_ishr hx hb hd kk
  · cases hn
theorem pm_s12 : pm_Snd 12 := by
  intro p l e R s mi args below meth c Q m z L xs D dA ad pc len a b n ls ls' st st' M M' g pc' i lsC H locs cells slots hX hd hk hs hs0 hn hg hJ hL hV hph hR kk
  obtain ⟨⟨hx, hb, hml, hown, hlocks, hnm, hret⟩, hK, hF, had, hz⟩ := hX
  simp only [pm_next, pm_k2] at hn
  split at hn
  · rename_i y x t
    cases hn
    have kk := kk lsC H locs cells slots hJ hL hV rfl rfl
    simp only [pm_dk, Bool.and_eq_true, decide_eq_true_eq, beq_iff_eq] at hk
    obtain ⟨rfl, rfl⟩ := hk
    exact lv_idiv hx hb hd hg kk
  · cases hn
theorem pm_s13 : pm_Snd 13 := by
  intro p l e R s mi args below meth c Q m z L xs D dA ad pc len a b n ls ls' st st' M M' g pc' i lsC H locs cells slots hX hd hk hs hs0 hn hg hJ hL hV hph hR kk
  obtain ⟨⟨hx, hb, hml, hown, hlocks, hnm, hret⟩, hK, hF, had, hz⟩ := hX
  simp only [pm_next, pm_k2] at hn
  split at hn
  · rename_i y x t
    cases hn
    have kk := kk lsC H locs cells slots hJ hL hV rfl rfl
    simp only [pm_dk, Bool.and_eq_true, decide_eq_true_eq, beq_iff_eq] at hk
    obtain ⟨rfl, rfl⟩ := hk
    exact lv_irem hx hb hd hg kk
  · cases hn
theorem pm_s18 : pm_Snd 18 := by
  intro p l e R s mi args below meth c Q m z L xs D dA ad pc len a b n ls ls' st st' M M' g pc' i lsC H locs cells slots hX hd hk hs hs0 hn hg hJ hL hV hph hR kk
  obtain ⟨⟨hx, hb, hml, hown, hlocks, hnm, hret⟩, hK, hF, had, hz⟩ := hX
  simp only [pm_next, pm_k2] at hn
  split at hn
  · rename_i y x t
    cases hn
    have kk := kk lsC H locs cells slots hJ hL hV rfl rfl
    simp only [pm_dk, Bool.and_eq_true, decide_eq_true_eq, beq_iff_eq] at hk
    obtain ⟨rfl, rfl⟩ := hk
    exact lv_iushr hx hb hd rfl kk
  · cases hn
theorem pm_s19 : pm_Snd 19 := by
  intro p l e R s mi args below meth c Q m z L xs D dA ad pc len a b n ls ls' st st' M M' g pc' i lsC H locs cells slots hX hd hk hs hs0 hn hg hJ hL hV hph hR kk
  obtain ⟨⟨hx, hb, hml, hown, hlocks, hnm, hret⟩, hK, hF, had, hz⟩ := hX
  simp only [pm_next, pm_k1] at hn
  split at hn
  · rename_i x t
    cases hn
    have kk := kk lsC H locs cells slots hJ hL hV rfl rfl
    simp only [pm_dk, Bool.and_eq_true, decide_eq_true_eq, beq_iff_eq] at hk
    obtain ⟨rfl, rfl⟩ := hk
    exact lv_i2b hx hb hd rfl kk
  · cases hn
theorem pm_s20 : pm_Snd 20 := by
  intro p l e R s mi args below meth c Q m z L xs D dA ad pc len a b n ls ls' st st' M M' g pc' i lsC H locs cells slots hX hd hk hs hs0 hn hg hJ hL hV hph hR kk
  obtain ⟨⟨hx, hb, hml, hown, hlocks, hnm, hret⟩, hK, hF, had, hz⟩ := hX
  simp only [pm_next, pm_k1] at hn
  split at hn
  · rename_i x t
    cases hn
    have kk := kk lsC H locs cells slots hJ hL hV rfl rfl
    simp only [pm_dk, Bool.and_eq_true, decide_eq_true_eq, beq_iff_eq] at hk
    obtain ⟨rfl, rfl⟩ := hk
    exact lv_i2l hx hb hd rfl kk
  · cases hn
theorem pm_s21 : pm_Snd 21 := by
  intro p l e R s mi args below meth c Q m z L xs D dA ad pc len a b n ls ls' st st' M M' g pc' i lsC H locs cells slots hX hd hk hs hs0 hn hg hJ hL hV hph hR kk
  obtain ⟨⟨hx, hb, hml, hown, hlocks, hnm, hret⟩, hK, hF, had, hz⟩ := hX
  simp only [pm_next, pm_kl] at hn
  split at hn
  · rename_i x t
    cases hn
    have kk := kk lsC H locs cells slots hJ hL hV rfl rfl
    simp only [pm_dk, Bool.and_eq_true, decide_eq_true_eq, beq_iff_eq] at hk
    obtain ⟨rfl, rfl⟩ := hk
    exact lv_l2i hx hb hd rfl kk
  · cases hn
theorem pm_s22 : pm_Snd 22 := by
  intro p l e R s mi args below meth c Q m z L xs D dA ad pc len a b n ls ls' st st' M M' g pc' i lsC H locs cells slots hX hd hk hs hs0 hn hg hJ hL hV hph hR kk
  obtain ⟨⟨hx, hb, hml, hown, hlocks, hnm, hret⟩, hK, hF, had, hz⟩ := hX
  simp only [pm_next, pm_k1] at hn
  split at hn
  · rename_i x t
    cases hn
    have kk := kk lsC H locs cells slots hJ hL hV rfl rfl
    simp only [pm_dk, Bool.and_eq_true, decide_eq_true_eq, beq_iff_eq] at hk
    obtain ⟨rfl, rfl⟩ := hk
    exact lv_i2c hx hb hd rfl kk
  · cases hn
theorem pm_s23 : pm_Snd 23 := by
  intro p l e R s mi args below meth c Q m z L xs D dA ad pc len a b n ls ls' st st' M M' g pc' i lsC H locs cells slots hX hd hk hs hs0 hn hg hJ hL hV hph hR kk
  obtain ⟨⟨hx, hb, hml, hown, hlocks, hnm, hret⟩, hK, hF, had, hz⟩ := hX
  simp only [pm_next, pm_kli] at hn
  split at hn
  · rename_i y x t
    cases hn
    have kk := kk lsC H locs cells slots hJ hL hV rfl rfl
    simp only [pm_dk, Bool.and_eq_true, decide_eq_true_eq, beq_iff_eq] at hk
    obtain ⟨rfl, rfl⟩ := hk
    exact lv_lshl hx hb hd rfl kk
  · cases hn
theorem pm_s24 : pm_Snd 24 := by
  intro p l e R s mi args below meth c Q m z L xs D dA ad pc len a b n ls ls' st st' M M' g pc' i lsC H locs cells slots hX hd hk hs hs0 hn hg hJ hL hV hph hR kk
  obtain ⟨⟨hx, hb, hml, hown, hlocks, hnm, hret⟩, hK, hF, had, hz⟩ := hX
  simp only [pm_next, pm_kli] at hn
  split at hn
  · rename_i y x t
    cases hn
    have kk := kk lsC H locs cells slots hJ hL hV rfl rfl
    simp only [pm_dk, Bool.and_eq_true, decide_eq_true_eq, beq_iff_eq] at hk
    obtain ⟨rfl, rfl⟩ := hk
    exact lv_lushr hx hb hd rfl kk
  · cases hn
theorem pm_s28 : pm_Snd 28 := by
  intro p l e R s mi args below meth c Q m z L xs D dA ad pc len a b n ls ls' st st' M M' g pc' i lsC H locs cells slots hX hd hk hs hs0 hn hg hJ hL hV hph hR kk
  obtain ⟨⟨hx, hb, hml, hown, hlocks, hnm, hret⟩, hK, hF, had, hz⟩ := hX
  simp only [pm_next, pm_kli] at hn
  split at hn
  · rename_i y x t
    cases hn
    have kk := kk lsC H locs cells slots hJ hL hV rfl rfl
    simp only [pm_dk, Bool.and_eq_true, decide_eq_true_eq, beq_iff_eq] at hk
    obtain ⟨rfl, rfl⟩ := hk
    exact lv_lshr hx hb hd rfl kk
  · cases hn
theorem pm_s25 : pm_Snd 25 := by
  intro p l e R s mi args below meth c Q m z L xs D dA ad pc len a b n ls ls' st st' M M' g pc' i lsC H locs cells slots hX hd hk hs hs0 hn hg hJ hL hV hph hR kk
  obtain ⟨⟨hx, hb, hml, hown, hlocks, hnm, hret⟩, hK, hF, had, hz⟩ := hX
  simp only [pm_next, pm_kll] at hn
  split at hn
  · rename_i y x t
    cases hn
    have kk := kk lsC H locs cells slots hJ hL hV rfl rfl
    simp only [pm_dk, Bool.and_eq_true, decide_eq_true_eq, beq_iff_eq] at hk
    obtain ⟨rfl, rfl⟩ := hk
    exact lv_land hx hb hd kk
  · cases hn
theorem pm_s26 : pm_Snd 26 := by
  intro p l e R s mi args below meth c Q m z L xs D dA ad pc len a b n ls ls' st st' M M' g pc' i lsC H locs cells slots hX hd hk hs hs0 hn hg hJ hL hV hph hR kk
  obtain ⟨⟨hx, hb, hml, hown, hlocks, hnm, hret⟩, hK, hF, had, hz⟩ := hX
  simp only [pm_next, pm_kll] at hn
  split at hn
  · rename_i y x t
    cases hn
    have kk := kk lsC H locs cells slots hJ hL hV rfl rfl
    simp only [pm_dk, Bool.and_eq_true, decide_eq_true_eq, beq_iff_eq] at hk
    obtain ⟨rfl, rfl⟩ := hk
    exact lv_lor hx hb hd kk
  · cases hn
theorem pm_s27 : pm_Snd 27 := by
  intro p l e R s mi args below meth c Q m z L xs D dA ad pc len a b n ls ls' st st' M M' g pc' i lsC H locs cells slots hX hd hk hs hs0 hn hg hJ hL hV hph hR kk
  obtain ⟨⟨hx, hb, hml, hown, hlocks, hnm, hret⟩, hK, hF, had, hz⟩ := hX
  simp only [pm_next, pm_kll] at hn
  split at hn
  · rename_i y x t
    cases hn
    have kk := kk lsC H locs cells slots hJ hL hV rfl rfl
    simp only [pm_dk, Bool.and_eq_true, decide_eq_true_eq, beq_iff_eq] at hk
    obtain ⟨rfl, rfl⟩ := hk
    exact W.lcmp hx hb hd kk
  · cases hn
theorem pm_s30 : pm_Snd 30 := by
  intro p l e R s mi args below meth c Q m z L xs D dA ad pc len a b n ls ls' st st' M M' g pc' i lsC H locs cells slots hX hd hk hs hs0 hn hg hJ hL hV hph hR kk
  obtain ⟨⟨hx, hb, hml, hown, hlocks, hnm, hret⟩, hK, hF, had, hz⟩ := hX
  simp only [pm_next, pm_k1] at hn
  split at hn
  · rename_i x t
    cases hn
    have kk := kk lsC H locs cells slots hJ hL hV rfl rfl
    simp only [pm_dk, Bool.and_eq_true, decide_eq_true_eq, beq_iff_eq] at hk
    obtain ⟨rfl, rfl⟩ := hk
    exact lv_dup hx hb hd rfl kk
  · cases hn
theorem pm_s31 : pm_Snd 31 := by
  intro p l e R s mi args below meth c Q m z L xs D dA ad pc len a b n ls ls' st st' M M' g pc' i lsC H locs cells slots hX hd hk hs hs0 hn hg hJ hL hV hph hR kk
  obtain ⟨⟨hx, hb, hml, hown, hlocks, hnm, hret⟩, hK, hF, had, hz⟩ := hX
  simp only [pm_next, pm_k1] at hn
  split at hn
  · rename_i x t
    cases hn
    have kk := kk lsC H locs cells slots hJ hL hV rfl rfl
    simp only [pm_dk, Bool.and_eq_true, decide_eq_true_eq, beq_iff_eq] at hk
    obtain ⟨rfl, rfl⟩ := hk
    exact lv_pop hx hb hd rfl kk
  · cases hn
theorem pm_s32 : pm_Snd 32 := by
  intro p l e R s mi args below meth c Q m z L xs D dA ad pc len a b n ls ls' st st' M M' g pc' i lsC H locs cells slots hX hd hk hs hs0 hn hg hJ hL hV hph hR kk
  obtain ⟨⟨hx, hb, hml, hown, hlocks, hnm, hret⟩, hK, hF, had, hz⟩ := hX
  simp only [pm_next, pm_kr] at hn
  split at hn
  · rename_i x t
    cases hn
    have kk := kk lsC H locs cells slots hJ hL hV rfl rfl
    simp only [pm_dk, Bool.and_eq_true, decide_eq_true_eq, beq_iff_eq] at hk
    obtain ⟨rfl, rfl⟩ := hk
    exact lv_dup hx hb hd rfl kk
  · cases hn
theorem pm_s34 : pm_Snd 34 := by
  intro p l e R s mi args below meth c Q m z L xs D dA ad pc len a b n ls ls' st st' M M' g pc' i lsC H locs cells slots hX hd hk hs hs0 hn hg hJ hL hV hph hR kk
  obtain ⟨⟨hx, hb, hml, hown, hlocks, hnm, hret⟩, hK, hF, had, hz⟩ := hX
  simp only [pm_next, pm_kri] at hn
  split at hn
  · rename_i j x t
    cases hn
    have kk := kk lsC H locs cells slots hJ hL hV rfl rfl
    simp only [pm_dk, Bool.and_eq_true, decide_eq_true_eq, beq_iff_eq] at hk
    obtain ⟨rfl, rfl⟩ := hk
    exact lv_dup2_11 hx hb hd rfl rfl kk
  · cases hn
theorem pm_w255 : tables_1[850]? = some (.constantLong "CardWorkshopModel" 78 255) := by decide +kernel
theorem pm_wmask : tables_1[1060]? = some (.constantLong "CardWorkshopLaw" 46 4294967295) := by decide +kernel
theorem pm_s15 : pm_Snd 15 := by
  intro p l e R s mi args below meth c Q m z L xs D dA ad pc len a b n ls ls' st st' M M' g pc' i lsC H locs cells slots hX hd hk hs hs0 hn hg hJ hL hV hph hR kk
  obtain ⟨⟨hx, hb, hml, hown, hlocks, hnm, hret⟩, hK, hF, had, hz⟩ := hX
  cases hn
  have kk := kk lsC H locs cells slots hJ hL hV rfl rfl
  simp only [pm_dk] at hk
  split at hk
  · simp only [Bool.and_eq_true, decide_eq_true_eq, beq_iff_eq] at hk
    obtain ⟨⟨h1, rfl⟩, rfl⟩ := hk
    rw [h1] at hown
    exact lv_ldc2 hx hb hown (hF.1 _ _ (pm_Ts_of _ pm_wmask rfl)) hd kk
  · cases hk
theorem pm_s29 : pm_Snd 29 := by
  intro p l e R s mi args below meth c Q m z L xs D dA ad pc len a b n ls ls' st st' M M' g pc' i lsC H locs cells slots hX hd hk hs hs0 hn hg hJ hL hV hph hR kk
  obtain ⟨⟨hx, hb, hml, hown, hlocks, hnm, hret⟩, hK, hF, had, hz⟩ := hX
  cases hn
  have kk := kk lsC H locs cells slots hJ hL hV rfl rfl
  simp only [pm_dk] at hk
  split at hk
  · simp only [Bool.and_eq_true, decide_eq_true_eq, beq_iff_eq] at hk
    obtain ⟨⟨⟨h1, rfl⟩, rfl⟩, rfl⟩ := hk
    rw [show (255 : Int32).toInt64 = 255 by decide] at kk
    rw [h1] at hown
    exact lv_ldc2 hx hb hown (hF.1 _ _ (pm_Ts_of _ pm_w255 rfl)) hd kk
  · cases hk
