/-! SOUNDNESS: what the pure machine comes to, the JVM comes to -/
theorem pm_ends : ∀ m, m < 139 → (pm_cdl.getD m []).all (fun e => (!(e.2.1 == 64) || decide (pm_rt m = some (pm_ty e.2.2.2.1))) && (!(e.2.1 == 63) || decide (pm_rt m = none)) && (!(e.2.1 == 67) || (decide (e.2.2.2.1 < 4) && decide (pm_hh m = [])))) = true := by decide +kernel
theorem pm_lk_mem {l : List (Nat × pm_I)} {pc : Nat} {i : pm_I} (h : l.lookup pc = some i) : (pc, i) ∈ l := pm_lk h
theorem pm_end {m pc op len a b : Nat} {n : Int32} (h : pm_cd m pc = some (op, len, a, b, n)) : (op = 64 → pm_rt m = some (pm_ty a)) ∧ (op = 63 → pm_rt m = none) ∧ (op = 67 → a < 4 ∧ pm_hh m = []) := by
  have h1 := List.all_eq_true.mp (pm_ends m (pm_cd_lt h)) _ (pm_lk h)
  simp only [Bool.and_eq_true, Bool.or_eq_true, Bool.not_eq_true', beq_eq_false_iff_ne, decide_eq_true_eq] at h1
  refine ⟨fun q => ?_, fun q => ?_, fun q => ?_⟩
  · exact h1.1.1.resolve_left (fun w => w q)
  · exact h1.1.2.resolve_left (fun w => w q)
  · exact h1.2.resolve_left (fun w => w q)
def pm_mn (M : pm_Mem) (r : pm_Res) : Prop := (M.1 ≤ r.2.1 ∧ r.2.1 ≤ pm_n ∧ pm_ct M ≤ pm_ct r.2) ∧ ∀ k, r.1 = .inr k → k < 4
theorem pm_ct_tk {M : pm_Mem} : pm_ct (pm_tk M) = pm_ct M + 1 := by
  show (pm_upR M.2.2.1 30000 0 (some (pm_ct M + 1)) 30000 0).getD 0 = _
  simp [pm_upR]
theorem pm_N_mono {C : Nat → List Value → pm_Mem → pm_Res → Prop} {m : Nat} (hC : ∀ k as M q, C k as M q → M.1 ≤ pm_n → pm_mn M q) : ∀ n pc ls st M r, pm_N C m n pc ls st M r → M.1 ≤ pm_n → pm_mn M r := by
  intro n
  induction n with
  | zero => intro pc ls st M r h; exact h.elim
  | succ n ih =>
    intro pc ls st M r h hM
    simp only [pm_N, pm_stp] at h
    split at h
    · exact h.elim
    · rename_i op len a b nn hcd
      split at h
      · obtain ⟨-, q, hq, -, h5⟩ := h
        have hm := hC _ _ _ _ hq hM
        obtain ⟨v | k, M1⟩ := q
        · have h6 := ih _ _ _ _ _ h5 hm.1.2.1
          exact ⟨⟨Nat.le_trans hm.1.1 h6.1.1, h6.1.2.1, Nat.le_trans hm.1.2.2 h6.1.2.2⟩, h6.2⟩
        · unfold pm_aft at h5
          dsimp only at h5
          split at h5
          · subst h5; exact hm
          · have h6 := ih _ _ _ _ _ h5 hm.1.2.1
            exact ⟨⟨Nat.le_trans hm.1.1 h6.1.1, h6.1.2.1, Nat.le_trans hm.1.2.2 h6.1.2.2⟩, h6.2⟩
      · split at h
        · obtain ⟨-, rfl⟩ := h
          exact ⟨⟨Nat.le_refl _, hM, Nat.le_refl _⟩, fun k hk => by cases hk⟩
        · split at h
          · obtain ⟨v, -, -, rfl⟩ := h
            exact ⟨⟨Nat.le_refl _, hM, Nat.le_refl _⟩, fun k hk => by cases hk⟩
          · split at h
            · rename_i h67
              obtain ⟨-, rfl⟩ := h
              refine ⟨⟨Nat.le_refl _, hM, by show _ ≤ pm_ct (pm_tk M); rw [pm_ct_tk]; omega⟩, fun k hk => ?_⟩
              cases hk
              exact ((pm_end hcd).2.2 h67).1
            · split at h
              · exact h.elim
              · rename_i g s hn
                obtain ⟨hg, h⟩ := h
                obtain ⟨pc', ls', st', M'⟩ := s
                have h7 := pm_next_mono hn hg hM
                have h6 := ih _ _ _ _ _ h h7.1.2
                refine ⟨⟨Nat.le_trans h7.1.1 h6.1.1, h6.1.2.1, ?_⟩, h6.2⟩
                rw [← h7.2]
                exact h6.1.2.2
theorem pm_C_mono : ∀ d m as M r, pm_C d m as M r → M.1 ≤ pm_n → pm_mn M r := by
  intro d
  induction d with
  | zero => intro m as M r h; exact h.elim
  | succ d ih =>
    intro m as M r h hM
    obtain ⟨k, h⟩ := h
    exact pm_N_mono ih k _ _ _ _ _ h hM
theorem pm_sl_mono {a b : Nat} (h : a ≤ b) : pm_sl a ≤ pm_sl b := by
  induction h with
  | refl => exact Nat.le_refl _
  | step _ ih => exact Nat.le_trans ih (Nat.le_add_right _ _)
/-! the locals at a method's entry -/
theorem pm_get_cons0 {x : Option Value} {t : pm_Loc} : pm_get (x :: t) 0 = x := by
  unfold pm_get
  cases x <;> rfl
theorem pm_get_consS {x : Option Value} {t : pm_Loc} {i : Nat} : pm_get (x :: t) (i + 1) = pm_get t i := rfl
theorem pm_get_rep {n i : Nat} : pm_get (List.replicate n none) i = none := by
  unfold pm_get
  rw [List.getElem?_replicate]
  split <;> simp_all
theorem pm_get_lay {ad : Nat → Nat} : ∀ (as : List Value) (n i o : Nat) (v : Value), pm_get (pm_lay as ++ List.replicate n none) i = some v → (i + o, pm_cz ad v) ∈ lv_args o (as.map (pm_cz ad)) ∧ (v.category = 2 → i + o ∈ pm_lgs o (as.map (fun v => v.category))) := by
  intro as
  induction as with
  | nil =>
    intro n i o v h
    simp only [pm_lay, List.nil_append, pm_get_rep] at h
    cases h
  | cons w t ih =>
    intro n i o v h
    by_cases hw : w.category = 2
    · simp only [pm_lay, hw, if_true, List.cons_append] at h
      simp only [List.map_cons, lv_args, pm_cz_cat, hw, if_true, pm_lgs]
      match i with
      | 0 =>
        rw [pm_get_cons0] at h
        cases h
        simp
      | 1 =>
        rw [pm_get_consS, pm_get_cons0] at h
        cases h
      | i + 2 =>
        rw [pm_get_consS, pm_get_consS] at h
        have := ih n i (o + 2) v h
        rw [show i + (o + 2) = i + 2 + o by omega] at this
        exact ⟨List.mem_cons_of_mem _ this.1, fun q => List.mem_cons_of_mem _ (this.2 q)⟩
    · simp only [pm_lay, hw, if_false, List.cons_append] at h
      simp only [List.map_cons, lv_args, pm_cz_cat, hw, if_false, pm_lgs]
      match i with
      | 0 =>
        rw [pm_get_cons0] at h
        cases h
        refine ⟨by simp, fun q => absurd q hw⟩
      | i + 1 =>
        rw [pm_get_consS] at h
        have := ih n i (o + 1) v h
        rw [show i + (o + 1) = i + 1 + o by omega] at this
        exact ⟨List.mem_cons_of_mem _ this.1, fun q => this.2 q⟩
theorem pm_lay_len {ad : Nat → Nat} : ∀ (as : List Value), (lg_sl (as.map (pm_cz ad))).length = (pm_lay as).length := by
  intro as
  induction as with
  | nil => rfl
  | cons w t ih =>
    have e : lg_sl ((w :: t).map (pm_cz ad)) = (if (pm_cz ad w).category = 2 then [.val (pm_cz ad w), .second] else [.val (pm_cz ad w)]) ++ lg_sl (t.map (pm_cz ad)) := rfl
    rw [e, List.length_append, ih, pm_cz_cat]
    simp only [pm_lay]
    split <;> simp <;> omega
def pm_sz : List Nat → Nat
  | [] => 0
  | k :: t => (if k = 2 then 2 else 1) + pm_sz t
theorem pm_lay_sz : ∀ (as : List Value), (pm_lay as).length = pm_sz (as.map (fun v => v.category)) := by
  intro as
  induction as with
  | nil => rfl
  | cons w t ih =>
    simp only [pm_lay, List.map_cons, pm_sz]
    split <;> simp [ih] <;> omega
theorem pm_sz_ok : ∀ m, m < 139 → pm_sz (pm_cat m) ≤ pm_ml m := by decide +kernel
theorem pm_entry {m : Nat} {as : List Value} {ad : Nat → Nat} {mi : MethodId} (hm : m < 139) (hsg : pm_sg m as = true) : ∃ lsC, entryFrame mi (as.map (pm_cz ad)).toArray (pm_ml m) = F0 mi 0 lsC [] ∧ pm_J m (pm_ini (pm_ml m) as) ∧ pm_LV ad lsC (pm_ini (pm_ml m) as) := by
  have hc : as.map (fun v => v.category) = pm_cat m := by simpa [pm_sg] using hsg
  have hle := pm_sz_ok m hm
  rw [← hc, ← pm_lay_sz] at hle
  have hlen : (pm_ini (pm_ml m) as).length = pm_ml m := by
    unfold pm_ini
    rw [List.length_append, List.length_replicate]
    omega
  have he := lv_entry (as.map (pm_cz ad)) (n := pm_ml m) (by rw [pm_lay_len]; exact hle)
  refine ⟨_, lg_entry_eq mi (as.map (pm_cz ad)) (pm_ml m), ⟨hlen, fun i v h1 h2 => ?_⟩, ⟨by rw [hlen]; exact he.1, he.2.1, fun i v h1 => ?_⟩⟩
  · have := (pm_get_lay (ad := ad) as _ i 0 v h1).2 h2
    rw [hc] at this
    exact this
  · exact he.2.2 _ (pm_get_lay (ad := ad) as _ i 0 v h1).1
