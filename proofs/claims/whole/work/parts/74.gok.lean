/-! A GAME THAT WAS READ IS ONE -/
def sgC (K : List (Nat × Nat)) (k n : Nat) (e : Bool) (C : List (Nat × Nat)) : Prop := ∃ Z, K.drop k = C ++ (17, 0) :: Z ∧ a_ty C 0 = some n ∧ (e = true → ∀ q ∈ C, q.1 ≤ 12)
theorem sgC.app {K X C : List (Nat × Nat)} {k n : Nat} {e : Bool} (h : sgC K k n e C) : sgC (K ++ X) k n e C := by
  obtain ⟨Z, h1, h2, h3⟩ := h
  have hk : k ≤ K.length := by
    rcases Nat.lt_or_ge K.length k with h | h
    · rw [List.drop_eq_nil_of_le (by omega)] at h1
      cases C <;> cases h1
    · exact h
  refine ⟨Z ++ X, ?_, h2, h3⟩
  rw [List.drop_append_of_le_length hk, h1, List.append_assoc]
  rfl
theorem take_17 : ∀ {C Z : List (Nat × Nat)}, (∀ q ∈ C, q.1 ≤ 16) → (C ++ (17, 0) :: Z).takeWhile (fun q => !(q.1 == 17)) = C := by
  intro C
  induction C with
  | nil => intro Z _; rfl
  | cons x C ih =>
    intro Z h
    have hx := h x List.mem_cons_self
    have e : (!(x.1 == 17)) = true := by
      have : (x.1 == 17) = false := by simpa using (show x.1 ≠ 17 by omega)
      rw [this]; rfl
    rw [List.cons_append, List.takeWhile_cons, e]
    show x :: _ = _
    rw [ih (fun q hq => h q (List.mem_cons_of_mem _ hq))]
theorem sgC.seg {K C : List (Nat × Nat)} {k n : Nat} {e : Bool} (h : sgC K k n e C) : a_seg K k = C := by
  obtain ⟨Z, h1, h2, -⟩ := h
  unfold a_seg
  rw [h1]
  exact take_17 (a_ty_le h2)
theorem sgC.sg {K C : List (Nat × Nat)} {k n : Nat} {e : Bool} (h : sgC K k n e C) : g_sg K k n e := by
  have hs := h.seg
  obtain ⟨Z, h1, h2, h3⟩ := h
  unfold g_sg
  rw [hs]
  exact ⟨0, Z, h1, h2, h3⟩
def RP (K : List (Nat × Nat)) (R : List (Bool × Nat × Nat)) : Prop := ∀ r, r < R.length → ∃ C1 C2, sgC K (R.getD r (false, 0, 0)).2.1 1 true C1 ∧ sgC K (R.getD r (false, 0, 0)).2.2 0 false C2 ∧ (R.getD r (false, 0, 0)).2.2 = (R.getD r (false, 0, 0)).2.1 + C1.length + 1
theorem RP.app {K X : List (Nat × Nat)} {R : List (Bool × Nat × Nat)} (h : RP K R) : RP (K ++ X) R := fun r hr => by
  obtain ⟨C1, C2, h1, h2, h3⟩ := h r hr
  exact ⟨C1, C2, h1.app, h2.app, h3⟩
theorem e_rules_ok {T : List Nat} : ∀ n p K R x, RP K R → R.length + n ≤ 8 → e_rules T n p K R = some x → RP x.2.1 x.2.2 ∧ x.2.2.length ≤ 8 := by
  intro n
  induction n with
  | zero =>
    intro p K R x h hl hx
    injection hx with hx
    subst hx
    exact ⟨h, by show R.length ≤ 8; omega⟩
  | succ n ih =>
    intro p K R x h hl hx
    unfold e_rules at hx
    split at hx
    · split at hx
      · cases hx
      · rename_i p' C1 C2 er
        have hg := e_rule_ok er
        have g4 : ∀ h, a_ty C1 h = some (h + 1) := hg.2.2.2.1
        have g5 : ∀ q ∈ C1, q.1 ≤ 12 := hg.2.2.2.2.1
        have g6 : ∀ h, a_ty C2 h = some h := hg.2.2.2.2.2
        refine ih _ _ _ _ ?_ (by rw [List.length_append]; show R.length + 1 + n ≤ 8; omega) hx
        intro r hr
        by_cases e : r = R.length
        · subst e
          have eg : (R ++ [(e_isM T p, K.length, K.length + C1.length + 1)]).getD R.length (false, 0, 0) = (e_isM T p, K.length, K.length + C1.length + 1) := by
            rw [List.getD_eq_getElem?_getD, List.getElem?_append_right (by omega)]
            simp
          rw [eg]
          refine ⟨C1, C2, ⟨C2 ++ [(17, 0)], ?_, g4 0, fun _ => g5⟩, ⟨[], ?_, g6 0, fun q => by cases q⟩, rfl⟩
          · show (K ++ C1 ++ [(17, 0)] ++ C2 ++ [(17, 0)]).drop K.length = _
            rw [show K ++ C1 ++ [(17, 0)] ++ C2 ++ [(17, 0)] = K ++ (C1 ++ (17, 0) :: (C2 ++ [(17, 0)])) by simp, List.drop_left]
          · show (K ++ C1 ++ [(17, 0)] ++ C2 ++ [(17, 0)]).drop (K.length + C1.length + 1) = _
            rw [show K ++ C1 ++ [(17, 0)] ++ C2 ++ [(17, 0)] = (K ++ C1 ++ [(17, 0)]) ++ (C2 ++ [(17, 0)]) by simp, show K.length + C1.length + 1 = (K ++ C1 ++ [(17, 0)]).length by simp; omega, List.drop_left]
        · have hr2 : r < R.length := by simp at hr; omega
          have eg : (R ++ [(e_isM T p, K.length, K.length + C1.length + 1)]).getD r (false, 0, 0) = R.getD r (false, 0, 0) := by
            rw [List.getD_eq_getElem?_getD, List.getElem?_append_left hr2, ← List.getD_eq_getElem?_getD]
          rw [eg]
          have := h.app (X := C1 ++ [(17, 0)] ++ C2 ++ [(17, 0)]) r hr2
          rwa [show K ++ (C1 ++ [(17, 0)] ++ C2 ++ [(17, 0)]) = K ++ C1 ++ [(17, 0)] ++ C2 ++ [(17, 0)] by simp] at this
    · injection hx with hx
      subst hx
      exact ⟨h, by show R.length ≤ 8; omega⟩
theorem game_ok {T : List Nat} {G : Gm} (h : e_game T = some G) (hl : G.1.length ≤ 160) : g_ok G ∧ 1 ≤ G.1.length := by
  unfold e_game at h
  split at h
  · rename_i hc
    split at h
    · cases h
    · rename_i x er
      have hx := e_rules_ok 8 4 [] [] x (fun r hr => by simp at hr) (by simp) er
      unfold e_tail at h
      split at h
      · split at h
        · cases h
        · rename_i p' C ee
          split at h
          · injection h with h
            subst h
            have hg := e_expr_ok _ _ _ _ _ ee
            have g4 : ∀ h, a_ty C h = some (h + 1) := hg.2.2.2.2.1
            have g5 : ∀ q ∈ C, q.1 ≤ 12 := hg.2.2.2.2.2
            refine ⟨⟨hl, ⟨by show 1 ≤ nx T 1 - 48; omega, by show nx T 1 - 48 ≤ 4; omega⟩, ⟨by show 1 ≤ nx T 2 - 48; omega, by show nx T 2 - 48 ≤ 6; omega⟩, hx.2, fun r hr => ?_, ?_⟩, by show 1 ≤ (x.2.1 ++ C ++ [(17, 0)]).length; simp; omega⟩
            · obtain ⟨C1, C2, h1, h2, h3⟩ := hx.1.app (X := C ++ [(17, 0)]) r hr
              rw [← List.append_assoc] at h1 h2
              refine ⟨h1.sg, h2.sg, ?_⟩
              show (x.2.2.getD r (false, 0, 0)).2.2 = (x.2.2.getD r (false, 0, 0)).2.1 + (a_seg (x.2.1 ++ C ++ [(17, 0)]) (x.2.2.getD r (false, 0, 0)).2.1).length + 1
              rw [h1.seg]
              exact h3
            · have : sgC (x.2.1 ++ C ++ [(17, 0)]) x.2.1.length 1 true C := ⟨[], by rw [List.append_assoc, List.drop_left], g4 0, fun _ => g5⟩
              exact this.sg
          · cases h
      · cases h
  · cases h
