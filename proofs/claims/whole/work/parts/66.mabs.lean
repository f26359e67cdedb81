/-! TEXTS: the reference's reader, in its methods' pieces -/
def m_pre (T : List Nat) : Nat → Nat → Nat → Nat → List Nat → Option (Nat × Nat × List Nat)
  | 0, p, _, b, W => some (p, b, W)
  | n + 1, p, t, b, W => if nx T p = 33 then (if t < 4 then m_pre T n (p + 1) (t + 1) b (12 :: W) else none)
    else if nx T p = 40 then (if b < 4 then m_pre T n (p + 1) 0 (b + 1) (99 :: W) else none)
    else some (p, b, W)
def m_close (T : List Nat) : Nat → Nat → Nat → List Nat → List (Nat × Nat) → Nat × Nat × List Nat × List (Nat × Nat)
  | 0, p, b, W, K => (p, b, W, K)
  | n + 1, p, b, W, K => if 0 < b ∧ nx T p = 41 then m_close T n (p + 1) (b - 1) (m_rst 6 (m_rst 1 W).tail) (K ++ m_fl 1 W ++ m_fl 6 (m_rst 1 W).tail) else (p, b, W, K)
def m_opd (T : List Nat) (ch : Bool) (p b : Nat) (W : List Nat) (K : List (Nat × Nat)) : Option (Nat × Nat × List Nat × List (Nat × Nat)) :=
  match m_pre T 250 p 0 b W with
  | none => none
  | some (p1, b1, W1) => match m_plain T ch p1 with
    | none => none
    | some x => some (m_close T 250 x.1 b1 (m_rst 6 W1) (K ++ [x.2] ++ m_fl 6 W1))
def m_loop (T : List Nat) (ch : Bool) : Nat → Nat → Nat → List Nat → List (Nat × Nat) → Option (Nat × List (Nat × Nat))
  | 0, p, b, W, K => if 0 < b then none else some (p, K ++ m_fl 1 W)
  | n + 1, p, b, W, K => match m_op (nx T p) with
    | none => if 0 < b then none else some (p, K ++ m_fl 1 W)
    | some o => if m_st o = 3 ∧ m_st (m_tp (m_rst 4 W)) = 3 then none
      else match m_opd T ch (p + 1) b (o :: m_rst (m_lst o) W) (K ++ m_fl (m_lst o) W) with
        | none => none
        | some (p', b', W', K') => m_loop T ch n p' b' W' K'
def m_expr (T : List Nat) (ch : Bool) (p : Nat) (K : List (Nat × Nat)) : Option (Nat × List (Nat × Nat)) :=
  match m_opd T ch p 0 [] K with
  | none => none
  | some (p', b', W', K') => m_loop T ch 250 p' b' W' K'
theorem m_pre_le {T : List Nat} : ∀ m p t b W x, m_pre T m p t b W = some x → p ≤ x.1 := by
  intro m
  induction m with
  | zero =>
    intro p t b W x h
    injection h with h
    subst h
    exact Nat.le_refl _
  | succ m ih =>
    intro p t b W x h
    unfold m_pre at h
    split at h
    · split at h
      · have := ih _ _ _ _ _ h; omega
      · cases h
    · split at h
      · split at h
        · have := ih _ _ _ _ _ h; omega
        · cases h
      · injection h with h
        subst h
        exact Nat.le_refl _
theorem m_plain_ok {T : List Nat} {ch : Bool} {p : Nat} {x : Nat × (Nat × Nat)} (h : m_plain T ch p = some x) : p < x.1 ∧ x.1 ≤ T.length := by
  have hz : ∀ (o : Bool) (z : Nat), (e_zone o (nx T (p + 1))).map (fun y => (p + 2, (z, y))) = some x → p < x.1 ∧ x.1 ≤ T.length := by
    intro o z h
    cases e : e_zone o (nx T (p + 1)) with
    | none => rw [e] at h; cases h
    | some y =>
      rw [e] at h
      injection h with h
      subst h
      have := nx_lt (e_zone_lt e).2.2
      exact ⟨by show p < p + 2; omega, by show p + 2 ≤ _; omega⟩
  unfold m_plain at h
  split at h
  · split at h
    · cases h
    · rename_i y e
      split at h
      · cases h
      · injection h with h
        subst h
        have := e_num_ok e
        exact ⟨this.1, this.2.1⟩
  · split at h
    · rename_i i e
      injection h with h
      subst h
      have := nx_lt (T := T) (p := p) (fun e0 => by rw [e0] at e; cases e)
      exact ⟨by show p < p + 1; omega, by show p + 1 ≤ _; omega⟩
    · split at h
      · exact hz _ _ h
      · split at h
        · exact hz _ _ h
        · split at h
          · exact hz _ _ h
          · cases h
theorem m_close_le {T : List Nat} : ∀ m p b W K, T.length < m + p → p ≤ (m_close T m p b W K).1 ∧ ¬ (0 < (m_close T m p b W K).2.1 ∧ nx T (m_close T m p b W K).1 = 41) := by
  intro m
  induction m with
  | zero =>
    intro p b W K hm
    refine ⟨Nat.le_refl _, fun q => ?_⟩
    have : nx T p = 41 := q.2
    rw [nx_ge (by omega)] at this
    omega
  | succ m ih =>
    intro p b W K hm
    unfold m_close
    split
    · have := ih (p + 1) (b - 1) (m_rst 6 (m_rst 1 W).tail) (K ++ m_fl 1 W ++ m_fl 6 (m_rst 1 W).tail) (by omega)
      exact ⟨by omega, this.2⟩
    · rename_i e
      exact ⟨Nat.le_refl _, e⟩
theorem m_opd_lt {T : List Nat} {ch : Bool} (hT : T.length ≤ 240) {p b : Nat} {W : List Nat} {K : List (Nat × Nat)} {x : Nat × Nat × List Nat × List (Nat × Nat)} (h : m_opd T ch p b W K = some x) : p < x.1 ∧ ¬ (0 < x.2.1 ∧ nx T x.1 = 41) := by
  unfold m_opd at h
  split at h
  · cases h
  · rename_i p1 b1 W1 e1
    split at h
    · cases h
    · rename_i y e2
      injection h with h
      subst h
      have h1 := m_pre_le _ _ _ _ _ _ e1
      have h2 := (m_plain_ok e2).1
      have h3 := m_close_le (T := T) 250 y.1 b1 (m_rst 6 W1) (K ++ [y.2] ++ m_fl 6 W1) (by omega)
      have h1 : p ≤ p1 := h1
      exact ⟨by omega, h3.2⟩
theorem mA_pre {T : List Nat} {ch : Bool} {K : List (Nat × Nat)} : ∀ m p t b W, T.length < m + p → ∃ j, ∀ n, mAB T ch (n + j) true p t b W K = match m_pre T m p t b W with
    | none => none
    | some (p1, b1, W1) => match m_plain T ch p1 with
      | none => none
      | some x => mAB T ch n false x.1 0 b1 (m_rst 6 W1) (K ++ [x.2] ++ m_fl 6 W1) := by
  intro m
  induction m with
  | zero =>
    intro p t b W hm
    have h0 : nx T p = 0 := nx_ge (by omega)
    refine ⟨1, fun n => ?_⟩
    show (if nx T p = 33 then _ else if nx T p = 40 then _ else _) = _
    rw [if_neg (by omega), if_neg (by omega)]
    rfl
  | succ m ih =>
    intro p t b W hm
    unfold m_pre
    by_cases n33 : nx T p = 33
    · rw [if_pos n33]
      by_cases t4 : t < 4
      · rw [if_pos t4]
        obtain ⟨j, hj⟩ := ih (p + 1) (t + 1) b (12 :: W) (by omega)
        refine ⟨j + 1, fun n => ?_⟩
        rw [← hj n]
        show (if nx T p = 33 then (if t < 4 then _ else _) else _) = _
        rw [if_pos n33, if_pos t4]
        rfl
      · rw [if_neg t4]
        refine ⟨1, fun n => ?_⟩
        show (if nx T p = 33 then (if t < 4 then _ else _) else _) = _
        rw [if_pos n33, if_neg t4]
    · rw [if_neg n33]
      by_cases n40 : nx T p = 40
      · rw [if_pos n40]
        by_cases b4 : b < 4
        · rw [if_pos b4]
          obtain ⟨j, hj⟩ := ih (p + 1) 0 (b + 1) (99 :: W) (by omega)
          refine ⟨j + 1, fun n => ?_⟩
          rw [← hj n]
          show (if nx T p = 33 then _ else if nx T p = 40 then (if b < 4 then _ else _) else _) = _
          rw [if_neg n33, if_pos n40, if_pos b4]
          rfl
        · rw [if_neg b4]
          refine ⟨1, fun n => ?_⟩
          show (if nx T p = 33 then _ else if nx T p = 40 then (if b < 4 then _ else _) else _) = _
          rw [if_neg n33, if_pos n40, if_neg b4]
      · rw [if_neg n40]
        refine ⟨1, fun n => ?_⟩
        show (if nx T p = 33 then _ else if nx T p = 40 then _ else _) = _
        rw [if_neg n33, if_neg n40]
        rfl
theorem mB_close {T : List Nat} {ch : Bool} : ∀ m p b W K, ∃ j, ∀ n, mAB T ch (n + j) false p 0 b W K = mAB T ch n false (m_close T m p b W K).1 0 (m_close T m p b W K).2.1 (m_close T m p b W K).2.2.1 (m_close T m p b W K).2.2.2 := by
  intro m
  induction m with
  | zero => intro p b W K; exact ⟨0, fun n => rfl⟩
  | succ m ih =>
    intro p b W K
    unfold m_close
    split
    · rename_i e
      obtain ⟨j, hj⟩ := ih (p + 1) (b - 1) (m_rst 6 (m_rst 1 W).tail) (K ++ m_fl 1 W ++ m_fl 6 (m_rst 1 W).tail)
      refine ⟨j + 1, fun n => ?_⟩
      rw [← hj n]
      show (if 0 < b ∧ nx T p = 41 then _ else _) = _
      rw [if_pos e]
      rfl
    · exact ⟨0, fun n => rfl⟩
theorem mA_opd {T : List Nat} {ch : Bool} (hT : T.length ≤ 240) {p b : Nat} {W : List Nat} {K : List (Nat × Nat)} : ∃ j, ∀ n, mAB T ch (n + j) true p 0 b W K = match m_opd T ch p b W K with
    | none => none
    | some (p', b', W', K') => mAB T ch n false p' 0 b' W' K' := by
  obtain ⟨j, hj⟩ := mA_pre (ch := ch) (K := K) 250 p 0 b W (show T.length < 250 + p by omega)
  unfold m_opd
  cases e1 : m_pre T 250 p 0 b W with
  | none =>
    rw [e1] at hj
    exact ⟨j, hj⟩
  | some y =>
    obtain ⟨p1, b1, W1⟩ := y
    rw [e1] at hj
    simp only [] at hj ⊢
    cases e2 : m_plain T ch p1 with
    | none =>
      rw [e2] at hj
      exact ⟨j, hj⟩
    | some x =>
      rw [e2] at hj
      simp only [] at hj ⊢
      obtain ⟨j', hj'⟩ := mB_close (T := T) (ch := ch) 250 x.1 b1 (m_rst 6 W1) (K ++ [x.2] ++ m_fl 6 W1)
      refine ⟨j' + j, fun n => ?_⟩
      rw [show n + (j' + j) = n + j' + j by omega, hj, hj']
theorem mB_loop {T : List Nat} {ch : Bool} (hT : T.length ≤ 240) : ∀ m p b W K, T.length ≤ m + p → ¬ (0 < b ∧ nx T p = 41) → ∃ j, ∀ n, mAB T ch (n + j) false p 0 b W K = m_loop T ch m p b W K := by
  intro m
  induction m with
  | zero =>
    intro p b W K hm h41
    have h0 : nx T p = 0 := nx_ge (by omega)
    have hno : m_op (nx T p) = none := by rw [h0]; rfl
    refine ⟨1, fun n => ?_⟩
    show (if 0 < b ∧ nx T p = 41 then _ else match m_op (nx T p) with
      | none => if 0 < b then none else some (p, K ++ m_fl 1 W)
      | some o => _) = _
    rw [if_neg h41, hno]
    rfl
  | succ m ih =>
    intro p b W K hm h41
    have hstep : ∀ n, mAB T ch (n + 1) false p 0 b W K = match m_op (nx T p) with
        | none => if 0 < b then none else some (p, K ++ m_fl 1 W)
        | some o => if m_st o = 3 ∧ m_st (m_tp (m_rst 4 W)) = 3 then none else mAB T ch n true (p + 1) 0 b (o :: m_rst (m_lst o) W) (K ++ m_fl (m_lst o) W) := by
      intro n
      show (if 0 < b ∧ nx T p = 41 then _ else _) = _
      rw [if_neg h41]
      rfl
    unfold m_loop
    cases eo : m_op (nx T p) with
    | none =>
      rw [eo] at hstep
      exact ⟨1, hstep⟩
    | some o =>
      rw [eo] at hstep
      simp only [] at hstep ⊢
      by_cases hc : m_st o = 3 ∧ m_st (m_tp (m_rst 4 W)) = 3
      · exact ⟨1, fun n => by rw [hstep n, if_pos hc, if_pos hc]⟩
      · replace hstep := fun n => (hstep n).trans (if_neg hc)
        have eif : ∀ (a : Option (Nat × List (Nat × Nat))), (if m_st o = 3 ∧ m_st (m_tp (m_rst 4 W)) = 3 then none else a) = a := fun a => if_neg hc
        rw [eif]
        obtain ⟨j, hj⟩ := mA_opd (ch := ch) hT (p := p + 1) (b := b) (W := o :: m_rst (m_lst o) W) (K := K ++ m_fl (m_lst o) W)
        cases e1 : m_opd T ch (p + 1) b (o :: m_rst (m_lst o) W) (K ++ m_fl (m_lst o) W) with
        | none =>
          rw [e1] at hj
          refine ⟨j + 1, fun n => ?_⟩
          rw [show n + (j + 1) = n + j + 1 by omega, hstep, hj]
        | some y =>
          obtain ⟨p', b', W', K'⟩ := y
          rw [e1] at hj
          simp only [] at hj ⊢
          have hl := m_opd_lt hT e1
          have hl1 : p + 1 < p' := hl.1
          obtain ⟨j', hj'⟩ := ih p' b' W' K' (by omega) hl.2
          refine ⟨j' + j + 1, fun n => ?_⟩
          rw [show n + (j' + j + 1) = n + j' + j + 1 by omega, hstep, hj, hj']
theorem mA_expr {T : List Nat} {ch : Bool} (hT : T.length ≤ 240) {p : Nat} {K : List (Nat × Nat)} : ∃ j, ∀ n, mAB T ch (n + j) true p 0 0 [] K = m_expr T ch p K := by
  obtain ⟨j, hj⟩ := mA_opd (ch := ch) hT (p := p) (b := 0) (W := []) (K := K)
  unfold m_expr
  cases e1 : m_opd T ch p 0 [] K with
  | none =>
    rw [e1] at hj
    exact ⟨j, hj⟩
  | some y =>
    obtain ⟨p', b', W', K'⟩ := y
    rw [e1] at hj
    simp only [] at hj ⊢
    have hl := m_opd_lt hT e1
    obtain ⟨j', hj'⟩ := mB_loop (ch := ch) hT 250 p' b' W' K' (by omega) hl.2
    refine ⟨j' + j, fun n => ?_⟩
    rw [show n + (j' + j) = n + j' + j by omega, hj, hj']
/-- THE TWO READERS OF EXPRESSIONS -/
theorem m_expr_eq {T : List Nat} (hT : T.length ≤ 240) {ch : Bool} (p : Nat) (K : List (Nat × Nat)) :
    (e_E T ch p = none → m_expr T ch p K = none) ∧ (∀ x, e_E T ch p = some x → m_expr T ch p K = some (x.1, K ++ x.2) ∨ (m_stk 0 (nx T x.1) ∧ m_expr T ch p K = none)) := by
  obtain ⟨j, hj⟩ := mA_expr (ch := ch) hT (p := p) (K := K)
  have hs := sim_E hT (ch := ch) p K
  refine ⟨fun h => ?_, fun x h => ?_⟩
  · obtain ⟨j', hj'⟩ := hs.1 h
    rw [← hj j', show j' + j = j + j' by omega, hj']
  · rcases hs.2 x h with ⟨j', hj'⟩ | ⟨h1, j', hj'⟩
    · left
      rw [← hj j', show j' + j = j + j' by omega, hj']
    · right
      refine ⟨h1, ?_⟩
      rw [← hj j', show j' + j = j + j' by omega, hj']
