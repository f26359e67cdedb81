/-! TEXTS: the class's reader, abstract -/
def nx (T : List Nat) (p : Nat) : Nat := T.getD p 0
def TX (T : List Nat) : Prop := T.length ≤ 240 ∧ ∀ c ∈ T, 33 ≤ c ∧ c ≤ 126
theorem nx_lt {T : List Nat} {p : Nat} (h : nx T p ≠ 0) : p < T.length := by
  rcases Nat.lt_or_ge p T.length with h1 | h1
  · exact h1
  · exact absurd (by unfold nx; rw [List.getD_eq_getElem?_getD, List.getElem?_eq_none h1]; rfl) h
theorem nx_126 {T : List Nat} (h : TX T) (p : Nat) : nx T p ≤ 126 := by
  rcases Nat.lt_or_ge p T.length with h1 | h1
  · unfold nx
    rw [List.getD_eq_getElem?_getD, List.getElem?_eq_getElem h1]
    exact (h.2 _ (List.getElem_mem h1)).2
  · unfold nx
    rw [List.getD_eq_getElem?_getD, List.getElem?_eq_none h1]
    exact Nat.zero_le _
theorem nx_ge {T : List Nat} {p : Nat} (h : T.length ≤ p) : nx T p = 0 := by
  unfold nx
  rw [List.getD_eq_getElem?_getD, List.getElem?_eq_none h]
  rfl
/-- where a character stands in a row of them -/
def e_ix : List Nat → Nat → Option Nat
  | [], _ => none
  | x :: S, c => if x = c then some 0 else (e_ix S c).map (· + 1)
def e_W : List Nat := [119, 120, 121, 122]
def e_Z : List Nat := [104, 103, 115, 116, 112, 113]
def e_O : List Nat := [124, 38, 60, 61, 43, 45, 42]
theorem e_ix_lt : ∀ {S : List Nat} {c i : Nat}, e_ix S c = some i → i < S.length ∧ S.getD i 0 = c := by
  intro S
  induction S with
  | nil => intro c i h; cases h
  | cons x S ih =>
    intro c i h
    unfold e_ix at h
    split at h
    · rename_i e
      injection h with h
      subst h
      exact ⟨by simp, e⟩
    · cases h2 : e_ix S c with
      | none => rw [h2] at h; cases h
      | some j =>
        rw [h2] at h
        injection h with h
        subst h
        have := ih h2
        exact ⟨by simp; omega, by simpa using this.2⟩
def e_zone (o : Bool) (c : Nat) : Option Nat := if o = true ∧ c = 99 then some 6 else e_ix e_Z c
def e_dig (c : Nat) : Bool := decide (48 ≤ c ∧ c ≤ 57)
/-- a number of at most three digits -/
def e_num (T : List Nat) (p : Nat) : Option (Nat × Nat) :=
  if e_dig (nx T p) = false then none
  else if e_dig (nx T (p + 1)) = false then some (p + 1, nx T p - 48)
  else if e_dig (nx T (p + 2)) = false then some (p + 2, (nx T p - 48) * 10 + (nx T (p + 1) - 48))
  else some (p + 3, ((nx T p - 48) * 10 + (nx T (p + 1) - 48)) * 10 + (nx T (p + 2) - 48))
def e_nots (T : List Nat) : Nat → Nat → Nat
  | 0, _ => 0
  | n + 1, p => if nx T p = 33 then e_nots T n (p + 1) + 1 else 0
/-- a unit behind its nots -/
def e_core (T : List Nat) (ch : Bool) (rec : Nat → Option (Nat × List (Nat × Nat))) (b p : Nat) : Option (Nat × List (Nat × Nat)) :=
  match e_ix e_W (nx T p) with
  | some i => some (p + 1, [(1, i)])
  | none =>
    if nx T p = 35 then (e_zone false (nx T (p + 1))).map (fun z => (p + 2, [(2, z)]))
    else if nx T p = 114 then (e_zone ch (nx T (p + 1))).map (fun z => (p + 2, [(3, z)]))
    else if nx T p = 117 then (e_zone ch (nx T (p + 1))).map (fun z => (p + 2, [(4, z)]))
    else if b < 4 ∧ nx T p = 40 then (match rec (p + 1) with
      | none => none
      | some (p', C) => if nx T p' = 41 then some (p' + 1, C) else none)
    else (e_num T p).map (fun x => (x.1, [(0, x.2)]))
def e_unit (T : List Nat) (ch : Bool) (rec : Nat → Option (Nat × List (Nat × Nat))) (b p : Nat) : Option (Nat × List (Nat × Nat)) :=
  (e_core T ch rec b (p + e_nots T 4 p)).map (fun x => (x.1, x.2 ++ List.replicate (e_nots T 4 p) (12, 0)))
def e_lv (w : Nat) : Nat := [0, 1, 2, 2, 3, 3, 4].getD w 0
def e_cd (w : Nat) : Nat := [11, 10, 8, 9, 5, 6, 7].getD w 0
def e_ops (T : List Nat) (l : Nat) (rec : Nat → Option (Nat × List (Nat × Nat))) : Nat → Nat → List (Nat × Nat) → Option (Nat × List (Nat × Nat))
  | 0, p, C => some (p, C)
  | n + 1, p, C => match e_ix e_O (nx T p) with
    | none => some (p, C)
    | some w => if e_lv w = l then (match rec (p + 1) with
        | none => none
        | some (p', C') => if l = 2 then some (p', C ++ C' ++ [(e_cd w, 0)]) else e_ops T l rec n p' (C ++ C' ++ [(e_cd w, 0)]))
      else some (p, C)
def e_expr (T : List Nat) (ch : Bool) : Nat → Nat → Nat → Nat → Option (Nat × List (Nat × Nat))
  | 0, _, _, _ => none
  | f + 1, l, b, p => if 5 ≤ l then e_unit T ch (fun p => e_expr T ch f 0 (b + 1) p) b p
    else match e_expr T ch f (l + 1) b p with
      | none => none
      | some (p1, C1) => e_ops T l (fun p => e_expr T ch f (l + 1) b p) 240 p1 C1
/-- what an expression's code is like -/
def e_good (T : List Nat) (p : Nat) (x : Nat × List (Nat × Nat)) : Prop := p < x.1 ∧ x.1 ≤ T.length ∧ x.2.length + p ≤ x.1 ∧ 1 ≤ x.2.length ∧ (∀ h, a_ty x.2 h = some (h + 1)) ∧ ∀ q ∈ x.2, q.1 ≤ 12
theorem e_zone_lt {o : Bool} {c z : Nat} (h : e_zone o c = some z) : z < 7 ∧ (o = false → z < 6) ∧ c ≠ 0 := by
  unfold e_zone at h
  split at h
  · rename_i e
    injection h with h
    subst h
    refine ⟨by decide, fun q => ?_, by omega⟩
    rw [q] at e
    exact absurd e.1 (by decide)
  · have h2 := e_ix_lt h
    have h3 : z < 6 := h2.1
    refine ⟨by omega, fun _ => h3, fun e => ?_⟩
    rw [e] at h
    cases h
theorem e_num_ok {T : List Nat} {p : Nat} {x : Nat × Nat} (h : e_num T p = some x) : p < x.1 ∧ x.1 ≤ T.length ∧ x.2 < 1000 ∧ x.1 ≤ p + 3 ∧ (x.1 = p + 3 ∨ e_dig (nx T x.1) = false) ∧ e_dig (nx T p) = true := by
  have hd : ∀ j, e_dig (nx T j) ≠ false → nx T j - 48 ≤ 9 ∧ j < T.length := by
    intro j hj
    have hj : e_dig (nx T j) = true := by simpa using hj
    have h2 := of_decide_eq_true hj
    exact ⟨by omega, nx_lt (by omega)⟩
  unfold e_num at h
  split at h
  · cases h
  · rename_i e0
    have h0 := hd _ e0
    have et : e_dig (nx T p) = true := by simpa using e0
    split at h
    · rename_i e1
      injection h with h; subst h
      exact ⟨by simp, by simp; omega, by simp; omega, by simp, Or.inr e1, et⟩
    · rename_i e1
      have h1 := hd _ e1
      split at h
      · rename_i e2
        injection h with h; subst h
        exact ⟨by simp, by simp; omega, by simp; omega, by simp, Or.inr e2, et⟩
      · rename_i e2
        have h2 := hd _ e2
        injection h with h; subst h
        exact ⟨by simp, by simp; omega, by simp; omega, by simp, Or.inl rfl, et⟩
theorem e_nots_le (T : List Nat) : ∀ n p, e_nots T n p ≤ n ∧ (e_nots T n p = n ∨ nx T (p + e_nots T n p) ≠ 33) ∧ ∀ j, j < e_nots T n p → nx T (p + j) = 33 := by
  intro n
  induction n with
  | zero => intro p; exact ⟨Nat.le_refl _, Or.inl rfl, fun j hj => by cases hj⟩
  | succ n ih =>
    intro p
    unfold e_nots
    split
    · rename_i e
      have h := ih (p + 1)
      refine ⟨by omega, ?_, fun j hj => ?_⟩
      · rcases h.2.1 with h1 | h1
        · exact Or.inl (by omega)
        · refine Or.inr ?_
          rwa [show p + (e_nots T n (p + 1) + 1) = p + 1 + e_nots T n (p + 1) by omega]
      · cases j with
        | zero => exact e
        | succ j =>
          have := h.2.2 j (by omega)
          rwa [show p + (j + 1) = p + 1 + j by omega]
    · rename_i e
      exact ⟨Nat.zero_le _, Or.inr e, fun j hj => by omega⟩
theorem ty_one {z a : Nat} (hz : z ≤ 4) (ha : a_arg z a = true) (h : Nat) : a_ty [(z, a)] h = some (h + 1) := by
  show (if a_arg z a = true then (if z ≤ 4 then a_ty [] (h + 1) else _) else none) = some (h + 1)
  rw [if_pos ha, if_pos hz]
  rfl
theorem ty_nots : ∀ n h, 1 ≤ h → a_ty (List.replicate n (12, 0)) h = some h := by
  intro n
  induction n with
  | zero => intro h _; rfl
  | succ n ih =>
    intro h hh
    have e : a_ty (List.replicate (n + 1) (12, 0)) h = if 1 ≤ h then a_ty (List.replicate n (12, 0)) h else none := rfl
    rw [e, if_pos hh]
    exact ih h hh
theorem ty_bin {C C' : List (Nat × Nat)} {z : Nat} (h5 : 5 ≤ z) (h11 : z ≤ 11) (h1 : ∀ h, a_ty C h = some (h + 1)) (h2 : ∀ h, a_ty C' h = some (h + 1)) (h : Nat) : a_ty (C ++ C' ++ [(z, 0)]) h = some (h + 1) := by
  rw [a_ty_app, a_ty_app, h1]
  show ((a_ty C' (h + 1)).bind (a_ty [(z, 0)])) = _
  rw [h2]
  show (if a_arg z 0 = true then (if z ≤ 4 then _ else if z ≤ 11 then (if 2 ≤ h + 1 + 1 then a_ty [] (h + 1 + 1 - 1) else none) else _) else none) = _
  have ha : a_arg z 0 = true := by
    unfold a_arg
    rw [if_neg (by omega), if_neg (by omega), if_neg (by omega), if_neg (by omega), if_neg (by omega), if_neg (by omega)]
  rw [if_pos ha, if_neg (by omega), if_pos h11, if_pos (by omega)]
  rfl
theorem e_cd_ok {w : Nat} (h : w < 7) : 5 ≤ e_cd w ∧ e_cd w ≤ 11 := by
  have : ∀ w, w < 7 → 5 ≤ e_cd w ∧ e_cd w ≤ 11 := by decide
  exact this w h
theorem e_core_ok {T : List Nat} {ch : Bool} {rec : Nat → Option (Nat × List (Nat × Nat))} (hrec : ∀ p x, rec p = some x → e_good T p x) {b p : Nat} {x : Nat × List (Nat × Nat)} (h : e_core T ch rec b p = some x) : e_good T p x := by
  have hz : ∀ (o : Bool) (z : Nat), 2 ≤ z → z ≤ 4 → (z = 2 → o = false) → nx T p ≠ 0 → (e_zone o (nx T (p + 1))).map (fun y => (p + 2, [(z, y)])) = some x → e_good T p x := by
    intro o z hz2 hz4 ho h0 h
    cases e : e_zone o (nx T (p + 1)) with
    | none => rw [e] at h; cases h
    | some y =>
      rw [e] at h
      injection h with h
      subst h
      have h1 := e_zone_lt e
      have h2 := nx_lt h1.2.2
      refine ⟨by simp, by simp; omega, by simp; omega, by simp, ty_one hz4 ?_, fun q hq => by rw [List.mem_singleton.mp hq]; show z ≤ 12; omega⟩
      unfold a_arg
      rw [if_neg (by omega), if_neg (by omega)]
      by_cases e2 : z = 2
      · rw [if_pos e2]
        have := h1.2.1 (ho e2)
        simpa using this
      · rw [if_neg e2, if_pos hz4]
        simpa using h1.1
  unfold e_core at h
  split at h
  · rename_i i e
    injection h with h
    subst h
    have h1 := e_ix_lt e
    have h2 : nx T p ≠ 0 := fun e0 => by rw [e0] at e; cases e
    have h3 := nx_lt h2
    have h4 : i < 4 := h1.1
    refine ⟨by simp, by simp; omega, by simp; omega, by simp, ty_one (by decide) (by simpa [a_arg] using h4), fun q hq => by rw [List.mem_singleton.mp hq]; show 1 ≤ 12; decide⟩
  · split at h
    · rename_i e
      exact hz false 2 (by decide) (by decide) (fun _ => rfl) (by omega) h
    · split at h
      · rename_i e
        exact hz ch 3 (by decide) (by decide) (fun q => by omega) (by omega) h
      · split at h
        · rename_i e
          exact hz ch 4 (by decide) (by decide) (fun q => by omega) (by omega) h
        · split at h
          · rename_i e
            split at h
            · cases h
            · rename_i p' C e2
              split at h
              · rename_i e3
                injection h with h
                subst h
                have h1 := hrec _ _ e2
                have h2 := nx_lt (T := T) (p := p') (by omega)
                exact ⟨by have := h1.1; simp at this ⊢; omega, by simp; omega, by have := h1.2.2.1; simp at this ⊢; omega, h1.2.2.2.1, h1.2.2.2.2.1, h1.2.2.2.2.2⟩
              · cases h
          · cases e : e_num T p with
            | none => rw [e] at h; cases h
            | some y =>
              rw [e] at h
              injection h with h
              subst h
              have h1 := e_num_ok e
              exact ⟨h1.1, h1.2.1, by simp; omega, by simp, ty_one (by decide) (by simpa [a_arg] using h1.2.2.1), fun q hq => by rw [List.mem_singleton.mp hq]; show 0 ≤ 12; decide⟩
theorem e_unit_ok {T : List Nat} {ch : Bool} {rec : Nat → Option (Nat × List (Nat × Nat))} (hrec : ∀ p x, rec p = some x → e_good T p x) {b p : Nat} {x : Nat × List (Nat × Nat)} (h : e_unit T ch rec b p = some x) : e_good T p x := by
  unfold e_unit at h
  cases e : e_core T ch rec b (p + e_nots T 4 p) with
  | none => rw [e] at h; cases h
  | some y =>
    rw [e] at h
    injection h with h
    subst h
    have h1 := e_core_ok hrec e
    refine ⟨by have := h1.1; simp; omega, h1.2.1, by have := h1.2.2.1; simp at this ⊢; omega, by have := h1.2.2.2.1; simp; omega, fun h => ?_, fun q hq => ?_⟩
    · show a_ty (y.2 ++ _) h = _
      rw [a_ty_app, h1.2.2.2.2.1]
      exact ty_nots _ _ (by omega)
    · rcases List.mem_append.mp hq with hq | hq
      · exact h1.2.2.2.2.2 q hq
      · rw [(List.mem_replicate.mp hq).2]; decide
theorem e_ops_ok {T : List Nat} {l : Nat} {rec : Nat → Option (Nat × List (Nat × Nat))} (hrec : ∀ p x, rec p = some x → e_good T p x) {p0 : Nat} : ∀ n p C x, e_good T p0 (p, C) → e_ops T l rec n p C = some x → e_good T p0 x := by
  intro n
  induction n with
  | zero =>
    intro p C x hC h
    injection h with h
    subst h
    exact hC
  | succ n ih =>
    intro p C x hC h
    unfold e_ops at h
    split at h
    · injection h with h
      subst h
      exact hC
    · rename_i w e
      have hw := e_cd_ok (e_ix_lt e).1
      split at h
      · split at h
        · cases h
        · rename_i p' C' e2
          have h1 := hrec _ _ e2
          have hg : e_good T p0 (p', C ++ C' ++ [(e_cd w, 0)]) := by
            refine ⟨by have := h1.1; have := hC.1; simp at *; omega, h1.2.1, by have := h1.2.2.1; have := hC.2.2.1; simp at *; omega, by simp; omega, ty_bin hw.1 hw.2 hC.2.2.2.2.1 h1.2.2.2.2.1, fun q hq => ?_⟩
            rcases List.mem_append.mp hq with hq | hq
            · rcases List.mem_append.mp hq with hq | hq
              · exact hC.2.2.2.2.2 q hq
              · exact h1.2.2.2.2.2 q hq
            · rw [List.mem_singleton.mp hq]
              have := hw.2
              show e_cd w ≤ 12
              omega
          split at h
          · injection h with h
            subst h
            exact hg
          · exact ih _ _ _ hg h
      · injection h with h
        subst h
        exact hC
theorem e_expr_ok {T : List Nat} {ch : Bool} : ∀ f l b p x, e_expr T ch f l b p = some x → e_good T p x := by
  intro f
  induction f with
  | zero => intro l b p x h; cases h
  | succ f ih =>
    intro l b p x h
    unfold e_expr at h
    split at h
    · exact e_unit_ok (fun p x h => ih _ _ _ _ h) h
    · split at h
      · cases h
      · rename_i p1 C1 e
        exact e_ops_ok (fun p x h => ih _ _ _ _ h) 240 _ _ _ (ih _ _ _ _ e) h
