/-! TEXTS: the reference's reader, abstract, and that both read alike -/
def m_st (w : Nat) : Nat := if w = 12 then 6 else if w = 7 then 5 else if w = 5 ∨ w = 6 then 4 else if w = 8 ∨ w = 9 then 3 else if w = 10 then 2 else if w = 11 then 1 else 0
/-- what is released, and what stays -/
def m_fl (l : Nat) : List Nat → List (Nat × Nat)
  | [] => []
  | w :: W => if l ≤ m_st w then (w, 0) :: m_fl l W else []
def m_rst (l : Nat) : List Nat → List Nat
  | [] => []
  | w :: W => if l ≤ m_st w then m_rst l W else w :: W
def m_tp (W : List Nat) : Nat := W.headD 99
def m_plain (T : List Nat) (ch : Bool) (p : Nat) : Option (Nat × (Nat × Nat)) :=
  if e_dig (nx T p) = true then (match e_num T p with
    | none => none
    | some x => if e_dig (nx T x.1) = true then none else some (x.1, (0, x.2)))
  else match e_ix e_W (nx T p) with
    | some i => some (p + 1, (1, i))
    | none => if nx T p = 35 then (e_zone false (nx T (p + 1))).map (fun z => (p + 2, (2, z)))
      else if nx T p = 114 then (e_zone ch (nx T (p + 1))).map (fun z => (p + 2, (3, z)))
      else if nx T p = 117 then (e_zone ch (nx T (p + 1))).map (fun z => (p + 2, (4, z)))
      else none
def m_op (c : Nat) : Option Nat := (e_ix e_O c).map e_cd
def m_lst (o : Nat) : Nat := if m_st o = 3 then 4 else m_st o
def mAB (T : List Nat) (ch : Bool) : Nat → Bool → Nat → Nat → Nat → List Nat → List (Nat × Nat) → Option (Nat × List (Nat × Nat))
  | 0, _, _, _, _, _, _ => none
  | n + 1, true, p, t, b, W, K => if nx T p = 33 then (if t < 4 then mAB T ch n true (p + 1) (t + 1) b (12 :: W) K else none)
    else if nx T p = 40 then (if b < 4 then mAB T ch n true (p + 1) 0 (b + 1) (99 :: W) K else none)
    else match m_plain T ch p with
      | none => none
      | some x => mAB T ch n false x.1 0 b (m_rst 6 W) (K ++ [x.2] ++ m_fl 6 W)
  | n + 1, false, p, _, b, W, K => if 0 < b ∧ nx T p = 41 then mAB T ch n false (p + 1) 0 (b - 1) (m_rst 6 (m_rst 1 W).tail) (K ++ m_fl 1 W ++ m_fl 6 (m_rst 1 W).tail)
    else match m_op (nx T p) with
      | none => if 0 < b then none else some (p, K ++ m_fl 1 W)
      | some o => if m_st o = 3 ∧ m_st (m_tp (m_rst 4 W)) = 3 then none else mAB T ch n true (p + 1) 0 b (o :: m_rst (m_lst o) W) (K ++ m_fl (m_lst o) W)
def m_weak (l : Nat) (W : List Nat) : Prop := m_st (m_tp W) < l + 1
def m_pd (pe : List Nat) : List (Nat × Nat) := pe.map (fun w => (w, 0))
theorem fl_app {l : Nat} : ∀ {pe W : List Nat}, (∀ w ∈ pe, l ≤ m_st w) → m_st (m_tp W) < l → m_fl l (pe ++ W) = m_pd pe ∧ m_rst l (pe ++ W) = W := by
  intro pe
  induction pe with
  | nil =>
    intro W _ hW
    cases W with
    | nil => exact ⟨rfl, rfl⟩
    | cons w W =>
      have hW : m_st w < l := hW
      have e1 : m_fl l (w :: W) = [] := if_neg (by omega)
      have e2 : m_rst l (w :: W) = w :: W := if_neg (by omega)
      exact ⟨e1, e2⟩
  | cons x pe ih =>
    intro W h hW
    have hx := h x List.mem_cons_self
    have h2 := ih (fun w hw => h w (List.mem_cons_of_mem _ hw)) hW
    have e1 : m_fl l (x :: (pe ++ W)) = (x, 0) :: m_fl l (pe ++ W) := if_pos hx
    have e2 : m_rst l (x :: (pe ++ W)) = m_rst l (pe ++ W) := if_pos hx
    exact ⟨by show m_fl l (x :: (pe ++ W)) = _; rw [e1, h2.1]; rfl, by show m_rst l (x :: (pe ++ W)) = _; rw [e2, h2.2]⟩
def m_stk (l c : Nat) : Prop := e_dig c = true ∨ (l ≤ 2 ∧ (c = 60 ∨ c = 61))
/-- no operator of level l or above -/
def m_no (l c : Nat) : Prop := ∀ w, e_ix e_O c = some w → e_lv w < l
theorem cd_st : ∀ w, w < 7 → m_st (e_cd w) = e_lv w + 1 := by decide
theorem ix_lv {c w : Nat} (h : e_ix e_O c = some w) : w < 7 ∧ c ≠ 33 ∧ c ≠ 41 ∧ c ≠ 0 := by
  have h1 := e_ix_lt h
  have h2 : w < 7 := h1.1
  have : ∀ w, w < 7 → e_O.getD w 0 ≠ 33 ∧ e_O.getD w 0 ≠ 41 ∧ e_O.getD w 0 ≠ 0 := by decide
  have h3 := this w h2
  rw [h1.2] at h3
  exact ⟨h2, h3⟩
theorem dig_no {c : Nat} (h : e_dig c = true) : e_ix e_O c = none := by
  have h1 := of_decide_eq_true h
  cases e : e_ix e_O c with
  | none => rfl
  | some w =>
    have h2 := e_ix_lt e
    have : ∀ w, w < 7 → e_O.getD w 0 < 48 ∨ 57 < e_O.getD w 0 := by decide
    have := this w h2.1
    rw [h2.2] at this
    omega
/-- class and reference read alike from p on -/
def m_sim (T : List Nat) (ch : Bool) (l b p : Nat) (r : Option (Nat × List (Nat × Nat))) : Prop := ∀ (W : List Nat) (K : List (Nat × Nat)), m_weak l W →
  (r = none → ∃ j, ∀ n, mAB T ch (n + j) true p 0 b W K = none) ∧
  (∀ x, r = some x → (∃ j pe C0, x.2 = C0 ++ m_pd pe ∧ (∀ w ∈ pe, l + 1 ≤ m_st w) ∧ m_no l (nx T x.1) ∧ ∀ n, mAB T ch (n + j) true p 0 b W K = mAB T ch n false x.1 0 b (pe ++ W) (K ++ C0)) ∨ (m_stk l (nx T x.1) ∧ ∃ j, ∀ n, mAB T ch (n + j) true p 0 b W K = none))
theorem mA_nots {T : List Nat} {ch : Bool} {b : Nat} {K : List (Nat × Nat)} : ∀ m t p W, t + m ≤ 4 → (∀ j, j < m → nx T (p + j) = 33) → ∀ n, mAB T ch (n + m) true p t b W K = mAB T ch n true (p + m) (t + m) b (List.replicate m 12 ++ W) K := by
  intro m
  induction m with
  | zero => intro t p W _ _ n; rfl
  | succ m ih =>
    intro t p W ht h n
    have h0 : nx T p = 33 := h 0 (by omega)
    have e : mAB T ch (n + (m + 1)) true p t b W K = mAB T ch (n + m) true (p + 1) (t + 1) b (12 :: W) K := by
      show (if nx T p = 33 then (if t < 4 then mAB T ch (n + m) true (p + 1) (t + 1) b (12 :: W) K else none) else _) = _
      rw [if_pos h0, if_pos (by omega)]
    rw [e, ih (t + 1) (p + 1) (12 :: W) (by omega) (fun j hj => by have := h (j + 1) (by omega); rwa [show p + 1 + j = p + (j + 1) by omega]) n]
    have e2 : List.replicate m 12 ++ 12 :: W = List.replicate (m + 1) 12 ++ W := by
      rw [show List.replicate (m + 1) 12 = List.replicate m 12 ++ [12] from List.replicate_succ', List.append_assoc]
      rfl
    rw [e2, show p + 1 + m = p + (m + 1) by omega, show t + 1 + m = t + (m + 1) by omega]
theorem nots_fl {n : Nat} {W : List Nat} (hW : m_st (m_tp W) < 6) : m_fl 6 (List.replicate n 12 ++ W) = List.replicate n (12, 0) ∧ m_rst 6 (List.replicate n 12 ++ W) = W := by
  have h := fl_app (l := 6) (pe := List.replicate n 12) (W := W) (fun w hw => by rw [(List.mem_replicate.mp hw).2]; decide) hW
  refine ⟨?_, h.2⟩
  rw [h.1]
  unfold m_pd
  rw [List.map_replicate]
theorem plain_core {T : List Nat} {ch : Bool} {rec : Nat → Option (Nat × List (Nat × Nat))} {b p : Nat} (h40 : ¬ nx T p = 40) :
    (e_core T ch rec b p = none → m_plain T ch p = none) ∧ (∀ x, e_core T ch rec b p = some x → (∃ y, m_plain T ch p = some (x.1, y) ∧ x.2 = [y]) ∨ (m_plain T ch p = none ∧ e_dig (nx T x.1) = true)) := by
  unfold e_core m_plain
  by_cases hd : e_dig (nx T p) = true
  · have hd2 := of_decide_eq_true hd
    have hw : e_ix e_W (nx T p) = none := by
      cases e : e_ix e_W (nx T p) with
      | none => rfl
      | some i =>
        have h2 := e_ix_lt e
        have : ∀ w, w < 4 → 57 < e_W.getD w 0 := by decide
        have := this i h2.1
        rw [h2.2] at this
        omega
    rw [hw, if_pos hd]
    simp only []
    rw [if_neg (by omega), if_neg (by omega), if_neg (by omega), if_neg (fun q => h40 q.2)]
    cases en : e_num T p with
    | none => exact ⟨fun _ => rfl, fun x hx => (by cases hx)⟩
    | some y =>
      refine ⟨fun hx => (by cases hx), fun x hx => ?_⟩
      injection hx with hx
      subst hx
      simp only []
      by_cases h2 : e_dig (nx T y.1) = true
      · exact Or.inr ⟨if_pos h2, h2⟩
      · exact Or.inl ⟨(0, y.2), if_neg h2, rfl⟩
  · rw [if_neg hd]
    cases ew : e_ix e_W (nx T p) with
    | some i =>
      refine ⟨fun hx => (by cases hx), fun x hx => ?_⟩
      injection hx with hx
      subst hx
      exact Or.inl ⟨(1, i), rfl, rfl⟩
    | none =>
      simp only []
      have hz : ∀ (o : Option Nat) (z : Nat), (o.map (fun y => (p + 2, [(z, y)])) = none → o.map (fun y => (p + 2, (z, y))) = none) ∧ (∀ x, o.map (fun y => (p + 2, [(z, y)])) = some x → (∃ y, o.map (fun y => (p + 2, (z, y))) = some (x.1, y) ∧ x.2 = [y]) ∨ (o.map (fun y => (p + 2, (z, y))) = none ∧ e_dig (nx T x.1) = true)) := by
        intro o z
        cases o with
        | none => exact ⟨fun _ => rfl, fun x hx => (by cases hx)⟩
        | some y =>
          refine ⟨fun hx => (by cases hx), fun x hx => ?_⟩
          injection hx with hx
          subst hx
          exact Or.inl ⟨(z, y), rfl, rfl⟩
      by_cases n35 : nx T p = 35
      · rw [if_pos n35, if_pos n35]; exact hz _ _
      · rw [if_neg n35, if_neg n35]
        by_cases n114 : nx T p = 114
        · rw [if_pos n114, if_pos n114]; exact hz _ _
        · rw [if_neg n114, if_neg n114]
          by_cases n117 : nx T p = 117
          · rw [if_pos n117, if_pos n117]; exact hz _ _
          · rw [if_neg n117, if_neg n117, if_neg (fun q => h40 q.2), e_num_nL, if_neg hd]
            exact ⟨fun _ => rfl, fun x hx => (by cases hx)⟩
theorem sim_unit {T : List Nat} {ch : Bool} {rec : Nat → Option (Nat × List (Nat × Nat))} {b : Nat} (hb : b ≤ 4) (hrec : b < 4 → ∀ p, m_sim T ch 0 (b + 1) p (rec p)) (p : Nat) : m_sim T ch 5 b p (e_unit T ch rec b p) := by
  intro W K hW
  have hn := e_nots_le T 4 p
  have hA := mA_nots (T := T) (ch := ch) (b := b) (K := K) (e_nots T 4 p) 0 p W (by omega) hn.2.2
  have hW6 : m_st (m_tp W) < 6 := hW
  obtain ⟨N, hN⟩ : ∃ N, N = e_nots T 4 p := ⟨_, rfl⟩
  unfold e_unit
  rw [← hN] at hn hA ⊢
  rw [Nat.zero_add] at hA
  by_cases n33 : nx T (p + N) = 33
  · -- a fifth not
    have hN4 : N = 4 := by
      rcases hn.2.1 with h | h
      · exact h
      · exact absurd n33 h
    have hpc := plain_core (T := T) (ch := ch) (rec := rec) (b := b) (p := p + N) (by omega)
    have hec : e_core T ch rec b (p + N) = none := by
      unfold e_core
      rw [n33]
      rw [if_neg (by decide), if_neg (by decide), if_neg (by decide), if_neg (fun q => absurd q.2 (by decide)), e_num_nL, n33]
      rfl
    rw [hec]
    refine ⟨fun _ => ⟨1 + N, fun n => ?_⟩, fun x hx => (by cases hx)⟩
    rw [show n + (1 + N) = n + 1 + N by omega, hA]
    show (if nx T (p + N) = 33 then (if N < 4 then _ else none) else _) = none
    rw [if_pos n33, if_neg (by omega)]
  · by_cases n40 : nx T (p + N) = 40
    · have e40 : ∀ n, mAB T ch (n + 1) true (p + N) N b (List.replicate N 12 ++ W) K = if b < 4 then mAB T ch n true (p + N + 1) 0 (b + 1) (99 :: (List.replicate N 12 ++ W)) K else none := by
        intro n
        show (if nx T (p + N) = 33 then _ else if nx T (p + N) = 40 then _ else _) = _
        rw [if_neg n33, if_pos n40]
      have hcore : e_core T ch rec b (p + N) = if b < 4 then (match rec (p + N + 1) with
          | none => none
          | some (p', C) => if nx T p' = 41 then some (p' + 1, C) else none) else none := by
        unfold e_core
        have ew : e_ix e_W (nx T (p + N)) = none := by rw [n40]; rfl
        rw [ew]
        simp only []
        rw [if_neg (by omega), if_neg (by omega), if_neg (by omega)]
        by_cases b4 : b < 4
        · rw [if_pos ⟨b4, n40⟩, if_pos b4]
          rfl
        · rw [if_neg (fun q => b4 q.1), if_neg b4, e_num_nL, n40]
          rfl
      rw [hcore]
      by_cases b4 : b < 4
      · rw [if_pos b4]
        have hs := hrec b4 (p + N + 1) (99 :: (List.replicate N 12 ++ W)) K (by show m_st 99 < 1; decide)
        cases er : rec (p + N + 1) with
        | none =>
          obtain ⟨j, hj⟩ := hs.1 er
          refine ⟨fun _ => ⟨j + 1 + N, fun n => ?_⟩, fun x hx => (by cases hx)⟩
          rw [show n + (j + 1 + N) = n + j + 1 + N by omega, hA, e40, if_pos b4, hj]
        | some y =>
          obtain ⟨p', C⟩ := y
          simp only []
          rcases hs.2 _ er with ⟨j, pe, C0, h1, h2, h3, h4⟩ | ⟨h1, j, h2⟩
          · have h1 : C = C0 ++ m_pd pe := h1
            have h3 : m_no 0 (nx T p') := h3
            have hno : m_op (nx T p') = none := by
              unfold m_op
              cases e : e_ix e_O (nx T p') with
              | none => rfl
              | some w => have := h3 w e; omega
            have hgo : ∀ n, mAB T ch (n + 1 + j + 1 + N) true p 0 b W K = mAB T ch (n + 1) false p' 0 (b + 1) (pe ++ 99 :: (List.replicate N 12 ++ W)) (K ++ C0) := by
              intro n
              rw [hA, e40, if_pos b4, h4]
            by_cases n41 : nx T p' = 41
            · rw [if_pos n41]
              refine ⟨fun hx => (by cases hx), fun x hx => Or.inl ?_⟩
              injection hx with hx
              subst hx
              have f1 := fl_app (l := 1) (pe := pe) (W := 99 :: (List.replicate N 12 ++ W)) h2 (by show m_st 99 < 1; decide)
              have f2 := nots_fl (n := N) hW6
              refine ⟨1 + j + 1 + N, [], C ++ List.replicate N (12, 0), by simp [m_pd], fun w hw => (by cases hw), ?_, fun n => ?_⟩
              · intro w hw
                have hl : w < 7 := (e_ix_lt hw).1
                have : ∀ w, w < 7 → e_lv w < 5 := by decide
                exact this w hl
              · rw [show n + (1 + j + 1 + N) = n + 1 + j + 1 + N by omega, hgo]
                show (if 0 < b + 1 ∧ nx T p' = 41 then _ else _) = _
                rw [if_pos ⟨by omega, n41⟩, f1.1, f1.2]
                show mAB T ch n false (p' + 1) 0 (b + 1 - 1) (m_rst 6 (List.replicate N 12 ++ W)) (K ++ C0 ++ m_pd pe ++ m_fl 6 (List.replicate N 12 ++ W)) = _
                rw [f2.1, f2.2, h1]
                simp only [List.append_assoc, List.nil_append, Nat.add_sub_cancel]
            · rw [if_neg n41]
              refine ⟨fun _ => ⟨1 + j + 1 + N, fun n => ?_⟩, fun x hx => (by cases hx)⟩
              rw [show n + (1 + j + 1 + N) = n + 1 + j + 1 + N by omega, hgo]
              show (if 0 < b + 1 ∧ nx T p' = 41 then _ else _) = _
              rw [if_neg (fun q => n41 q.2), hno]
              show (if 0 < b + 1 then none else _) = none
              rw [if_pos (by omega)]
          · have h1 : m_stk 0 (nx T p') := h1
            have n41 : ¬ nx T p' = 41 := by
              intro e
              rcases h1 with h | h
              · rw [e] at h; exact absurd h (by decide)
              · omega
            rw [if_neg n41]
            refine ⟨fun _ => ⟨j + 1 + N, fun n => ?_⟩, fun x hx => (by cases hx)⟩
            rw [show n + (j + 1 + N) = n + j + 1 + N by omega, hA, e40, if_pos b4, h2]
      · rw [if_neg b4]
        refine ⟨fun _ => ⟨1 + N, fun n => ?_⟩, fun x hx => (by cases hx)⟩
        rw [show n + (1 + N) = n + 1 + N by omega, hA, e40, if_neg b4]
    · have hpc := plain_core (T := T) (ch := ch) (rec := rec) (b := b) (p := p + N) n40
      have ep : ∀ n, mAB T ch (n + 1) true (p + N) N b (List.replicate N 12 ++ W) K = match m_plain T ch (p + N) with
          | none => none
          | some x => mAB T ch n false x.1 0 b (m_rst 6 (List.replicate N 12 ++ W)) (K ++ [x.2] ++ m_fl 6 (List.replicate N 12 ++ W)) := by
        intro n
        show (if nx T (p + N) = 33 then _ else if nx T (p + N) = 40 then _ else _) = _
        rw [if_neg n33, if_neg n40]
      cases ec : e_core T ch rec b (p + N) with
      | none =>
        refine ⟨fun _ => ⟨1 + N, fun n => ?_⟩, fun x hx => (by cases hx)⟩
        rw [show n + (1 + N) = n + 1 + N by omega, hA, ep, hpc.1 ec]
      | some y =>
        refine ⟨fun hx => (by cases hx), fun x hx => ?_⟩
        injection hx with hx
        subst hx
        have f2 := nots_fl (n := N) hW6
        rcases hpc.2 y ec with ⟨z, h1, h2⟩ | ⟨h1, h2⟩
        · left
          refine ⟨1 + N, [], y.2 ++ List.replicate N (12, 0), by simp [m_pd], fun w hw => (by cases hw), ?_, fun n => ?_⟩
          · intro w hw
            have hl : w < 7 := (e_ix_lt hw).1
            have : ∀ w, w < 7 → e_lv w < 5 := by decide
            exact this w hl
          · rw [show n + (1 + N) = n + 1 + N by omega, hA, ep, h1]
            show mAB T ch n false y.1 0 b (m_rst 6 (List.replicate N 12 ++ W)) (K ++ [z] ++ m_fl 6 (List.replicate N 12 ++ W)) = _
            rw [f2.1, f2.2, h2]
            simp only [List.append_assoc, List.nil_append]
        · right
          refine ⟨Or.inl h2, 1 + N, fun n => ?_⟩
          rw [show n + (1 + N) = n + 1 + N by omega, hA, ep, h1]
/-- the operators of one level -/
theorem sim_ops {T : List Nat} {ch : Bool} {rec : Nat → Option (Nat × List (Nat × Nat))} {l b p0 : Nat} (hl : l < 5) (hrec : ∀ p, m_sim T ch (l + 1) b p (rec p)) (hgood : ∀ p x, rec p = some x → e_good T p x) {W : List Nat} {K : List (Nat × Nat)} (hW : m_weak l W) : ∀ m p C, T.length ≤ m + p →
    ((∃ j pe C0, C = C0 ++ m_pd pe ∧ ((∀ w ∈ pe, l + 1 ≤ m_st w) ∧ (l = 2 → ∀ w ∈ pe, 4 ≤ m_st w)) ∧ m_no (l + 1) (nx T p) ∧ ∀ n, mAB T ch (n + j) true p0 0 b W K = mAB T ch n false p 0 b (pe ++ W) (K ++ C0)) ∨ (m_stk (l + 1) (nx T p) ∧ ∃ j, ∀ n, mAB T ch (n + j) true p0 0 b W K = none)) →
    (e_ops T l rec m p C = none → ∃ j, ∀ n, mAB T ch (n + j) true p0 0 b W K = none) ∧
    (∀ x, e_ops T l rec m p C = some x → (∃ j pe C0, x.2 = C0 ++ m_pd pe ∧ (∀ w ∈ pe, l + 1 ≤ m_st w) ∧ m_no l (nx T x.1) ∧ ∀ n, mAB T ch (n + j) true p0 0 b W K = mAB T ch n false x.1 0 b (pe ++ W) (K ++ C0)) ∨ (m_stk l (nx T x.1) ∧ ∃ j, ∀ n, mAB T ch (n + j) true p0 0 b W K = none)) := by
  have hstk : ∀ c, m_stk (l + 1) c → m_stk l c ∧ ∀ w, e_ix e_O c = some w → e_lv w ≠ l := by
    intro c h
    rcases h with h | ⟨h1, h2⟩
    · exact ⟨Or.inl h, fun w hw => by rw [dig_no h] at hw; cases hw⟩
    · refine ⟨Or.inr ⟨by omega, h2⟩, fun w hw => ?_⟩
      rcases h2 with rfl | rfl
      · have : e_ix e_O 60 = some 2 := by decide
        rw [this] at hw
        injection hw with hw
        subst hw
        show 2 ≠ l
        omega
      · have : e_ix e_O 61 = some 3 := by decide
        rw [this] at hw
        injection hw with hw
        subst hw
        show 2 ≠ l
        omega
  intro m
  induction m with
  | zero =>
    intro p C hm hin
    have h0 : nx T p = 0 := nx_ge (by omega)
    refine ⟨fun hx => (by cases hx), fun x hx => ?_⟩
    injection hx with hx
    subst hx
    rcases hin with ⟨j, pe, C0, h1, h2, h3, h4⟩ | ⟨h1, h2⟩
    · exact Or.inl ⟨j, pe, C0, h1, h2.1, fun w hw => (by rw [show nx T (p, C).1 = 0 from h0] at hw; cases hw), h4⟩
    · exact Or.inr ⟨(hstk _ h1).1, h2⟩
  | succ m ih =>
    intro p C hm hin
    unfold e_ops
    cases ew : e_ix e_O (nx T p) with
    | none =>
      refine ⟨fun hx => (by cases hx), fun x hx => ?_⟩
      injection hx with hx
      subst hx
      rcases hin with ⟨j, pe, C0, h1, h2, h3, h4⟩ | ⟨h1, h2⟩
      · exact Or.inl ⟨j, pe, C0, h1, h2.1, fun w hw => (by rw [show nx T (p, C).1 = nx T p from rfl, ew] at hw; cases hw), h4⟩
      · exact Or.inr ⟨(hstk _ h1).1, h2⟩
    | some w =>
      have hw := ix_lv ew
      have hst := cd_st w hw.1
      simp only []
      by_cases el : e_lv w = l
      · rw [if_pos el]
        rcases hin with ⟨j, pe, C0, h1, h2, h3, h4⟩ | ⟨h1, h2⟩
        · have hlt := nx_lt hw.2.2.2
          have hmop : m_op (nx T p) = some (e_cd w) := by unfold m_op; rw [ew]; rfl
          have hWl : m_st (m_tp W) < l + 1 := hW
          -- what the reference does at the operator
          have hlst : m_st (m_tp W) < m_lst (e_cd w) ∧ ∀ w' ∈ pe, m_lst (e_cd w) ≤ m_st w' := by
            unfold m_lst
            rw [hst, el]
            split
            · rename_i e3
              exact ⟨by omega, fun w' hw' => h2.2 (by omega) w' hw'⟩
            · exact ⟨by omega, fun w' hw' => h2.1 w' hw'⟩
          have f1 := fl_app hlst.2 hlst.1
          have hcmp : ¬ (m_st (e_cd w) = 3 ∧ m_st (m_tp (m_rst 4 (pe ++ W))) = 3) := by
            rintro ⟨q1, q2⟩
            have l2 : l = 2 := by omega
            have f2 := fl_app (l := 4) (pe := pe) (W := W) (h2.2 l2) (by omega)
            rw [f2.2] at q2
            omega
          have hop : ∀ n, mAB T ch (n + 1 + j) true p0 0 b W K = mAB T ch n true (p + 1) 0 b (e_cd w :: W) (K ++ C) := by
            intro n
            rw [h4]
            show (if 0 < b ∧ nx T p = 41 then _ else match m_op (nx T p) with
              | none => _
              | some o => if m_st o = 3 ∧ m_st (m_tp (m_rst 4 (pe ++ W))) = 3 then none else mAB T ch n true (p + 1) 0 b (o :: m_rst (m_lst o) (pe ++ W)) (K ++ C0 ++ m_fl (m_lst o) (pe ++ W))) = _
            rw [if_neg (fun q => hw.2.2.1 q.2), hmop]
            show (if m_st (e_cd w) = 3 ∧ m_st (m_tp (m_rst 4 (pe ++ W))) = 3 then none else _) = _
            rw [if_neg hcmp, f1.1, f1.2, h1, List.append_assoc]
          have hs := hrec (p + 1) (e_cd w :: W) (K ++ C) (by show m_st (e_cd w) < l + 1 + 1; omega)
          cases er : rec (p + 1) with
          | none =>
            obtain ⟨j', hj⟩ := hs.1 er
            refine ⟨fun _ => ⟨j' + 1 + j, fun n => ?_⟩, fun x hx => (by cases hx)⟩
            rw [show n + (j' + 1 + j) = n + j' + 1 + j by omega, hop, hj]
          | some y =>
            obtain ⟨p', C'⟩ := y
            have hg := hgood _ _ er
            have hg1 : p + 1 < p' := hg.1
            simp only []
            rcases hs.2 _ er with ⟨j', pe2, C02, a1, a2, a3, a4⟩ | ⟨a1, j', a2⟩
            · have a1 : C' = C02 ++ m_pd pe2 := a1
              have a3 : m_no (l + 1) (nx T p') := a3
              have a4 : ∀ n, mAB T ch (n + j') true (p + 1) 0 b (e_cd w :: W) (K ++ C) = mAB T ch n false p' 0 b (pe2 ++ e_cd w :: W) (K ++ C ++ C02) := a4
              have hC : C ++ C' ++ [(e_cd w, 0)] = (C ++ C02) ++ m_pd (pe2 ++ [e_cd w]) := by
                rw [a1]
                unfold m_pd
                rw [List.map_append]
                simp only [List.append_assoc]
                rfl
              have hpe : ∀ w' ∈ pe2 ++ [e_cd w], l + 1 ≤ m_st w' := by
                intro w' hw'
                rcases List.mem_append.mp hw' with h | h
                · have := a2 w' h; omega
                · rw [List.mem_singleton.mp h]; omega
              have hgo : ∀ n, mAB T ch (n + (j' + 1 + j)) true p0 0 b W K = mAB T ch n false p' 0 b ((pe2 ++ [e_cd w]) ++ W) (K ++ (C ++ C02)) := by
                intro n
                rw [show n + (j' + 1 + j) = n + j' + 1 + j by omega, hop, a4]
                simp only [List.append_assoc]
                rfl
              by_cases l2 : l = 2
              · rw [if_pos l2]
                refine ⟨fun hx => (by cases hx), fun x hx => ?_⟩
                injection hx with hx
                subst hx
                by_cases hcc : ∃ w', e_ix e_O (nx T p') = some w' ∧ e_lv w' = 2
                · obtain ⟨w', hw1, hw2⟩ := hcc
                  right
                  have hw' := ix_lv hw1
                  have hst' := cd_st w' hw'.1
                  have hmop' : m_op (nx T p') = some (e_cd w') := by unfold m_op; rw [hw1]; rfl
                  refine ⟨Or.inr ⟨by omega, ?_⟩, 1 + (j' + 1 + j), fun n => ?_⟩
                  · have h5 := e_ix_lt hw1
                    have : ∀ w, w < 7 → e_lv w = 2 → e_O.getD w 0 = 60 ∨ e_O.getD w 0 = 61 := by decide
                    have := this w' hw'.1 hw2
                    rw [h5.2] at this
                    exact this
                  · have f2 := fl_app (l := 4) (pe := pe2) (W := e_cd w :: W) (fun w hw => by have := a2 w hw; omega) (by show m_st (e_cd w) < 4; omega)
                    rw [show n + (1 + (j' + 1 + j)) = n + 1 + (j' + 1 + j) by omega, hgo]
                    show (if 0 < b ∧ nx T p' = 41 then _ else match m_op (nx T p') with
                      | none => _
                      | some o => if m_st o = 3 ∧ m_st (m_tp (m_rst 4 (pe2 ++ [e_cd w] ++ W))) = 3 then none else _) = none
                    rw [if_neg (fun q => hw'.2.2.1 q.2), hmop']
                    show (if m_st (e_cd w') = 3 ∧ m_st (m_tp (m_rst 4 (pe2 ++ [e_cd w] ++ W))) = 3 then none else _) = none
                    rw [if_pos]
                    refine ⟨by omega, ?_⟩
                    rw [show pe2 ++ [e_cd w] ++ W = pe2 ++ e_cd w :: W by simp, f2.2]
                    show m_st (e_cd w) = 3
                    omega
                · left
                  refine ⟨j' + 1 + j, pe2 ++ [e_cd w], C ++ C02, hC, hpe, fun w' hw' => ?_, hgo⟩
                  have h6 := a3 w' hw'
                  have h7 : e_lv w' ≠ 2 := fun q => hcc ⟨w', hw', q⟩
                  omega
              · rw [if_neg l2]
                exact ih p' _ (by omega) (Or.inl ⟨j' + 1 + j, pe2 ++ [e_cd w], C ++ C02, hC, ⟨hpe, fun q => absurd q l2⟩, a3, hgo⟩)
            · have a1 : m_stk (l + 1) (nx T p') := a1
              have hgo : ∀ n, mAB T ch (n + (j' + 1 + j)) true p0 0 b W K = none := by
                intro n
                rw [show n + (j' + 1 + j) = n + j' + 1 + j by omega, hop, a2]
              by_cases l2 : l = 2
              · rw [if_pos l2]
                refine ⟨fun hx => (by cases hx), fun x hx => ?_⟩
                injection hx with hx
                subst hx
                exact Or.inr ⟨(hstk _ a1).1, _, hgo⟩
              · rw [if_neg l2]
                exact ih p' _ (by omega) (Or.inr ⟨a1, _, hgo⟩)
        · exact absurd el ((hstk _ h1).2 w ew)
      · rw [if_neg el]
        refine ⟨fun hx => (by cases hx), fun x hx => ?_⟩
        injection hx with hx
        subst hx
        rcases hin with ⟨j, pe, C0, h1, h2, h3, h4⟩ | ⟨h1, h2⟩
        · refine Or.inl ⟨j, pe, C0, h1, h2.1, fun w' hw' => ?_, h4⟩
          rw [show nx T (p, C).1 = nx T p from rfl, ew] at hw'
          injection hw' with hw'
          subst hw'
          have := h3 w ew
          omega
        · exact Or.inr ⟨(hstk _ h1).1, h2⟩
theorem sim_expr {T : List Nat} (hT : T.length ≤ 240) {ch : Bool} : ∀ f l b, l ≤ 5 → b ≤ 4 → 6 * (4 - b) + (6 - l) ≤ f → ∀ p, m_sim T ch l b p (e_expr T ch f l b p) := by
  intro f
  induction f with
  | zero => intro l b hl hb hf; omega
  | succ f ih =>
    intro l b hl hb hf p
    by_cases l5 : 5 ≤ l
    · obtain rfl : l = 5 := by omega
      exact sim_unit hb (fun b4 p => ih 0 (b + 1) (by omega) (by omega) (by omega) p) p
    · have ee : e_expr T ch (f + 1) l b p = match e_expr T ch f (l + 1) b p with
        | none => none
        | some (p1, C1) => e_ops T l (fun p => e_expr T ch f (l + 1) b p) 240 p1 C1 := if_neg l5
      rw [ee]
      have h1 := ih (l + 1) b (by omega) hb (by omega)
      intro W K hW
      have hWl : m_st (m_tp W) < l + 1 := hW
      have hs := h1 p W K (by show m_st (m_tp W) < l + 1 + 1; omega)
      cases e1 : e_expr T ch f (l + 1) b p with
      | none =>
        obtain ⟨j, hj⟩ := hs.1 e1
        exact ⟨fun _ => ⟨j, hj⟩, fun x hx => (by cases hx)⟩
      | some y =>
        obtain ⟨p1, C1⟩ := y
        simp only []
        refine sim_ops (by omega) h1 (fun p x h => e_expr_ok _ _ _ _ _ h) hW 240 p1 C1 (by omega) ?_
        rcases hs.2 _ e1 with ⟨j, pe, C0, a1, a2, a3, a4⟩ | ⟨a1, j, a2⟩
        · exact Or.inl ⟨j, pe, C0, a1, ⟨fun w hw => by have := a2 w hw; omega, fun q w hw => by have := a2 w hw; omega⟩, a3, a4⟩
        · exact Or.inr ⟨a1, j, a2⟩
/-- a whole expression -/
theorem sim_E {T : List Nat} (hT : T.length ≤ 240) {ch : Bool} (p : Nat) (K : List (Nat × Nat)) :
    (e_E T ch p = none → ∃ j, ∀ n, mAB T ch (n + j) true p 0 0 [] K = none) ∧
    (∀ x, e_E T ch p = some x → (∃ j, ∀ n, mAB T ch (n + j) true p 0 0 [] K = some (x.1, K ++ x.2)) ∨ (m_stk 0 (nx T x.1) ∧ ∃ j, ∀ n, mAB T ch (n + j) true p 0 0 [] K = none)) := by
  have hs := sim_expr hT (ch := ch) 30 0 0 (by omega) (by omega) (by omega) p [] K (by show m_st 99 < 1; decide)
  refine ⟨hs.1, fun x hx => ?_⟩
  rcases hs.2 x hx with ⟨j, pe, C0, a1, a2, a3, a4⟩ | h
  · left
    refine ⟨1 + j, fun n => ?_⟩
    have hno : m_op (nx T x.1) = none := by
      unfold m_op
      cases e : e_ix e_O (nx T x.1) with
      | none => rfl
      | some w => have := a3 w e; omega
    have f1 := fl_app (l := 1) (pe := pe) (W := []) a2 (by show m_st 99 < 1; decide)
    rw [show n + (1 + j) = n + 1 + j by omega, a4]
    show (if 0 < 0 ∧ nx T x.1 = 41 then _ else match m_op (nx T x.1) with
      | none => if 0 < 0 then none else some (x.1, K ++ C0 ++ m_fl 1 (pe ++ []))
      | some o => _) = _
    rw [if_neg (fun q => absurd q.1 (by decide)), hno]
    show (if 0 < 0 then none else some (x.1, K ++ C0 ++ m_fl 1 (pe ++ []))) = _
    rw [if_neg (by decide), f1.1, a1, List.append_assoc]
  · exact Or.inr h
