/-! THE ABSTRACT GAME: positions, code, what runs of it do -/
/-- places (each a list from its lowest card up), counters, scores, whose turn it is -/
def Pos : Type := (Nat → List Nat) × (Nat → Int32) × (Nat → Int32) × Nat
def a_place (z s : Nat) : Nat := if z = 0 then s else if z = 1 then 1 - s else if z = 2 then 2 else if z = 3 then 3 else if z = 4 then 4 + s else 5 - s
def a_top (l : List Nat) : Int32 := match l.getLast? with
  | none => -1
  | some c => nI c
def a_fil (c : Nat) (l : List Nat) : List Nat := l.filter (fun x => !(x == c))
def a_go (P : Pos) (c p : Nat) : Pos := (fun q => if q = p then a_fil c (P.1 q) ++ [c] else a_fil c (P.1 q), P.2)
def a_card (P : Pos) (s : Nat) (ch : Int32) (z : Nat) : Int32 := if z = 6 then ch else a_top (P.1 (a_place z s))
def a_opd (rk : Nat) (P : Pos) (s : Nat) (ch : Int32) (o a : Nat) : Int32 :=
  if o = 0 then nI a else if o = 1 then P.2.1 a else if o = 2 then nI (P.1 (a_place a s)).length else if a_card P s ch a < 0 then -1 else if o = 3 then a_card P s ch a - a_card P s ch a / nI rk * nI rk else a_card P s ch a / nI rk
def a_comb (o : Nat) (x y : Int32) : Int32 := if o = 5 then x + y else if o = 6 then x - y else if o = 7 then x * y else if o = 8 then (if x < y then 1 else 0) else if o = 9 then (if x = y then 1 else 0) else if o = 10 then (if x = 0 ∨ y = 0 then 0 else 1) else (if x = 0 ∧ y = 0 then 0 else 1)
def a_set (f : Nat → Int32) (a : Nat) (x : Int32) : Nat → Int32 := fun b => if b = a then x else f b
/-- one instruction: the stack has its top first -/
def a_step (rk s : Nat) (ch : Int32) (o a : Nat) (S : List Int32) (P : Pos) : List Int32 × Pos :=
  if o ≤ 4 then (a_opd rk P s ch o a :: S, P)
  else if o ≤ 11 then (match S with
    | y :: x :: T => (a_comb o x y :: T, P)
    | _ => (S, P))
  else if o = 12 then (match S with
    | x :: T => ((if x = 0 then 1 else 0) :: T, P)
    | _ => (S, P))
  else if o = 13 then (if a_card P s ch (a / 8) < 0 then (S, P) else (S, a_go P (a_card P s ch (a / 8)).toNatClampNeg (a_place (a % 8) s)))
  else if o = 14 then (match S with
    | x :: T => (T, (P.1, a_set P.2.1 a x, P.2.2))
    | _ => (S, P))
  else if o = 15 then (match S with
    | x :: T => (T, (P.1, P.2.1, a_set P.2.2.1 s (P.2.2.1 s + x), P.2.2.2))
    | _ => (S, P))
  else (S, (P.1, P.2.1, P.2.2.1, 1 - s))
def a_run (rk s : Nat) (ch : Int32) : List (Nat × Nat) → List Int32 → Pos → List Int32 × Pos
  | [], S, P => (S, P)
  | q :: L, S, P => a_run rk s ch L (a_step rk s ch q.1 q.2 S P).1 (a_step rk s ch q.1 q.2 S P).2
/-- may this argument stand there? -/
def a_arg (o a : Nat) : Bool := if o = 0 then decide (a < 1000) else if o = 1 then decide (a < 4) else if o = 2 then decide (a < 6) else if o ≤ 4 then decide (a < 7) else if o = 13 then decide (a / 8 < 7 ∧ a % 8 < 6) else if o = 14 then decide (a < 4) else true
/-- the stack's height behind the code -/
def a_ty : List (Nat × Nat) → Nat → Option Nat
  | [], h => some h
  | q :: L, h => if a_arg q.1 q.2 = true then (if q.1 ≤ 4 then a_ty L (h + 1) else if q.1 ≤ 11 then (if 2 ≤ h then a_ty L (h - 1) else none) else if q.1 = 12 then (if 1 ≤ h then a_ty L h else none) else if q.1 = 13 then a_ty L h else if q.1 = 14 ∨ q.1 = 15 then (if 1 ≤ h then a_ty L (h - 1) else none) else if q.1 = 16 then a_ty L h else none) else none
theorem a_ty_app : ∀ (A B : List (Nat × Nat)) (h : Nat), a_ty (A ++ B) h = (a_ty A h).bind (a_ty B) := by
  intro A
  induction A with
  | nil => intro B h; rfl
  | cons q A ih =>
    intro B h
    simp only [List.cons_append, a_ty, ih]
    repeat' split
    all_goals rfl
/-- cards lie once, and in bounds -/
def PD (P : Pos) : Prop := (∀ p, p < 6 → (P.1 p).Nodup ∧ ∀ c ∈ P.1 p, c < 24) ∧ (∀ p q c, p < 6 → q < 6 → c ∈ P.1 p → c ∈ P.1 q → p = q)
def ch (f : Nat → Int32) : List Nat → Int32 → Prop
  | [], x => x = -1
  | c :: cs, x => x = nI c ∧ ch f cs (f c)
theorem ch_congr {f g : Nat → Int32} : ∀ {l : List Nat} {x : Int32}, (∀ a ∈ l, g a = f a) → ch f l x → ch g l x := by
  intro l
  induction l with
  | nil => intro x _ h; exact h
  | cons c cs ih =>
    intro x hg h
    exact ⟨h.1, by rw [hg c List.mem_cons_self]; exact ih (fun a ha => hg a (List.mem_cons_of_mem _ ha)) h.2⟩
theorem nI_m1 {c : Nat} (h : c < 2147483648) : nI c ≠ -1 := by
  intro e
  have := congrArg Int32.toInt e
  rw [sm_ti h] at this
  have h2 : (-1 : Int32).toInt = -1 := by decide
  omega
/-- a card taken out of a chain -/
theorem ch_out {f g : Nat → Int32} {c : Nat} (hc : c < 24) (hg : ∀ a, a < 24 → g a = if f a = nI c then f c else f a) : ∀ {l : List Nat} {x : Int32}, (∀ a ∈ l, a < 24) → l.Nodup → ch f l x → ch g (a_fil c l) (if x = nI c then f c else x) := by
  intro l
  induction l with
  | nil =>
    intro x _ _ h
    have h : x = -1 := h
    rw [if_neg (by rw [h]; exact fun e => nI_m1 (by omega) e.symm)]
    exact h
  | cons a l ih =>
    intro x hl hn h
    have ha : a < 24 := hl a List.mem_cons_self
    have ih' := ih (x := f a) (fun b hb => hl b (List.mem_cons_of_mem _ hb)) (List.nodup_cons.mp hn).2 h.2
    by_cases e : a = c
    · subst e
      rw [if_pos h.1]
      have e2 : a_fil a (a :: l) = a_fil a l := by simp [a_fil]
      rw [e2]
      split at ih' <;> exact ih'
    · have e2 : a_fil c (a :: l) = a :: a_fil c l := by simp [a_fil, e]
      rw [e2, if_neg (by rw [h.1, sm_inj (by omega) (by omega)]; exact e)]
      refine ⟨h.1, ?_⟩
      rw [hg a ha]
      exact ih'
theorem a_fil_len {c : Nat} : ∀ {l : List Nat}, l.Nodup → c ∈ l → (a_fil c l).length + 1 = l.length := by
  intro l
  induction l with
  | nil => intro _ h; cases h
  | cons a l ih =>
    intro hn h
    by_cases e : a = c
    · subst e
      have h1 : a ∉ l := (List.nodup_cons.mp hn).1
      have e2 : a_fil a (a :: l) = l := by
        unfold a_fil
        rw [List.filter_cons_of_neg (by simp), List.filter_eq_self.mpr]
        intro b hb
        simp
        rintro rfl
        exact h1 hb
      rw [e2]; rfl
    · have e2 : a_fil c (a :: l) = a :: a_fil c l := by simp [a_fil, e]
      rw [e2, List.length_cons, List.length_cons, ih (List.nodup_cons.mp hn).2 (by
        rcases List.mem_cons.mp h with h | h
        · exact absurd h.symm e
        · exact h)]
theorem a_fil_no {c : Nat} {l : List Nat} (h : c ∉ l) : a_fil c l = l := by
  unfold a_fil
  rw [List.filter_eq_self]
  intro b hb
  simp
  rintro rfl
  exact h hb
theorem a_fil_mem {c x : Nat} {l : List Nat} : x ∈ a_fil c l ↔ x ∈ l ∧ x ≠ c := by
  unfold a_fil
  rw [List.mem_filter]
  simp
theorem a_fil_rev {c : Nat} {l : List Nat} : a_fil c l.reverse = (a_fil c l).reverse := by
  unfold a_fil
  rw [List.filter_reverse]
theorem a_fil_nd {c : Nat} {l : List Nat} (h : l.Nodup) : (a_fil c l).Nodup := List.Pairwise.filter _ h
/-- what stands at a chain's link -/
theorem ch_ne {f : Nat → Int32} {c : Nat} (hc : c < 24) : ∀ {l : List Nat} {x : Int32}, (∀ a ∈ l, a < 24) → l.Nodup → ch f l x → c ∈ l → f c ≠ nI c := by
  intro l
  induction l with
  | nil => intro x _ _ _ h; cases h
  | cons a l ih =>
    intro x hl hn h hm
    rcases List.mem_cons.mp hm with rfl | hm
    · have h2 := h.2
      cases l with
      | nil => rw [show f c = -1 from h2]; exact fun e => nI_m1 (by omega) e.symm
      | cons b l =>
        rw [h2.1]
        intro e
        have hb : b < 24 := hl b (by simp)
        rw [sm_inj (by omega) (by omega)] at e
        subst e
        simp at hn
    · exact ih (fun b hb => hl b (List.mem_cons_of_mem _ hb)) (List.nodup_cons.mp hn).2 h.2 hm
theorem ch_hd {f : Nat → Int32} {c : Nat} (hc : c < 24) {l : List Nat} {x : Int32} (hl : ∀ a ∈ l, a < 24) (h : ch f l x) (hm : c ∉ l) : x ≠ nI c := by
  cases l with
  | nil => rw [show x = -1 from h]; exact fun e => nI_m1 (by omega) e.symm
  | cons a l =>
    rw [h.1]
    intro e
    rw [sm_inj (by have := hl a List.mem_cons_self; omega) (by omega)] at e
    subst e
    exact hm List.mem_cons_self
theorem PD.go {P : Pos} {c p : Nat} (h : PD P) (hc : c < 24) : PD (a_go P c p) := by
  refine ⟨fun q hq => ?_, fun q r x hq hr h1 h2 => ?_⟩
  · have h1 := h.1 q hq
    show (if q = p then a_fil c (P.1 q) ++ [c] else a_fil c (P.1 q)).Nodup ∧ ∀ x ∈ (if q = p then a_fil c (P.1 q) ++ [c] else a_fil c (P.1 q)), x < 24
    split
    · refine ⟨?_, fun x hx => ?_⟩
      · rw [List.nodup_append]
        refine ⟨a_fil_nd h1.1, by simp, fun a ha b hb => ?_⟩
        rw [List.mem_singleton.mp hb]
        exact (a_fil_mem.mp ha).2
      · rcases List.mem_append.mp hx with hx | hx
        · exact h1.2 x (a_fil_mem.mp hx).1
        · rw [List.mem_singleton.mp hx]; exact hc
    · exact ⟨a_fil_nd h1.1, fun x hx => h1.2 x (a_fil_mem.mp hx).1⟩
  · have key : ∀ q, q < 6 → x ∈ (a_go P c p).1 q → (x = c ∧ q = p) ∨ (x ≠ c ∧ x ∈ P.1 q) := by
      intro q hq hx
      have hx : x ∈ (if q = p then a_fil c (P.1 q) ++ [c] else a_fil c (P.1 q)) := hx
      split at hx
      · rename_i e
        rcases List.mem_append.mp hx with hx | hx
        · exact Or.inr ⟨(a_fil_mem.mp hx).2, (a_fil_mem.mp hx).1⟩
        · exact Or.inl ⟨List.mem_singleton.mp hx, e⟩
      · exact Or.inr ⟨(a_fil_mem.mp hx).2, (a_fil_mem.mp hx).1⟩
    rcases key q hq h1 with ⟨e1, e2⟩ | ⟨e1, e2⟩
    · rcases key r hr h2 with ⟨g1, g2⟩ | ⟨g1, g2⟩
      · rw [e2, g2]
      · exact absurd e1 g1
    · rcases key r hr h2 with ⟨g1, g2⟩ | ⟨g1, g2⟩
      · exact absurd g1 e1
      · exact h.2 q r x hq hr e2 g2
/-- a position as the class keeps it, at the Table t -/
def TR (t : Nat) (P : Pos) (I : Nat → Nat → Int32) : Prop :=
  (∀ p, p < 6 → ch (I (t + 2)) (P.1 p).reverse (I (t + 3) p) ∧ I (t + 4) p = nI (P.1 p).length) ∧
  (∀ p, p < 6 → ∀ c ∈ P.1 p, I (t + 1) c = nI p) ∧ (∀ c, c < 24 → (∀ p, p < 6 → c ∉ P.1 p) → I (t + 1) c = -1 ∧ I (t + 2) c = -1) ∧
  (∀ j, j < 4 → I (t + 5) j = P.2.1 j) ∧ (∀ j, j < 2 → I (t + 6) j = P.2.2.1 j) ∧ I t 6 = nI P.2.2.2
/-- .. and as the reference keeps it, in the array x from b on; whose turn it is stands apart -/
def MR (x b : Nat) (P : Pos) (I : Nat → Nat → Int32) : Prop :=
  (∀ p, p < 6 → I x (b + p) = nI (P.1 p).length ∧ ∀ i (h : i < (P.1 p).length), I x (b + (13 + 24 * p + i)) = nI (P.1 p)[i]) ∧ (∀ j, j < 4 → I x (b + (6 + j)) = P.2.1 j) ∧ (∀ j, j < 2 → I x (b + (10 + j)) = P.2.2.1 j)
theorem TR.congr {t : Nat} {P : Pos} {I J : Nat → Nat → Int32} (h : TR t P I) (h0 : J t 6 = I t 6) (h1 : ∀ x, t < x → x < t + 7 → J x = I x) : TR t P J := by
  unfold TR
  rw [h0, h1 (t + 1) (by omega) (by omega), h1 (t + 2) (by omega) (by omega), h1 (t + 3) (by omega) (by omega), h1 (t + 4) (by omega) (by omega), h1 (t + 5) (by omega) (by omega), h1 (t + 6) (by omega) (by omega)]
  exact h
theorem MR.congr {x b : Nat} {P : Pos} {I J : Nat → Nat → Int32} (h : MR x b P I) (h1 : J x = I x) : MR x b P J := by
  unfold MR
  rw [h1]
  exact h
