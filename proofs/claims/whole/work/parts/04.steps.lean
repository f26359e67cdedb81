/-! ONE STEP of the pure machine, as equivalences -/
def pm_os (m pc : Nat) (ls : pm_Loc) (st : List Value) (M : pm_Mem) : Option (Prop × pm_St) := match pm_cd m pc with
  | none => none
  | some (op, len, a, b, n) => if op = 60 then none else if op = 63 then none else if op = 64 then none else if op = 67 then none else pm_next op len a b n pc ls st M
section PMS
variable {d m pc : Nat} {ls : pm_Loc} {st : List Value} {M : pm_Mem} {r : pm_Res} {t e : Nat} {ls' : pm_Loc} {st' : List Value} {M' : pm_Mem} {x y : Int32}
theorem pm_go2 {g : Prop} {pc' : Nat} (h : pm_os m pc ls st M = some (g, pc', ls', st', M')) : pm_R d m pc ls st M r ↔ g ∧ pm_R d m pc' ls' st' M' r := by
  rw [pm_R_iff]
  unfold pm_os at h
  unfold pm_stp
  split at h
  · cases h
  · rename_i hcd
    rw [hcd]
    dsimp only
    split at h
    · cases h
    · rename_i h1
      rw [if_neg h1]
      split at h
      · cases h
      · rename_i h2
        rw [if_neg h2]
        split at h
        · cases h
        · rename_i h3
          rw [if_neg h3]
          split at h
          · cases h
          · rename_i h4
            rw [if_neg h4, h]
theorem pm_go1 {pc' : Nat} (h : pm_os m pc ls st M = some (True, pc', ls', st', M')) : pm_R d m pc ls st M r ↔ pm_R d m pc' ls' st' M' r := (pm_go2 h).trans (Iff.of_eq (true_and _))
theorem pm_goB {c : Bool} (h : pm_os m pc ls st M = some (True, (if c = true then t else e), ls', st', M')) : pm_R d m pc ls st M r ↔ if c = true then pm_R d m t ls' st' M' r else pm_R d m e ls' st' M' r := by
  rw [pm_go1 h]
  split <;> exact Iff.rfl
theorem pm_eq (h : pm_os m pc ls st M = some (True, (if pm_cmp 0 x y = true then t else e), ls', st', M')) : pm_R d m pc ls st M r ↔ if x = y then pm_R d m t ls' st' M' r else pm_R d m e ls' st' M' r := by
  rw [pm_goB h]
  simp only [pm_cmp, decide_eq_true_eq]
theorem pm_ne (h : pm_os m pc ls st M = some (True, (if pm_cmp 1 x y = true then t else e), ls', st', M')) : pm_R d m pc ls st M r ↔ if x = y then pm_R d m e ls' st' M' r else pm_R d m t ls' st' M' r := by
  rw [pm_goB h]
  simp only [pm_cmp, decide_eq_true_eq]
  by_cases q : x = y
  · rw [if_neg (fun z => z q), if_pos q]
  · rw [if_pos q, if_neg q]
theorem pm_lt (h : pm_os m pc ls st M = some (True, (if pm_cmp 2 x y = true then t else e), ls', st', M')) : pm_R d m pc ls st M r ↔ if x < y then pm_R d m t ls' st' M' r else pm_R d m e ls' st' M' r := by
  rw [pm_goB h]
  simp only [pm_cmp, decide_eq_true_eq]
theorem pm_ge (h : pm_os m pc ls st M = some (True, (if pm_cmp 3 x y = true then t else e), ls', st', M')) : pm_R d m pc ls st M r ↔ if x < y then pm_R d m e ls' st' M' r else pm_R d m t ls' st' M' r := by
  rw [pm_goB h]
  simp only [pm_cmp, decide_eq_true_eq]
  by_cases q : x < y
  · rw [if_neg (Int32.not_le.mpr q), if_pos q]
  · rw [if_pos (Int32.not_lt.mp q), if_neg q]
theorem pm_gt (h : pm_os m pc ls st M = some (True, (if pm_cmp 4 x y = true then t else e), ls', st', M')) : pm_R d m pc ls st M r ↔ if y < x then pm_R d m t ls' st' M' r else pm_R d m e ls' st' M' r := by
  rw [pm_goB h]
  simp only [pm_cmp, decide_eq_true_eq]
theorem pm_le (h : pm_os m pc ls st M = some (True, (if pm_cmp 5 x y = true then t else e), ls', st', M')) : pm_R d m pc ls st M r ↔ if y < x then pm_R d m e ls' st' M' r else pm_R d m t ls' st' M' r := by
  rw [pm_goB h]
  simp only [pm_cmp, decide_eq_true_eq]
  by_cases q : y < x
  · rw [if_neg (Int32.not_le.mpr q), if_pos q]
  · rw [if_pos (Int32.not_lt.mp q), if_neg q]
/-- what a call's answer leads to -/
def pm_bk (Kr : Option Value → pm_Mem → Prop) (Kt : Nat → pm_Mem → Prop) (q : pm_Res) : Prop := match q with
  | (.inl v, M) => Kr v M
  | (.inr k, M) => Kt k M
theorem pm_bk_r {Kr : Option Value → pm_Mem → Prop} {Kt : Nat → pm_Mem → Prop} {v : Option Value} : pm_bk Kr Kt (.inl v, M) = Kr v M := rfl
theorem pm_bk_t {Kr : Option Value → pm_Mem → Prop} {Kt : Nat → pm_Mem → Prop} {k : Nat} : pm_bk Kr Kt (.inr k, M) = Kt k M := rfl
theorem pm_call {G : Prop} {len a b pc' : Nat} {n : Int32} {as rest : List Value} (h : pm_cd m pc = some (60, len, a, b, n)) (h1 : (st.take b).reverse = as) (h2 : st.drop b = rest) (h3 : b ≤ st.length ∧ st.length ≤ b + 4 ∧ pm_sg a (st.take b).reverse = true) (h4 : pc + 3 = pc') (h5 : ∀ k, pm_hd m pc k = none) (h7 : pm_rc a as M = G) :
    pm_R d m pc ls st M r ↔ G ∧ ∃ q, pm_C d a as M q ∧ pm_bk (fun v M' => pm_R d m pc' ls (v.toList ++ rest) M' r) (fun k M' => r = (.inr k, M')) q := by
  subst h1; subst h2; subst h4; subst h7
  rw [pm_R_iff]
  unfold pm_stp
  rw [h]
  show (_ ∧ ∃ q, _) ↔ _
  constructor
  · rintro ⟨q0, q, q1, -, q2⟩
    refine ⟨q0, q, q1, ?_⟩
    obtain ⟨v | k, M1⟩ := q
    · exact q2
    · simp only [pm_aft, h5] at q2
      exact q2
  · rintro ⟨q0, q, q1, q2⟩
    refine ⟨q0, q, q1, h3, ?_⟩
    obtain ⟨v | k, M1⟩ := q
    · exact q2
    · simp only [pm_aft, h5]
      exact q2
/-- .. a static one -/
theorem pm_callS {len a b pc' : Nat} {n : Int32} {as rest : List Value} (h : pm_cd m pc = some (60, len, a, b, n)) (h1 : (st.take b).reverse = as) (h2 : st.drop b = rest) (h3 : b ≤ st.length ∧ st.length ≤ b + 4 ∧ pm_sg a (st.take b).reverse = true) (h4 : pc + 3 = pc') (h5 : ∀ k, pm_hd m pc k = none) (h7 : pm_stc a = true) :
    pm_R d m pc ls st M r ↔ ∃ q, pm_C d a as M q ∧ pm_bk (fun v M' => pm_R d m pc' ls (v.toList ++ rest) M' r) (fun k M' => r = (.inr k, M')) q :=
  (pm_call h h1 h2 h3 h4 h5 (by unfold pm_rc; rw [if_pos h7])).trans (and_iff_right trivial)
/-- .. in a method that catches -/
theorem pm_callH {G : Prop} {len a b pc' : Nat} {n : Int32} {as rest : List Value} (h : pm_cd m pc = some (60, len, a, b, n)) (h1 : (st.take b).reverse = as) (h2 : st.drop b = rest) (h3 : b ≤ st.length ∧ st.length ≤ b + 4 ∧ pm_sg a (st.take b).reverse = true) (h4 : pc + 3 = pc') (h7 : pm_rc a as M = G) :
    pm_R d m pc ls st M r ↔ G ∧ ∃ q, pm_C d a as M q ∧ pm_bk (fun v M' => pm_R d m pc' ls (v.toList ++ rest) M' r) (fun k M' => match pm_hd m pc k with | none => r = (.inr k, M') | some h => pm_R d m h.1 (ls.set h.2 none) [] M' r) q := by
  subst h1; subst h2; subst h4; subst h7
  rw [pm_R_iff]
  unfold pm_stp
  rw [h]
  show (_ ∧ ∃ q, _) ↔ _
  constructor
  · rintro ⟨q0, q, q1, -, q2⟩
    exact ⟨q0, q, q1, by obtain ⟨v | k, M1⟩ := q <;> exact q2⟩
  · rintro ⟨q0, q, q1, q2⟩
    exact ⟨q0, q, q1, h3, by obtain ⟨v | k, M1⟩ := q <;> exact q2⟩
theorem pm_vret {len a b : Nat} {n : Int32} (h : pm_cd m pc = some (63, len, a, b, n)) : pm_R d m pc ls [] M r ↔ r = (.inl none, M) := by
  rw [pm_R_iff]
  unfold pm_stp
  rw [h]
  show ([] = [] ∧ _) ↔ _
  simp
theorem pm_iret {len a b : Nat} {n : Int32} {v : Int32} (h : pm_cd m pc = some (64, len, a, b, n)) : pm_R d m pc ls [.int v] M r ↔ fits (pm_ty a) (.int v) = true ∧ r = (.inl (some (.int v)), M) := by
  rw [pm_R_iff]
  unfold pm_stp
  rw [h]
  show (∃ v1, _) ↔ _
  constructor
  · rintro ⟨w, h1, h2, h3⟩
    cases h1
    exact ⟨h2, h3⟩
  · rintro ⟨h2, h3⟩
    exact ⟨v, rfl, h2, h3⟩
theorem pm_iret0 {len b : Nat} {n : Int32} {v : Int32} (h : pm_cd m pc = some (64, len, 0, b, n)) : pm_R d m pc ls [.int v] M r ↔ r = (.inl (some (.int v)), M) := by
  rw [pm_iret h]
  exact ⟨fun q => q.2, fun q => ⟨rfl, q⟩⟩
theorem pm_thr {len a b : Nat} {n : Int32} (h : pm_cd m pc = some (67, len, a, b, n)) : pm_R d m pc ls [] M r ↔ r = (.inr a, pm_tk M) := by
  rw [pm_R_iff]
  unfold pm_stp
  rw [h]
  show ([] = [] ∧ _) ↔ _
  simp
theorem pm_swg {ts : List Nat} {k : Int32} {dd : Nat} (h : pm_os m pc ls st M = some (True, pm_swt ts k dd x, ls', st', M')) : pm_R d m pc ls st M r ↔ pm_R d m (pm_swt ts k dd x) ls' st' M' r := pm_go1 h
theorem pm_swc {t dd : Nat} {ts : List Nat} {k : Int32} : pm_R d m (pm_swt (t :: ts) k dd x) ls st M r ↔ if x = k then pm_R d m t ls st M r else pm_R d m (pm_swt ts (k + 1) dd x) ls st M r := by
  rw [show pm_swt (t :: ts) k dd x = if x = k then t else pm_swt ts (k + 1) dd x from rfl]
  split <;> exact Iff.rfl
theorem pm_ifc {c : Prop} {A B B' : Prop} (ic : Decidable c) (h : B ↔ B') : (if c then A else B) ↔ if c then A else B' := by
  split
  · exact Iff.rfl
  · exact h
end PMS
