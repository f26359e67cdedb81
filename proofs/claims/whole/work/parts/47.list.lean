/-! MOVES: abstract, and the class's listMoves and makeMove -/
/-- code, suits, ranks, rules (with a card? its guard, its effects), the ending -/
def Gm : Type := List (Nat × Nat) × Nat × Nat × List (Bool × Nat × Nat) × Nat
def g_n (G : Gm) : Nat := G.2.1 * G.2.2.1
def g_r (G : Gm) (r : Nat) : Bool × Nat × Nat := G.2.2.2.1.getD r (false, 0, 0)
def a_seg (C : List (Nat × Nat)) (k : Nat) : List (Nat × Nat) := (C.drop k).takeWhile (fun q => !(q.1 == 17))
/-- from k on stands code that leaves n numbers, then an END; e: it only computes -/
def g_sg (C : List (Nat × Nat)) (k n : Nat) (e : Bool) : Prop := ∃ b Z, C.drop k = a_seg C k ++ (17, b) :: Z ∧ a_ty (a_seg C k) 0 = some n ∧ (e = true → ∀ q ∈ a_seg C k, q.1 ≤ 12)
def g_ok (G : Gm) : Prop := G.1.length ≤ 160 ∧ (1 ≤ G.2.1 ∧ G.2.1 ≤ 4) ∧ (1 ≤ G.2.2.1 ∧ G.2.2.1 ≤ 6) ∧ G.2.2.2.1.length ≤ 8 ∧ (∀ r, r < G.2.2.2.1.length → g_sg G.1 (g_r G r).2.1 1 true ∧ g_sg G.1 (g_r G r).2.2 0 false ∧ (g_r G r).2.2 = (g_r G r).2.1 + (a_seg G.1 (g_r G r).2.1).length + 1) ∧ g_sg G.1 G.2.2.2.2 1 true
theorem g_n24 {G : Gm} (h : g_ok G) : 1 ≤ g_n G ∧ g_n G ≤ 24 := by
  obtain ⟨-, ⟨h1, h2⟩, ⟨h3, h4⟩, -⟩ := h
  unfold g_n
  exact ⟨Nat.mul_pos h1 h3, Nat.le_trans (Nat.mul_le_mul h2 h4) (by decide)⟩
/-- what an expression comes to -/
def a_val (G : Gm) (P : Pos) (c : Int32) (k : Nat) : Int32 := (a_run G.2.2.1 P.2.2.2 c (a_seg G.1 k) [] P).1.headD 0
def a_ch (cc : Nat) : Int32 := if cc = 0 then -1 else nI (cc - 1)
/-- may rule r be used with this card (one more than its number; 0: none)? -/
def a_mayb (G : Gm) (P : Pos) (r cc : Nat) : Bool := decide ((cc = 0 ∨ cc - 1 ∈ P.1 P.2.2.2) ∧ ¬ a_val G P (a_ch cc) (g_r G r).2.1 = 0)
/-- the moves of rule r -/
def a_rule (G : Gm) (P : Pos) (r : Nat) : List (Nat × Nat) := ((if (g_r G r).1 = true then (List.range' 0 (g_n G)).map (· + 1) else [0]).filter (fun cc => a_mayb G P r cc)).map (fun cc => (r, cc))
def a_list (G : Gm) (P : Pos) : List (Nat × Nat) := if a_val G P (-1) G.2.2.2.2 = 0 then (List.range' 0 G.2.2.2.1.length).flatMap (a_rule G P) else []
/-- a move made -/
def a_make (G : Gm) (P : Pos) (m : Nat × Nat) : Pos := (a_run G.2.2.1 P.2.2.2 (a_ch m.2) (a_seg G.1 (g_r G m.1).2.2) [] P).2
theorem a_run_app {rk s : Nat} {c : Int32} {L : List (Nat × Nat)} : ∀ {S : List Int32} {P : Pos}, (∀ q ∈ L, q.1 ≤ 12) → (a_run rk s c L S P).2 = P := by
  induction L with
  | nil => intro S P _; rfl
  | cons x L ih =>
    intro S P h
    have hx := h x List.mem_cons_self
    show (a_run rk s c L (a_step rk s c x.1 x.2 S P).1 (a_step rk s c x.1 x.2 S P).2).2 = P
    have e : (a_step rk s c x.1 x.2 S P).2 = P := by
      unfold a_step
      by_cases h4 : x.1 ≤ 4
      · rw [if_pos h4]
      · rw [if_neg h4]
        by_cases h11 : x.1 ≤ 11
        · rw [if_pos h11]; split <;> rfl
        · rw [if_neg h11, if_pos (by omega)]; split <;> rfl
    rw [e]
    exact ih (fun q hq => h q (List.mem_cons_of_mem _ hq))
/-- the game as the class keeps it -/
def GR (G : Gm) (I : Nat → Nat → Int32) : Prop := GC G.1 I ∧ I 10 3 = nI (g_n G) ∧ I 10 4 = nI G.2.2.1 ∧ I 10 5 = nI G.2.2.2.1.length ∧ I 10 9 = nI G.2.2.2.2 ∧ ∀ r, r < G.2.2.2.1.length → I 13 r = (if (g_r G r).1 = true then 77 else 80) ∧ I 14 r = nI (g_r G r).2.1 ∧ I 15 r = nI (g_r G r).2.2
theorem GR.congr {G : Gm} {I J : Nat → Nat → Int32} (h : GR G I) (hf : ∀ x, 10 ≤ x → x ≤ 15 → J x = I x) : GR G J := by
  obtain ⟨h1, h2, h3, h4, h5, h6⟩ := h
  refine ⟨⟨h1.1, ?_, ?_⟩, ?_, ?_, ?_, ?_, ?_⟩
  · rw [hf 10 (by omega) (by omega)]; exact h1.2.1
  · rw [hf 11 (by omega) (by omega), hf 12 (by omega) (by omega)]; exact h1.2.2
  · rw [hf 10 (by omega) (by omega)]; exact h2
  · rw [hf 10 (by omega) (by omega)]; exact h3
  · rw [hf 10 (by omega) (by omega)]; exact h4
  · rw [hf 10 (by omega) (by omega)]; exact h5
  · rw [hf 13 (by omega) (by omega), hf 14 (by omega) (by omega), hf 15 (by omega) (by omega)]; exact h6
theorem GR.fr {t : Nat} (ht : tb t) {G : Gm} {I J : Nat → Nat → Int32} (h : GR G I) (hf : FR t I J) : GR G J := h.congr (fun x h1 h2 => by funext j; have := tb_16 ht; exact hf x j (by omega) (by omega) (by omega))
/-- where moves may be listed -/
def rw_ (R : Nat) : Prop := R = 117 ∨ (20 ≤ R ∧ R ≤ 30)
theorem rw_sh : ∀ R, R < 118 → rw_ R → pm_sh R = (1, 192) := by
  intro R hR h
  rcases h with rfl | ⟨h1, h2⟩
  · decide +kernel
  · have : ∀ x, x < 11 → pm_sh (20 + x) = (1, 192) := by decide +kernel
    have := this (R - 20) (by omega)
    rwa [show 20 + (R - 20) = R by omega] at this
theorem rw_tb {R t : Nat} (hR : rw_ R) (ht : tb t) : R < t ∨ t + 6 < R := by
  rcases hR with rfl | ⟨h1, h2⟩
  · rcases ht with rfl | ⟨h, hh, rfl⟩ | ⟨h, hh, rfl⟩ <;> omega
  · rcases ht with rfl | ⟨h, hh, rfl⟩ | ⟨h, hh, rfl⟩ <;> omega
def FL (t R : Nat) (I J : Nat → Nat → Int32) : Prop := ∀ x j, x ≠ 16 → ¬ (x = 9 ∧ j = 2) → x ≠ R → (x < t ∨ t + 6 < x) → J x j = I x j
theorem FL.refl {t R : Nat} {I : Nat → Nat → Int32} : FL t R I I := fun _ _ _ _ _ _ => rfl
theorem FL.trans {t R : Nat} {I J K : Nat → Nat → Int32} (h1 : FL t R I J) (h2 : FL t R J K) : FL t R I K := fun x j a b c e => (h2 x j a b c e).trans (h1 x j a b c e)
theorem FR.fl {t R : Nat} {I J : Nat → Nat → Int32} (h : FR t I J) : FL t R I J := fun x j a b _ e => h x j a b e
def a_enc (m : Nat × Nat) : Nat := m.1 * 25 + m.2
def RW (R : Nat) (L : List (Nat × Nat)) (I : Nat → Nat → Int32) : Prop := ∀ i, i < L.length → I R i = nI (a_enc (L.getD i (0, 0)))
theorem RW.snoc {R : Nat} {L : List (Nat × Nat)} {I : Nat → Nat → Int32} {m : Nat × Nat} (h : RW R L I) : RW R (L ++ [m]) (pm_up I R L.length (nI (a_enc m))) := by
  intro i hi
  by_cases e : i = L.length
  · subst e
    rw [up_eq, List.getD_eq_getElem?_getD, List.getElem?_append_right (by omega)]
    simp
  · have hi' : i < L.length := by simp at hi; omega
    rw [up_ne (fun q => e q.2), h i hi', List.getD_eq_getElem?_getD, List.getD_eq_getElem?_getD, List.getElem?_append_left hi']
theorem a_ch_CH {N cc : Nat} (h : cc ≤ N) : CH N (a_ch cc) := by
  unfold a_ch
  split
  · exact Or.inl rfl
  · exact Or.inr ⟨cc - 1, by omega, rfl⟩
section LST
variable {d k t : Nat} {o : Int64}
/-- an expression, run -/
theorem c85v (ht : tb t) {G : Gm} (hG : g_ok G) {P : Pos} {I : Nat → Nat → Int32} {kk : Nat} {c : Int32} (hc : CH (g_n G) c) (hk : g_sg G.1 kk 1 true) (hR : GR G I) (h : TR t P I) (hP : PA (g_n G) P) :
    ∃ J, TR t P J ∧ FR t I J ∧ ∀ q, (pm_C (d + 4) 85 [.ref 9, .ref t, .int (nI kk), .int c] (Wm I k o) q ↔ q = (.inl (some (.int (a_val G P c kk))), Wm J k o)) := by
  obtain ⟨b, Z, h1, h2, h3⟩ := hk
  obtain ⟨J, x, g1, g2, g3, g4, g5⟩ := (c85 (d := d) (k := k) (o := o) ht hG.2.2.1.1 hG.2.2.1.2 hc h1 hR.1 hR.2.2.1 h hP).1 h2
  rw [a_run_app (h3 rfl)] at g2
  refine ⟨J, g2, g4, fun q => ?_⟩
  rw [g5]
  unfold a_val
  rw [g1]
  rfl
/-- effects, run -/
theorem c85e (ht : tb t) {G : Gm} (hG : g_ok G) {P : Pos} {I : Nat → Nat → Int32} {kk : Nat} {c : Int32} (hc : CH (g_n G) c) (hk : g_sg G.1 kk 0 false) (hR : GR G I) (h : TR t P I) (hP : PA (g_n G) P) :
    ∃ J, TR t (a_run G.2.2.1 P.2.2.2 c (a_seg G.1 kk) [] P).2 J ∧ PA (g_n G) (a_run G.2.2.1 P.2.2.2 c (a_seg G.1 kk) [] P).2 ∧ FR t I J ∧ ∀ q, (pm_C (d + 4) 85 [.ref 9, .ref t, .int (nI kk), .int c] (Wm I k o) q ↔ q = (.inl (some (.int 0)), Wm J k o)) := by
  obtain ⟨b, Z, h1, h2, h3⟩ := hk
  exact (c85 (d := d) (k := k) (o := o) ht hG.2.2.1.1 hG.2.2.1.2 hc h1 hR.1 hR.2.2.1 h hP).2 h2
/-- one card of one rule -/
theorem c83_i (ht : tb t) {G : Gm} (hG : g_ok G) {P : Pos} (hP : PA (g_n G) P) {R r cc : Nat} (hR : rw_ R) (hr : r < G.2.2.2.1.length) (hcc : cc ≤ g_n G) {L : List (Nat × Nat)} (hL : L.length < 192) {I : Nat → Nat → Int32} (hGR : GR G I) (h : TR t P I) (hW : RW R L I) {last : Int32} (hlast : ¬ last < a_ch cc) {x5 x6 y9 : Option Value} :
    ∃ J z9, TR t P J ∧ GR G J ∧ RW R (L ++ (if a_mayb G P r cc = true then [(r, cc)] else [])) J ∧ FL t R I J ∧ ∀ q, (pm_R (d + 4) 83 93 [some (.ref 9), some (.ref t), some (.ref R), some (.int (nI L.length)), some (.int (nI r)), x5, x6, some (.int last), some (.int (a_ch cc)), y9] [] (Wm I k o) q ↔
      pm_R (d + 4) 83 93 [some (.ref 9), some (.ref t), some (.ref R), some (.int (nI (L ++ (if a_mayb G P r cc = true then [(r, cc)] else [])).length)), some (.int (nI r)), x5, x6, some (.int last), some (.int (a_ch cc + 1)), z9] [] (Wm J k o) q) := by
  have h8 : G.2.2.2.1.length ≤ 8 := hG.2.2.2.1
  have hsh := rw_sh R (by rcases hR with rfl | h <;> omega) hR
  have hRl : R < 560 := by rcases hR with rfl | h <;> omega
  have hg := hGR.2.2.2.2.2 r hr
  have hn := g_n24 hG
  have h16 := tb_16 ht
  have hRt := rw_tb hR ht
  have hopen : ∀ q, (pm_R (d + 4) 83 93 [some (.ref 9), some (.ref t), some (.ref R), some (.int (nI L.length)), some (.int (nI r)), x5, x6, some (.int last), some (.int (a_ch cc)), y9] [] (Wm I k o) q ↔ pm_R (d + 4) 83 127 [some (.ref 9), some (.ref t), some (.ref R), some (.int (nI L.length)), some (.int (nI r)), x5, x6, some (.int last), some (.int (a_ch cc)), some (.int (if cc = 0 ∨ cc - 1 ∈ P.1 P.2.2.2 then 1 else 0))] [] (Wm I k o) q) := by
    intro q
    rw [q83_93]
    simp only [q83_95, q83_97, show (last < a_ch cc) ↔ False from iff_false_intro hlast, reduceIte, q83_100, q83_102]
    by_cases e : cc = 0
    · simp only [a_ch, e, reduceIte, q83_103, q83_120, q83_121, q83_125, true_or]
    · have hx : cc - 1 < g_n G := by omega
      obtain ⟨p, hp, hm⟩ := (hP.2.1 _).mp hx
      have hpl := h.2.1 p hp _ hm
      have hiff : cc - 1 ∈ P.1 P.2.2.2 ↔ p = P.2.2.2 := ⟨fun q => hP.1.2 p _ _ hp (by have := hP.2.2.2; omega) hm q, fun q => q ▸ hm⟩
      simp only [a_ch, if_neg e, q83_103, show (nI (cc - 1) = -1) ↔ False from iff_false_intro (nI_m1 (by omega)), reduceIte, q83_106, q83_107, q83_110, q83_112, q83_113, q83_114, q83_117, W_1, W_I, W_mk, W_tk, pm_rv, rf_0_0, rf_0_1, rf_0_2, rf_0_3, rf_0_4, rf_0_7, rf_0_8, rf_1_0, rf_1_2, rf_3_0, rf_3_1, rf_3_6, rf_3_7, rf_3_8, rf_9_0, rf_9_1, rf_10_0, rf_10_1, rf_10_6, rf_10_7, rf_10_8, rf_17_0, rf_17_1, rf_538_2, rf_538_6, rf_538_7, rf_538_9, rf_538_11, rf_538_12, rf_538_18, rf_538_19, rf_538_22, rf_538_23, rf_538_25, rf_538_27, rf_538_28, rf_538_30, rf_538_31, rf_538_32, rf_538_33, rf_538_34, rf_538_35, rf_538_36, ob_0, ob_1, ob_3, ob_9, ob_10, ob_17, ob_538, ar_2, ar_4, ar_5, ar_6, ar_7, ar_8, ar_11, ar_12, ar_13, ar_14, ar_15, ar_16, ar_116, ar_117, ar_539, ar_540, ar_541, ar_542, ar_543, ar_544, ar_545, ar_546, ar_547, ar_548, ar_549, ar_550, ar_551, ar_552, ar_553, ar_554, ar_555, ar_556, ar_557, ar_558, ob_t ht, rt_0 ht, at_0 ht, rt_1 ht, at_1 ht, rt_2 ht, at_2 ht, rt_3 ht, at_3 ht, rt_4 ht, at_4 ht, rt_5 ht, at_5 ht, ex_eq, ex_ite, pm_bk_r, pm_bk_t, ol_nil, ol_one, true_and, and_true, false_and, and_false, reduceIte, Nat.reduceEqDiff, up_at, Nat.add_left_cancel_iff, sm_in (show cc - 1 < 2147483648 by omega), show cc - 1 < 24 by omega, sm_cl (show cc - 1 < 2147483648 by omega), hpl, h.2.2.2.2.2, sm_inj (show p < 2147483648 by omega) (show P.2.2.2 < 2147483648 by have := hP.2.2.2; omega), false_or, e, hiff]
      by_cases e2 : p = P.2.2.2
      · simp only [e2, reduceIte, q83_120, q83_121, q83_125]
      · simp only [e2, reduceIte, q83_124, q83_125]
  by_cases ho : cc = 0 ∨ cc - 1 ∈ P.1 P.2.2.2
  · obtain ⟨J, g1, g2, g3⟩ := c85v (d := d) (k := k) (o := o) ht hG (a_ch_CH hcc) (hG.2.2.2.2.1 r hr).1 hGR h hP
    have hWJ : RW R L J := fun i hi => by rw [g2 R i (by rcases hR with rfl | h <;> omega) (by rcases hR with rfl | h <;> omega) hRt]; exact hW i hi
    by_cases hv : a_val G P (a_ch cc) (g_r G r).2.1 = 0
    · have hm : a_mayb G P r cc = false := by simp [a_mayb, hv]
      have e0 : L ++ (if a_mayb G P r cc = true then [(r, cc)] else []) = L := by rw [hm]; simp
      rw [e0]
      refine ⟨J, some (.int 1), g1, hGR.fr ht g2, hWJ, g2.fl, fun q => ?_⟩
      rw [hopen]
      simp only [if_pos ho, q83_127, q83_129, show ((1 : Int32) = 0) ↔ False from by decide, reduceIte, q83_132, q83_133, q83_134, q83_135, q83_138, q83_139, q83_140, q83_141, q83_144, q83_147, q83_149, q83_150, q83_152, q83_155, q83_174, q83_177, W_1, W_I, W_mk, W_tk, pm_rv, rf_0_0, rf_0_1, rf_0_2, rf_0_3, rf_0_4, rf_0_7, rf_0_8, rf_1_0, rf_1_2, rf_3_0, rf_3_1, rf_3_6, rf_3_7, rf_3_8, rf_9_0, rf_9_1, rf_10_0, rf_10_1, rf_10_6, rf_10_7, rf_10_8, rf_17_0, rf_17_1, rf_538_2, rf_538_6, rf_538_7, rf_538_9, rf_538_11, rf_538_12, rf_538_18, rf_538_19, rf_538_22, rf_538_23, rf_538_25, rf_538_27, rf_538_28, rf_538_30, rf_538_31, rf_538_32, rf_538_33, rf_538_34, rf_538_35, rf_538_36, ob_0, ob_1, ob_3, ob_9, ob_10, ob_17, ob_538, ar_2, ar_4, ar_5, ar_6, ar_7, ar_8, ar_11, ar_12, ar_13, ar_14, ar_15, ar_16, ar_116, ar_117, ar_539, ar_540, ar_541, ar_542, ar_543, ar_544, ar_545, ar_546, ar_547, ar_548, ar_549, ar_550, ar_551, ar_552, ar_553, ar_554, ar_555, ar_556, ar_557, ar_558, ex_eq, ex_ite, pm_bk_r, pm_bk_t, ol_nil, ol_one, true_and, and_true, false_and, and_false, reduceIte, Nat.reduceEqDiff, up_at, Nat.add_left_cancel_iff, hsh, hRl, show ¬ (1 = 0) from by decide, not_false_eq_true, show (nI L.length < nI 192) ↔ True from iff_true_intro (by rw [sm_lt (by omega) (by omega)]; exact hL), sm_in (show r < 2147483648 by omega), show r < 8 by omega, sm_cl (show r < 2147483648 by omega), hg.2.1, g3, hv]
    · have hm : a_mayb G P r cc = true := by simp [a_mayb, hv, ho]
      rw [hm]
      have he : nI r * 25 + a_ch cc + 1 = nI (a_enc (r, cc)) := by
        unfold a_enc a_ch
        rw [show (25 : Int32) = nI 25 from rfl, sm_mul]
        by_cases e : cc = 0
        · rw [if_pos e, Int32.add_assoc, e]
          exact Int32.add_zero _
        · rw [if_neg e, sm_add, sm_s]
          congr 1
          show r * 25 + (cc - 1) + 1 = r * 25 + cc
          omega
      have hRa : ∀ i : Int32, pm_arr (Wm J k o) R 0 i ↔ vp_in i 192 := fun i => by
        rw [W_arr, hsh]
        exact and_iff_right ⟨hRl, rfl⟩
      have hR9 : R ≠ 9 ∧ R ≠ 16 ∧ (R < 10 ∨ 15 < R) := by rcases hR with rfl | h <;> omega
      refine ⟨pm_up J R L.length (nI (a_enc (r, cc))), some (.int 1), ?_, ?_, hWJ.snoc, g2.fl.trans (fun x j _ _ hx _ => up_ne (fun q => hx q.1)), fun q => ?_⟩
      · exact g1.congr (up_ne (fun q => by omega)) (fun x h1 h2 => up_row (by omega))
      · exact (hGR.fr ht g2).congr (fun x h1 h2 => up_row (by omega))
      · rw [hopen]
        simp only [if_pos ho, q83_127, q83_129, show ((1 : Int32) = 0) ↔ False from by decide, reduceIte, q83_132, q83_133, q83_134, q83_135, q83_138, q83_139, q83_140, q83_141, q83_144, q83_147, q83_149, q83_150, q83_152, q83_155, q83_158, q83_159, q83_160, q83_162, q83_164, q83_165, q83_167, q83_168, q83_169, q83_170, q83_171, q83_174, q83_177, W_1, W_I, W_mk, W_tk, pm_rv, rf_0_0, rf_0_1, rf_0_2, rf_0_3, rf_0_4, rf_0_7, rf_0_8, rf_1_0, rf_1_2, rf_3_0, rf_3_1, rf_3_6, rf_3_7, rf_3_8, rf_9_0, rf_9_1, rf_10_0, rf_10_1, rf_10_6, rf_10_7, rf_10_8, rf_17_0, rf_17_1, rf_538_2, rf_538_6, rf_538_7, rf_538_9, rf_538_11, rf_538_12, rf_538_18, rf_538_19, rf_538_22, rf_538_23, rf_538_25, rf_538_27, rf_538_28, rf_538_30, rf_538_31, rf_538_32, rf_538_33, rf_538_34, rf_538_35, rf_538_36, ob_0, ob_1, ob_3, ob_9, ob_10, ob_17, ob_538, ar_2, ar_4, ar_5, ar_6, ar_7, ar_8, ar_11, ar_12, ar_13, ar_14, ar_15, ar_16, ar_116, ar_117, ar_539, ar_540, ar_541, ar_542, ar_543, ar_544, ar_545, ar_546, ar_547, ar_548, ar_549, ar_550, ar_551, ar_552, ar_553, ar_554, ar_555, ar_556, ar_557, ar_558, ex_eq, ex_ite, pm_bk_r, pm_bk_t, ol_nil, ol_one, true_and, and_true, false_and, and_false, reduceIte, Nat.reduceEqDiff, up_at, Nat.add_left_cancel_iff, hRa, hsh, hRl, show ¬ (1 = 0) from by decide, not_false_eq_true, show (nI L.length < nI 192) ↔ True from iff_true_intro (by rw [sm_lt (by omega) (by omega)]; exact hL), sm_in (show r < 2147483648 by omega), show r < 8 by omega, sm_cl (show r < 2147483648 by omega), hg.2.1, g3, hv, sm_in (show L.length < 2147483648 by omega), hL, sm_cl (show L.length < 2147483648 by omega), he, sm_s, List.length_append, List.length_singleton]
  · have hm : a_mayb G P r cc = false := by simp [a_mayb, ho]
    have e0 : L ++ (if a_mayb G P r cc = true then [(r, cc)] else []) = L := by rw [hm]; simp
    rw [e0]
    refine ⟨I, some (.int 0), h, hGR, hW, FL.refl, fun q => ?_⟩
    rw [hopen]
    simp only [if_neg ho, q83_127, q83_129, reduceIte, q83_174, q83_177]
end LST
