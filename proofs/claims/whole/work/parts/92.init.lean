/-! THE CONSTRUCTORS -/
/-- the memory while cells are made -/
def Nm (n : Nat) (I : Nat → Nat → Int32) (R : Nat → Nat → Option Nat) : pm_Mem := (n, I, R, fun _ _ => 0)
/-- the cells from n on are fresh -/
def Fz (n : Nat) (I : Nat → Nat → Int32) (R : Nat → Nat → Option Nat) : Prop := ∀ x, n ≤ x → x < 20000 → ∀ j, I x j = 0 ∧ R x j = none
section INIT
variable {d n : Nat} {I : Nat → Nat → Int32} {R : Nat → Nat → Option Nat}
theorem Fz.mono {m : Nat} (h : Fz n I R) (hm : n ≤ m) : Fz m I R ↔ True := iff_true_intro (fun x a b j => h x (by omega) b j)
theorem Fz_up {m x j : Nat} {v : Option Nat} (hx : x < m) : Fz m I (pm_upR R x j v) ↔ Fz m I R := by
  have e : ∀ y, m ≤ y → ∀ i, pm_upR R x j v y i = R y i := fun y hy i => if_neg (fun q => by omega)
  constructor
  · intro h y a b i
    rw [← e y a i]
    exact h y a b i
  · intro h y a b i
    rw [e y a i]
    exact h y a b i
theorem Fz_ui {m x j : Nat} {v : Int32} (hx : x < m) : Fz m (pm_up I x j v) R ↔ Fz m I R := by
  have e : ∀ y, m ≤ y → ∀ i, pm_up I x j v y i = I y i := fun y hy i => if_neg (fun q => by omega)
  constructor
  · intro h y a b i
    rw [← e y a i]
    exact h y a b i
  · intro h y a b i
    rw [e y a i]
    exact h y a b i
theorem N_1 : (Nm n I R).1 = n := rfl
theorem N_I : (Nm n I R).2.1 = I := rfl
theorem N_R : (Nm n I R).2.2.1 = R := rfl
theorem zI {n : Nat} {I : Nat → Nat → Int32} {R : Nat → Nat → Option Nat} (h : Fz n I R) (hn : n < 20000) : (fun x j => if x = n then 0 else I x j) = I := by
  funext x j
  by_cases hx : x = n
  · rw [if_pos hx, hx]; exact ((h n (Nat.le_refl n) hn j).1).symm
  · rw [if_neg hx]
theorem zR {n : Nat} {I : Nat → Nat → Int32} {R : Nat → Nat → Option Nat} (h : Fz n I R) (hn : n < 20000) : (fun x j => if x = n then none else R x j) = R := by
  funext x j
  by_cases hx : x = n
  · rw [if_pos hx, hx]; exact ((h n (Nat.le_refl n) hn j).2).symm
  · rw [if_neg hx]
theorem N_new {m : Nat} (hm : m = n + 1) (h : Fz n I R) (hn : n < 20000) : ((m, (fun x j => if x = n then 0 else I x j), (fun x j => if x = n then none else R x j), (Nm n I R).2.2.2) : pm_Mem) = Nm m I R := by
  subst hm
  rw [zI h hn, zR h hn]; rfl
theorem N_arr {m : Nat} (hm : m = n + 1) (h : Fz n I R) (hn : n < 20000) : ((m, (fun x j => if x = n then 0 else I x j), (fun x j => if x = n then none else R x j), (fun x j => if x = n then 0 else (Nm n I R).2.2.2 x j)) : pm_Mem) = Nm m I R := by
  subst hm
  have e : (fun x j => if x = n then (0 : Int64) else (Nm n I R).2.2.2 x j) = fun _ _ => 0 := by
    funext x j
    split
    · rfl
    · rfl
  rw [zI h hn, zR h hn, e]; rfl
theorem N_pf {R' : Nat → Nat → Option Nat} : ((n, I, R', (Nm n I R).2.2.2) : pm_Mem) = Nm n I R' := rfl
theorem N_pi {J : Nat → Nat → Int32} : ((n, J, (Nm n I R).2.2) : pm_Mem) = Nm n J R := rfl
theorem N_ob {x c : Nat} : pm_obj (Nm n I R) x c ↔ x < n ∧ pm_sh x = (0, c) := Iff.rfl
theorem N_ar {x c : Nat} {i : Int32} : pm_arr (Nm n I R) x c i ↔ x < n ∧ (pm_sh x).1 = 1 + c ∧ vp_in i (pm_sh x).2 := Iff.rfl
theorem N_ct (h : R 30000 0 = none) : pm_ct (Nm n I R) = 0 := by
  show (R 30000 0).getD 0 = 0
  rw [h]; rfl
theorem al_n {G : Prop} {P : pm_Mem → Prop} (h : Fz n I R) (hn : n < 20000) (h3 : R 30000 0 = none) : ((G ∧ pm_ct (Nm n I R) = 0) ∧ P ((n + 1, (fun x j => if x = n then 0 else I x j), (fun x j => if x = n then none else R x j), (Nm n I R).2.2.2) : pm_Mem)) ↔ G ∧ P (Nm (n + 1) I R) := by
  rw [N_new rfl h hn, N_ct h3]
  exact ⟨fun q => ⟨q.1.1, q.2⟩, fun q => ⟨⟨q.1, rfl⟩, q.2⟩⟩
theorem al_a {G : Prop} {P : pm_Mem → Prop} (h : Fz n I R) (hn : n < 20000) (h3 : R 30000 0 = none) : ((G ∧ pm_ct (Nm n I R) = 0) ∧ P ((n + 1, (fun x j => if x = n then 0 else I x j), (fun x j => if x = n then none else R x j), (fun x j => if x = n then 0 else (Nm n I R).2.2.2 x j)) : pm_Mem)) ↔ G ∧ P (Nm (n + 1) I R) := by
  rw [N_arr rfl h hn, N_ct h3]
  exact ⟨fun q => ⟨q.1.1, q.2⟩, fun q => ⟨⟨q.1, rfl⟩, q.2⟩⟩
theorem a0_5 {r : pm_Res} {x0 x1 : Option Value} {v0 : Nat} (h : Fz n I R) (hn : n < 20000) (h3 : R 30000 0 = none) : pm_R d 0 5 [x0, x1] [Value.ref v0] (Nm n I R) r ↔ (pm_sh n = (0, 2) ∧ n < pm_n) ∧ pm_R d 0 8 [x0, x1] [Value.ref n, Value.ref v0] (Nm (n + 1) I R) r := q0_5.trans (al_n (G := pm_sh n = (0, 2) ∧ n < pm_n) (P := fun M => pm_R d 0 8 [x0, x1] [Value.ref n, Value.ref v0] M r) h hn h3)
theorem a0_16 {r : pm_Res} {x0 x1 : Option Value} {v0 : Nat} (h : Fz n I R) (hn : n < 20000) (h3 : R 30000 0 = none) : pm_R d 0 16 [x0, x1] [Value.ref v0] (Nm n I R) r ↔ (pm_sh n = (0, 1) ∧ n < pm_n) ∧ pm_R d 0 19 [x0, x1] [Value.ref n, Value.ref v0] (Nm (n + 1) I R) r := q0_16.trans (al_n (G := pm_sh n = (0, 1) ∧ n < pm_n) (P := fun M => pm_R d 0 19 [x0, x1] [Value.ref n, Value.ref v0] M r) h hn h3)
theorem a0_27 {r : pm_Res} {x0 x1 : Option Value} {v0 : Nat} (h : Fz n I R) (hn : n < 20000) (h3 : R 30000 0 = none) : pm_R d 0 27 [x0, x1] [Value.ref v0] (Nm n I R) r ↔ (pm_sh n = (0, 3) ∧ n < pm_n) ∧ pm_R d 0 30 [x0, x1] [Value.ref n, Value.ref v0] (Nm (n + 1) I R) r := q0_27.trans (al_n (G := pm_sh n = (0, 3) ∧ n < pm_n) (P := fun M => pm_R d 0 30 [x0, x1] [Value.ref n, Value.ref v0] M r) h hn h3)
theorem a0_38 {r : pm_Res} {x0 x1 : Option Value} {v0 : Nat} (h : Fz n I R) (hn : n < 20000) (h3 : R 30000 0 = none) : pm_R d 0 38 [x0, x1] [Value.ref v0] (Nm n I R) r ↔ (pm_sh n = (0, 4) ∧ n < pm_n) ∧ pm_R d 0 41 [x0, x1] [Value.ref n, Value.ref v0] (Nm (n + 1) I R) r := q0_38.trans (al_n (G := pm_sh n = (0, 4) ∧ n < pm_n) (P := fun M => pm_R d 0 41 [x0, x1] [Value.ref n, Value.ref v0] M r) h hn h3)
theorem a0_51 {r : pm_Res} {x0 x1 : Option Value} {v0 : Int32} {v1 : Nat} (h : Fz n I R) (hn : n < 20000) (h3 : R 30000 0 = none) : pm_R d 0 51 [x0, x1] [Value.int v0, Value.ref v1] (Nm n I R) r ↔ (pm_sh n = (1 + 4, v0.toNatClampNeg) ∧ ¬ v0 < 0 ∧ n < pm_n) ∧ pm_R d 0 54 [x0, x1] [Value.ref n, Value.ref v1] (Nm (n + 1) I R) r := q0_51.trans (al_a (G := pm_sh n = (1 + 4, v0.toNatClampNeg) ∧ ¬ v0 < 0 ∧ n < pm_n) (P := fun M => pm_R d 0 54 [x0, x1] [Value.ref n, Value.ref v1] M r) h hn h3)
theorem a0_70 {r : pm_Res} {x0 x1 : Option Value} {v0 : Int32} {v1 : Nat} (h : Fz n I R) (hn : n < 20000) (h3 : R 30000 0 = none) : pm_R d 0 70 [x0, x1] [Value.int v0, Value.ref v1] (Nm n I R) r ↔ (pm_sh n = (1 + 0, v0.toNatClampNeg) ∧ ¬ v0 < 0 ∧ n < pm_n) ∧ pm_R d 0 72 [x0, x1] [Value.ref n, Value.ref v1] (Nm (n + 1) I R) r := q0_70.trans (al_a (G := pm_sh n = (1 + 0, v0.toNatClampNeg) ∧ ¬ v0 < 0 ∧ n < pm_n) (P := fun M => pm_R d 0 72 [x0, x1] [Value.ref n, Value.ref v1] M r) h hn h3)
theorem a0_79 {r : pm_Res} {x0 x1 : Option Value} {v0 : Int32} {v1 : Nat} (h : Fz n I R) (hn : n < 20000) (h3 : R 30000 0 = none) : pm_R d 0 79 [x0, x1] [Value.int v0, Value.ref v1] (Nm n I R) r ↔ (pm_sh n = (1 + 0, v0.toNatClampNeg) ∧ ¬ v0 < 0 ∧ n < pm_n) ∧ pm_R d 0 81 [x0, x1] [Value.ref n, Value.ref v1] (Nm (n + 1) I R) r := q0_79.trans (al_a (G := pm_sh n = (1 + 0, v0.toNatClampNeg) ∧ ¬ v0 < 0 ∧ n < pm_n) (P := fun M => pm_R d 0 81 [x0, x1] [Value.ref n, Value.ref v1] M r) h hn h3)
theorem a0_102 {r : pm_Res} {x0 x1 : Option Value} {v0 : Int32} {v1 : Nat} (h : Fz n I R) (hn : n < 20000) (h3 : R 30000 0 = none) : pm_R d 0 102 [x0, x1] [Value.int v0, Value.ref v1] (Nm n I R) r ↔ (pm_sh n = (0, 4) ∧ n < pm_n) ∧ pm_R d 0 105 [x0, x1] [Value.ref n, Value.int v0, Value.ref v1] (Nm (n + 1) I R) r := q0_102.trans (al_n (G := pm_sh n = (0, 4) ∧ n < pm_n) (P := fun M => pm_R d 0 105 [x0, x1] [Value.ref n, Value.int v0, Value.ref v1] M r) h hn h3)
theorem a22_8 {r : pm_Res} {x0 : Option Value} {v0 : Int32} {v1 : Nat} (h : Fz n I R) (hn : n < 20000) (h3 : R 30000 0 = none) : pm_R d 22 8 [x0] [Value.int v0, Value.ref v1] (Nm n I R) r ↔ (pm_sh n = (1 + 0, v0.toNatClampNeg) ∧ ¬ v0 < 0 ∧ n < pm_n) ∧ pm_R d 22 10 [x0] [Value.ref n, Value.ref v1] (Nm (n + 1) I R) r := q22_8.trans (al_a (G := pm_sh n = (1 + 0, v0.toNatClampNeg) ∧ ¬ v0 < 0 ∧ n < pm_n) (P := fun M => pm_R d 22 10 [x0] [Value.ref n, Value.ref v1] M r) h hn h3)
theorem a22_17 {r : pm_Res} {x0 : Option Value} {v0 : Int32} {v1 : Nat} (h : Fz n I R) (hn : n < 20000) (h3 : R 30000 0 = none) : pm_R d 22 17 [x0] [Value.int v0, Value.ref v1] (Nm n I R) r ↔ (pm_sh n = (1 + 0, v0.toNatClampNeg) ∧ ¬ v0 < 0 ∧ n < pm_n) ∧ pm_R d 22 19 [x0] [Value.ref n, Value.ref v1] (Nm (n + 1) I R) r := q22_17.trans (al_a (G := pm_sh n = (1 + 0, v0.toNatClampNeg) ∧ ¬ v0 < 0 ∧ n < pm_n) (P := fun M => pm_R d 22 19 [x0] [Value.ref n, Value.ref v1] M r) h hn h3)
theorem a22_26 {r : pm_Res} {x0 : Option Value} {v0 : Int32} {v1 : Nat} (h : Fz n I R) (hn : n < 20000) (h3 : R 30000 0 = none) : pm_R d 22 26 [x0] [Value.int v0, Value.ref v1] (Nm n I R) r ↔ (pm_sh n = (1 + 0, v0.toNatClampNeg) ∧ ¬ v0 < 0 ∧ n < pm_n) ∧ pm_R d 22 28 [x0] [Value.ref n, Value.ref v1] (Nm (n + 1) I R) r := q22_26.trans (al_a (G := pm_sh n = (1 + 0, v0.toNatClampNeg) ∧ ¬ v0 < 0 ∧ n < pm_n) (P := fun M => pm_R d 22 28 [x0] [Value.ref n, Value.ref v1] M r) h hn h3)
theorem a22_35 {r : pm_Res} {x0 : Option Value} {v0 : Int32} {v1 : Nat} (h : Fz n I R) (hn : n < 20000) (h3 : R 30000 0 = none) : pm_R d 22 35 [x0] [Value.int v0, Value.ref v1] (Nm n I R) r ↔ (pm_sh n = (1 + 0, v0.toNatClampNeg) ∧ ¬ v0 < 0 ∧ n < pm_n) ∧ pm_R d 22 37 [x0] [Value.ref n, Value.ref v1] (Nm (n + 1) I R) r := q22_35.trans (al_a (G := pm_sh n = (1 + 0, v0.toNatClampNeg) ∧ ¬ v0 < 0 ∧ n < pm_n) (P := fun M => pm_R d 22 37 [x0] [Value.ref n, Value.ref v1] M r) h hn h3)
theorem a22_43 {r : pm_Res} {x0 : Option Value} {v0 : Int32} {v1 : Nat} (h : Fz n I R) (hn : n < 20000) (h3 : R 30000 0 = none) : pm_R d 22 43 [x0] [Value.int v0, Value.ref v1] (Nm n I R) r ↔ (pm_sh n = (1 + 2, v0.toNatClampNeg) ∧ ¬ v0 < 0 ∧ n < pm_n) ∧ pm_R d 22 45 [x0] [Value.ref n, Value.ref v1] (Nm (n + 1) I R) r := q22_43.trans (al_a (G := pm_sh n = (1 + 2, v0.toNatClampNeg) ∧ ¬ v0 < 0 ∧ n < pm_n) (P := fun M => pm_R d 22 45 [x0] [Value.ref n, Value.ref v1] M r) h hn h3)
theorem a22_51 {r : pm_Res} {x0 : Option Value} {v0 : Int32} {v1 : Nat} (h : Fz n I R) (hn : n < 20000) (h3 : R 30000 0 = none) : pm_R d 22 51 [x0] [Value.int v0, Value.ref v1] (Nm n I R) r ↔ (pm_sh n = (1 + 0, v0.toNatClampNeg) ∧ ¬ v0 < 0 ∧ n < pm_n) ∧ pm_R d 22 53 [x0] [Value.ref n, Value.ref v1] (Nm (n + 1) I R) r := q22_51.trans (al_a (G := pm_sh n = (1 + 0, v0.toNatClampNeg) ∧ ¬ v0 < 0 ∧ n < pm_n) (P := fun M => pm_R d 22 53 [x0] [Value.ref n, Value.ref v1] M r) h hn h3)
theorem a22_59 {r : pm_Res} {x0 : Option Value} {v0 : Int32} {v1 : Nat} (h : Fz n I R) (hn : n < 20000) (h3 : R 30000 0 = none) : pm_R d 22 59 [x0] [Value.int v0, Value.ref v1] (Nm n I R) r ↔ (pm_sh n = (1 + 2, v0.toNatClampNeg) ∧ ¬ v0 < 0 ∧ n < pm_n) ∧ pm_R d 22 61 [x0] [Value.ref n, Value.ref v1] (Nm (n + 1) I R) r := q22_59.trans (al_a (G := pm_sh n = (1 + 2, v0.toNatClampNeg) ∧ ¬ v0 < 0 ∧ n < pm_n) (P := fun M => pm_R d 22 61 [x0] [Value.ref n, Value.ref v1] M r) h hn h3)
theorem a22_67 {r : pm_Res} {x0 : Option Value} {v0 : Int32} {v1 : Nat} (h : Fz n I R) (hn : n < 20000) (h3 : R 30000 0 = none) : pm_R d 22 67 [x0] [Value.int v0, Value.ref v1] (Nm n I R) r ↔ (pm_sh n = (1 + 0, v0.toNatClampNeg) ∧ ¬ v0 < 0 ∧ n < pm_n) ∧ pm_R d 22 69 [x0] [Value.ref n, Value.ref v1] (Nm (n + 1) I R) r := q22_67.trans (al_a (G := pm_sh n = (1 + 0, v0.toNatClampNeg) ∧ ¬ v0 < 0 ∧ n < pm_n) (P := fun M => pm_R d 22 69 [x0] [Value.ref n, Value.ref v1] M r) h hn h3)
theorem a22_76 {r : pm_Res} {x0 : Option Value} {v0 : Int32} {v1 : Nat} (h : Fz n I R) (hn : n < 20000) (h3 : R 30000 0 = none) : pm_R d 22 76 [x0] [Value.int v0, Value.ref v1] (Nm n I R) r ↔ (pm_sh n = (1 + 0, v0.toNatClampNeg) ∧ ¬ v0 < 0 ∧ n < pm_n) ∧ pm_R d 22 78 [x0] [Value.ref n, Value.ref v1] (Nm (n + 1) I R) r := q22_76.trans (al_a (G := pm_sh n = (1 + 0, v0.toNatClampNeg) ∧ ¬ v0 < 0 ∧ n < pm_n) (P := fun M => pm_R d 22 78 [x0] [Value.ref n, Value.ref v1] M r) h hn h3)
theorem a22_85 {r : pm_Res} {x0 : Option Value} {v0 : Int32} {v1 : Nat} (h : Fz n I R) (hn : n < 20000) (h3 : R 30000 0 = none) : pm_R d 22 85 [x0] [Value.int v0, Value.ref v1] (Nm n I R) r ↔ (pm_sh n = (1 + 0, v0.toNatClampNeg) ∧ ¬ v0 < 0 ∧ n < pm_n) ∧ pm_R d 22 87 [x0] [Value.ref n, Value.ref v1] (Nm (n + 1) I R) r := q22_85.trans (al_a (G := pm_sh n = (1 + 0, v0.toNatClampNeg) ∧ ¬ v0 < 0 ∧ n < pm_n) (P := fun M => pm_R d 22 87 [x0] [Value.ref n, Value.ref v1] M r) h hn h3)
theorem a22_94 {r : pm_Res} {x0 : Option Value} {v0 : Int32} {v1 : Nat} (h : Fz n I R) (hn : n < 20000) (h3 : R 30000 0 = none) : pm_R d 22 94 [x0] [Value.int v0, Value.ref v1] (Nm n I R) r ↔ (pm_sh n = (1 + 0, v0.toNatClampNeg) ∧ ¬ v0 < 0 ∧ n < pm_n) ∧ pm_R d 22 96 [x0] [Value.ref n, Value.ref v1] (Nm (n + 1) I R) r := q22_94.trans (al_a (G := pm_sh n = (1 + 0, v0.toNatClampNeg) ∧ ¬ v0 < 0 ∧ n < pm_n) (P := fun M => pm_R d 22 96 [x0] [Value.ref n, Value.ref v1] M r) h hn h3)
theorem a22_103 {r : pm_Res} {x0 : Option Value} {v0 : Int32} {v1 : Nat} (h : Fz n I R) (hn : n < 20000) (h3 : R 30000 0 = none) : pm_R d 22 103 [x0] [Value.int v0, Value.ref v1] (Nm n I R) r ↔ (pm_sh n = (1 + 0, v0.toNatClampNeg) ∧ ¬ v0 < 0 ∧ n < pm_n) ∧ pm_R d 22 105 [x0] [Value.ref n, Value.ref v1] (Nm (n + 1) I R) r := q22_103.trans (al_a (G := pm_sh n = (1 + 0, v0.toNatClampNeg) ∧ ¬ v0 < 0 ∧ n < pm_n) (P := fun M => pm_R d 22 105 [x0] [Value.ref n, Value.ref v1] M r) h hn h3)
theorem a22_112 {r : pm_Res} {x0 : Option Value} {v0 : Int32} {v1 : Nat} (h : Fz n I R) (hn : n < 20000) (h3 : R 30000 0 = none) : pm_R d 22 112 [x0] [Value.int v0, Value.ref v1] (Nm n I R) r ↔ (pm_sh n = (1 + 0, v0.toNatClampNeg) ∧ ¬ v0 < 0 ∧ n < pm_n) ∧ pm_R d 22 114 [x0] [Value.ref n, Value.ref v1] (Nm (n + 1) I R) r := q22_112.trans (al_a (G := pm_sh n = (1 + 0, v0.toNatClampNeg) ∧ ¬ v0 < 0 ∧ n < pm_n) (P := fun M => pm_R d 22 114 [x0] [Value.ref n, Value.ref v1] M r) h hn h3)
theorem a22_120 {r : pm_Res} {x0 : Option Value} {v0 : Int32} {v1 : Nat} (h : Fz n I R) (hn : n < 20000) (h3 : R 30000 0 = none) : pm_R d 22 120 [x0] [Value.int v0, Value.ref v1] (Nm n I R) r ↔ (pm_sh n = (1 + 0, v0.toNatClampNeg) ∧ ¬ v0 < 0 ∧ n < pm_n) ∧ pm_R d 22 122 [x0] [Value.ref n, Value.ref v1] (Nm (n + 1) I R) r := q22_120.trans (al_a (G := pm_sh n = (1 + 0, v0.toNatClampNeg) ∧ ¬ v0 < 0 ∧ n < pm_n) (P := fun M => pm_R d 22 122 [x0] [Value.ref n, Value.ref v1] M r) h hn h3)
theorem a22_129 {r : pm_Res} {x0 : Option Value} {v0 : Int32} {v1 : Nat} (h : Fz n I R) (hn : n < 20000) (h3 : R 30000 0 = none) : pm_R d 22 129 [x0] [Value.int v0, Value.ref v1] (Nm n I R) r ↔ (pm_sh n = (1 + 0, v0.toNatClampNeg) ∧ ¬ v0 < 0 ∧ n < pm_n) ∧ pm_R d 22 131 [x0] [Value.ref n, Value.ref v1] (Nm (n + 1) I R) r := q22_129.trans (al_a (G := pm_sh n = (1 + 0, v0.toNatClampNeg) ∧ ¬ v0 < 0 ∧ n < pm_n) (P := fun M => pm_R d 22 131 [x0] [Value.ref n, Value.ref v1] M r) h hn h3)
theorem a22_138 {r : pm_Res} {x0 : Option Value} {v0 : Int32} {v1 : Nat} (h : Fz n I R) (hn : n < 20000) (h3 : R 30000 0 = none) : pm_R d 22 138 [x0] [Value.int v0, Value.ref v1] (Nm n I R) r ↔ (pm_sh n = (1 + 0, v0.toNatClampNeg) ∧ ¬ v0 < 0 ∧ n < pm_n) ∧ pm_R d 22 140 [x0] [Value.ref n, Value.ref v1] (Nm (n + 1) I R) r := q22_138.trans (al_a (G := pm_sh n = (1 + 0, v0.toNatClampNeg) ∧ ¬ v0 < 0 ∧ n < pm_n) (P := fun M => pm_R d 22 140 [x0] [Value.ref n, Value.ref v1] M r) h hn h3)
theorem a22_146 {r : pm_Res} {x0 : Option Value} {v0 : Int32} {v1 : Nat} (h : Fz n I R) (hn : n < 20000) (h3 : R 30000 0 = none) : pm_R d 22 146 [x0] [Value.int v0, Value.ref v1] (Nm n I R) r ↔ (pm_sh n = (1 + 0, v0.toNatClampNeg) ∧ ¬ v0 < 0 ∧ n < pm_n) ∧ pm_R d 22 148 [x0] [Value.ref n, Value.ref v1] (Nm (n + 1) I R) r := q22_146.trans (al_a (G := pm_sh n = (1 + 0, v0.toNatClampNeg) ∧ ¬ v0 < 0 ∧ n < pm_n) (P := fun M => pm_R d 22 148 [x0] [Value.ref n, Value.ref v1] M r) h hn h3)
theorem a22_154 {r : pm_Res} {x0 : Option Value} {v0 : Int32} {v1 : Nat} (h : Fz n I R) (hn : n < 20000) (h3 : R 30000 0 = none) : pm_R d 22 154 [x0] [Value.int v0, Value.ref v1] (Nm n I R) r ↔ (pm_sh n = (1 + 0, v0.toNatClampNeg) ∧ ¬ v0 < 0 ∧ n < pm_n) ∧ pm_R d 22 156 [x0] [Value.ref n, Value.ref v1] (Nm (n + 1) I R) r := q22_154.trans (al_a (G := pm_sh n = (1 + 0, v0.toNatClampNeg) ∧ ¬ v0 < 0 ∧ n < pm_n) (P := fun M => pm_R d 22 156 [x0] [Value.ref n, Value.ref v1] M r) h hn h3)
theorem a22_162 {r : pm_Res} {x0 : Option Value} {v0 : Int32} {v1 : Nat} (h : Fz n I R) (hn : n < 20000) (h3 : R 30000 0 = none) : pm_R d 22 162 [x0] [Value.int v0, Value.ref v1] (Nm n I R) r ↔ (pm_sh n = (1 + 0, v0.toNatClampNeg) ∧ ¬ v0 < 0 ∧ n < pm_n) ∧ pm_R d 22 164 [x0] [Value.ref n, Value.ref v1] (Nm (n + 1) I R) r := q22_162.trans (al_a (G := pm_sh n = (1 + 0, v0.toNatClampNeg) ∧ ¬ v0 < 0 ∧ n < pm_n) (P := fun M => pm_R d 22 164 [x0] [Value.ref n, Value.ref v1] M r) h hn h3)
theorem a22_171 {r : pm_Res} {x0 : Option Value} {v0 : Int32} {v1 : Nat} (h : Fz n I R) (hn : n < 20000) (h3 : R 30000 0 = none) : pm_R d 22 171 [x0] [Value.int v0, Value.ref v1] (Nm n I R) r ↔ (pm_sh n = (1 + 0, v0.toNatClampNeg) ∧ ¬ v0 < 0 ∧ n < pm_n) ∧ pm_R d 22 173 [x0] [Value.ref n, Value.ref v1] (Nm (n + 1) I R) r := q22_171.trans (al_a (G := pm_sh n = (1 + 0, v0.toNatClampNeg) ∧ ¬ v0 < 0 ∧ n < pm_n) (P := fun M => pm_R d 22 173 [x0] [Value.ref n, Value.ref v1] M r) h hn h3)
theorem a79_8 {r : pm_Res} {x0 : Option Value} {v0 : Int32} {v1 : Nat} (h : Fz n I R) (hn : n < 20000) (h3 : R 30000 0 = none) : pm_R d 79 8 [x0] [Value.int v0, Value.ref v1] (Nm n I R) r ↔ (pm_sh n = (1 + 0, v0.toNatClampNeg) ∧ ¬ v0 < 0 ∧ n < pm_n) ∧ pm_R d 79 10 [x0] [Value.ref n, Value.ref v1] (Nm (n + 1) I R) r := q79_8.trans (al_a (G := pm_sh n = (1 + 0, v0.toNatClampNeg) ∧ ¬ v0 < 0 ∧ n < pm_n) (P := fun M => pm_R d 79 10 [x0] [Value.ref n, Value.ref v1] M r) h hn h3)
theorem a79_17 {r : pm_Res} {x0 : Option Value} {v0 : Int32} {v1 : Nat} (h : Fz n I R) (hn : n < 20000) (h3 : R 30000 0 = none) : pm_R d 79 17 [x0] [Value.int v0, Value.ref v1] (Nm n I R) r ↔ (pm_sh n = (1 + 0, v0.toNatClampNeg) ∧ ¬ v0 < 0 ∧ n < pm_n) ∧ pm_R d 79 19 [x0] [Value.ref n, Value.ref v1] (Nm (n + 1) I R) r := q79_17.trans (al_a (G := pm_sh n = (1 + 0, v0.toNatClampNeg) ∧ ¬ v0 < 0 ∧ n < pm_n) (P := fun M => pm_R d 79 19 [x0] [Value.ref n, Value.ref v1] M r) h hn h3)
theorem a79_45 {r : pm_Res} {x0 : Option Value} {v0 : Int32} {v1 : Nat} (h : Fz n I R) (hn : n < 20000) (h3 : R 30000 0 = none) : pm_R d 79 45 [x0] [Value.int v0, Value.ref v1] (Nm n I R) r ↔ (pm_sh n = (1 + 0, v0.toNatClampNeg) ∧ ¬ v0 < 0 ∧ n < pm_n) ∧ pm_R d 79 47 [x0] [Value.ref n, Value.ref v1] (Nm (n + 1) I R) r := q79_45.trans (al_a (G := pm_sh n = (1 + 0, v0.toNatClampNeg) ∧ ¬ v0 < 0 ∧ n < pm_n) (P := fun M => pm_R d 79 47 [x0] [Value.ref n, Value.ref v1] M r) h hn h3)
theorem a79_53 {r : pm_Res} {x0 : Option Value} {v0 : Int32} {v1 : Nat} (h : Fz n I R) (hn : n < 20000) (h3 : R 30000 0 = none) : pm_R d 79 53 [x0] [Value.int v0, Value.ref v1] (Nm n I R) r ↔ (pm_sh n = (1 + 0, v0.toNatClampNeg) ∧ ¬ v0 < 0 ∧ n < pm_n) ∧ pm_R d 79 55 [x0] [Value.ref n, Value.ref v1] (Nm (n + 1) I R) r := q79_53.trans (al_a (G := pm_sh n = (1 + 0, v0.toNatClampNeg) ∧ ¬ v0 < 0 ∧ n < pm_n) (P := fun M => pm_R d 79 55 [x0] [Value.ref n, Value.ref v1] M r) h hn h3)
theorem a79_61 {r : pm_Res} {x0 : Option Value} {v0 : Int32} {v1 : Nat} (h : Fz n I R) (hn : n < 20000) (h3 : R 30000 0 = none) : pm_R d 79 61 [x0] [Value.int v0, Value.ref v1] (Nm n I R) r ↔ (pm_sh n = (1 + 0, v0.toNatClampNeg) ∧ ¬ v0 < 0 ∧ n < pm_n) ∧ pm_R d 79 63 [x0] [Value.ref n, Value.ref v1] (Nm (n + 1) I R) r := q79_61.trans (al_a (G := pm_sh n = (1 + 0, v0.toNatClampNeg) ∧ ¬ v0 < 0 ∧ n < pm_n) (P := fun M => pm_R d 79 63 [x0] [Value.ref n, Value.ref v1] M r) h hn h3)
theorem a82_5 {r : pm_Res} {x0 : Option Value} {v0 : Nat} (h : Fz n I R) (hn : n < 20000) (h3 : R 30000 0 = none) : pm_R d 82 5 [x0] [Value.ref v0] (Nm n I R) r ↔ (pm_sh n = (0, 0) ∧ n < pm_n) ∧ pm_R d 82 8 [x0] [Value.ref n, Value.ref v0] (Nm (n + 1) I R) r := q82_5.trans (al_n (G := pm_sh n = (0, 0) ∧ n < pm_n) (P := fun M => pm_R d 82 8 [x0] [Value.ref n, Value.ref v0] M r) h hn h3)
theorem a82_19 {r : pm_Res} {x0 : Option Value} {v0 : Int32} {v1 : Nat} (h : Fz n I R) (hn : n < 20000) (h3 : R 30000 0 = none) : pm_R d 82 19 [x0] [Value.int v0, Value.ref v1] (Nm n I R) r ↔ (pm_sh n = (1 + 0, v0.toNatClampNeg) ∧ ¬ v0 < 0 ∧ n < pm_n) ∧ pm_R d 82 21 [x0] [Value.ref n, Value.ref v1] (Nm (n + 1) I R) r := q82_19.trans (al_a (G := pm_sh n = (1 + 0, v0.toNatClampNeg) ∧ ¬ v0 < 0 ∧ n < pm_n) (P := fun M => pm_R d 82 21 [x0] [Value.ref n, Value.ref v1] M r) h hn h3)
theorem a92_8 {r : pm_Res} {x0 : Option Value} {v0 : Int32} {v1 : Nat} (h : Fz n I R) (hn : n < 20000) (h3 : R 30000 0 = none) : pm_R d 92 8 [x0] [Value.int v0, Value.ref v1] (Nm n I R) r ↔ (pm_sh n = (1 + 1, v0.toNatClampNeg) ∧ ¬ v0 < 0 ∧ n < pm_n) ∧ pm_R d 92 10 [x0] [Value.ref n, Value.ref v1] (Nm (n + 1) I R) r := q92_8.trans (al_a (G := pm_sh n = (1 + 1, v0.toNatClampNeg) ∧ ¬ v0 < 0 ∧ n < pm_n) (P := fun M => pm_R d 92 10 [x0] [Value.ref n, Value.ref v1] M r) h hn h3)
theorem a92_19 {r : pm_Res} {x0 : Option Value} {v0 : Nat} (h : Fz n I R) (hn : n < 20000) (h3 : R 30000 0 = none) : pm_R d 92 19 [x0] [Value.ref v0] (Nm n I R) r ↔ (pm_sh n = (0, 0) ∧ n < pm_n) ∧ pm_R d 92 22 [x0] [Value.ref n, Value.ref v0] (Nm (n + 1) I R) r := q92_19.trans (al_n (G := pm_sh n = (0, 0) ∧ n < pm_n) (P := fun M => pm_R d 92 22 [x0] [Value.ref n, Value.ref v0] M r) h hn h3)
theorem a105_7 {r : pm_Res} {x0 x1 : Option Value} {v0 : Int32} {v1 : Nat} (h : Fz n I R) (hn : n < 20000) (h3 : R 30000 0 = none) : pm_R d 105 7 [x0, x1] [Value.int v0, Value.ref v1] (Nm n I R) r ↔ (pm_sh n = (1 + 4, v0.toNatClampNeg) ∧ ¬ v0 < 0 ∧ n < pm_n) ∧ pm_R d 105 10 [x0, x1] [Value.ref n, Value.ref v1] (Nm (n + 1) I R) r := q105_7.trans (al_a (G := pm_sh n = (1 + 4, v0.toNatClampNeg) ∧ ¬ v0 < 0 ∧ n < pm_n) (P := fun M => pm_R d 105 10 [x0, x1] [Value.ref n, Value.ref v1] M r) h hn h3)
theorem a105_49 {r : pm_Res} {x0 x1 : Option Value} {v0 : Int32} {v1 : Nat} (h : Fz n I R) (hn : n < 20000) (h3 : R 30000 0 = none) : pm_R d 105 49 [x0, x1] [Value.int v0, Value.ref v1] (Nm n I R) r ↔ (pm_sh n = (0, 4) ∧ n < pm_n) ∧ pm_R d 105 52 [x0, x1] [Value.ref n, Value.int v0, Value.ref v1] (Nm (n + 1) I R) r := q105_49.trans (al_n (G := pm_sh n = (0, 4) ∧ n < pm_n) (P := fun M => pm_R d 105 52 [x0, x1] [Value.ref n, Value.int v0, Value.ref v1] M r) h hn h3)
theorem a108_7 {r : pm_Res} {x0 : Option Value} {v0 : Int32} {v1 : Nat} (h : Fz n I R) (hn : n < 20000) (h3 : R 30000 0 = none) : pm_R d 108 7 [x0] [Value.int v0, Value.ref v1] (Nm n I R) r ↔ (pm_sh n = (1 + 0, v0.toNatClampNeg) ∧ ¬ v0 < 0 ∧ n < pm_n) ∧ pm_R d 108 9 [x0] [Value.ref n, Value.ref v1] (Nm (n + 1) I R) r := q108_7.trans (al_a (G := pm_sh n = (1 + 0, v0.toNatClampNeg) ∧ ¬ v0 < 0 ∧ n < pm_n) (P := fun M => pm_R d 108 9 [x0] [Value.ref n, Value.ref v1] M r) h hn h3)
theorem a108_15 {r : pm_Res} {x0 : Option Value} {v0 : Int32} {v1 : Nat} (h : Fz n I R) (hn : n < 20000) (h3 : R 30000 0 = none) : pm_R d 108 15 [x0] [Value.int v0, Value.ref v1] (Nm n I R) r ↔ (pm_sh n = (1 + 0, v0.toNatClampNeg) ∧ ¬ v0 < 0 ∧ n < pm_n) ∧ pm_R d 108 17 [x0] [Value.ref n, Value.ref v1] (Nm (n + 1) I R) r := q108_15.trans (al_a (G := pm_sh n = (1 + 0, v0.toNatClampNeg) ∧ ¬ v0 < 0 ∧ n < pm_n) (P := fun M => pm_R d 108 17 [x0] [Value.ref n, Value.ref v1] M r) h hn h3)
theorem a108_23 {r : pm_Res} {x0 : Option Value} {v0 : Int32} {v1 : Nat} (h : Fz n I R) (hn : n < 20000) (h3 : R 30000 0 = none) : pm_R d 108 23 [x0] [Value.int v0, Value.ref v1] (Nm n I R) r ↔ (pm_sh n = (1 + 0, v0.toNatClampNeg) ∧ ¬ v0 < 0 ∧ n < pm_n) ∧ pm_R d 108 25 [x0] [Value.ref n, Value.ref v1] (Nm (n + 1) I R) r := q108_23.trans (al_a (G := pm_sh n = (1 + 0, v0.toNatClampNeg) ∧ ¬ v0 < 0 ∧ n < pm_n) (P := fun M => pm_R d 108 25 [x0] [Value.ref n, Value.ref v1] M r) h hn h3)
theorem a108_31 {r : pm_Res} {x0 : Option Value} {v0 : Int32} {v1 : Nat} (h : Fz n I R) (hn : n < 20000) (h3 : R 30000 0 = none) : pm_R d 108 31 [x0] [Value.int v0, Value.ref v1] (Nm n I R) r ↔ (pm_sh n = (1 + 0, v0.toNatClampNeg) ∧ ¬ v0 < 0 ∧ n < pm_n) ∧ pm_R d 108 33 [x0] [Value.ref n, Value.ref v1] (Nm (n + 1) I R) r := q108_31.trans (al_a (G := pm_sh n = (1 + 0, v0.toNatClampNeg) ∧ ¬ v0 < 0 ∧ n < pm_n) (P := fun M => pm_R d 108 33 [x0] [Value.ref n, Value.ref v1] M r) h hn h3)
theorem a108_38 {r : pm_Res} {x0 : Option Value} {v0 : Int32} {v1 : Nat} (h : Fz n I R) (hn : n < 20000) (h3 : R 30000 0 = none) : pm_R d 108 38 [x0] [Value.int v0, Value.ref v1] (Nm n I R) r ↔ (pm_sh n = (1 + 0, v0.toNatClampNeg) ∧ ¬ v0 < 0 ∧ n < pm_n) ∧ pm_R d 108 40 [x0] [Value.ref n, Value.ref v1] (Nm (n + 1) I R) r := q108_38.trans (al_a (G := pm_sh n = (1 + 0, v0.toNatClampNeg) ∧ ¬ v0 < 0 ∧ n < pm_n) (P := fun M => pm_R d 108 40 [x0] [Value.ref n, Value.ref v1] M r) h hn h3)
theorem a108_45 {r : pm_Res} {x0 : Option Value} {v0 : Int32} {v1 : Nat} (h : Fz n I R) (hn : n < 20000) (h3 : R 30000 0 = none) : pm_R d 108 45 [x0] [Value.int v0, Value.ref v1] (Nm n I R) r ↔ (pm_sh n = (1 + 0, v0.toNatClampNeg) ∧ ¬ v0 < 0 ∧ n < pm_n) ∧ pm_R d 108 47 [x0] [Value.ref n, Value.ref v1] (Nm (n + 1) I R) r := q108_45.trans (al_a (G := pm_sh n = (1 + 0, v0.toNatClampNeg) ∧ ¬ v0 < 0 ∧ n < pm_n) (P := fun M => pm_R d 108 47 [x0] [Value.ref n, Value.ref v1] M r) h hn h3)
theorem a121_0 {r : pm_Res} {x0 x1 x2 x3 x4 x5 x6 : Option Value} (h : Fz n I R) (hn : n < 20000) (h3 : R 30000 0 = none) : pm_R d 121 0 [x0, x1, x2, x3, x4, x5, x6] [] (Nm n I R) r ↔ (pm_sh n = (0, 5) ∧ n < pm_n) ∧ pm_R d 121 3 [x0, x1, x2, x3, x4, x5, x6] [Value.ref n] (Nm (n + 1) I R) r := q121_0.trans (al_n (G := pm_sh n = (0, 5) ∧ n < pm_n) (P := fun M => pm_R d 121 3 [x0, x1, x2, x3, x4, x5, x6] [Value.ref n] M r) h hn h3)
theorem a121_8 {r : pm_Res} {x0 x1 x2 x3 x4 x5 x6 : Option Value} (h : Fz n I R) (hn : n < 20000) (h3 : R 30000 0 = none) : pm_R d 121 8 [x0, x1, x2, x3, x4, x5, x6] [] (Nm n I R) r ↔ (pm_sh n = (0, 6) ∧ n < pm_n) ∧ pm_R d 121 11 [x0, x1, x2, x3, x4, x5, x6] [Value.ref n] (Nm (n + 1) I R) r := q121_8.trans (al_n (G := pm_sh n = (0, 6) ∧ n < pm_n) (P := fun M => pm_R d 121 11 [x0, x1, x2, x3, x4, x5, x6] [Value.ref n] M r) h hn h3)
theorem a121_17 {r : pm_Res} {x0 x1 x2 x3 x4 x5 x6 : Option Value} {v0 : Int32} (h : Fz n I R) (hn : n < 20000) (h3 : R 30000 0 = none) : pm_R d 121 17 [x0, x1, x2, x3, x4, x5, x6] [Value.int v0] (Nm n I R) r ↔ (pm_sh n = (1 + 3, v0.toNatClampNeg) ∧ ¬ v0 < 0 ∧ n < pm_n) ∧ pm_R d 121 19 [x0, x1, x2, x3, x4, x5, x6] [Value.ref n] (Nm (n + 1) I R) r := q121_17.trans (al_a (G := pm_sh n = (1 + 3, v0.toNatClampNeg) ∧ ¬ v0 < 0 ∧ n < pm_n) (P := fun M => pm_R d 121 19 [x0, x1, x2, x3, x4, x5, x6] [Value.ref n] M r) h hn h3)
theorem up0 {x j : Nat} (h : I x j = 0) : pm_up I x j 0 = I := by
  funext y i
  unfold pm_up
  by_cases hx : y = x ∧ i = j
  · rw [if_pos hx, hx.1, hx.2, h]
  · rw [if_neg hx]
theorem upR_no {x j y i : Nat} {v : Option Nat} (h : ¬ (y = x ∧ i = j)) : pm_upR R x j v y i = R y i := if_neg h
theorem upR_at {x j : Nat} {v : Option Nat} : pm_upR R x j v x j = v := if_pos ⟨rfl, rfl⟩
/-- a Table's cells -/
def TB (t : Nat) : Prop := pm_sh t = (0, 4) ∧ pm_sh (t + 1) = (1, 24) ∧ pm_sh (t + 2) = (1, 24) ∧ pm_sh (t + 3) = (1, 6) ∧ pm_sh (t + 4) = (1, 6) ∧ pm_sh (t + 5) = (1, 4) ∧ pm_sh (t + 6) = (1, 2) ∧ t + 6 < 560
theorem TB1 : ∀ n, n < 11 → TB (31 + 7 * n) := by unfold TB; decide +kernel
theorem TB2 : TB 108 := by unfold TB; decide +kernel
theorem TB3 : ∀ n, n < 60 → TB (118 + 7 * n) := by unfold TB; decide +kernel
theorem i108 {t : Nat} (hT : TB t) (h : Fz t I R) (h3 : R 30000 0 = none) {q : pm_Res} : pm_C (d + 1) 108 [.ref t] (Nm (t + 1) I R) q ↔ q = (.inl none, Nm (t + 7) I (cw_up R (cw_tl t))) := by
  obtain ⟨s0, s1, s2, s3, s4, s5, s6, hn⟩ := hT
  have hm : ∀ m, t ≤ m → (Fz m I R ↔ True) := fun m => h.mono
  have e0 : ∀ k, t < t + k ↔ 0 < k := fun k => by omega
  have el : ∀ k, t ≤ t + k ↔ True := fun k => iff_true_intro (by omega)
  have e1 : ∀ k, k < 7 → (t + k < 20000 ↔ True) := fun k hk => iff_true_intro (by omega)
  have e2 : ∀ k, k < 7 → (t + k < pm_n ↔ True) := fun k hk => iff_true_intro (by unfold pm_n; omega)
  have e3 : 30000 = t ↔ False := iff_false_intro (by omega)
  have z6 : I t 6 = 0 := (h t (Nat.le_refl t) (by omega) 6).1
  rw [n108]
  simp (decide := true) only [q108_0, q108_1, q108_4, q108_5, a108_7, q108_9, q108_12, q108_13, a108_15, q108_17, q108_20, q108_21, a108_23, q108_25, q108_28, q108_29, a108_31, q108_33, q108_36, q108_37, a108_38, q108_40, q108_43, q108_44, a108_45, q108_47, q108_50, q108_51, q108_52, q108_55, ex_eq, ex_ite, pm_bk_r, pm_bk_t, ol_nil, ol_one, true_and, and_true, false_and, and_false, reduceIte, Nat.reduceEqDiff, up_at, Nat.add_left_cancel_iff, N_1, N_I, N_R, N_pf, N_pi, N_ob, N_ct, Fz_up, upR_no, hm, e0 1, el 1, e0 2, el 2, e0 3, el 3, e0 4, el 4, e0 5, el 5, e0 6, el 6, e0 7, el 7, e1 1 (by omega), e2 1 (by omega), e1 2 (by omega), e2 2 (by omega), e1 3 (by omega), e2 3 (by omega), e1 4 (by omega), e2 4 (by omega), e1 5 (by omega), e2 5 (by omega), e1 6 (by omega), e2 6 (by omega), e3, s0, s1, s2, s3, s4, s5, s6, Nat.add_lt_add_iff_left, Nat.add_assoc, Nat.reduceAdd, h3, up0 z6]
  exact Iff.rfl
theorem Fz_cu {m : Nat} {l : List (Nat × Nat × Nat)} (hl : ∀ q ∈ l, q.1 < m) : Fz m I (cw_up R l) ↔ Fz m I R := by
  induction l generalizing R with
  | nil => exact Iff.rfl
  | cons a l ih =>
    show Fz m I (cw_up (pm_upR R a.1 a.2.1 (some a.2.2)) l) ↔ _
    rw [ih (fun q hq => hl q (List.mem_cons_of_mem _ hq)), Fz_up (hl a List.mem_cons_self)]
theorem cu_no {x j : Nat} {l : List (Nat × Nat × Nat)} (hl : ∀ q ∈ l, q.1 ≠ x) : cw_up R l x j = R x j := by
  induction l generalizing R with
  | nil => rfl
  | cons a l ih =>
    show cw_up (pm_upR R a.1 a.2.1 (some a.2.2)) l x j = _
    rw [ih (fun q hq => hl q (List.mem_cons_of_mem _ hq)), upR_no (fun q => hl a List.mem_cons_self q.1.symm)]
theorem cu_app {l l' : List (Nat × Nat × Nat)} : cw_up R (l ++ l') = cw_up (cw_up R l) l' := by
  unfold cw_up
  rw [List.foldl_append]
/-- a Game's cells -/
def GB (t : Nat) : Prop := pm_sh t = (0, 0) ∧ pm_sh (t + 1) = (1, 160) ∧ pm_sh (t + 2) = (1, 160) ∧ pm_sh (t + 3) = (1, 8) ∧ pm_sh (t + 4) = (1, 8) ∧ pm_sh (t + 5) = (1, 8) ∧ t + 5 < 560
theorem GB1 : GB 3 := by unfold GB; decide +kernel
theorem GB2 : GB 10 := by unfold GB; decide +kernel
theorem i79 {t : Nat} (hT : GB t) (h : Fz t I R) (h3 : R 30000 0 = none) {q : pm_Res} : pm_C (d + 1) 79 [.ref t] (Nm (t + 1) I R) q ↔ q = (.inl none, Nm (t + 6) I (cw_up R (cw_gl t))) := by
  obtain ⟨s0, s1, s2, s3, s4, s5, hn⟩ := hT
  have hm : ∀ m, t ≤ m → (Fz m I R ↔ True) := fun m => h.mono
  have e0 : ∀ k, t < t + k ↔ 0 < k := fun k => by omega
  have el : ∀ k, t ≤ t + k ↔ True := fun k => iff_true_intro (by omega)
  have e1 : ∀ k, k < 6 → (t + k < 20000 ↔ True) := fun k hk => iff_true_intro (by omega)
  have e2 : ∀ k, k < 6 → (t + k < pm_n ↔ True) := fun k hk => iff_true_intro (by unfold pm_n; omega)
  have e3 : 30000 = t ↔ False := iff_false_intro (by omega)
  have z : ∀ j, I t j = 0 := fun j => (h t (Nat.le_refl t) (by omega) j).1
  rw [n79]
  simp (decide := true) only [q79_0, q79_1, q79_4, q79_5, a79_8, q79_10, q79_13, q79_14, a79_17, q79_19, q79_22, q79_23, q79_24, q79_27, q79_28, q79_29, q79_32, q79_33, q79_34, q79_37, q79_38, q79_39, q79_42, q79_43, a79_45, q79_47, q79_50, q79_51, a79_53, q79_55, q79_58, q79_59, a79_61, q79_63, q79_66, q79_67, q79_68, q79_71, ex_eq, ex_ite, pm_bk_r, pm_bk_t, ol_nil, ol_one, true_and, and_true, false_and, and_false, reduceIte, Nat.reduceEqDiff, up_at, Nat.add_left_cancel_iff, N_1, N_I, N_R, N_pf, N_pi, N_ob, N_ct, Fz_up, upR_no, hm, e0 1, el 1, e0 2, el 2, e0 3, el 3, e0 4, el 4, e0 5, el 5, e0 6, el 6, e1 1 (by omega), e2 1 (by omega), e1 2 (by omega), e2 2 (by omega), e1 3 (by omega), e2 3 (by omega), e1 4 (by omega), e2 4 (by omega), e1 5 (by omega), e2 5 (by omega), e3, s0, s1, s2, s3, s4, s5, Nat.add_lt_add_iff_left, Nat.add_assoc, Nat.reduceAdd, h3, up0, z]
  exact Iff.rfl
theorem i92 (h : Fz 1 I R) (h3 : R 30000 0 = none) {q : pm_Res} : pm_C (d + 2) 92 [.ref 1] (Nm 2 I R) q ↔ q = (.inl none, Nm 9 I (cw_up R ([(1, 0, 2)] ++ cw_gl 3 ++ [(1, 2, 3)]))) := by
  have hm : ∀ m, 1 ≤ m → (Fz m I R ↔ True) := fun m => h.mono
  have z : ∀ j, I 1 j = 0 := fun j => (h 1 (by omega) (by omega) j).1
  have h79 : ∀ {R : Nat → Nat → Option Nat}, Fz 3 I R → R 30000 0 = none → ∀ {q : pm_Res}, (pm_C (d + 1) 79 [.ref 3] (Nm 4 I R) q ↔ q = (.inl none, Nm 9 I (cw_up R (cw_gl 3)))) := fun h h3 => i79 GB1 h h3
  rw [n92]
  simp (decide := true) only [q92_0, q92_1, q92_4, q92_5, a92_8, q92_10, q92_13, q92_14, q92_15, q92_18, a92_19, q92_22, q92_23, q92_26, q92_29, q92_30, q92_31, q92_34, q92_35, q92_36, q92_39, ex_eq, ex_ite, pm_bk_r, pm_bk_t, ol_nil, ol_one, true_and, and_true, false_and, and_false, reduceIte, Nat.reduceEqDiff, up_at, Nat.add_left_cancel_iff, N_1, N_I, N_R, N_pf, N_pi, N_ob, N_ct, Fz_up, Fz_cu, cu_no, upR_no, hm, h3, up0, z, h79, Nat.reduceAdd, Nat.reduceLT, Nat.reduceLeDiff, cu_app]
  exact Iff.rfl
theorem i82 (h : Fz 9 I R) (h3 : R 30000 0 = none) {q : pm_Res} : pm_C (d + 2) 82 [.ref 9] (Nm 10 I R) q ↔ q = (.inl none, Nm 17 I (cw_up R (cw_gl 10 ++ [(9, 0, 10), (9, 1, 16)]))) := by
  have hm : ∀ m, 9 ≤ m → (Fz m I R ↔ True) := fun m => h.mono
  have z : ∀ j, I 9 j = 0 := fun j => (h 9 (by omega) (by omega) j).1
  have h79 : ∀ {R : Nat → Nat → Option Nat}, Fz 10 I R → R 30000 0 = none → ∀ {q : pm_Res}, (pm_C (d + 1) 79 [.ref 10] (Nm 11 I R) q ↔ q = (.inl none, Nm 16 I (cw_up R (cw_gl 10)))) := fun h h3 => i79 GB2 h h3
  rw [n82]
  simp (decide := true) only [q82_0, q82_1, q82_4, a82_5, q82_8, q82_9, q82_12, q82_15, q82_16, a82_19, q82_21, q82_24, q82_25, q82_26, q82_29, ex_eq, ex_ite, pm_bk_r, pm_bk_t, ol_nil, ol_one, true_and, and_true, false_and, and_false, reduceIte, Nat.reduceEqDiff, up_at, Nat.add_left_cancel_iff, N_1, N_I, N_R, N_pf, N_pi, N_ob, N_ct, Fz_up, Fz_cu, cu_no, upR_no, hm, h3, up0, z, h79, Nat.reduceAdd, Nat.reduceLT, Nat.reduceLeDiff, cu_app]
  exact Iff.rfl
theorem tn_mem {x b : Nat} {n : Nat} {q : Nat × Nat × Nat} (h : q ∈ cw_tn x b n) : q.1 = x ∨ (b ≤ q.1 ∧ q.1 < b + 7 * n) := by
  induction n with
  | zero => cases h
  | succ n ih =>
    have h' : q ∈ cw_tn x b n ++ (cw_tl (b + 7 * n) ++ [(x, n, b + 7 * n)]) := h
    rw [List.mem_append, List.mem_append] at h'
    rcases h' with h' | h' | h'
    · rcases ih h' with a | a
      · exact Or.inl a
      · exact Or.inr (by omega)
    · refine Or.inr ?_
      unfold cw_tl at h'
      simp only [List.mem_cons, List.not_mem_nil, or_false] at h'
      rcases h' with h' | h' | h' | h' | h' | h' <;> (rw [h']; show b ≤ b + 7 * n ∧ b + 7 * n < _; omega)
    · rw [List.mem_singleton] at h'
      exact Or.inl (by rw [h'])
theorem tn_s {x b n : Nat} : cw_up R (cw_tn x b (n + 1)) = pm_upR (cw_up (cw_up R (cw_tn x b n)) (cw_tl (b + 7 * n))) x n (some (b + 7 * n)) := by
  show cw_up R (cw_tn x b n ++ (cw_tl (b + 7 * n) ++ [(x, n, b + 7 * n)])) = _
  rw [cu_app, cu_app]
  rfl
theorem tl_mem {t : Nat} {q : Nat × Nat × Nat} (h : q ∈ cw_tl t) : q.1 = t := by
  unfold cw_tl at h
  simp only [List.mem_cons, List.not_mem_nil, or_false] at h
  rcases h with h | h | h | h | h | h <;> (rw [h])
theorem a105_19 {x0 x1 : Option Value} {v2 : Nat} {r : pm_Res} (h : Fz 19 I R) (h3 : R 30000 0 = none) : pm_R d 105 19 [x0, x1] [.int 192, .int 11, .ref v2] (Nm 19 I R) r ↔ pm_R d 105 23 [x0, x1] [.ref 19, .ref v2] (Nm 31 I (cw_mul R)) r := by
  have em : ((31, (fun x j => if 19 ≤ x ∧ x < 31 then 0 else I x j), (fun x j => if x = 19 then (if j < 11 then some (19 + 1 + j) else none) else if 19 ≤ x ∧ x < 31 then none else R x j), (Nm 19 I R).2.2.2) : pm_Mem) = Nm 31 I (cw_mul R) := by
    have e1 : (fun x j => if 19 ≤ x ∧ x < 31 then 0 else I x j) = I := by
      funext x j
      by_cases hx : 19 ≤ x ∧ x < 31
      · rw [if_pos hx]; exact ((h x hx.1 (by omega) j).1).symm
      · rw [if_neg hx]
    rw [e1]
    rfl
  refine q105_19.trans ?_
  rw [← em]
  exact ⟨And.right, fun q => ⟨⟨⟨by show pm_sh 19 = (6, 11); decide, by decide, by decide, by show ∀ j, j < 11 → pm_sh (19 + 1 + j) = (1, 192); decide +kernel, by show 19 + 11 < 560; decide⟩, N_ct h3⟩, q⟩⟩
theorem mu_f {m : Nat} (hm : 31 ≤ m) : Fz m I (cw_mul R) ↔ Fz m I R := by
  have e : ∀ x, m ≤ x → ∀ j, cw_mul R x j = R x j := fun x hx j => by
    unfold cw_mul
    rw [if_neg (by omega), if_neg (by omega)]
  constructor
  · intro h x a b j
    rw [← e x a j]
    exact h x a b j
  · intro h x a b j
    rw [e x a j]
    exact h x a b j
theorem mu_no {x j : Nat} (hx : x < 19 ∨ 31 ≤ x) : cw_mul R x j = R x j := by
  unfold cw_mul
  rw [if_neg (by omega), if_neg (by omega)]
theorem s_loop (h : Fz 31 I R) (h3 : R 30000 0 = none) (h17 : R 17 0 = some 18) {q : pm_Res} (k : Nat) : ∀ n, n + k = 11 → (pm_R (d + 1) 105 38 [some (.ref 17), some (.int (nI n))] [] (Nm (31 + 7 * n) I (cw_up R (cw_tn 18 31 n))) q ↔ q = (.inl none, Nm 108 I (cw_up R (cw_tn 18 31 11)))) := by
  induction k with
  | zero =>
    intro n hn
    obtain rfl : n = 11 := by omega
    have hlt : (10 : Int32) < nI 11 := by decide
    simp (decide := true) only [q105_38, q105_39, q105_41, q105_63, ex_eq, ex_ite, pm_bk_r, pm_bk_t, ol_nil, ol_one, true_and, and_true, false_and, and_false, reduceIte, Nat.reduceEqDiff, up_at, Nat.add_left_cancel_iff, hlt]
  | succ k ih =>
    intro n hn
    have hT := TB1 n (by omega)
    have hnx := ih (n + 1) (by omega)
    rw [tn_s] at hnx
    obtain ⟨t, ht⟩ : ∃ t, t = 31 + 7 * n := ⟨_, rfl⟩
    have e7 : 31 + 7 * (n + 1) = t + 7 := by omega
    rw [e7, ← ht] at hnx
    rw [← ht] at hT ⊢
    obtain ⟨T, hR⟩ : ∃ T, T = cw_up R (cw_tn 18 31 n) := ⟨_, rfl⟩
    rw [← hR] at hnx ⊢
    have hf : Fz t I T := by
      rw [hR, Fz_cu (fun q hq => by rcases tn_mem hq with a | a <;> omega)]
      exact (h.mono (by omega)).mpr trivial
    have t3 : T 30000 0 = none := by rw [hR, cu_no (fun q hq => by rcases tn_mem hq with a | a <;> omega)]; exact h3
    have t17 : T 17 0 = some 18 := by rw [hR, cu_no (fun q hq => by rcases tn_mem hq with a | a <;> omega)]; exact h17
    have hlt : ¬ (10 : Int32) < nI n := by
      rw [show (10 : Int32) = nI 10 from rfl, sm_lt (by omega) (by omega)]; omega
    have h108 : ∀ q, pm_C (d + 1) 108 [.ref t] (Nm (t + 1) I T) q ↔ q = (.inl none, Nm (t + 7) I (cw_up T (cw_tl t))) := fun q => i108 hT hf t3
    have s0 := hT.1
    have hn1 : t < pm_n := by unfold pm_n; omega
    have ob17 : 17 < t ↔ True := iff_true_intro (by omega)
    have ob18 : 18 < t + 7 ↔ True := iff_true_intro (by omega)
    have obt : t < t + 1 ↔ True := iff_true_intro (by omega)
    have obt7 : t < t + 7 ↔ True := iff_true_intro (by omega)
    have s18 : pm_sh 18 = (5, 11) := rfl
    have s17 : pm_sh 17 = (0, 3) := rfl
    have hv : vp_in (nI n) 11 ↔ True := iff_true_intro ((sm_in (by omega)).mpr (by omega))
    have hc : (nI n).toNatClampNeg = n := sm_cl (by omega)
    have g49 := fun x0 x1 v0 v1 r => a105_49 (d := d + 1) (n := t) (I := I) (R := T) (x0 := x0) (x1 := x1) (v0 := v0) (v1 := v1) (r := r) hf (by omega) t3
    simp (decide := true) only [q105_38, q105_39, q105_41, q105_44, q105_45, q105_48, g49, q105_52, q105_53, q105_56, q105_57, q105_60, ex_eq, ex_ite, pm_bk_r, pm_bk_t, ol_nil, ol_one, true_and, and_true, false_and, and_false, reduceIte, Nat.reduceEqDiff, up_at, Nat.add_left_cancel_iff, N_1, N_I, N_R, N_pf, N_ob, N_ar, hlt, t17, pm_rv, s0, hn1, ob17, ob18, obt, obt7, s18, s17, hv, hc, h108, sm_s, hnx]
theorem c_cons {a : Nat × Nat × Nat} {l : List (Nat × Nat × Nat)} : cw_up R (a :: l) = cw_up (pm_upR R a.1 a.2.1 (some a.2.2)) l := rfl
theorem c_nil : cw_up R [] = R := rfl
theorem c_gl {t m : Nat} (h : t < m) : Fz m I (cw_up R (cw_gl t)) ↔ Fz m I R := Fz_cu (fun q hq => by
  unfold cw_gl at hq
  simp only [List.mem_cons, List.not_mem_nil, or_false] at hq
  rcases hq with hq | hq | hq | hq | hq <;> (rw [hq]; exact h))
theorem c_gn {t x j : Nat} (h : t ≠ x) : cw_up R (cw_gl t) x j = R x j := cu_no (fun q hq => by
  unfold cw_gl at hq
  simp only [List.mem_cons, List.not_mem_nil, or_false] at hq
  rcases hq with hq | hq | hq | hq | hq <;> (rw [hq]; exact h))
theorem c_tl {t m : Nat} (h : t < m) : Fz m I (cw_up R (cw_tl t)) ↔ Fz m I R := Fz_cu (fun q hq => by rw [tl_mem hq]; exact h)
theorem c_ln {t x j : Nat} (h : t ≠ x) : cw_up R (cw_tl t) x j = R x j := cu_no (fun q hq => by rw [tl_mem hq]; exact h)
theorem c_tn {x b n m : Nat} (h : x < m) (h' : b + 7 * n ≤ m) : Fz m I (cw_up R (cw_tn x b n)) ↔ Fz m I R := Fz_cu (fun q hq => by rcases tn_mem hq with a | a <;> omega)
theorem c_nn {x b n y j : Nat} (h : x ≠ y) (h' : y < b ∨ b + 7 * n ≤ y) : cw_up R (cw_tn x b n) y j = R y j := cu_no (fun q hq => by rcases tn_mem hq with a | a <;> omega)
theorem upI_no {x j y i : Nat} {v : Int32} (h : ¬ (y = x ∧ i = j)) : pm_up I x j v y i = I y i := if_neg h
theorem i105 (h : Fz 17 I R) (h3 : R 30000 0 = none) {q : pm_Res} : pm_C (d + 2) 105 [.ref 17] (Nm 18 I R) q ↔ q = (.inl none, Nm 108 (pm_up I 17 3 (-1)) (cw_up (pm_upR (cw_mul (pm_upR R 17 0 (some 18))) 17 1 (some 19)) (cw_tn 18 31 11))) := by
  have hm : ∀ m, 17 ≤ m → (Fz m I R ↔ True) := fun m => h.mono
  have z : ∀ j, I 17 j = 0 := fun j => (h 17 (by omega) (by omega) j).1
  have hs := s_loop (d := d) (I := pm_up I 17 3 (-1)) (R := pm_upR (cw_mul (pm_upR R 17 0 (some 18))) 17 1 (some 19)) (q := q) (by
    rw [Fz_ui (by omega), Fz_up (by omega), mu_f (by omega), Fz_up (by omega)]
    exact (hm 31 (by omega)).mpr trivial) (by
    rw [upR_no (by omega), mu_no (by omega), upR_no (by omega)]
    exact h3) (by
    rw [upR_no (by omega), mu_no (by omega), upR_at]) 11 0 rfl
  rw [n105]
  simp (decide := true) only [q105_0, q105_1, q105_4, q105_5, a105_7, q105_10, q105_13, q105_14, q105_16, a105_19, q105_23, q105_26, q105_27, q105_28, q105_31, q105_32, q105_33, q105_36, q105_37, ex_eq, ex_ite, pm_bk_r, pm_bk_t, ol_nil, ol_one, true_and, and_true, false_and, and_false, reduceIte, Nat.reduceEqDiff, up_at, Nat.add_left_cancel_iff, N_1, N_I, N_R, N_pf, N_pi, N_ob, N_ct, c_cons, c_nil, cu_app, c_gl, c_gn, c_tl, c_ln, c_tn, c_nn, mu_f, mu_no, upR_no, upI_no, Fz_up, Fz_ui, up0, hm, h3, z, Nat.reduceAdd, Nat.reduceLT, Nat.reduceLeDiff]
  exact hs
end INIT
