/-! ALL ROWS OF THE TABLES -/
def pm_okP (k : Nat) (l : List (List (Nat × pm_I))) : Prop := ∀ i, (l.getD i []).all (pm_ok1 (k + i)) = true
theorem pm_okn {k : Nat} : pm_okP k [] := fun i => by simp
theorem pm_okc {k : Nat} {c : List (Nat × pm_I)} {l : List (List (Nat × pm_I))} (h : c.all (pm_ok1 k) = true) (h1 : pm_okP (k + 1) l) : pm_okP k (c :: l) := fun i => by
  cases i with
  | zero => exact h
  | succ i =>
    have := h1 i
    rw [show k + 1 + i = k + (i + 1) by omega] at this
    exact this
theorem pm_ok_121 : cd121.all (pm_ok1 121) = true := by
  unfold cd121
  simp only [List.all_append, Bool.and_eq_true]
  exact ⟨⟨⟨⟨⟨⟨⟨⟨⟨⟨⟨⟨pm_ok_121_0, pm_ok_121_1⟩, pm_ok_121_2⟩, pm_ok_121_3⟩, pm_ok_121_4⟩, pm_ok_121_5⟩, pm_ok_121_6⟩, pm_ok_121_7⟩, pm_ok_121_8⟩, pm_ok_121_9⟩, pm_ok_121_10⟩, pm_ok_121_11⟩, pm_ok_121_12⟩
theorem pm_ok_t139 : pm_okP 139 [] := pm_okn
def pm_cdt120 : List (List (Nat × pm_I)) := cd120 :: cd121 :: cd122 :: cd123 :: cd124 :: cd125 :: cd126 :: cd127 :: cd128 :: cd129 :: cd130 :: cd131 :: cd132 :: cd133 :: cd134 :: cd135 :: cd136 :: cd137 :: cd138 :: []
theorem pm_ok_t120 : pm_okP 120 pm_cdt120 := pm_okc (k := 120) pm_ok_120 <| pm_okc (k := 121) pm_ok_121 <| pm_okc (k := 122) pm_ok_122 <| pm_okc (k := 123) pm_ok_123 <| pm_okc (k := 124) pm_ok_124 <| pm_okc (k := 125) pm_ok_125 <| pm_okc (k := 126) pm_ok_126 <| pm_okc (k := 127) pm_ok_127 <| pm_okc (k := 128) pm_ok_128 <| pm_okc (k := 129) pm_ok_129 <| pm_okc (k := 130) pm_ok_130 <| pm_okc (k := 131) pm_ok_131 <| pm_okc (k := 132) pm_ok_132 <| pm_okc (k := 133) pm_ok_133 <| pm_okc (k := 134) pm_ok_134 <| pm_okc (k := 135) pm_ok_135 <| pm_okc (k := 136) pm_ok_136 <| pm_okc (k := 137) pm_ok_137 <| pm_okc (k := 138) pm_ok_138 <| pm_ok_t139
def pm_cdt100 : List (List (Nat × pm_I)) := cd100 :: cd101 :: cd102 :: cd103 :: cd104 :: cd105 :: cd106 :: cd107 :: cd108 :: cd109 :: cd110 :: cd111 :: cd112 :: cd113 :: cd114 :: cd115 :: cd116 :: cd117 :: cd118 :: cd119 :: pm_cdt120
theorem pm_ok_t100 : pm_okP 100 pm_cdt100 := pm_okc (k := 100) pm_ok_100 <| pm_okc (k := 101) pm_ok_101 <| pm_okc (k := 102) pm_ok_102 <| pm_okc (k := 103) pm_ok_103 <| pm_okc (k := 104) pm_ok_104 <| pm_okc (k := 105) pm_ok_105 <| pm_okc (k := 106) pm_ok_106 <| pm_okc (k := 107) pm_ok_107 <| pm_okc (k := 108) pm_ok_108 <| pm_okc (k := 109) pm_ok_109 <| pm_okc (k := 110) pm_ok_110 <| pm_okc (k := 111) pm_ok_111 <| pm_okc (k := 112) pm_ok_112 <| pm_okc (k := 113) pm_ok_113 <| pm_okc (k := 114) pm_ok_114 <| pm_okc (k := 115) pm_ok_115 <| pm_okc (k := 116) pm_ok_116 <| pm_okc (k := 117) pm_ok_117 <| pm_okc (k := 118) pm_ok_118 <| pm_okc (k := 119) pm_ok_119 <| pm_ok_t120
def pm_cdt80 : List (List (Nat × pm_I)) := cd80 :: cd81 :: cd82 :: cd83 :: cd84 :: cd85 :: cd86 :: cd87 :: cd88 :: cd89 :: cd90 :: cd91 :: cd92 :: cd93 :: cd94 :: cd95 :: cd96 :: cd97 :: cd98 :: cd99 :: pm_cdt100
theorem pm_ok_t80 : pm_okP 80 pm_cdt80 := pm_okc (k := 80) pm_ok_80 <| pm_okc (k := 81) pm_ok_81 <| pm_okc (k := 82) pm_ok_82 <| pm_okc (k := 83) pm_ok_83 <| pm_okc (k := 84) pm_ok_84 <| pm_okc (k := 85) pm_ok_85 <| pm_okc (k := 86) pm_ok_86 <| pm_okc (k := 87) pm_ok_87 <| pm_okc (k := 88) pm_ok_88 <| pm_okc (k := 89) pm_ok_89 <| pm_okc (k := 90) pm_ok_90 <| pm_okc (k := 91) pm_ok_91 <| pm_okc (k := 92) pm_ok_92 <| pm_okc (k := 93) pm_ok_93 <| pm_okc (k := 94) pm_ok_94 <| pm_okc (k := 95) pm_ok_95 <| pm_okc (k := 96) pm_ok_96 <| pm_okc (k := 97) pm_ok_97 <| pm_okc (k := 98) pm_ok_98 <| pm_okc (k := 99) pm_ok_99 <| pm_ok_t100
def pm_cdt60 : List (List (Nat × pm_I)) := cd60 :: cd61 :: cd62 :: cd63 :: cd64 :: cd65 :: cd66 :: cd67 :: cd68 :: cd69 :: cd70 :: cd71 :: cd72 :: cd73 :: cd74 :: cd75 :: cd76 :: cd77 :: cd78 :: cd79 :: pm_cdt80
theorem pm_ok_t60 : pm_okP 60 pm_cdt60 := pm_okc (k := 60) pm_ok_60 <| pm_okc (k := 61) pm_ok_61 <| pm_okc (k := 62) pm_ok_62 <| pm_okc (k := 63) pm_ok_63 <| pm_okc (k := 64) pm_ok_64 <| pm_okc (k := 65) pm_ok_65 <| pm_okc (k := 66) pm_ok_66 <| pm_okc (k := 67) pm_ok_67 <| pm_okc (k := 68) pm_ok_68 <| pm_okc (k := 69) pm_ok_69 <| pm_okc (k := 70) pm_ok_70 <| pm_okc (k := 71) pm_ok_71 <| pm_okc (k := 72) pm_ok_72 <| pm_okc (k := 73) pm_ok_73 <| pm_okc (k := 74) pm_ok_74 <| pm_okc (k := 75) pm_ok_75 <| pm_okc (k := 76) pm_ok_76 <| pm_okc (k := 77) pm_ok_77 <| pm_okc (k := 78) pm_ok_78 <| pm_okc (k := 79) pm_ok_79 <| pm_ok_t80
def pm_cdt40 : List (List (Nat × pm_I)) := cd40 :: cd41 :: cd42 :: cd43 :: cd44 :: cd45 :: cd46 :: cd47 :: cd48 :: cd49 :: cd50 :: cd51 :: cd52 :: cd53 :: cd54 :: cd55 :: cd56 :: cd57 :: cd58 :: cd59 :: pm_cdt60
theorem pm_ok_t40 : pm_okP 40 pm_cdt40 := pm_okc (k := 40) pm_ok_40 <| pm_okc (k := 41) pm_ok_41 <| pm_okc (k := 42) pm_ok_42 <| pm_okc (k := 43) pm_ok_43 <| pm_okc (k := 44) pm_ok_44 <| pm_okc (k := 45) pm_ok_45 <| pm_okc (k := 46) pm_ok_46 <| pm_okc (k := 47) pm_ok_47 <| pm_okc (k := 48) pm_ok_48 <| pm_okc (k := 49) pm_ok_49 <| pm_okc (k := 50) pm_ok_50 <| pm_okc (k := 51) pm_ok_51 <| pm_okc (k := 52) pm_ok_52 <| pm_okc (k := 53) pm_ok_53 <| pm_okc (k := 54) pm_ok_54 <| pm_okc (k := 55) pm_ok_55 <| pm_okc (k := 56) pm_ok_56 <| pm_okc (k := 57) pm_ok_57 <| pm_okc (k := 58) pm_ok_58 <| pm_okc (k := 59) pm_ok_59 <| pm_ok_t60
def pm_cdt20 : List (List (Nat × pm_I)) := cd20 :: cd21 :: cd22 :: cd23 :: cd24 :: cd25 :: cd26 :: cd27 :: cd28 :: cd29 :: cd30 :: cd31 :: cd32 :: cd33 :: cd34 :: cd35 :: cd36 :: cd37 :: cd38 :: cd39 :: pm_cdt40
theorem pm_ok_t20 : pm_okP 20 pm_cdt20 := pm_okc (k := 20) pm_ok_20 <| pm_okc (k := 21) pm_ok_21 <| pm_okc (k := 22) pm_ok_22 <| pm_okc (k := 23) pm_ok_23 <| pm_okc (k := 24) pm_ok_24 <| pm_okc (k := 25) pm_ok_25 <| pm_okc (k := 26) pm_ok_26 <| pm_okc (k := 27) pm_ok_27 <| pm_okc (k := 28) pm_ok_28 <| pm_okc (k := 29) pm_ok_29 <| pm_okc (k := 30) pm_ok_30 <| pm_okc (k := 31) pm_ok_31 <| pm_okc (k := 32) pm_ok_32 <| pm_okc (k := 33) pm_ok_33 <| pm_okc (k := 34) pm_ok_34 <| pm_okc (k := 35) pm_ok_35 <| pm_okc (k := 36) pm_ok_36 <| pm_okc (k := 37) pm_ok_37 <| pm_okc (k := 38) pm_ok_38 <| pm_okc (k := 39) pm_ok_39 <| pm_ok_t40
def pm_cdt0 : List (List (Nat × pm_I)) := cd0 :: cd1 :: cd2 :: cd3 :: cd4 :: cd5 :: cd6 :: cd7 :: cd8 :: cd9 :: cd10 :: cd11 :: cd12 :: cd13 :: cd14 :: cd15 :: cd16 :: cd17 :: cd18 :: cd19 :: pm_cdt20
theorem pm_ok_t0 : pm_okP 0 pm_cdt0 := pm_okc (k := 0) pm_ok_0 <| pm_okc (k := 1) pm_ok_1 <| pm_okc (k := 2) pm_ok_2 <| pm_okc (k := 3) pm_ok_3 <| pm_okc (k := 4) pm_ok_4 <| pm_okc (k := 5) pm_ok_5 <| pm_okc (k := 6) pm_ok_6 <| pm_okc (k := 7) pm_ok_7 <| pm_okc (k := 8) pm_ok_8 <| pm_okc (k := 9) pm_ok_9 <| pm_okc (k := 10) pm_ok_10 <| pm_okc (k := 11) pm_ok_11 <| pm_okc (k := 12) pm_ok_12 <| pm_okc (k := 13) pm_ok_13 <| pm_okc (k := 14) pm_ok_14 <| pm_okc (k := 15) pm_ok_15 <| pm_okc (k := 16) pm_ok_16 <| pm_okc (k := 17) pm_ok_17 <| pm_okc (k := 18) pm_ok_18 <| pm_okc (k := 19) pm_ok_19 <| pm_ok_t20
theorem pm_okall (m : Nat) : (pm_cdl.getD m []).all (pm_ok1 m) = true := by
  have h := pm_ok_t0 m
  rw [Nat.zero_add] at h
  exact h
/-- a row, by its place -/
theorem pm_row {m pc : Nat} {i : pm_I} (h : pm_cd m pc = some i) : pm_ok1 m (pc, i) = true := by
  have h1 := List.all_eq_true.mp (pm_okall m) (pc, i)
  refine h1 ?_
  unfold pm_cd at h
  generalize pm_cdl.getD m [] = l at h
  induction l with
  | nil => cases h
  | cons x t ih =>
    obtain ⟨u, v⟩ := x
    rw [List.lookup_cons] at h
    cases e : pc == u with
    | true =>
      rw [e] at h
      cases h
      rw [eq_of_beq e]
      exact List.mem_cons_self
    | false =>
      rw [e] at h
      exact List.mem_cons_of_mem _ (ih h)
theorem pm_cd_lt {m pc : Nat} {i : pm_I} (h : pm_cd m pc = some i) : m < 139 := by
  refine Nat.lt_of_not_le (fun hm => ?_)
  unfold pm_cd at h
  rw [List.getD_eq_getElem?_getD, List.getElem?_eq_none (show pm_cdl.length ≤ m from hm)] at h
  cases h
