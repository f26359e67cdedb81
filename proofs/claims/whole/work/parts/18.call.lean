/-! WHAT A CALLEE FINDS -/
theorem pm_FS.go {z x : Nat} {ad : Nat → Nat} {s U : State} (h : pm_FS z ad x s) (hW : s.WarmedH U.vm) (hh : ∀ q : Nat, q < s.heap.size → ¬ z ≤ q → U.heap[q]? = s.heap[q]?) : pm_FS z ad x U :=
  ⟨fun q h1 h2 => vk_R.warm hW (h.1 q h1 h2), (h.2.1.moved hW.alike).kept hh, (h.2.2.1.moved hW.alike).kept hh, (h.2.2.2.1.moved hW.alike).kept hh, (h.2.2.2.2.moved hW.alike).kept hh⟩
theorem pm_FT.go {z x : Nat} {ad : Nat → Nat} {nm : String} {s U : State} (h : pm_FT z ad x nm s) (hW : s.WarmedH U.vm) (hh : ∀ q : Nat, q < s.heap.size → ¬ z ≤ q → U.heap[q]? = s.heap[q]?) : pm_FT z ad x nm U :=
  ⟨(h.1.moved hW.alike).kept hh, (h.2.moved hW.alike).kept hh⟩
theorem pm_F.go {z L : Nat} {ad : Nat → Nat} {xs : Nat → Int32} {s U : State} (h : pm_F z ad L xs s) (hW : s.WarmedH U.vm) (hz : z ≤ s.heap.size) (hh : ∀ q : Nat, q < s.heap.size → ¬ z ≤ q → U.heap[q]? = s.heap[q]?) : pm_F z ad L xs U := by
  obtain ⟨h1, ⟨h2, h3, h4⟩, ⟨h5, h6⟩, h7, ⟨h8, h9⟩, ⟨h10, h11⟩, ⟨h12, h13⟩, h14, h15⟩ := h
  refine ⟨h1.warm hW, ⟨h2.go hW hh, h3.go hW hh, h4.go hW hh⟩, ⟨h5.go hW hh, h6.go hW hh⟩, (h7.moved hW.alike).kept hh, ⟨(h8.moved hW.alike).kept (hh _ (by omega) (by omega)), h9⟩, ⟨h10.moved hW.alike, ?_⟩, ⟨h12.go hW.alike hh, h13.go hW.alike hh⟩, fun j k h1 h2 h3 => (h14 j k h1 h2 h3).moved hW.alike, fun q hq => by obtain ⟨tx, a, h⟩ := h15 q hq; exact ⟨tx, a, vk_R.warm hW h⟩⟩
  have e : (Cond.arrayOver (.array .int)).before #[] (s.setVm U.vm) = true := by
    rw [Cond.arrayOver_setVmC hW.alike]
    exact h11
  exact e
theorem pm_wT {w : Cond} (i : Nat) (h : lw_tbl[i]? = some w) (hg : pm_gw w = true) : w ∈ pm_Ts := List.mem_filter.mpr ⟨List.mem_of_getElem? h, hg⟩
theorem pm_wca : ∀ k, k < 139 → k ≠ 121 → lw_tbl[(pm_wat k).1]? = some (pm_wcode k) := fun k => match k with
  | 0 => fun _ _ => pm_wc0
  | 1 => fun _ _ => pm_wc1
  | 2 => fun _ _ => pm_wc2
  | 3 => fun _ _ => pm_wc3
  | 4 => fun _ _ => pm_wc4
  | 5 => fun _ _ => pm_wc5
  | 6 => fun _ _ => pm_wc6
  | 7 => fun _ _ => pm_wc7
  | 8 => fun _ _ => pm_wc8
  | 9 => fun _ _ => pm_wc9
  | 10 => fun _ _ => pm_wc10
  | 11 => fun _ _ => pm_wc11
  | 12 => fun _ _ => pm_wc12
  | 13 => fun _ _ => pm_wc13
  | 14 => fun _ _ => pm_wc14
  | 15 => fun _ _ => pm_wc15
  | 16 => fun _ _ => pm_wc16
  | 17 => fun _ _ => pm_wc17
  | 18 => fun _ _ => pm_wc18
  | 19 => fun _ _ => pm_wc19
  | 20 => fun _ _ => pm_wc20
  | 21 => fun _ _ => pm_wc21
  | 22 => fun _ _ => pm_wc22
  | 23 => fun _ _ => pm_wc23
  | 24 => fun _ _ => pm_wc24
  | 25 => fun _ _ => pm_wc25
  | 26 => fun _ _ => pm_wc26
  | 27 => fun _ _ => pm_wc27
  | 28 => fun _ _ => pm_wc28
  | 29 => fun _ _ => pm_wc29
  | 30 => fun _ _ => pm_wc30
  | 31 => fun _ _ => pm_wc31
  | 32 => fun _ _ => pm_wc32
  | 33 => fun _ _ => pm_wc33
  | 34 => fun _ _ => pm_wc34
  | 35 => fun _ _ => pm_wc35
  | 36 => fun _ _ => pm_wc36
  | 37 => fun _ _ => pm_wc37
  | 38 => fun _ _ => pm_wc38
  | 39 => fun _ _ => pm_wc39
  | 40 => fun _ _ => pm_wc40
  | 41 => fun _ _ => pm_wc41
  | 42 => fun _ _ => pm_wc42
  | 43 => fun _ _ => pm_wc43
  | 44 => fun _ _ => pm_wc44
  | 45 => fun _ _ => pm_wc45
  | 46 => fun _ _ => pm_wc46
  | 47 => fun _ _ => pm_wc47
  | 48 => fun _ _ => pm_wc48
  | 49 => fun _ _ => pm_wc49
  | 50 => fun _ _ => pm_wc50
  | 51 => fun _ _ => pm_wc51
  | 52 => fun _ _ => pm_wc52
  | 53 => fun _ _ => pm_wc53
  | 54 => fun _ _ => pm_wc54
  | 55 => fun _ _ => pm_wc55
  | 56 => fun _ _ => pm_wc56
  | 57 => fun _ _ => pm_wc57
  | 58 => fun _ _ => pm_wc58
  | 59 => fun _ _ => pm_wc59
  | 60 => fun _ _ => pm_wc60
  | 61 => fun _ _ => pm_wc61
  | 62 => fun _ _ => pm_wc62
  | 63 => fun _ _ => pm_wc63
  | 64 => fun _ _ => pm_wc64
  | 65 => fun _ _ => pm_wc65
  | 66 => fun _ _ => pm_wc66
  | 67 => fun _ _ => pm_wc67
  | 68 => fun _ _ => pm_wc68
  | 69 => fun _ _ => pm_wc69
  | 70 => fun _ _ => pm_wc70
  | 71 => fun _ _ => pm_wc71
  | 72 => fun _ _ => pm_wc72
  | 73 => fun _ _ => pm_wc73
  | 74 => fun _ _ => pm_wc74
  | 75 => fun _ _ => pm_wc75
  | 76 => fun _ _ => pm_wc76
  | 77 => fun _ _ => pm_wc77
  | 78 => fun _ _ => pm_wc78
  | 79 => fun _ _ => pm_wc79
  | 80 => fun _ _ => pm_wc80
  | 81 => fun _ _ => pm_wc81
  | 82 => fun _ _ => pm_wc82
  | 83 => fun _ _ => pm_wc83
  | 84 => fun _ _ => pm_wc84
  | 85 => fun _ _ => pm_wc85
  | 86 => fun _ _ => pm_wc86
  | 87 => fun _ _ => pm_wc87
  | 88 => fun _ _ => pm_wc88
  | 89 => fun _ _ => pm_wc89
  | 90 => fun _ _ => pm_wc90
  | 91 => fun _ _ => pm_wc91
  | 92 => fun _ _ => pm_wc92
  | 93 => fun _ _ => pm_wc93
  | 94 => fun _ _ => pm_wc94
  | 95 => fun _ _ => pm_wc95
  | 96 => fun _ _ => pm_wc96
  | 97 => fun _ _ => pm_wc97
  | 98 => fun _ _ => pm_wc98
  | 99 => fun _ _ => pm_wc99
  | 100 => fun _ _ => pm_wc100
  | 101 => fun _ _ => pm_wc101
  | 102 => fun _ _ => pm_wc102
  | 103 => fun _ _ => pm_wc103
  | 104 => fun _ _ => pm_wc104
  | 105 => fun _ _ => pm_wc105
  | 106 => fun _ _ => pm_wc106
  | 107 => fun _ _ => pm_wc107
  | 108 => fun _ _ => pm_wc108
  | 109 => fun _ _ => pm_wc109
  | 110 => fun _ _ => pm_wc110
  | 111 => fun _ _ => pm_wc111
  | 112 => fun _ _ => pm_wc112
  | 113 => fun _ _ => pm_wc113
  | 114 => fun _ _ => pm_wc114
  | 115 => fun _ _ => pm_wc115
  | 116 => fun _ _ => pm_wc116
  | 117 => fun _ _ => pm_wc117
  | 118 => fun _ _ => pm_wc118
  | 119 => fun _ _ => pm_wc119
  | 120 => fun _ _ => pm_wc120
  | 121 => fun _ h => absurd rfl h
  | 122 => fun _ _ => pm_wc122
  | 123 => fun _ _ => pm_wc123
  | 124 => fun _ _ => pm_wc124
  | 125 => fun _ _ => pm_wc125
  | 126 => fun _ _ => pm_wc126
  | 127 => fun _ _ => pm_wc127
  | 128 => fun _ _ => pm_wc128
  | 129 => fun _ _ => pm_wc129
  | 130 => fun _ _ => pm_wc130
  | 131 => fun _ _ => pm_wc131
  | 132 => fun _ _ => pm_wc132
  | 133 => fun _ _ => pm_wc133
  | 134 => fun _ _ => pm_wc134
  | 135 => fun _ _ => pm_wc135
  | 136 => fun _ _ => pm_wc136
  | 137 => fun _ _ => pm_wc137
  | 138 => fun _ _ => pm_wc138
  | k + 139 => fun h => absurd h (by omega)
theorem pm_wcode_g (k : Nat) : pm_gw (pm_wcode k) = true := by
  unfold pm_wcode
  split <;> rfl
theorem pm_wst_g (k : Nat) : pm_gw (pm_wst k) = true := by
  unfold pm_wst
  split <;> rfl
/-- a method's own facts, out of its words -/
theorem pm_fct {s : State} {k : Nat} (hW : pm_Wd s) (hk : k < 139) (h121 : k ≠ 121) : ∃ (mk : MethodId) (meth : Method) (c : Code), s.methodNamed? (pm_y k) = some mk ∧ s.vm.method? mk = some meth ∧ meth.code = some c ∧ c.code = pm_b k ∧ c.maxLocals = pm_ml k ∧ meth.sig.returnType = pm_rt k ∧ meth.locks = false ∧ c.exceptionTable.toList.map (fun h => (h.startPc, h.endPc, h.handlerPc, h.catchType)) = pm_hh k ∧ parseMethodDescriptor (pm_y k).desc = some meth.sig := by
  have hc := hW #[] _ (pm_wT _ (pm_wca k hk h121) (pm_wcode_g k))
  unfold pm_wcode at hc
  split at hc
  · rename_i hh
    obtain ⟨mk, hn⟩ := Cond.code_named hc
    obtain ⟨meth, c, h1, h2, h3, h4, h5, h6, h7, h8⟩ := Cond.code_spec hn hc
    refine ⟨mk, meth, c, hn, h1, h2, h3, h4, h5, h6, ?_, h8⟩
    have e : c.exceptionTable = #[] := by simpa using h7
    rw [e, hh]
    rfl
  · obtain ⟨mk, meth, c, hn, h1, h2, h3, h4, h9, h5, h6, h8⟩ := Cond.codeWith_spec hc
    exact ⟨mk, meth, c, hn, h1, h2, h3, h4, h5, h6, h9, h8⟩
