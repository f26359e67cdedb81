theorem pm_kc_eq {M0 : pm_Mem} {r : pm_Res} {cells : Nat} (h1 : M0.1 ≤ r.2.1) (h2 : pm_ct M0 ≤ pm_ct r.2) (h3 : cells + M0.1 + pm_ct M0 = r.2.1 + pm_ct r.2) : pm_kc M0 r = cells := by
  unfold pm_kc
  omega
theorem pm_ks_eq {M0 : pm_Mem} {r : pm_Res} {slots : Nat} (h1 : M0.1 ≤ r.2.1) (h2 : pm_ct M0 ≤ pm_ct r.2) (h3 : slots + pm_sl M0.1 + 6 * pm_ct M0 = pm_sl r.2.1 + 6 * pm_ct r.2) : pm_ks M0 r = slots := by
  unfold pm_ks
  have := pm_sl_mono h1
  omega
theorem pm_dk60 {own len a b pc : Nat} {n : Int32} {i : Instr} (h : pm_dk own 60 len a b n pc i = true) : len = 3 ∧ a < 139 ∧ a ≠ 121 := by
  simp only [pm_dk] at h
  split at h
  · simp only [Bool.and_eq_true, decide_eq_true_eq, beq_iff_eq] at h
    exact ⟨h.1.1.2, h.1.2, h.2⟩
  · simp only [Bool.and_eq_true, decide_eq_true_eq, beq_iff_eq] at h
    exact ⟨h.1.1.2, h.1.2, h.2⟩
  · simp only [Bool.and_eq_true, decide_eq_true_eq, beq_iff_eq] at h
    exact ⟨h.1.1.2, h.1.2, h.2⟩
  · cases h
theorem pm_walk {p : Program} {l : Launch} {e : Env} {R : Room} {s : State} {mi : MethodId} {args : Array Value} {below : List Frame} {meth : Method} {c : Code} {d m z L : Nat} {xs : Nat → Int32} {D : va_G} {dA : Nat → ClassId} {ad : Nat → Nat} {M0 : pm_Mem} {r : pm_Res}
    (hC : ∀ k as M q, k < 139 → k ≠ 121 → pm_sg k as = true → M.1 ≤ pm_n → pm_C d k as M q → pm_K d k as M q) (hfl : l.flags = flags0) (hX : pm_X p s mi args meth c m z L xs D dA ad) (hex : c.exceptionTable.toList.map (fun h => (h.startPc, h.endPc, h.handlerPc, h.catchType)) = pm_hh m)
    (hR : d + 9 ≤ R.frames ∧ 40 * (d + 1) + 300 ≤ R.locals ∧ pm_kc M0 r ≤ R.cells ∧ pm_ks M0 r ≤ R.slots) (hph : M0.1 < pm_n → pm_ct M0 = 0 → s.heap.size = z + M0.1) :
    ∀ n pc ls st M, pm_N (pm_C d) m n pc ls st M r → ∀ lsC H locs cells slots, pm_J m ls → pm_LV ad lsC ls → pm_V s z L xs D dA ad M H locs → (M0.1 ≤ M.1 ∧ pm_ct M0 ≤ pm_ct M ∧ cells + M0.1 + pm_ct M0 = M.1 + pm_ct M ∧ slots + pm_sl M0.1 + 6 * pm_ct M0 = pm_sl M.1 + 6 * pm_ct M) →
      W p l e R s mi args below meth c H locs cells slots (pm_Q below s z L xs D dA ad M0 r) (F0 mi pc lsC (st.map (pm_cz ad))) := by
  have hX0 := hX
  obtain ⟨⟨hx, hb, hml, hown, hlocks, hnm, hret⟩, hK, hF, had, hz⟩ := hX
  intro n
  induction n with
  | zero => intro pc ls st M h; exact h.elim
  | succ n ih =>
    intro pc ls st M h lsC H locs cells slots hJ hL hV hM
    obtain ⟨hM1, hM2, hM3, hM4⟩ := hM
    have hMn : M.1 ≤ pm_n := hV.2.2.1
    have hmn := pm_N_mono (fun k as M q hq => pm_C_mono d k as M q hq) _ _ _ _ _ _ h hMn
    have hkr : pm_sl M0.1 ≤ pm_sl M.1 ∧ pm_sl M.1 ≤ pm_sl r.2.1 := ⟨pm_sl_mono hM1, pm_sl_mono hmn.1.1⟩
    have hsize : lsC.size = c.maxLocals := by rw [hL.1, hJ.1, hml]
    have hctz : M.1 < pm_n → pm_ct M = 0 → s.heap.size + cells = z + M.1 := fun q1 q2 => by
      have := hph (by omega) (by omega)
      omega
    simp only [pm_N, pm_stp] at h
    split at h
    · exact h.elim
    · rename_i op len a b nn hcd
      have hm := pm_cd_lt hcd
      have hend := pm_end hcd
      have hrow := pm_row hcd
      unfold pm_ok1 at hrow
      dsimp only at hrow
      split at h
      · -- a call
        rename_i h60
        subst h60
        rw [if_neg (by decide)] at hrow
        split at hrow
        rotate_left
        · cases hrow
        rename_i i len' hd
        simp only [Bool.and_eq_true, beq_iff_eq] at hrow
        obtain ⟨⟨⟨⟨rfl, hk⟩, -⟩, -⟩, -⟩ := hrow
        obtain ⟨hrc, q, hq, ⟨hb1, hb2, hsg⟩, h5⟩ := h
        obtain ⟨hl3, ha, h121⟩ := pm_dk60 hk
        subst hl3
        have hKq := hC _ _ _ _ ha h121 hsg hMn hq
        have hmq := pm_C_mono d _ _ _ _ hq hMn
        have hrest : pm_mn q.2 r := by
          obtain ⟨v | k, M1⟩ := q
          · exact pm_N_mono (fun k as M q hq => pm_C_mono d k as M q hq) _ _ _ _ _ _ h5 hmq.1.2.1
          · unfold pm_aft at h5
            dsimp only at h5
            split at h5
            · subst h5; exact ⟨⟨Nat.le_refl _, hmq.1.2.1, Nat.le_refl _⟩, hmq.2⟩
            · exact pm_N_mono (fun k as M q hq => pm_C_mono d k as M q hq) _ _ _ _ _ _ h5 hmq.1.2.1
        have hst : st = (st.take b).reverse.reverse ++ st.drop b := by rw [List.reverse_reverse, List.take_append_drop]
        intro T hT X
        subst hT
        have hse := pm_sl_mono hmq.1.1
        have hse2 := pm_sl_mono hrest.1.1
        have hse3 := hmq.1
        have hse4 := hrest.1
        have hRc := hR.2.2.1
        have hRs := hR.2.2.2
        obtain ⟨-, vm₁, mk, hmk, X1, hpre⟩ := pm_prefix (rest := st.drop b) (lsC := lsC) hX0 hd hk hsg hrc X hV
        have hkq : cells + pm_kc M q ≤ R.cells := by
          unfold pm_kc at hRc ⊢
          omega
        have hsq : slots + pm_ks M q ≤ R.slots := by
          unfold pm_ks at hRs ⊢
          omega
        obtain ⟨t, T', Lc, hst1, X', hV', hres⟩ := pm_invoked (g := F0 mi pc lsC ((st.drop b).map (pm_cz ad))) hKq ha h121 hX0 hfl X1 hV (fun q1 q2 => pm_szeq had hz hV q1 (hctz q1 q2) X.heapSize) rfl hsize (by rw [hb]; exact hd) (by
          show 2 * 0 + _ ≤ 8
          have : ∀ (l : List Value), (l.map (fun v => v.category)).sum ≤ 2 * l.length := by
            intro l
            induction l with
            | nil => simp
            | cons w t ih =>
              have hw : w.category ≤ 2 := by cases w <;> simp [Value.category]
              simp only [List.map_cons, List.sum_cons, List.length_cons]
              omega
          have := this ((st.drop b).map (pm_cz ad))
          rw [List.length_map, List.length_drop] at this
          show 2 * 0 + (((st.drop b).map (pm_cz ad)).map (fun v => v.category)).sum ≤ 8
          omega) hmk ⟨hR.1, hR.2.1, hkq, hsq⟩
        have hgo : Steps p.tables e below (T.setTop (F0 mi pc lsC (st.map (pm_cz ad)))) t := by
          rw [hst]
          refine hpre t (fun acts => ?_)
          exact hst1 acts
        have hM' : M0.1 ≤ q.2.1 ∧ pm_ct M0 ≤ pm_ct q.2 ∧ (cells + pm_kc M q) + M0.1 + pm_ct M0 = q.2.1 + pm_ct q.2 ∧ (slots + pm_ks M q) + pm_sl M0.1 + 6 * pm_ct M0 = pm_sl q.2.1 + 6 * pm_ct q.2 := by
          refine ⟨by omega, by omega, ?_, ?_⟩
          · unfold pm_kc; omega
          · unfold pm_ks; omega
        obtain ⟨v | k, M1⟩ := q
        · have hres : t = _ := hres
          obtain ⟨t2, ht2, hQ⟩ := ih _ _ _ _ h5 lsC T'.heap _ _ _ hJ hL hV' hM' T' rfl X'
          refine ⟨t2, hgo.trans ?_, hQ⟩
          rw [hres]
          have e8 : (v.toList ++ st.drop b).map (pm_cz ad) = (v.map (pm_cz ad)).toList ++ (st.drop b).map (pm_cz ad) := by cases v <;> simp
          rw [e8] at ht2
          exact ht2
        · obtain ⟨x, cell, ht, hc1, hc2, hc3⟩ := hres
          have har := pm_arrives (pc := pc) (st := (st.drop b).map (pm_cz ad)) hm hX0 hex (hmq.2 k rfl) X' hc1 hc2 hc3 hJ hL
          unfold pm_aft at h5
          dsimp only at h5
          cases hh : pm_hd m pc k with
          | none =>
            rw [hh] at har h5
            dsimp only at har h5
            subst h5
            obtain ⟨U, hU, hU1, hU2, hU3, hU4, hU5⟩ := har
            refine ⟨U, hgo.trans (by rw [ht]; exact hU), .threw x, locs ++ Lc, hU1, hU2, hU3, ?_, ?_, ?_⟩
            · rw [pm_kc_eq (M0 := M0) hM'.1 hM'.2.1 hM'.2.2.1, pm_ks_eq (M0 := M0) hM'.1 hM'.2.1 hM'.2.2.2]
              exact hU4
            · rw [hU5]; exact hV'
            · exact ⟨x, cell, rfl, by rw [hU5]; exact hc1, hc2, hc3⟩
          | some hq2 =>
            rw [hh] at har h5
            dsimp only at har h5
            obtain ⟨hJ', hgo2⟩ := har
            obtain ⟨t2, ht2, hQ⟩ := hgo2 (pm_Q below s z L xs D dA ad M0 r) (fun lsC' hL' => ih _ _ _ _ h5 lsC' T'.heap _ _ _ hJ' hL' hV' hM')
            exact ⟨t2, hgo.trans (by rw [ht]; exact ht2), hQ⟩
      · rename_i h60
        split at h
        · -- return
          rename_i h63
          subst h63
          rw [if_neg (by decide)] at hrow
          split at hrow
          rotate_left
          · cases hrow
          rename_i i len' hd
          simp only [Bool.and_eq_true, beq_iff_eq] at hrow
          obtain ⟨⟨⟨⟨rfl, hk⟩, -⟩, -⟩, -⟩ := hrow
          simp only [pm_dk, Bool.and_eq_true, decide_eq_true_eq, beq_iff_eq] at hk
          obtain ⟨rfl, rfl⟩ := hk
          obtain ⟨rfl, rfl⟩ := h
          intro T hT X
          subst hT
          obtain ⟨t, h1, h2, h3, h4, h5, h6⟩ := pm_leave (v := none) (pc := pc) (lsC := lsC) hx hb hlocks hret ⟨hend.2.1 rfl, hd⟩ X
          refine ⟨t, h1, _, locs, h2, h3, h4, ?_, by rw [h6]; exact hV, rfl⟩
          rw [pm_kc_eq (M0 := M0) hM1 hM2 hM3, pm_ks_eq (M0 := M0) hM1 hM2 hM4]
          exact h5
        · rename_i h63
          split at h
          · rename_i h64
            subst h64
            rw [if_neg (by decide)] at hrow
            split at hrow
            rotate_left
            · cases hrow
            rename_i i len' hd
            simp only [Bool.and_eq_true, beq_iff_eq] at hrow
            obtain ⟨⟨⟨⟨rfl, hk⟩, -⟩, -⟩, -⟩ := hrow
            simp only [pm_dk, Bool.and_eq_true, decide_eq_true_eq, beq_iff_eq] at hk
            obtain ⟨rfl, rfl⟩ := hk
            obtain ⟨w, rfl, hfit, rfl⟩ := h
            intro T hT X
            subst hT
            obtain ⟨t, h1, h2, h3, h4, h5, h6⟩ := pm_leave (v := some w) (pc := pc) (lsC := lsC) hx hb hlocks hret ⟨_, hend.1 rfl, hfit, hd⟩ X
            refine ⟨t, h1, _, locs, h2, h3, h4, ?_, by rw [h6]; exact hV, rfl⟩
            rw [pm_kc_eq (M0 := M0) hM1 hM2 hM3, pm_ks_eq (M0 := M0) hM1 hM2 hM4]
            exact h5
          · rename_i h64
            split at h
            · -- a throw
              rename_i h67
              rw [if_pos h67] at hrow
              obtain ⟨rfl, rfl⟩ := h
              obtain ⟨ha4, hhh⟩ := hend.2.2 h67
              have hex0 : c.exceptionTable.toList = [] := by
                rw [hhh] at hex
                exact List.map_eq_nil_iff.mp hex
              intro T hT X
              subst hT
              have hct : pm_ct (pm_tk M) = pm_ct M + 1 := pm_ct_tk
              have hn1 : (pm_tk M).1 = M.1 := rfl
              have hk1 : pm_kc M0 (.inr a, pm_tk M) = cells + 1 := pm_kc_eq (by rw [hn1]; exact hM1) (by show _ ≤ pm_ct (pm_tk M); omega) (by show _ = (pm_tk M).1 + pm_ct (pm_tk M); omega)
              have hk2 : pm_ks M0 (.inr a, pm_tk M) = slots + 6 := pm_ks_eq (by rw [hn1]; exact hM1) (by show _ ≤ pm_ct (pm_tk M); omega) (by show _ = pm_sl (pm_tk M).1 + 6 * pm_ct (pm_tk M); rw [hn1]; omega)
              rw [hk1, hk2] at hR
              obtain ⟨t, h1, x, cell, h2, h3, h4, h5, h6, h7, h8, h9⟩ := pm_thrown hX0 hfl hrow hex0 ha4 X hV hsize ⟨by omega, by omega, hR.2.2.1, hR.2.2.2⟩
              refine ⟨t, h1, .threw x, locs, h2, h3, h4, ?_, h6, ⟨x, cell, rfl, h7, h8, h9⟩⟩
              rw [hk1, hk2]
              exact h5
            · -- a plain one
              rename_i h67
              rw [if_neg h67] at hrow
              split at hrow
              rotate_left
              · cases hrow
              rename_i i len' hd
              simp only [Bool.and_eq_true, beq_iff_eq] at hrow
              obtain ⟨⟨⟨⟨rfl, hk⟩, hs1⟩, -⟩, hs3⟩ := hrow
              split at h
              · exact h.elim
              · rename_i g s1 hn
                obtain ⟨hg, h⟩ := h
                obtain ⟨pc', ls', st', M'⟩ := s1
                have h7 := pm_next_mono hn hg hMn
                have h6 := pm_N_mono (fun k as M q hq => pm_C_mono d k as M q hq) _ _ _ _ _ _ h h7.1.2
                have hse := pm_sl_mono h7.1.1
                have hse2 := pm_sl_mono h6.1.1
                have hse3 := h7.1
                have hse4 := h6.1
                have hse5 := h7.2
                have hRc := hR.2.2.1
                have hRs := hR.2.2.2
                refine pm_snd op p l e R s mi args below meth c _ m z L xs D dA ad pc len' a b nn ls ls' st st' M M' g pc' i lsC H locs cells slots hX0 hd hk ?_ ?_ hn hg hJ hL hV hctz ?_ ?_
                · intro h8 j hj hmem
                  have h9 : (op == 5 || op == 6 || op == 8) = true := by
                    rcases h8 with rfl | rfl | rfl <;> rfl
                  rw [h9] at hs1
                  simp only [Bool.not_true, Bool.false_or, Bool.or_eq_true, beq_iff_eq, Bool.not_eq_true'] at hs1
                  rcases hs1 with e1 | e1
                  · omega
                  · rw [show a - 1 = j by omega] at e1
                    simp [hmem] at e1
                · intro h8
                  subst h8
                  simpa using hs3
                · refine ⟨?_, ?_, by omega, by omega⟩
                  · dsimp only at hse3 hse4 hse5; unfold pm_kc at hRc; omega
                  · dsimp only at hse hse2 hse3 hse4 hse5; unfold pm_ks at hRs; omega
                · intro lsC' H' locs' cells' slots' hJ' hL' hV' e1 e2
                  dsimp only at h
                  exact ih _ _ _ _ h lsC' H' locs' cells' slots' hJ' hL' hV' ⟨by omega, by omega, by omega, by omega⟩
/-- THE SOUNDNESS of the pure machine -/
theorem pm_sound : ∀ d k as M q, k < 139 → k ≠ 121 → pm_sg k as = true → M.1 ≤ pm_n → pm_C d k as M q → pm_K d k as M q := by
  intro d
  induction d with
  | zero => intro k as M q _ _ _ _ h; exact h.elim
  | succ d ih =>
    intro k as M q hk h121 hsg hM h
    have hmn := pm_C_mono _ _ _ _ _ h hM
    refine ⟨⟨hmn.1.1, hmn.1.2.2⟩, ?_⟩
    intro p l e R s mi args below meth c z L xs D dA ad hfl hX hex hargs hV hph hR
    subst hargs
    obtain ⟨n, h⟩ := h
    obtain ⟨lsC, he, hJ, hL⟩ := pm_entry (ad := ad) (mi := mi) hk hsg
    rw [he]
    exact pm_walk ih hfl hX hex ⟨by omega, by omega, hR.2.2.1, hR.2.2.2⟩ hph n 0 _ [] M h lsC s.heap [] 0 0 hJ hL hV ⟨Nat.le_refl _, Nat.le_refl _, by omega, by omega⟩
