/-! A THROW, carried out -/
def pm_eil : List Nat := [371, 626, 602, 573]
def pm_etl : List Nat := [11, 21, 20, 18]
theorem pm_eil_ok : ∀ k, k < 4 → tables_1[pm_eil.getD k 0]? = some (.instantiable (pm_ex k) 6) ∧ tables_1[pm_etl.getD k 0]? = some (.initialized (pm_ex k)) := by decide +kernel
theorem pm_ex_fit : ∀ k, k < 4 → Bundle.fit (pm_ex k) = true := by decide +kernel
theorem pm_nms_fit : ∀ n ∈ pm_nms, Bundle.fit n = true := by decide +kernel
/-- cells that no location names are the same -/
theorem pm_old {s t : State} {cells slots : Nat} (h : s.sameButNew t [] cells slots) {a : Nat} {c : Cell} (hc : s.heap[a]? = some c) : t.heap[a]? = some c := by
  obtain ⟨c', h1, h2, h3, h4⟩ := h.2.2.2.2.2 a c hc
  have h5 : c'.slots = c.slots := Array.ext_getElem? (fun i => h4 i (by simp))
  rw [h1, h2, h5]
theorem pm_ws_tk {dA : Nat → ClassId} {ad : Nat → Nat} {M : pm_Mem} (h : M.1 ≤ pm_n) : pm_ws dA ad (pm_tk M) = pm_ws dA ad M := by
  unfold pm_ws
  show (List.range M.1).map _ = _
  refine List.map_congr_left (fun a ha => ?_)
  have ha := List.mem_range.mp ha
  have : pm_n = 560 := rfl
  have e : ∀ j, (pm_tk M).2.2.1 a j = M.2.2.1 a j := fun j => by
    unfold pm_tk pm_upR
    dsimp only
    rw [if_neg (by omega)]
  have e2 : (pm_tk M).2.2.1 a = M.2.2.1 a := funext e
  have e3 : pm_fv ad (pm_tk M) = fun c x k => if pm_isr c k = true then pm_cz ad (pm_rv ((pm_tk M).2.2.1 x k)) else .int (M.2.1 x k) := rfl
  have e4 : ∀ c, pm_fv ad (pm_tk M) c a = pm_fv ad M c a := fun c => by
    funext k
    unfold pm_fv
    rw [e2]; rfl
  have e5 : ∀ k, pm_ac ad (pm_tk M) a k = pm_ac ad M a k := fun k => by
    unfold pm_ac
    rw [e2]; rfl
  have e6 : pm_cell dA ad (pm_tk M) a = pm_cell dA ad M a := by
    unfold pm_cell
    split
    · rw [e4]
    · rw [e5]
  rw [e6]
theorem pm_at_some {D : va_G} {cl : List vw_C} {q : Nat × va_E} {H : Heap} (h : va_at D cl q H) : ∃ cq, H[q.1]? = some cq := by
  unfold va_at at h
  split at h
  · exact ⟨_, h⟩
  · obtain ⟨r, -, cell, h1, -⟩ := h
    exact ⟨cell, h1⟩
theorem pm_thrown {p : Program} {l : Launch} {e : Env} {R : Room} {s : State} {mi : MethodId} {args : Array Value} {below : List Frame} {meth : Method} {c : Code} {T : State} {locs : List Loc} {cells slots : Nat} {m z L : Nat} {xs : Nat → Int32} {D : va_G} {dA : Nat → ClassId} {ad : Nat → Nat} {M : pm_Mem} {pc len a : Nat} {lsC : Array Slot}
    (hX : pm_X p s mi args meth c m z L xs D dA ad) (hfl : l.flags = flags0) (hth : pm_dth (pm_ow m) len a pc (pm_b m) = true) (hex : c.exceptionTable.toList = []) (ha : a < 4)
    (X : Stand p l e R s mi args below meth c T locs cells slots) (hV : pm_V s z L xs D dA ad M T.heap locs) (hsz : lsC.size = c.maxLocals) (hR : 8 ≤ R.frames ∧ 300 ≤ R.locals ∧ cells + 1 ≤ R.cells ∧ slots + 6 ≤ R.slots) :
    ∃ t, Steps p.tables e below (T.setTop (F0 mi pc lsC [])) t ∧ ∃ (x : Addr) (cell : Cell), t.status = .running ∧ Ended t below (.threw x) ∧ s.WarmedH t.vm ∧ s.sameButNew ({ t with vm := s.vm } : State) locs (cells + 1) (slots + 6) ∧ pm_V s z L xs D dA ad (pm_tk M) t.heap locs ∧ t.heap[x]? = some cell ∧ cell.vm.isStatics = false ∧ s.vm.findClass (pm_ex a) = some cell.cls := by
  obtain ⟨⟨hx, hb, hml, hown, hlocks, hnm, hret⟩, hK, hF, had, hz⟩ := hX
  have Y := pm_rebase (R' := { frames := R.frames, cells := 1, slots := 6, locals := R.locals }) X (Nat.le_refl _) (Nat.le_refl _) hR.2.2.1 hR.2.2.2
  generalize hs' : T.setFrames (.invoking mi args :: below) = s' at Y
  have hvm : s'.vm = T.vm := by rw [← hs']; rfl
  have hhp : s'.heap = T.heap := by rw [← hs']; rfl
  have hal : s.WarmedH s'.vm := by rw [hvm]; exact X.warmed
  have hSU := hV.2.1
  have hF' : pm_F z ad L xs s' := hF.go hal hz (fun w h1 h2 => by rw [hhp]; exact hSU.2.1 w h1 h2)
  have hown' : s'.vm.findClass (pm_onm (pm_ow m)) = some mi.cls := by rw [hal.alike.findClass]; exact hown
  unfold pm_dth at hth
  split at hth
  rotate_left
  · cases hth
  rename_i j sx k hd1 hd2 hd3 hd4 hd5
  simp only [Bool.and_eq_true, decide_eq_true_eq, beq_iff_eq] at hth
  obtain ⟨⟨⟨hj, hk⟩, hms⟩, hlen⟩ := hth
  rw [Option.map_eq_some_iff] at hj hk
  obtain ⟨⟨ja, jj⟩, hj, rfl⟩ := hj
  obtain ⟨⟨ka, kj⟩, hk, hka⟩ := hk
  dsimp only at hka ha
  subst hka
  have hj := pm_jk_ok _ (pm_lk hj)
  have hk := pm_ek_ok _ (pm_lk hk)
  dsimp only at hj hk
  have hms : (pm_ow m, sx) ∈ pm_msg := by simpa using hms
  obtain ⟨tx, am, hmr⟩ := hF'.2.2.2.2.2.2.2.2 _ hms
  have key : W p l e { frames := R.frames, cells := 1, slots := 6, locals := R.locals } s' mi args below meth c T.heap [] 0 0 (fun t => ∃ (x : Addr) (cell : Cell), t.status = .running ∧ Ended t below (.threw x) ∧ s'.WarmedH t.vm ∧ s'.sameButNew ({ t with vm := s'.vm } : State) [] 1 6 ∧ t.heap[x]? = some cell ∧ cell.vm.isStatics = false ∧ s'.vm.findClass (pm_ex ka) = some cell.cls) (F0 mi pc lsC []) := by
    refine W.newc (C := pm_ex ka) (n := 6) hx hb hown' (hF'.1 _ _ (pm_Ts_of _ hj rfl)) (hF'.1 _ _ (pm_Ts_of _ (pm_eil_ok _ ha).1 rfl)) (hF'.1 _ _ (pm_Ts_of _ (pm_eil_ok _ ha).2 rfl)) rfl hd1 (Nat.le_refl _) (Nat.le_refl _) (fun cC kC h1 h2 h3 h4 => ?_)
    refine lv_dup hx hb hd2 rfl ?_
    refine va_ldcS hx hb hown' hmr hd3 ?_
    intro T2 hT2 X2
    have hnew : T2.heap[T.heap.size]? = some (freshCell cC kC) := by rw [hT2]; simp
    obtain ⟨U, hU1, hU2, hU3, hU4, hU5, ce, hU6, hU7⟩ := X2.ctorThrowS hx (Launch.traces_off hfl X.admits) (names := pm_nms) hown' (pm_ex_fit _ ha) pm_nms_fit
      (pm_own_w hF' ha (hF'.1 _ _ (pm_Ts_of _ hk rfl))) (by simp) h1 h2 hnew (by rw [hhp]; exact Nat.le_refl _) (msg := .ref am) rfl (g := F0 mi (pc + 6) lsC [.ref am, .ref T.heap.size, .ref T.heap.size]) rfl hsz rfl rfl (rest := []) rfl
      (by rw [hb]; exact hd4) (by rw [hb]; exact hd5) (by rw [hex]; simp) (by show 5 < R.frames; omega) (by show _ ≤ R.locals; simp [pm_nms, JFrame.monitorRoom, Value.category]; omega) hlocks
    exact ⟨U, hU1, T.heap.size, ce, hU2, hU3, hU4, hU5, hU6, by rw [hU7.vm]; rfl, hU7.cls⟩
  obtain ⟨t, ht, x, cell, h1, h2, h3, h4, h5, h6, h7⟩ := key T rfl Y
  obtain ⟨g₀, hr⟩ := X.frames_eq
  have hcur : T.cur < T.threads.size := State.cur_lt_of_frames hr
  have hold : ∀ (q : Nat) (cq : Cell), T.heap[q]? = some cq → t.heap[q]? = some cq := fun q cq hq => pm_old (t := { t with vm := s'.vm }) h4 (by rw [hhp]; exact hq)
  have hsame : s.sameButNew ({ t with vm := s.vm } : State) locs (cells + 1) (slots + 6) := by
    have g1 := X.same.setFrames (.invoking mi args :: below) (by
      obtain ⟨th, hth, -⟩ := State.frames_cons X.frames
      exact (Array.getElem?_eq_some_iff.mp hth).1)
    have g2 := h4.setVm s.vm
    have e1 : s'.setVm s.vm = ({ T with vm := s.vm } : State).setFrames (.invoking mi args :: below) := by rw [← hs']; rfl
    rw [e1] at g2
    have g3 := g1.trans g2
    rw [List.append_nil] at g3
    exact g3
  refine ⟨t, ht, x, cell, h1, h2, ?_, hsame, ⟨?_, ?_, hV.2.2.1, ?_⟩, h5, h6, ?_⟩
  · exact hal.trans h3
  · rw [pm_ws_tk hV.2.2.1]
    exact hV.1.kept (fun k q hk => by
      obtain ⟨cq, hcq⟩ := pm_at_some (hV.1 k q hk)
      rw [hcq]; exact hold _ _ hcq)
  · refine ⟨Nat.le_trans hSU.1 ?_, fun q h1 h2 => ?_, hSU.2.2⟩
    · have := h4.2.1
      rw [hhp] at this
      exact this
    · have := hSU.2.1 q h1 h2
      obtain ⟨cq, hcq⟩ : ∃ cq, T.heap[q]? = some cq := ⟨_, Array.getElem?_eq_getElem (Nat.lt_of_lt_of_le h1 hSU.1)⟩
      rw [← this, hcq]; exact hold _ _ hcq
  · exact hV.2.2.2
  · rw [hal.alike.findClass] at h7; exact h7
