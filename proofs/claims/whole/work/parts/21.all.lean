/-! ALL PLAIN INSTRUCTIONS ARE SOUND -/
theorem pm_snd (op : Nat) : pm_Snd op := by
  intro p l e R s mi args below meth c Q m z L xs D dA ad pc len a b n ls ls' st st' M M' g pc' i lsC H locs cells slots hX hd hk hs hs0 hn hg hJ hL hV hph hR kk
  have hn0 := hn
  unfold pm_next at hn
  split at hn
  · exact pm_s1 p l e R s mi args below meth c Q m z L xs D dA ad pc len a b n ls ls' st st' M M' g pc' i lsC H locs cells slots hX hd hk hs hs0 hn0 hg hJ hL hV hph hR kk
  · exact pm_s2 p l e R s mi args below meth c Q m z L xs D dA ad pc len a b n ls ls' st st' M M' g pc' i lsC H locs cells slots hX hd hk hs hs0 hn0 hg hJ hL hV hph hR kk
  · exact pm_s3 p l e R s mi args below meth c Q m z L xs D dA ad pc len a b n ls ls' st st' M M' g pc' i lsC H locs cells slots hX hd hk hs hs0 hn0 hg hJ hL hV hph hR kk
  · exact pm_s4 p l e R s mi args below meth c Q m z L xs D dA ad pc len a b n ls ls' st st' M M' g pc' i lsC H locs cells slots hX hd hk hs hs0 hn0 hg hJ hL hV hph hR kk
  · exact pm_s5 p l e R s mi args below meth c Q m z L xs D dA ad pc len a b n ls ls' st st' M M' g pc' i lsC H locs cells slots hX hd hk hs hs0 hn0 hg hJ hL hV hph hR kk
  · exact pm_s6 p l e R s mi args below meth c Q m z L xs D dA ad pc len a b n ls ls' st st' M M' g pc' i lsC H locs cells slots hX hd hk hs hs0 hn0 hg hJ hL hV hph hR kk
  · exact pm_s8 p l e R s mi args below meth c Q m z L xs D dA ad pc len a b n ls ls' st st' M M' g pc' i lsC H locs cells slots hX hd hk hs hs0 hn0 hg hJ hL hV hph hR kk
  · exact pm_s9 p l e R s mi args below meth c Q m z L xs D dA ad pc len a b n ls ls' st st' M M' g pc' i lsC H locs cells slots hX hd hk hs hs0 hn0 hg hJ hL hV hph hR kk
  · exact pm_s10 p l e R s mi args below meth c Q m z L xs D dA ad pc len a b n ls ls' st st' M M' g pc' i lsC H locs cells slots hX hd hk hs hs0 hn0 hg hJ hL hV hph hR kk
  · exact pm_s11 p l e R s mi args below meth c Q m z L xs D dA ad pc len a b n ls ls' st st' M M' g pc' i lsC H locs cells slots hX hd hk hs hs0 hn0 hg hJ hL hV hph hR kk
  · exact pm_s12 p l e R s mi args below meth c Q m z L xs D dA ad pc len a b n ls ls' st st' M M' g pc' i lsC H locs cells slots hX hd hk hs hs0 hn0 hg hJ hL hV hph hR kk
  · exact pm_s13 p l e R s mi args below meth c Q m z L xs D dA ad pc len a b n ls ls' st st' M M' g pc' i lsC H locs cells slots hX hd hk hs hs0 hn0 hg hJ hL hV hph hR kk
  · exact pm_s14 p l e R s mi args below meth c Q m z L xs D dA ad pc len a b n ls ls' st st' M M' g pc' i lsC H locs cells slots hX hd hk hs hs0 hn0 hg hJ hL hV hph hR kk
  · exact pm_s15 p l e R s mi args below meth c Q m z L xs D dA ad pc len a b n ls ls' st st' M M' g pc' i lsC H locs cells slots hX hd hk hs hs0 hn0 hg hJ hL hV hph hR kk
  · exact pm_s17 p l e R s mi args below meth c Q m z L xs D dA ad pc len a b n ls ls' st st' M M' g pc' i lsC H locs cells slots hX hd hk hs hs0 hn0 hg hJ hL hV hph hR kk
  · exact pm_s18 p l e R s mi args below meth c Q m z L xs D dA ad pc len a b n ls ls' st st' M M' g pc' i lsC H locs cells slots hX hd hk hs hs0 hn0 hg hJ hL hV hph hR kk
  · exact pm_s19 p l e R s mi args below meth c Q m z L xs D dA ad pc len a b n ls ls' st st' M M' g pc' i lsC H locs cells slots hX hd hk hs hs0 hn0 hg hJ hL hV hph hR kk
  · exact pm_s20 p l e R s mi args below meth c Q m z L xs D dA ad pc len a b n ls ls' st st' M M' g pc' i lsC H locs cells slots hX hd hk hs hs0 hn0 hg hJ hL hV hph hR kk
  · exact pm_s21 p l e R s mi args below meth c Q m z L xs D dA ad pc len a b n ls ls' st st' M M' g pc' i lsC H locs cells slots hX hd hk hs hs0 hn0 hg hJ hL hV hph hR kk
  · exact pm_s22 p l e R s mi args below meth c Q m z L xs D dA ad pc len a b n ls ls' st st' M M' g pc' i lsC H locs cells slots hX hd hk hs hs0 hn0 hg hJ hL hV hph hR kk
  · exact pm_s23 p l e R s mi args below meth c Q m z L xs D dA ad pc len a b n ls ls' st st' M M' g pc' i lsC H locs cells slots hX hd hk hs hs0 hn0 hg hJ hL hV hph hR kk
  · exact pm_s24 p l e R s mi args below meth c Q m z L xs D dA ad pc len a b n ls ls' st st' M M' g pc' i lsC H locs cells slots hX hd hk hs hs0 hn0 hg hJ hL hV hph hR kk
  · exact pm_s25 p l e R s mi args below meth c Q m z L xs D dA ad pc len a b n ls ls' st st' M M' g pc' i lsC H locs cells slots hX hd hk hs hs0 hn0 hg hJ hL hV hph hR kk
  · exact pm_s26 p l e R s mi args below meth c Q m z L xs D dA ad pc len a b n ls ls' st st' M M' g pc' i lsC H locs cells slots hX hd hk hs hs0 hn0 hg hJ hL hV hph hR kk
  · exact pm_s27 p l e R s mi args below meth c Q m z L xs D dA ad pc len a b n ls ls' st st' M M' g pc' i lsC H locs cells slots hX hd hk hs hs0 hn0 hg hJ hL hV hph hR kk
  · exact pm_s28 p l e R s mi args below meth c Q m z L xs D dA ad pc len a b n ls ls' st st' M M' g pc' i lsC H locs cells slots hX hd hk hs hs0 hn0 hg hJ hL hV hph hR kk
  · exact pm_s29 p l e R s mi args below meth c Q m z L xs D dA ad pc len a b n ls ls' st st' M M' g pc' i lsC H locs cells slots hX hd hk hs hs0 hn0 hg hJ hL hV hph hR kk
  · exact pm_s30 p l e R s mi args below meth c Q m z L xs D dA ad pc len a b n ls ls' st st' M M' g pc' i lsC H locs cells slots hX hd hk hs hs0 hn0 hg hJ hL hV hph hR kk
  · exact pm_s31 p l e R s mi args below meth c Q m z L xs D dA ad pc len a b n ls ls' st st' M M' g pc' i lsC H locs cells slots hX hd hk hs hs0 hn0 hg hJ hL hV hph hR kk
  · exact pm_s32 p l e R s mi args below meth c Q m z L xs D dA ad pc len a b n ls ls' st st' M M' g pc' i lsC H locs cells slots hX hd hk hs hs0 hn0 hg hJ hL hV hph hR kk
  · exact pm_s34 p l e R s mi args below meth c Q m z L xs D dA ad pc len a b n ls ls' st st' M M' g pc' i lsC H locs cells slots hX hd hk hs hs0 hn0 hg hJ hL hV hph hR kk
  · exact pm_s40 p l e R s mi args below meth c Q m z L xs D dA ad pc len a b n ls ls' st st' M M' g pc' i lsC H locs cells slots hX hd hk hs hs0 hn0 hg hJ hL hV hph hR kk
  · exact pm_s41 p l e R s mi args below meth c Q m z L xs D dA ad pc len a b n ls ls' st st' M M' g pc' i lsC H locs cells slots hX hd hk hs hs0 hn0 hg hJ hL hV hph hR kk
  · exact pm_s42 p l e R s mi args below meth c Q m z L xs D dA ad pc len a b n ls ls' st st' M M' g pc' i lsC H locs cells slots hX hd hk hs hs0 hn0 hg hJ hL hV hph hR kk
  · exact pm_s43 p l e R s mi args below meth c Q m z L xs D dA ad pc len a b n ls ls' st st' M M' g pc' i lsC H locs cells slots hX hd hk hs hs0 hn0 hg hJ hL hV hph hR kk
  · exact pm_s50 p l e R s mi args below meth c Q m z L xs D dA ad pc len a b n ls ls' st st' M M' g pc' i lsC H locs cells slots hX hd hk hs hs0 hn0 hg hJ hL hV hph hR kk
  · exact pm_s51 p l e R s mi args below meth c Q m z L xs D dA ad pc len a b n ls ls' st st' M M' g pc' i lsC H locs cells slots hX hd hk hs hs0 hn0 hg hJ hL hV hph hR kk
  · exact pm_s52 p l e R s mi args below meth c Q m z L xs D dA ad pc len a b n ls ls' st st' M M' g pc' i lsC H locs cells slots hX hd hk hs hs0 hn0 hg hJ hL hV hph hR kk
  · exact pm_s53 p l e R s mi args below meth c Q m z L xs D dA ad pc len a b n ls ls' st st' M M' g pc' i lsC H locs cells slots hX hd hk hs hs0 hn0 hg hJ hL hV hph hR kk
  · exact pm_s54 p l e R s mi args below meth c Q m z L xs D dA ad pc len a b n ls ls' st st' M M' g pc' i lsC H locs cells slots hX hd hk hs hs0 hn0 hg hJ hL hV hph hR kk
  · exact pm_s55 p l e R s mi args below meth c Q m z L xs D dA ad pc len a b n ls ls' st st' M M' g pc' i lsC H locs cells slots hX hd hk hs hs0 hn0 hg hJ hL hV hph hR kk
  · exact pm_s56 p l e R s mi args below meth c Q m z L xs D dA ad pc len a b n ls ls' st st' M M' g pc' i lsC H locs cells slots hX hd hk hs hs0 hn0 hg hJ hL hV hph hR kk
  · exact pm_s57 p l e R s mi args below meth c Q m z L xs D dA ad pc len a b n ls ls' st st' M M' g pc' i lsC H locs cells slots hX hd hk hs hs0 hn0 hg hJ hL hV hph hR kk
  · exact pm_s58 p l e R s mi args below meth c Q m z L xs D dA ad pc len a b n ls ls' st st' M M' g pc' i lsC H locs cells slots hX hd hk hs hs0 hn0 hg hJ hL hV hph hR kk
  · exact pm_s59 p l e R s mi args below meth c Q m z L xs D dA ad pc len a b n ls ls' st st' M M' g pc' i lsC H locs cells slots hX hd hk hs hs0 hn0 hg hJ hL hV hph hR kk
  · exact pm_s61 p l e R s mi args below meth c Q m z L xs D dA ad pc len a b n ls ls' st st' M M' g pc' i lsC H locs cells slots hX hd hk hs hs0 hn0 hg hJ hL hV hph hR kk
  · exact pm_s70 p l e R s mi args below meth c Q m z L xs D dA ad pc len a b n ls ls' st st' M M' g pc' i lsC H locs cells slots hX hd hk hs hs0 hn0 hg hJ hL hV hph hR kk
  · exact pm_s71 p l e R s mi args below meth c Q m z L xs D dA ad pc len a b n ls ls' st st' M M' g pc' i lsC H locs cells slots hX hd hk hs hs0 hn0 hg hJ hL hV hph hR kk
  · exact pm_s72 p l e R s mi args below meth c Q m z L xs D dA ad pc len a b n ls ls' st st' M M' g pc' i lsC H locs cells slots hX hd hk hs hs0 hn0 hg hJ hL hV hph hR kk
  · exact pm_s73 p l e R s mi args below meth c Q m z L xs D dA ad pc len a b n ls ls' st st' M M' g pc' i lsC H locs cells slots hX hd hk hs hs0 hn0 hg hJ hL hV hph hR kk
  · exact pm_s74 p l e R s mi args below meth c Q m z L xs D dA ad pc len a b n ls ls' st st' M M' g pc' i lsC H locs cells slots hX hd hk hs hs0 hn0 hg hJ hL hV hph hR kk
  · exact pm_s80 p l e R s mi args below meth c Q m z L xs D dA ad pc len a b n ls ls' st st' M M' g pc' i lsC H locs cells slots hX hd hk hs hs0 hn0 hg hJ hL hV hph hR kk
  · exact pm_s81 p l e R s mi args below meth c Q m z L xs D dA ad pc len a b n ls ls' st st' M M' g pc' i lsC H locs cells slots hX hd hk hs hs0 hn0 hg hJ hL hV hph hR kk
  · exact pm_s82 p l e R s mi args below meth c Q m z L xs D dA ad pc len a b n ls ls' st st' M M' g pc' i lsC H locs cells slots hX hd hk hs hs0 hn0 hg hJ hL hV hph hR kk
  · exact pm_s83 p l e R s mi args below meth c Q m z L xs D dA ad pc len a b n ls ls' st st' M M' g pc' i lsC H locs cells slots hX hd hk hs hs0 hn0 hg hJ hL hV hph hR kk
  · exact pm_s84 p l e R s mi args below meth c Q m z L xs D dA ad pc len a b n ls ls' st st' M M' g pc' i lsC H locs cells slots hX hd hk hs hs0 hn0 hg hJ hL hV hph hR kk
  · exact pm_s85 p l e R s mi args below meth c Q m z L xs D dA ad pc len a b n ls ls' st st' M M' g pc' i lsC H locs cells slots hX hd hk hs hs0 hn0 hg hJ hL hV hph hR kk
  · exact pm_s86 p l e R s mi args below meth c Q m z L xs D dA ad pc len a b n ls ls' st st' M M' g pc' i lsC H locs cells slots hX hd hk hs hs0 hn0 hg hJ hL hV hph hR kk
  · exact pm_s87 p l e R s mi args below meth c Q m z L xs D dA ad pc len a b n ls ls' st st' M M' g pc' i lsC H locs cells slots hX hd hk hs hs0 hn0 hg hJ hL hV hph hR kk
  · cases hn
theorem pm_ct_up {M : pm_Mem} {x b v : Nat} {n : Nat} {f : Nat → Nat → Int32} {g : Nat → Nat → Int64} (h : x < 30000) : pm_ct (n, f, pm_upR M.2.2.1 x b (some v), g) = pm_ct M := by
  unfold pm_ct
  show (pm_upR M.2.2.1 x b (some v) 30000 0).getD 0 = _
  rw [show pm_upR M.2.2.1 x b (some v) 30000 0 = M.2.2.1 30000 0 from if_neg (fun q => by omega)]
/-- cells are only made, exceptions only thrown: a plain instruction throws none -/
theorem pm_next_mono {op len a b : Nat} {n : Int32} {pc : Nat} {ls : pm_Loc} {st : List Value} {M : pm_Mem} {g : Prop} {pc' : Nat} {ls' : pm_Loc} {st' : List Value} {M' : pm_Mem} (hn : pm_next op len a b n pc ls st M = some (g, pc', ls', st', M')) (hg : g) (h560 : M.1 ≤ pm_n) : (M.1 ≤ M'.1 ∧ M'.1 ≤ pm_n) ∧ pm_ct M' = pm_ct M := by
  have hN : pm_n = 560 := rfl
  unfold pm_next at hn
  split at hn
  · cases hn; exact ⟨⟨Nat.le_refl _, h560⟩, rfl⟩
  · unfold pm_li at hn
    split at hn
    · cases hn; exact ⟨⟨Nat.le_refl _, h560⟩, rfl⟩
    · cases hn
  · unfold pm_lr at hn
    split at hn
    · cases hn; exact ⟨⟨Nat.le_refl _, h560⟩, rfl⟩
    · cases hn
  · unfold pm_ll at hn
    split at hn
    · cases hn; exact ⟨⟨Nat.le_refl _, h560⟩, rfl⟩
    · cases hn
  · unfold pm_k1 at hn
    split at hn
    · cases hn; exact ⟨⟨Nat.le_refl _, h560⟩, rfl⟩
    · cases hn
  · unfold pm_kr at hn
    split at hn
    · cases hn; exact ⟨⟨Nat.le_refl _, h560⟩, rfl⟩
    · cases hn
  · unfold pm_li at hn
    split at hn
    · cases hn; exact ⟨⟨Nat.le_refl _, h560⟩, rfl⟩
    · cases hn
  · unfold pm_k2 at hn
    split at hn
    · cases hn; exact ⟨⟨Nat.le_refl _, h560⟩, rfl⟩
    · cases hn
  · unfold pm_k2 at hn
    split at hn
    · cases hn; exact ⟨⟨Nat.le_refl _, h560⟩, rfl⟩
    · cases hn
  · unfold pm_k2 at hn
    split at hn
    · cases hn; exact ⟨⟨Nat.le_refl _, h560⟩, rfl⟩
    · cases hn
  · unfold pm_k2 at hn
    split at hn
    · cases hn; exact ⟨⟨Nat.le_refl _, h560⟩, rfl⟩
    · cases hn
  · unfold pm_k2 at hn
    split at hn
    · cases hn; exact ⟨⟨Nat.le_refl _, h560⟩, rfl⟩
    · cases hn
  · unfold pm_k2 at hn
    split at hn
    · cases hn; exact ⟨⟨Nat.le_refl _, h560⟩, rfl⟩
    · cases hn
  · cases hn; exact ⟨⟨Nat.le_refl _, h560⟩, rfl⟩
  · unfold pm_k2 at hn
    split at hn
    · cases hn; exact ⟨⟨Nat.le_refl _, h560⟩, rfl⟩
    · cases hn
  · unfold pm_k2 at hn
    split at hn
    · cases hn; exact ⟨⟨Nat.le_refl _, h560⟩, rfl⟩
    · cases hn
  · unfold pm_k1 at hn
    split at hn
    · cases hn; exact ⟨⟨Nat.le_refl _, h560⟩, rfl⟩
    · cases hn
  · unfold pm_k1 at hn
    split at hn
    · cases hn; exact ⟨⟨Nat.le_refl _, h560⟩, rfl⟩
    · cases hn
  · unfold pm_kl at hn
    split at hn
    · cases hn; exact ⟨⟨Nat.le_refl _, h560⟩, rfl⟩
    · cases hn
  · unfold pm_k1 at hn
    split at hn
    · cases hn; exact ⟨⟨Nat.le_refl _, h560⟩, rfl⟩
    · cases hn
  · unfold pm_kli at hn
    split at hn
    · cases hn; exact ⟨⟨Nat.le_refl _, h560⟩, rfl⟩
    · cases hn
  · unfold pm_kli at hn
    split at hn
    · cases hn; exact ⟨⟨Nat.le_refl _, h560⟩, rfl⟩
    · cases hn
  · unfold pm_kll at hn
    split at hn
    · cases hn; exact ⟨⟨Nat.le_refl _, h560⟩, rfl⟩
    · cases hn
  · unfold pm_kll at hn
    split at hn
    · cases hn; exact ⟨⟨Nat.le_refl _, h560⟩, rfl⟩
    · cases hn
  · unfold pm_kll at hn
    split at hn
    · cases hn; exact ⟨⟨Nat.le_refl _, h560⟩, rfl⟩
    · cases hn
  · unfold pm_kli at hn
    split at hn
    · cases hn; exact ⟨⟨Nat.le_refl _, h560⟩, rfl⟩
    · cases hn
  · cases hn; exact ⟨⟨Nat.le_refl _, h560⟩, rfl⟩
  · unfold pm_k1 at hn
    split at hn
    · cases hn; exact ⟨⟨Nat.le_refl _, h560⟩, rfl⟩
    · cases hn
  · unfold pm_k1 at hn
    split at hn
    · cases hn; exact ⟨⟨Nat.le_refl _, h560⟩, rfl⟩
    · cases hn
  · unfold pm_kr at hn
    split at hn
    · cases hn; exact ⟨⟨Nat.le_refl _, h560⟩, rfl⟩
    · cases hn
  · unfold pm_kri at hn
    split at hn
    · cases hn; exact ⟨⟨Nat.le_refl _, h560⟩, rfl⟩
    · cases hn
  · unfold pm_k1 at hn
    split at hn
    · cases hn; exact ⟨⟨Nat.le_refl _, h560⟩, rfl⟩
    · cases hn
  · unfold pm_k2 at hn
    split at hn
    · cases hn; exact ⟨⟨Nat.le_refl _, h560⟩, rfl⟩
    · cases hn
  · cases hn; exact ⟨⟨Nat.le_refl _, h560⟩, rfl⟩
  · unfold pm_k1 at hn
    split at hn
    · cases hn; exact ⟨⟨Nat.le_refl _, h560⟩, rfl⟩
    · cases hn
  · unfold pm_kr at hn
    split at hn
    · cases hn; exact ⟨⟨Nat.le_refl _, h560⟩, rfl⟩
    · cases hn
  · unfold pm_kr at hn
    split at hn
    · cases hn; exact ⟨⟨Nat.le_refl _, h560⟩, rfl⟩
    · cases hn
  · unfold pm_kri at hn
    split at hn
    · cases hn; exact ⟨⟨Nat.le_refl _, h560⟩, rfl⟩
    · cases hn
  · unfold pm_krr at hn
    split at hn
    · cases hn; exact ⟨⟨Nat.le_refl _, h560⟩, pm_ct_up (by have := hg.1.1; omega)⟩
    · cases hn
  · unfold pm_kri at hn
    split at hn
    · cases hn; exact ⟨⟨Nat.le_refl _, h560⟩, rfl⟩
    · cases hn
  · unfold pm_krii at hn
    split at hn
    · cases hn; exact ⟨⟨Nat.le_refl _, h560⟩, rfl⟩
    · cases hn
  · unfold pm_kr at hn
    split at hn
    · cases hn; exact ⟨⟨Nat.le_refl _, h560⟩, rfl⟩
    · cases hn
  · unfold pm_kri at hn
    split at hn
    · cases hn; exact ⟨⟨Nat.le_refl _, h560⟩, rfl⟩
    · cases hn
  · unfold pm_kril at hn
    split at hn
    · cases hn; exact ⟨⟨Nat.le_refl _, h560⟩, rfl⟩
    · cases hn
  · unfold pm_kri at hn
    split at hn
    · cases hn; exact ⟨⟨Nat.le_refl _, h560⟩, rfl⟩
    · cases hn
  · unfold pm_kcp at hn
    split at hn
    · cases hn; exact ⟨⟨Nat.le_refl _, h560⟩, rfl⟩
    · cases hn
  · unfold pm_krir at hn
    split at hn
    · cases hn; exact ⟨⟨Nat.le_refl _, h560⟩, pm_ct_up (by have := hg.1.1; omega)⟩
    · cases hn
  · cases hn
    refine ⟨⟨Nat.le_succ _, hg.1.2⟩, ?_⟩
    show ((if 30000 = M.1 then none else M.2.2.1 30000 0) : Option Nat).getD 0 = _
    rw [if_neg (by omega)]
    rfl
  · unfold pm_k1 at hn
    split at hn
    · cases hn
      refine ⟨⟨Nat.le_succ _, hg.1.2.2⟩, ?_⟩
      show ((if 30000 = M.1 then none else M.2.2.1 30000 0) : Option Nat).getD 0 = _
      rw [if_neg (by omega)]
      rfl
    · cases hn
  · unfold pm_k2 at hn
    split at hn
    · rename_i k h t
      cases hn
      have h9 := hg.1.2.2.2.2
      refine ⟨⟨by show M.1 ≤ M.1 + 1 + _; omega, by show M.1 + 1 + _ ≤ _; omega⟩, ?_⟩
      show ((if 30000 = M.1 then (if 0 < h.toNatClampNeg then some (M.1 + 1 + 0) else none) else if M.1 ≤ 30000 ∧ 30000 < M.1 + 1 + h.toNatClampNeg then none else M.2.2.1 30000 0) : Option Nat).getD 0 = _
      rw [if_neg (by omega), if_neg (by omega)]
      rfl
    · cases hn
  · unfold pm_kr at hn
    split at hn
    · cases hn; exact ⟨⟨Nat.le_refl _, h560⟩, rfl⟩
    · cases hn
  · cases hn; exact ⟨⟨Nat.le_refl _, h560⟩, rfl⟩
  · unfold pm_kri at hn
    split at hn
    · cases hn; exact ⟨⟨Nat.le_refl _, h560⟩, rfl⟩
    · cases hn
  · unfold pm_kr at hn
    split at hn
    · cases hn; exact ⟨⟨Nat.le_refl _, h560⟩, rfl⟩
    · cases hn
  · unfold pm_kri at hn
    split at hn
    · cases hn; exact ⟨⟨Nat.le_refl _, h560⟩, rfl⟩
    · cases hn
  · unfold pm_kr at hn
    split at hn
    · cases hn; exact ⟨⟨Nat.le_refl _, h560⟩, rfl⟩
    · cases hn
  · unfold pm_kr at hn
    split at hn
    · cases hn; exact ⟨⟨Nat.le_refl _, h560⟩, rfl⟩
    · cases hn
  · unfold pm_kr at hn
    split at hn
    · cases hn; exact ⟨⟨Nat.le_refl _, h560⟩, rfl⟩
    · cases hn
  · cases hn; exact ⟨⟨Nat.le_refl _, h560⟩, rfl⟩
  · cases hn
