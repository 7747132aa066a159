theorem k_mats {M : Nat} {places bearings deaths cuts now b : Nat → Int32} (hM : M ≤ 12) (h : zMats M places bearings deaths cuts now) (hk : ∀ q, 8 ≤ q → q < 56 → b q = now q) : zMats M places bearings deaths cuts b := by
  refine ⟨fun m hm => ?_, h.2⟩
  obtain ⟨a1, a2, a3, a4, a5⟩ := h.1 m hm
  exact ⟨by rw [hk _ (by omega) (by omega)]; exact a1, by rw [hk _ (by omega) (by omega)]; exact a2, by rw [hk _ (by omega) (by omega)]; exact a3, by rw [hk _ (by omega) (by omega)]; exact a4, a5⟩
theorem k_ticks {ticks now b : Nat → Int32} (h : zTicks ticks now) (hk : ∀ q, 56 ≤ q → q < 62 → b q = now q) : zTicks ticks b := fun p hp => by
  rw [hk _ (by omega) (by omega)]; exact h p hp
theorem k_runs {M R : Nat} {facts dropped waved struck torn splits now b : Nat → Int32} (h : zRuns M R facts dropped waved struck torn splits now) (hk : ∀ q, 122 ≤ q → b q = now q) : zRuns M R facts dropped waved struck torn splits b := fun r hr => by
  obtain ⟨a1, a2, a3, a4, a5, a6, a7, a8, a9, a10, a11, a12⟩ := h r hr
  exact ⟨fun k hk2 => by rw [hk _ (by omega)]; exact a1 k hk2, a2, a3, a4, a5, a6, a7, by rw [hk _ (by omega)]; exact a8, by rw [hk _ (by omega)]; exact a9, by rw [hk _ (by omega)]; exact a10, by rw [hk _ (by omega)]; exact a11, fun k hk2 => by rw [hk _ (by omega)]; exact a12 k hk2⟩
theorem k_str {R S : Nat} {order struck now b : Nat → Int32} (hS : S ≤ 60) (h : zStr R S order struck now) (hk : ∀ q, 62 ≤ q → q < 122 → b q = now q) : zStr R S order struck b :=
  ⟨fun i hi => by rw [hk _ (by omega) (by omega)]; exact h.1 i hi, h.2⟩
theorem r_gun {ticks dropped facts splits order struck torn waved bearings cuts deaths places now : Nat → Int32} {entered strikings mats : Int32} {T x1 x2 : Int32} (hz : zRace ticks entered strikings dropped facts splits order struck torn waved mats bearings cuts deaths places now) : ∃ (r : Bool) (a b : Nat → Int32), fX10_gun ticks x1 x2 = some (r, a) ∧ fX11_gun T now x1 x2 = some (r, nI 0, b) ∧ zRace a entered strikings dropped facts splits order struck torn waved mats bearings cuts deaths places b := by
  obtain ⟨M, R, S, ⟨hM, em, ee, es, n0, n1, n2⟩, hm, ht, hr, hs⟩ := hz
  subst em; subst ee; subst es
  obtain ⟨r, a, b, e1, e2, h, k⟩ := p_gun (T := T) (x1 := x1) (x2 := x2) ht
  exact ⟨r, a, b, e1, e2, M, R, S, ⟨hM, rfl, rfl, rfl, by rw [k 0 (by omega)]; exact n0, by rw [k 1 (by omega)]; exact n1, by rw [k 2 (by omega)]; exact n2⟩, k_mats hM.2.1 hm (fun q h1 h2 => k q (by omega)), h, k_runs hr (fun q h1 => k q (by omega)), k_str (by omega) hs (fun q h1 h2 => k q (by omega))⟩
theorem r_dead {ticks dropped facts splits order struck torn waved bearings cuts deaths places now : Nat → Int32} {entered strikings mats : Int32} {T x1 x2 : Int32} (hy : x2 = 0 ∨ x2 = 1) (hz : zRace ticks entered strikings dropped facts splits order struck torn waved mats bearings cuts deaths places now) : ∃ (r : Bool) (a b : Nat → Int32), fX10_dead mats deaths x1 x2 = some (r, a) ∧ fX11_dead T now x1 x2 = some (r, nI 0, b) ∧ zRace ticks entered strikings dropped facts splits order struck torn waved mats bearings cuts a places b := by
  obtain ⟨M, R, S, ⟨hM, em, ee, es, n0, n1, n2⟩, hm, ht, hr, hs⟩ := hz
  subst em; subst ee; subst es
  obtain ⟨r, a, b, e1, e2, h, k⟩ := p_dead (T := T) (x1 := x1) (x2 := x2) hM.2.1 n0 hy hm
  exact ⟨r, a, b, e1, e2, M, R, S, ⟨hM, rfl, rfl, rfl, by rw [k 0 (by omega)]; exact n0, by rw [k 1 (by omega)]; exact n1, by rw [k 2 (by omega)]; exact n2⟩, h, k_ticks ht (fun q h1 h2 => k q (by omega)), k_runs hr (fun q h1 => k q (by omega)), k_str (by omega) hs (fun q h1 h2 => k q (by omega))⟩
theorem r_cut {ticks dropped facts splits order struck torn waved bearings cuts deaths places now : Nat → Int32} {entered strikings mats : Int32} {T x1 x2 : Int32} (hz : zRace ticks entered strikings dropped facts splits order struck torn waved mats bearings cuts deaths places now) : ∃ (r : Bool) (a b : Nat → Int32), fX10_cut mats cuts x1 x2 = some (r, a) ∧ fX11_cut T now x1 x2 = some (r, nI 0, b) ∧ zRace ticks entered strikings dropped facts splits order struck torn waved mats bearings a deaths places b := by
  obtain ⟨M, R, S, ⟨hM, em, ee, es, n0, n1, n2⟩, hm, ht, hr, hs⟩ := hz
  subst em; subst ee; subst es
  obtain ⟨r, a, b, e1, e2, h, k⟩ := p_cut (T := T) (x1 := x1) (x2 := x2) hM.2.1 n0 hm
  exact ⟨r, a, b, e1, e2, M, R, S, ⟨hM, rfl, rfl, rfl, by rw [k 0 (by omega)]; exact n0, by rw [k 1 (by omega)]; exact n1, by rw [k 2 (by omega)]; exact n2⟩, h, k_ticks ht (fun q h1 h2 => k q (by omega)), k_runs hr (fun q h1 => k q (by omega)), k_str (by omega) hs (fun q h1 h2 => k q (by omega))⟩
theorem r_drop {ticks dropped facts splits order struck torn waved bearings cuts deaths places now : Nat → Int32} {entered strikings mats : Int32} {T x1 x2 : Int32} (hy : x2 = 0 ∨ x2 = 1) (hz : zRace ticks entered strikings dropped facts splits order struck torn waved mats bearings cuts deaths places now) : ∃ (r : Bool) (a b : Nat → Int32), fX10_drop entered dropped x1 x2 = some (r, a) ∧ fX11_drop T now x1 x2 = some (r, nI 0, b) ∧ zRace ticks entered strikings a facts splits order struck torn waved mats bearings cuts deaths places b := by
  obtain ⟨M, R, S, ⟨hM, em, ee, es, n0, n1, n2⟩, hm, ht, hr, hs⟩ := hz
  subst em; subst ee; subst es
  obtain ⟨r, a, b, e1, e2, h, k⟩ := p_drop (T := T) (x1 := x1) (x2 := x2) hM.2.2.1 n1 hy hr
  exact ⟨r, a, b, e1, e2, M, R, S, ⟨hM, rfl, rfl, rfl, by rw [k 0 (by omega)]; exact n0, by rw [k 1 (by omega)]; exact n1, by rw [k 2 (by omega)]; exact n2⟩, k_mats hM.2.1 hm (fun q h1 h2 => k q (by omega)), k_ticks ht (fun q h1 h2 => k q (by omega)), h, k_str (by omega) hs (fun q h1 h2 => k q (by omega))⟩
theorem r_wave {ticks dropped facts splits order struck torn waved bearings cuts deaths places now : Nat → Int32} {entered strikings mats : Int32} {T x1 x2 : Int32} (hy : x2 = 0 ∨ x2 = 1) (hz : zRace ticks entered strikings dropped facts splits order struck torn waved mats bearings cuts deaths places now) : ∃ (r : Bool) (a b : Nat → Int32), fX10_wave entered waved x1 x2 = some (r, a) ∧ fX11_wave T now x1 x2 = some (r, nI 0, b) ∧ zRace ticks entered strikings dropped facts splits order struck torn a mats bearings cuts deaths places b := by
  obtain ⟨M, R, S, ⟨hM, em, ee, es, n0, n1, n2⟩, hm, ht, hr, hs⟩ := hz
  subst em; subst ee; subst es
  obtain ⟨r, a, b, e1, e2, h, k⟩ := p_wave (T := T) (x1 := x1) (x2 := x2) hM.2.2.1 n1 hy hr
  exact ⟨r, a, b, e1, e2, M, R, S, ⟨hM, rfl, rfl, rfl, by rw [k 0 (by omega)]; exact n0, by rw [k 1 (by omega)]; exact n1, by rw [k 2 (by omega)]; exact n2⟩, k_mats hM.2.1 hm (fun q h1 h2 => k q (by omega)), k_ticks ht (fun q h1 h2 => k q (by omega)), h, k_str (by omega) hs (fun q h1 h2 => k q (by omega))⟩
theorem r_strike {ticks dropped facts splits order struck torn waved bearings cuts deaths places now : Nat → Int32} {entered strikings mats : Int32} {T x1 : Int32} (hz : zRace ticks entered strikings dropped facts splits order struck torn waved mats bearings cuts deaths places now) : ∃ (r : Bool) (s : Int32) (o st b : Nat → Int32), fX10_strike entered strikings order struck x1 = some (r, s, o, st) ∧ fX11_strike T now x1 = some (r, nI 0, b) ∧ zRace ticks entered s dropped facts splits o st torn waved mats bearings cuts deaths places b := by
  obtain ⟨M, R, S, ⟨hM, em, ee, es, n0, n1, n2⟩, hm, ht, hr, hs⟩ := hz
  subst em; subst ee; subst es
  obtain ⟨r, S', o, st, b, e1, e2, hS, h, g, b2, k⟩ := p_strike (T := T) (x1 := x1) hM.2.2.1 hM.2.2.2 n1 n2 hr hs
  exact ⟨r, _, o, st, b, e1, e2, M, R, S', ⟨⟨hM.1, hM.2.1, hM.2.2.1, hS⟩, rfl, rfl, rfl, by rw [k 0 (by omega)]; exact n0, by rw [k 1 (by omega)]; exact n1, b2⟩, k_mats hM.2.1 hm (fun q h1 h2 => k q (by omega)), k_ticks ht (fun q h1 h2 => k q (by omega)), h, g⟩
theorem r_pardon {ticks dropped facts splits order struck torn waved bearings cuts deaths places now : Nat → Int32} {entered strikings mats : Int32} {T : Int32} (hz : zRace ticks entered strikings dropped facts splits order struck torn waved mats bearings cuts deaths places now) : ∃ (r s : Int32) (st b : Nat → Int32), fX10_pardon entered strikings order struck = some (r, s, st) ∧ fX11_pardon T now = some (r, nI 0, b) ∧ zRace ticks entered s dropped facts splits order st torn waved mats bearings cuts deaths places b := by
  obtain ⟨M, R, S, ⟨hM, em, ee, es, n0, n1, n2⟩, hm, ht, hr, hs⟩ := hz
  subst em; subst ee; subst es
  obtain ⟨r, S', st, b, e1, e2, hS, h, g, b2, k⟩ := p_pardon (T := T) hM.2.2.1 hM.2.2.2 n2 hr hs
  exact ⟨r, _, st, b, e1, e2, M, R, S', ⟨⟨hM.1, hM.2.1, hM.2.2.1, hS⟩, rfl, rfl, rfl, by rw [k 0 (by omega)]; exact n0, by rw [k 1 (by omega)]; exact n1, b2⟩, k_mats hM.2.1 hm (fun q h1 h2 => k q (by omega)), k_ticks ht (fun q h1 h2 => k q (by omega)), h, g⟩
theorem r_saw {ticks dropped facts splits order struck torn waved bearings cuts deaths places now : Nat → Int32} {entered strikings mats : Int32} {T x1 x2 x3 : Int32} (hz : zRace ticks entered strikings dropped facts splits order struck torn waved mats bearings cuts deaths places now) : ∃ (r : Int32) (a b : Nat → Int32), fX10_saw entered splits torn mats deaths x1 x2 x3 = some (r, a) ∧ fX11_saw T now x1 x2 x3 = some (r, nI 0, b) ∧ zRace ticks entered strikings dropped facts a order struck torn waved mats bearings cuts deaths places b := by
  obtain ⟨M, R, S, ⟨hM, em, ee, es, n0, n1, n2⟩, hm, ht, hr, hs⟩ := hz
  subst em; subst ee; subst es
  obtain ⟨r, a, b, e1, e2, h, k⟩ := p_saw (T := T) (x1 := x1) (x2 := x2) (x3 := x3) hM.2.1 hM.2.2.1 n0 n1 hm hr
  exact ⟨r, a, b, e1, e2, M, R, S, ⟨hM, rfl, rfl, rfl, by rw [k 0 (by omega)]; exact n0, by rw [k 1 (by omega)]; exact n1, by rw [k 2 (by omega)]; exact n2⟩, k_mats hM.2.1 hm (fun q h1 h2 => k q (by omega)), k_ticks ht (fun q h1 h2 => k q (by omega)), h, k_str (by omega) hs (fun q h1 h2 => k q (by omega))⟩
theorem r_tear {ticks dropped facts splits order struck torn waved bearings cuts deaths places now : Nat → Int32} {entered strikings mats : Int32} {T x1 x2 : Int32} {N : Nat} (hN : 10000 ≤ N) (hz : zRace ticks entered strikings dropped facts splits order struck torn waved mats bearings cuts deaths places now) : ∃ (r : Bool) (a ta b : Nat → Int32), fX10_tear N entered splits torn mats x1 x2 = some (r, a, ta) ∧ fX11_tear N T now x1 x2 = some (r, nI 0, b) ∧ zRace ticks entered strikings dropped facts a order struck ta waved mats bearings cuts deaths places b := by
  obtain ⟨M, R, S, ⟨hM, em, ee, es, n0, n1, n2⟩, hm, ht, hr, hs⟩ := hz
  subst em; subst ee; subst es
  obtain ⟨r, a, ta, b, e1, e2, h, k⟩ := p_tear (T := T) (x1 := x1) (x2 := x2) hN hM.2.1 hM.2.2.1 n0 n1 hr
  exact ⟨r, a, ta, b, e1, e2, M, R, S, ⟨hM, rfl, rfl, rfl, by rw [k 0 (by omega)]; exact n0, by rw [k 1 (by omega)]; exact n1, by rw [k 2 (by omega)]; exact n2⟩, k_mats hM.2.1 hm (fun q h1 h2 => k q (by omega)), k_ticks ht (fun q h1 h2 => k q (by omega)), h, k_str (by omega) hs (fun q h1 h2 => k q (by omega))⟩
theorem r_mat {ticks dropped facts splits order struck torn waved bearings cuts deaths places now : Nat → Int32} {entered strikings mats : Int32} {T x1 x2 : Int32} {N : Nat} (hN : 10000 ≤ N) (hz : zRace ticks entered strikings dropped facts splits order struck torn waved mats bearings cuts deaths places now) : ∃ (r m : Int32) (be cu de pl b : Nat → Int32), fX10_mat mats bearings cuts deaths places x1 x2 = some (r, m, be, cu, de, pl) ∧ fX11_mat N T now x1 x2 = some (r, nI 0, b) ∧ zRace ticks entered strikings dropped facts splits order struck torn waved m be cu de pl b := by
  obtain ⟨M, R, S, ⟨hM, em, ee, es, n0, n1, n2⟩, hm, ht, hr, hs⟩ := hz
  subst em; subst ee; subst es
  obtain ⟨r, M', be, cu, de, pl, b, e1, e2, h1, h2, b0, h, g, k⟩ := p_mat (T := T) (x1 := x1) (x2 := x2) hN hM.1 hM.2.1 hM.2.2.1 n0 n1 hm hr
  exact ⟨r, _, be, cu, de, pl, b, e1, e2, M', R, S, ⟨⟨h1, h2, hM.2.2⟩, rfl, rfl, rfl, b0, by rw [k 1 (by omega) (by omega)]; exact n1, by rw [k 2 (by omega) (by omega)]; exact n2⟩, h, k_ticks ht (fun q h1 h2 => k q (by omega) (by omega)), g, k_str (by omega) hs (fun q h1 h2 => k q (by omega) (by omega))⟩
