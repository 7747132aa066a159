/-! the steps of list, place, many, prizes -/
theorem r_list {N : Nat} {ticks dropped facts splits order struck torn waved bearings cuts deaths places now times listT ordT bytes text nu pa si : Nat → Int32} {entered strikings mats length mlength di la op od pr sg as at_ by_ fa mo pm li T x1 : Int32} (hN : 10000 ≤ N) (hz : zRace ticks entered strikings dropped facts splits order struck torn waved mats bearings cuts deaths places now) (ht : zText length bytes mlength text) : ∃ v : Int32, (∃ z, fX10_list N di la op od pr sg nu pa si times ticks entered dropped facts splits struck waved mats cuts length bytes x1 = some (v, z)) ∧ ∃ z, fX11_list_ N as at_ by_ fa mlength li mo pm T now ordT text listT x1 = some (v, z) := by
  obtain ⟨M, R, S, h⟩ := hz
  have h0 := h
  obtain ⟨⟨⟨_, hM, hR, _⟩, em, ee, _, n0, n1, _⟩, _⟩ := h0
  subst em; subst ee
  obtain ⟨n, V, e1, e2, hv⟩ := zvb_of ht
  subst e1; subst e2
  cases hg : zRn n V 0 0 0 0 with
  | some f =>
    obtain ⟨⟨_, _, _, _, _, _, _, _, _, _, eC⟩, ⟨_, _, _, _, _, _, _, _, _, eG⟩⟩ := l_bad (now := now) (R := nI R) (M := nI M) (ticks := ticks) (dropped := dropped) (facts := facts) (splits := splits) (struck := struck) (waved := waved) (cuts := cuts) (times := times) (listT := listT) (ordT := ordT) (di := di) (la := la) (op := op) (od := od) (pr := pr) (sg := sg) (as := as) (at_ := at_) (by_ := by_) (fa := fa) (mo := mo) (pm := pm) (li := li) (nu := nu) (pa := pa) (si := si) hN hv hg
    refine ⟨-1, ?_, ?_⟩
    · unfold fX10_list
      rw [eC, Option.bind_some]
      dsimp only
      rw [if_pos zl_f0]
      exact ⟨_, rfl⟩
    · unfold fX11_list_
      rw [eG, Option.bind_some]
      dsimp only
      rw [if_pos zl_f0]
      exact ⟨_, rfl⟩
  | none =>
    obtain ⟨tm, c, s, o, t, PR, pm', ⟨z1, z2, z3, z4, z5⟩, ⟨_, _, _, _, _, _, _, _, eC⟩, ⟨_, _, _, _, _, eG⟩⟩ := l_good (times := times) (listT := listT) (ordT := ordT) (di := di) (la := la) (op := op) (od := od) (pr := pr) (sg := sg) (as := as) (at_ := at_) (by_ := by_) (fa := fa) (mo := mo) (pm := pm) (li := li) (nu := nu) (pa := pa) (si := si) hN h hv hg
    have rat := c_ratL (x := x1) hN z1 z2 60 0 N (by omega) (by omega)
    have hno : (∀ k, k < c → ¬ nI k = x1) → fX3_runnerAt N tm x1 = some (-1) := fun q => by
      unfold fX3_runnerAt
      exact rat.1 (fun k hk _ => q k hk)
    rcases zarg x1 with hx | ⟨j, hj, rfl⟩
    · refine ⟨-1, ?_, ?_⟩
      · unfold fX10_list
        rw [eC, Option.bind_some]
        dsimp only
        rw [if_neg zl_t0, hno (fun k hk e => zne_neg (show k < 2147483648 by omega) hx e.symm), Option.bind_some]
        exact ⟨_, rfl⟩
      · unfold fX11_list_
        rw [eG, Option.bind_some]
        dsimp only
        rw [if_neg zl_t0, if_pos hx]
        exact ⟨_, rfl⟩
    · by_cases hc : j < c
      · refine ⟨nI (s j), ?_, ?_⟩
        · unfold fX10_list
          rw [eC, Option.bind_some]
          dsimp only
          rw [if_neg zl_t0, show fX3_runnerAt N tm (nI j) = some (nI (s j)) from rat.2 j hc (Nat.zero_le _) rfl, Option.bind_some]
          exact ⟨_, rfl⟩
        · unfold fX11_list_
          rw [eG, Option.bind_some]
          dsimp only
          rw [if_neg zl_t0, if_neg (nI_pos hj), if_neg (show ¬ nI c ≤ nI j by rw [zl_le (by omega) hj]; omega), if_pos (zin_k (show j < 60 by omega) (by omega)), zl_c hj, (z3 j hc).1]
          exact ⟨_, rfl⟩
      · refine ⟨-1, ?_, ?_⟩
        · unfold fX10_list
          rw [eC, Option.bind_some]
          dsimp only
          rw [if_neg zl_t0, hno (fun k hk e => by rw [zl_eq (by omega) hj] at e; omega), Option.bind_some]
          exact ⟨_, rfl⟩
        · unfold fX11_list_
          rw [eG, Option.bind_some]
          dsimp only
          rw [if_neg zl_t0, if_neg (nI_pos hj), if_pos (show nI c ≤ nI j by rw [zl_le (by omega) hj]; omega)]
          exact ⟨_, rfl⟩
theorem r_place {N : Nat} {ticks dropped facts splits order struck torn waved bearings cuts deaths places now times listT ordT bytes text nu pa si : Nat → Int32} {entered strikings mats length mlength di la op od pr sg as at_ by_ fa mo pm li T x1 : Int32} (hN : 10000 ≤ N) (hz : zRace ticks entered strikings dropped facts splits order struck torn waved mats bearings cuts deaths places now) (ht : zText length bytes mlength text) : ∃ v : Int32, (∃ z, fX10_place N di la op od pr sg nu pa si times ticks entered dropped facts splits struck waved mats cuts length bytes x1 = some (v, z)) ∧ ∃ z, fX11_place N as at_ by_ fa mlength li mo pm T now ordT text listT x1 = some (v, z) := by
  obtain ⟨M, R, S, h⟩ := hz
  have h0 := h
  obtain ⟨⟨⟨_, hM, hR, _⟩, em, ee, _, n0, n1, _⟩, _⟩ := h0
  subst em; subst ee
  obtain ⟨n, V, e1, e2, hv⟩ := zvb_of ht
  subst e1; subst e2
  cases hg : zRn n V 0 0 0 0 with
  | some f =>
    obtain ⟨⟨_, _, _, _, _, _, _, _, _, _, eC⟩, ⟨_, _, _, _, _, _, _, _, _, eG⟩⟩ := l_bad (now := now) (R := nI R) (M := nI M) (ticks := ticks) (dropped := dropped) (facts := facts) (splits := splits) (struck := struck) (waved := waved) (cuts := cuts) (times := times) (listT := listT) (ordT := ordT) (di := di) (la := la) (op := op) (od := od) (pr := pr) (sg := sg) (as := as) (at_ := at_) (by_ := by_) (fa := fa) (mo := mo) (pm := pm) (li := li) (nu := nu) (pa := pa) (si := si) hN hv hg
    refine ⟨-1, ?_, ?_⟩
    · unfold fX10_place
      rw [eC, Option.bind_some]
      dsimp only
      rw [if_pos zl_f0]
      exact ⟨_, rfl⟩
    · unfold fX11_place
      rw [eG, Option.bind_some]
      dsimp only
      rw [if_pos zl_f0]
      exact ⟨_, rfl⟩
  | none =>
    obtain ⟨tm, c, s, o, t, PR, pm', ⟨z1, z2, z3, z4, z5⟩, ⟨_, _, _, _, _, _, _, _, eC⟩, ⟨_, _, _, _, _, eG⟩⟩ := l_good (times := times) (listT := listT) (ordT := ordT) (di := di) (la := la) (op := op) (od := od) (pr := pr) (sg := sg) (as := as) (at_ := at_) (by_ := by_) (fa := fa) (mo := mo) (pm := pm) (li := li) (nu := nu) (pa := pa) (si := si) hN h hv hg
    have hout : (x1 < 0 ∨ ∃ j : Nat, j < 2 ^ 31 ∧ 60 ≤ j ∧ x1 = nI j) ∨ ∃ r : Nat, r < 60 ∧ x1 = nI r := by
      rcases zarg x1 with hx | ⟨j, hj, e⟩
      · exact Or.inl (Or.inl hx)
      · rcases Nat.lt_or_ge j 60 with g | g
        · exact Or.inr ⟨j, g, e⟩
        · exact Or.inl (Or.inr ⟨j, hj, g, e⟩)
    rcases hout with hx | ⟨r, hr, rfl⟩
    · refine ⟨-1, ?_, ?_⟩
      · unfold fX10_place
        rw [eC, Option.bind_some]
        dsimp only
        rw [if_neg zl_t0, c_placeOut hx, Option.bind_some]
        exact ⟨_, rfl⟩
      · unfold fX11_place
        rw [eG, Option.bind_some]
        dsimp only
        rw [if_neg zl_t0]
        have hne : ∀ k, k < c → 0 ≤ k → ¬ nI (s k) = x1 := fun k hk _ e => by
          have hs := (z1.1 k hk).1
          rcases hx with hx | ⟨j, hj, h60, ej⟩
          · exact zne_neg (show s k < 2147483648 by omega) hx e.symm
          · rw [ej, zl_eq (by omega) hj] at e
            omega
        exact ⟨_, (g_L16 hN z2 z1 z3 _ c 0 N (by omega) (by omega)).1 hne⟩
    · by_cases a : tm r = -1
      · refine ⟨-1, ?_, ?_⟩
        · unfold fX10_place
          rw [eC, Option.bind_some]
          dsimp only
          rw [if_neg zl_t0, c_place hN hr, if_pos a, Option.bind_some]
          exact ⟨_, rfl⟩
        · unfold fX11_place
          rw [eG, Option.bind_some]
          dsimp only
          rw [if_neg zl_t0]
          have hne : ∀ k, k < c → 0 ≤ k → ¬ nI (s k) = nI r := fun k hk _ e => by
            have hs := z1.1 k hk
            rw [zl_eq (by omega) (by omega)] at e
            exact hs.2 (by rw [e]; exact a)
          exact ⟨_, (g_L16 hN z2 z1 z3 _ c 0 N (by omega) (by omega)).1 hne⟩
      · obtain ⟨k, hk, rfl⟩ := zSq_mem z1 hr a
        refine ⟨nI (1 + zLo tm (tm (s k))), ?_, ?_⟩
        · unfold fX10_place
          rw [eC, Option.bind_some]
          dsimp only
          rw [if_neg zl_t0, c_place hN hr, if_neg a, Option.bind_some]
          exact ⟨_, rfl⟩
        · unfold fX11_place
          rw [eG, Option.bind_some]
          dsimp only
          rw [if_neg zl_t0]
          exact ⟨_, (g_L16 hN z2 z1 z3 _ c 0 N (by omega) (by omega)).2 k hk (Nat.zero_le _) rfl⟩
theorem r_many {N : Nat} {ticks dropped facts splits order struck torn waved bearings cuts deaths places now times listT ordT bytes text nu pa si : Nat → Int32} {entered strikings mats length mlength di la op od pr sg as at_ by_ fa mo pm li T : Int32} (hN : 10000 ≤ N) (hz : zRace ticks entered strikings dropped facts splits order struck torn waved mats bearings cuts deaths places now) (ht : zText length bytes mlength text) : ∃ v : Int32, (∃ z, fX10_many N di la op od pr sg nu pa si times ticks entered dropped facts splits struck waved mats cuts length bytes = some (v, z)) ∧ ∃ z, fX11_many N as at_ by_ fa mlength li mo pm T now ordT text listT = some (v, z) := by
  obtain ⟨M, R, S, h⟩ := hz
  have h0 := h
  obtain ⟨⟨⟨_, hM, hR, _⟩, em, ee, _, n0, n1, _⟩, _⟩ := h0
  subst em; subst ee
  obtain ⟨n, V, e1, e2, hv⟩ := zvb_of ht
  subst e1; subst e2
  cases hg : zRn n V 0 0 0 0 with
  | some f =>
    obtain ⟨⟨_, _, _, _, _, _, _, _, _, _, eC⟩, ⟨_, _, _, _, _, _, _, _, _, eG⟩⟩ := l_bad (now := now) (R := nI R) (M := nI M) (ticks := ticks) (dropped := dropped) (facts := facts) (splits := splits) (struck := struck) (waved := waved) (cuts := cuts) (times := times) (listT := listT) (ordT := ordT) (di := di) (la := la) (op := op) (od := od) (pr := pr) (sg := sg) (as := as) (at_ := at_) (by_ := by_) (fa := fa) (mo := mo) (pm := pm) (li := li) (nu := nu) (pa := pa) (si := si) hN hv hg
    refine ⟨-1, ?_, ?_⟩
    · unfold fX10_many
      rw [eC, Option.bind_some]
      dsimp only
      rw [if_pos zl_f0]
      exact ⟨_, rfl⟩
    · unfold fX11_many
      rw [eG, Option.bind_some]
      dsimp only
      rw [if_pos zl_f0]
      exact ⟨_, rfl⟩
  | none =>
    obtain ⟨tm, c, s, o, t, PR, pm', ⟨z1, z2, z3, z4, z5⟩, ⟨_, _, _, _, _, _, _, _, eC⟩, ⟨_, _, _, _, _, eG⟩⟩ := l_good (times := times) (listT := listT) (ordT := ordT) (di := di) (la := la) (op := op) (od := od) (pr := pr) (sg := sg) (as := as) (at_ := at_) (by_ := by_) (fa := fa) (mo := mo) (pm := pm) (li := li) (nu := nu) (pa := pa) (si := si) hN h hv hg
    refine ⟨nI c, ?_, ?_⟩
    · unfold fX10_many
      rw [eC, Option.bind_some]
      dsimp only
      rw [if_neg zl_t0, c_size hN z1, Option.bind_some]
      exact ⟨_, rfl⟩
    · unfold fX11_many
      rw [eG, Option.bind_some]
      dsimp only
      rw [if_neg zl_t0]
      exact ⟨_, rfl⟩
theorem r_prizes {N : Nat} {ticks dropped facts splits order struck torn waved bearings cuts deaths places now times listT ordT bytes text nu pa si : Nat → Int32} {entered strikings mats length mlength di la op od pr sg as at_ by_ fa mo pm li T : Int32} (hN : 10000 ≤ N) (hz : zRace ticks entered strikings dropped facts splits order struck torn waved mats bearings cuts deaths places now) (ht : zText length bytes mlength text) : ∃ v : Int32, (∃ z, fX10_prizes N di la op od pr sg nu pa si times ticks entered dropped facts splits struck waved mats cuts length bytes = some (v, z)) ∧ ∃ z, fX11_prizes N as at_ by_ fa mlength li mo pm T now ordT text listT = some (v, z) := by
  obtain ⟨M, R, S, h⟩ := hz
  have h0 := h
  obtain ⟨⟨⟨_, hM, hR, _⟩, em, ee, _, n0, n1, _⟩, _⟩ := h0
  subst em; subst ee
  obtain ⟨n, V, e1, e2, hv⟩ := zvb_of ht
  subst e1; subst e2
  cases hg : zRn n V 0 0 0 0 with
  | some f =>
    obtain ⟨⟨_, _, _, _, _, _, _, _, _, _, eC⟩, ⟨_, _, _, _, _, _, _, _, _, eG⟩⟩ := l_bad (now := now) (R := nI R) (M := nI M) (ticks := ticks) (dropped := dropped) (facts := facts) (splits := splits) (struck := struck) (waved := waved) (cuts := cuts) (times := times) (listT := listT) (ordT := ordT) (di := di) (la := la) (op := op) (od := od) (pr := pr) (sg := sg) (as := as) (at_ := at_) (by_ := by_) (fa := fa) (mo := mo) (pm := pm) (li := li) (nu := nu) (pa := pa) (si := si) hN hv hg
    refine ⟨-1, ?_, ?_⟩
    · unfold fX10_prizes
      rw [eC, Option.bind_some]
      dsimp only
      rw [if_pos zl_f0]
      exact ⟨_, rfl⟩
    · unfold fX11_prizes
      rw [eG, Option.bind_some]
      dsimp only
      rw [if_pos zl_f0]
      exact ⟨_, rfl⟩
  | none =>
    obtain ⟨tm, c, s, o, t, PR, pm', ⟨z1, z2, z3, z4, z5⟩, ⟨_, _, _, _, _, _, _, _, eC⟩, ⟨_, _, _, _, _, eG⟩⟩ := l_good (times := times) (listT := listT) (ordT := ordT) (di := di) (la := la) (op := op) (od := od) (pr := pr) (sg := sg) (as := as) (at_ := at_) (by_ := by_) (fa := fa) (mo := mo) (pm := pm) (li := li) (nu := nu) (pa := pa) (si := si) hN h hv hg
    have ht2 : ∀ k, k < c → t k = tm (s k) := fun k hk => (z3 k hk).2
    rcases z4 with z4 | z4
    · subst z4
      refine ⟨nI 0, ?_, ?_⟩
      · unfold fX10_prizes
        rw [eC, Option.bind_some]
        dsimp only
        rw [if_neg zl_t0, c_priz hN z1, Option.bind_some]
        exact ⟨_, rfl⟩
      · unfold fX11_prizes
        rw [eG, Option.bind_some]
        dsimp only
        rw [if_neg zl_t0]
        exact ⟨_, g_prizL (PR := pm') hN z2 z1 ht2 _ 0 0 N (by omega) (by omega)⟩
    · subst z4
      refine ⟨nI (zcb (fun k => decide (¬ pm' < nI (1 + zLo tm (tm (s k))))) c), ?_, ?_⟩
      · unfold fX10_prizes
        rw [eC, Option.bind_some]
        dsimp only
        rw [if_neg zl_t0, c_priz hN z1, Option.bind_some]
        exact ⟨_, rfl⟩
      · unfold fX11_prizes
        rw [eG, Option.bind_some]
        dsimp only
        rw [if_neg zl_t0]
        exact ⟨_, g_prizL hN z2 z1 ht2 _ c 0 N (by omega) (by omega)⟩
