theorem p_end {n : Nat} {T x1 : Int32} (hn : n ≤ 200) : ∃ (r : Bool) (n' : Nat), fX10_end (nI n) x1 = some (r, nI n') ∧ fX11_end (nI n) T x1 = some (r, nI n', nI 0) ∧ n' ≤ n := by
  unfold fX10_end fX7_shorten fX11_end
  rcases zarg x1 with h | ⟨j, hj, e⟩
  · rw [zw_neg (by omega) h, Option.bind_some, if_pos zl_f0, Option.bind_some, if_pos h]
    exact ⟨false, n, rfl, rfl, Nat.le_refl n⟩
  · rw [e, zw_n (by omega) (by omega) hj, Option.bind_some, if_neg (nI_pos hj)]
    by_cases h : 0 ≤ j ∧ j ≤ n
    · rw [decide_eq_true h, if_neg zl_t0, Option.bind_some, if_pos (by rw [zl_le hj (by omega)]; exact h.2)]
      exact ⟨true, j, rfl, rfl, h.2⟩
    · rw [decide_eq_false h, if_pos zl_f0, Option.bind_some, if_neg (by rw [zl_le hj (by omega)]; omega)]
      exact ⟨false, n, rfl, rfl, Nat.le_refl n⟩
theorem p_fill {x : Int32} : ∀ (n k : Nat) (p : Nat → Int32), k ≤ 6 → 7 ≤ n + k → ∃ p' : Nat → Int32, fJ7_fill_53178_L5 6 x (fun (v2_5 : Int32) (p1_l5 : Nat → Int32) => some (p1_l5)) n (nI k) p = some p' ∧ ∀ i, (k ≤ i ∧ i < 6 → p' i = x) ∧ (i < k → p' i = p i) := by
  intro n
  induction n with
  | zero => intro k p h1 h2; omega
  | succ n ih =>
    intro k p h1 h2
    rw [fJ7_fill_53178_L5]
    by_cases hk : k = 6
    · subst hk
      rw [if_pos (by rw [zl_le (by omega) (by omega)]; exact Nat.le_refl 6)]
      exact ⟨p, rfl, fun i => ⟨fun h => by omega, fun _ => rfl⟩⟩
    · rw [if_neg (by rw [zl_le (by omega) (by omega)]; omega), if_pos (zin_k (show k < 6 by omega) (by omega)), nI_add, zl_c (show k < 2 ^ 31 by omega)]
      obtain ⟨p', e, q⟩ := ih (k + 1) (upd p k x) (by omega) (by omega)
      refine ⟨p', e, fun i => ⟨fun h => ?_, fun h => ?_⟩⟩
      · by_cases hi : i = k
        · rw [(q i).2 (by omega), hi, zup_s]
        · exact (q i).1 (by omega)
      · rw [(q i).2 (by omega), zup_n (by omega)]
theorem p_clear {N : Nat} {p : Nat → Int32} (hN : 10000 ≤ N) : ∃ p' : Nat → Int32, fX2_clear N p = some p' ∧ ∀ i, i < 6 → p' i = -1 := by
  unfold fX2_clear fJ7_fill_53178
  obtain ⟨p', e, q⟩ := p_fill (x := -1) N 0 p (by omega) (by omega)
  rw [e, Option.bind_some]
  exact ⟨p', rfl, fun i hi => (q i).1 ⟨by omega, hi⟩⟩
theorem p_zero1 {K : Int32 → (Nat → Int32) → Option (Nat → Int32)} : ∀ (n k : Nat) (w : Nat → Int32), k ≤ 1562 → 1563 ≤ n + k → ∃ w' : Nat → Int32, fX11_begin_L2 K n (nI k) w = K (nI 1562) w' ∧ ∀ i, (k ≤ i ∧ i < 1562 → w' i = nI 0) ∧ (i < k → w' i = w i) := by
  intro n
  induction n with
  | zero => intro k w h1 h2; omega
  | succ n ih =>
    intro k w h1 h2
    rw [fX11_begin_L2]
    by_cases hk : k = 1562
    · subst hk
      rw [if_pos (by rw [zl_le (by omega) (by omega)]; exact Nat.le_refl _)]
      exact ⟨w, rfl, fun i => ⟨fun h => by omega, fun _ => rfl⟩⟩
    · rw [if_neg (by rw [zl_le (by omega) (by omega)]; omega), if_pos (zin_k (show k < 1562 by omega) (by omega)), nI_add, zl_c (show k < 2 ^ 31 by omega)]
      obtain ⟨w', e, q⟩ := ih (k + 1) (upd w k (nI 0)) (by omega) (by omega)
      refine ⟨w', e, fun i => ⟨fun h => ?_, fun h => ?_⟩⟩
      · by_cases hi : i = k
        · rw [(q i).2 (by omega), hi, zup_s]
        · exact (q i).1 (by omega)
      · rw [(q i).2 (by omega), zup_n (by omega)]
theorem p_zero2 {K : Int32 → (Nat → Int32) → Option (Nat → Int32)} : ∀ (n k : Nat) (w : Nat → Int32), k ≤ 6 → 7 ≤ n + k → ∃ w' : Nat → Int32, fX11_begin_L24 K n (nI k) w = K (nI 6) w' ∧ ∀ i, (56 + k ≤ i ∧ i < 62 → w' i = -1) ∧ (¬ (56 + k ≤ i ∧ i < 62) → w' i = w i) := by
  intro n
  induction n with
  | zero => intro k w h1 h2; omega
  | succ n ih =>
    intro k w h1 h2
    rw [fX11_begin_L24]
    by_cases hk : k = 6
    · subst hk
      rw [if_pos (by rw [zl_le (by omega) (by omega)]; exact Nat.le_refl 6)]
      exact ⟨w, rfl, fun i => ⟨fun h => by omega, fun _ => rfl⟩⟩
    · rw [if_neg (by rw [zl_le (by omega) (by omega)]; omega), nI_add, if_pos (zin_k (show 56 + k < 1562 by omega) (by omega)), zl_c (show 56 + k < 2 ^ 31 by omega), nI_add]
      obtain ⟨w', e, q⟩ := ih (k + 1) (upd w (56 + k) (-1)) (by omega) (by omega)
      refine ⟨w', e, fun i => ⟨fun h => ?_, fun h => ?_⟩⟩
      · by_cases hi : i = 56 + k
        · rw [(q i).2 (by omega), hi, zup_s]
        · exact (q i).1 (by omega)
      · rw [(q i).2 (by omega), zup_n (by omega)]
theorem p_begin {N v : Nat} {ticks dropped facts splits order struck torn waved bearings cuts deaths places now : Nat → Int32} {entered strikings mats : Int32} (hN : 10000 ≤ N) (hv : 1 ≤ v ∧ v ≤ 1000) :
    ∃ (ga be cu de pl b : Nat → Int32), fX4_begin N ticks entered strikings mats bearings cuts deaths places (nI v) = some (ga, nI 0, nI 0, nI 1, be, cu, de, pl) ∧ fX11_begin N now (nI v) = some b ∧ zRaceN 1 0 0 ga (nI 0) (nI 0) dropped facts splits order struck torn waved (nI 1) be cu de pl b := by
  obtain ⟨ga, eg, qg⟩ := p_clear (p := ticks) hN
  obtain ⟨w1, e1, q1⟩ := p_zero1 (K := (fun (v2_2 : Int32) (t_now_l2 : Nat → Int32) => fX11_begin_L24 (fun (v2_24 : Int32) (t_now_l24 : Nat → Int32) => ((fX11_adds N t_now_l24 (nI 0) (nI v)).bind (fun t_now_r1 => some (t_now_r1)))) N (nI 0) t_now_l2)) N 0 now (by omega) (by omega)
  obtain ⟨w2, e2, q2⟩ := p_zero2 (K := (fun (v2_24 : Int32) (t_now_l24 : Nat → Int32) => ((fX11_adds N t_now_l24 (nI 0) (nI v)).bind (fun t_now_r1 => some (t_now_r1))))) N 0 w1 (by omega) (by omega)
  have w2z : ∀ q, q < 56 → w2 q = nI 0 := fun q hq => by rw [(q2 q).2 (by omega)]; exact (q1 q).1 (by omega)
  obtain ⟨b, E, b0, b8, b9, b10, b11, br, bo⟩ := p_adds (M := 0) (R := 0) (x1 := nI 0) (x2 := nI v) hN (by omega) (by omega) (w2z 0 (by omega)) (w2z 1 (by omega))
  have D1 : fX4_begin N ticks entered strikings mats bearings cuts deaths places (nI v) = some (ga, nI 0, nI 0, nI 1, upd bearings 0 (nI v), upd cuts 0 (-1), upd deaths 0 0, upd places 0 (nI 0)) := by
    unfold fX4_begin fX9_clear fX6_clear fX9_append
    rw [Option.bind_some, eg, Option.bind_some, Option.bind_some]
    dsimp only
    rw [if_neg (nI_pos (by omega)), if_pos (show nI 0 < nI 12 by rw [zl_lt (by omega) (by omega)]; omega), if_pos (zin_k (by omega) (by omega)), if_pos (zin_k (by omega) (by omega)), if_pos (zin_k (by omega) (by omega)), if_pos (zin_k (by omega) (by omega)), Option.bind_some, zl_c (show 0 < 2 ^ 31 by omega), p_bit0, nI_add]
  have D2 : fX11_begin N now (nI v) = some b := by
    unfold fX11_begin
    rw [e1, e2, E, Option.bind_some]
  obtain ⟨R1, R2⟩ := p_added (M := 0) (R := 0) (p := 0) (v := v) (places := places) (bearings := bearings) (deaths := deaths) (cuts := cuts) (facts := facts) (dropped := dropped) (waved := waved) (struck := struck) (torn := torn) (splits := splits) (now := w2) (by omega) (by omega) rfl hv rfl (fun _ => rfl) (fun a h => by omega) b8 b9 b10 b11 br bo (Or.inl rfl) (fun r h => by omega)
  refine ⟨ga, _, _, _, _, b, D1, D2, ⟨by omega, rfl, rfl, rfl, b0, ?_, ?_⟩, R1, fun p hp => ⟨?_, Or.inl (qg p hp)⟩, R2, ⟨fun i h => by omega, fun i j h h2 => by omega, fun r h => by omega, rfl⟩⟩
  · rw [bo 1 (by omega) (by omega) (fun r h => by omega)]; exact w2z 1 (by omega)
  · rw [bo 2 (by omega) (by omega) (fun r h => by omega)]; exact w2z 2 (by omega)
  · rw [bo _ (by omega) (by omega) (fun r h => by omega), (q2 _).1 (by omega)]; exact (qg p hp).symm
theorem r_way {N : Nat} {ticks dropped facts splits order struck torn waved bearings cuts deaths places now : Nat → Int32} {entered strikings mats T x1 : Int32} (hN : 10000 ≤ N) (hz : zRace ticks entered strikings dropped facts splits order struck torn waved mats bearings cuts deaths places now) :
    ∃ (r : Bool) (ga : Nat → Int32) (en st ma : Int32) (be cu de pl b : Nat → Int32), fX10_way N ticks entered strikings mats bearings cuts deaths places x1 = some (r, ga, en, st, ma, be, cu, de, pl) ∧ fX11_way N T now x1 = some (r, nI 0, b) ∧ zRace ga en st dropped facts splits order struck torn waved ma be cu de pl b := by
  have no : fX10_within x1 (nI 1) (nI 1000) = some false → fX11_isIn x1 (nI 1) (nI 1000) = some false → ∃ (r : Bool) (ga : Nat → Int32) (en st ma : Int32) (be cu de pl b : Nat → Int32), fX10_way N ticks entered strikings mats bearings cuts deaths places x1 = some (r, ga, en, st, ma, be, cu, de, pl) ∧ fX11_way N T now x1 = some (r, nI 0, b) ∧ zRace ga en st dropped facts splits order struck torn waved ma be cu de pl b := fun h1 h2 => by
    refine ⟨false, ticks, entered, strikings, mats, bearings, cuts, deaths, places, now, ?_, ?_, hz⟩
    · unfold fX10_way
      rw [h1, Option.bind_some, if_pos zl_f0]
    · unfold fX11_way
      rw [h2, Option.bind_some, if_pos zl_f0]
  rcases zarg x1 with q | ⟨j, hj, e⟩
  · exact no (zw_neg (by omega) q) (zi_neg (by omega) q)
  · by_cases h : 1 ≤ j ∧ j ≤ 1000
    · obtain ⟨ga, be, cu, de, pl, b, D1, D2, hn⟩ := p_begin (v := j) (ticks := ticks) (dropped := dropped) (facts := facts) (splits := splits) (order := order) (struck := struck) (torn := torn) (waved := waved) (bearings := bearings) (cuts := cuts) (deaths := deaths) (places := places) (now := now) (entered := entered) (strikings := strikings) (mats := mats) hN h
      refine ⟨true, ga, nI 0, nI 0, nI 1, be, cu, de, pl, b, ?_, ?_, ⟨1, 0, 0, hn⟩⟩
      · unfold fX10_way
        rw [e, zw_n (by omega) (by omega) hj, decide_eq_true h, Option.bind_some, if_neg zl_t0, D1, Option.bind_some]
      · unfold fX11_way
        rw [e, zi_n (by omega) (by omega) hj, decide_eq_true h, Option.bind_some, if_neg zl_t0, D2, Option.bind_some]
    · exact no (by rw [e, zw_n (by omega) (by omega) hj, decide_eq_false h]) (by rw [e, zi_n (by omega) (by omega) hj, decide_eq_false h])
