theorem p_in {lo hi : Nat} (h1 : lo < 2 ^ 31) (h2 : hi < 2 ^ 31) (y : Int32) : (∃ v, (lo ≤ v ∧ v ≤ hi) ∧ y = nI v) ∨ (fX10_within y (nI lo) (nI hi) = some false ∧ fX11_isIn y (nI lo) (nI hi) = some false) := by
  rcases zarg y with q | ⟨j, hj, e⟩
  · exact Or.inr ⟨zw_neg h1 q, zi_neg h1 q⟩
  · by_cases h : lo ≤ j ∧ j ≤ hi
    · exact Or.inl ⟨j, h, e⟩
    · exact Or.inr ⟨by rw [e, zw_n h1 h2 hj, decide_eq_false h], by rw [e, zi_n h1 h2 hj, decide_eq_false h]⟩
theorem p_in1 {lo hi v : Nat} {y : Int32} (h2 : hi < 2 ^ 31) (h : lo ≤ v ∧ v ≤ hi) (e : y = nI v) : fX10_within y (nI lo) (nI hi) = some true := by
  rw [e, zw_n (by omega) h2 (by omega), decide_eq_true h]
theorem p_in2 {lo hi v : Nat} {y : Int32} (h2 : hi < 2 ^ 31) (h : lo ≤ v ∧ v ≤ hi) (e : y = nI v) : fX11_isIn y (nI lo) (nI hi) = some true := p_in1 h2 h e
theorem r_runner {ticks dropped facts splits order struck torn waved bearings cuts deaths places now : Nat → Int32} {entered strikings mats : Int32} {T x1 x2 x3 x4 x5 x6 : Int32} {N : Nat} (hN : 10000 ≤ N) (hz : zRace ticks entered strikings dropped facts splits order struck torn waved mats bearings cuts deaths places now) : ∃ (r en : Int32) (dr fa sp st to wa b : Nat → Int32), fX10_runner N entered dropped facts splits struck torn waved x1 x2 x3 x4 x5 x6 = some (r, en, dr, fa, sp, st, to, wa) ∧ fX11_runner N T now x1 x2 x3 x4 x5 x6 = some (r, nI 0, b) ∧ zRace ticks en strikings dr fa sp order st to wa mats bearings cuts deaths places b := by
  have hz0 := hz
  obtain ⟨M, R, S, ⟨hM, em, ee, es, n0, n1, n2⟩, hm, ht, hr, hs⟩ := hz
  have no : fX10_runner N entered dropped facts splits struck torn waved x1 x2 x3 x4 x5 x6 = some (-1, entered, dropped, facts, splits, struck, torn, waved) → fX11_runner N T now x1 x2 x3 x4 x5 x6 = some (-1, nI 0, now) → ∃ (r en : Int32) (dr fa sp st to wa b : Nat → Int32), fX10_runner N entered dropped facts splits struck torn waved x1 x2 x3 x4 x5 x6 = some (r, en, dr, fa, sp, st, to, wa) ∧ fX11_runner N T now x1 x2 x3 x4 x5 x6 = some (r, nI 0, b) ∧ zRace ticks en strikings dr fa sp order st to wa mats bearings cuts deaths places b := fun e1 e2 => ⟨-1, entered, dropped, facts, splits, struck, torn, waved, now, e1, e2, hz0⟩
  rcases p_in (lo := 0) (hi := 3) (by omega) (by omega) x1 with ⟨v1, hv1, ev1⟩ | ⟨a1, c1⟩
  case inr =>
    refine no ?_ ?_
    · unfold fX10_runner
      rw [a1, Option.bind_some, if_pos zl_f0]
    · unfold fX11_runner
      rw [g_runners, Option.bind_some, n1]
      by_cases q : nI R = nI 60
      · rw [if_pos q]
      · rw [if_neg q, c1, Option.bind_some, if_pos zl_f0]
  rcases p_in (lo := 60) (hi := 2000) (by omega) (by omega) x2 with ⟨v2, hv2, ev2⟩ | ⟨a2, c2⟩
  case inr =>
    refine no ?_ ?_
    · unfold fX10_runner
      rw [p_in1 (by omega) hv1 ev1, Option.bind_some, if_neg zl_t0, a2, Option.bind_some, if_pos zl_f0]
    · unfold fX11_runner
      rw [g_runners, Option.bind_some, n1]
      by_cases q : nI R = nI 60
      · rw [if_pos q]
      · rw [if_neg q, p_in2 (by omega) hv1 ev1, Option.bind_some, if_neg zl_t0, c2, Option.bind_some, if_pos zl_f0]
  rcases p_in (lo := 0) (hi := 99) (by omega) (by omega) x3 with ⟨v3, hv3, ev3⟩ | ⟨a3, c3⟩
  case inr =>
    refine no ?_ ?_
    · unfold fX10_runner
      rw [p_in1 (by omega) hv1 ev1, Option.bind_some, if_neg zl_t0, p_in1 (by omega) hv2 ev2, Option.bind_some, if_neg zl_t0, a3, Option.bind_some, if_pos zl_f0]
    · unfold fX11_runner
      rw [g_runners, Option.bind_some, n1]
      by_cases q : nI R = nI 60
      · rw [if_pos q]
      · rw [if_neg q, p_in2 (by omega) hv1 ev1, Option.bind_some, if_neg zl_t0, p_in2 (by omega) hv2 ev2, Option.bind_some, if_neg zl_t0, c3, Option.bind_some, if_pos zl_f0]
  rcases p_in (lo := 0) (hi := 1) (by omega) (by omega) x4 with ⟨v4, hv4, ev4⟩ | ⟨a4, c4⟩
  case inr =>
    refine no ?_ ?_
    · unfold fX10_runner
      rw [p_in1 (by omega) hv1 ev1, Option.bind_some, if_neg zl_t0, p_in1 (by omega) hv2 ev2, Option.bind_some, if_neg zl_t0, p_in1 (by omega) hv3 ev3, Option.bind_some, if_neg zl_t0, a4, Option.bind_some, if_pos zl_f0]
    · unfold fX11_runner
      rw [g_runners, Option.bind_some, n1]
      by_cases q : nI R = nI 60
      · rw [if_pos q]
      · rw [if_neg q, p_in2 (by omega) hv1 ev1, Option.bind_some, if_neg zl_t0, p_in2 (by omega) hv2 ev2, Option.bind_some, if_neg zl_t0, p_in2 (by omega) hv3 ev3, Option.bind_some, if_neg zl_t0, c4, Option.bind_some, if_pos zl_f0]
  rcases p_in (lo := 0) (hi := 9) (by omega) (by omega) x5 with ⟨v5, hv5, ev5⟩ | ⟨a5, c5⟩
  case inr =>
    refine no ?_ ?_
    · unfold fX10_runner
      rw [p_in1 (by omega) hv1 ev1, Option.bind_some, if_neg zl_t0, p_in1 (by omega) hv2 ev2, Option.bind_some, if_neg zl_t0, p_in1 (by omega) hv3 ev3, Option.bind_some, if_neg zl_t0, p_in1 (by omega) hv4 ev4, Option.bind_some, if_neg zl_t0, a5, Option.bind_some, if_pos zl_f0]
    · unfold fX11_runner
      rw [g_runners, Option.bind_some, n1]
      by_cases q : nI R = nI 60
      · rw [if_pos q]
      · rw [if_neg q, p_in2 (by omega) hv1 ev1, Option.bind_some, if_neg zl_t0, p_in2 (by omega) hv2 ev2, Option.bind_some, if_neg zl_t0, p_in2 (by omega) hv3 ev3, Option.bind_some, if_neg zl_t0, p_in2 (by omega) hv4 ev4, Option.bind_some, if_neg zl_t0, c5, Option.bind_some, if_pos zl_f0]
  rcases p_in (lo := 0) (hi := 5) (by omega) (by omega) x6 with ⟨v6, hv6, ev6⟩ | ⟨a6, c6⟩
  case inr =>
    refine no ?_ ?_
    · unfold fX10_runner
      rw [p_in1 (by omega) hv1 ev1, Option.bind_some, if_neg zl_t0, p_in1 (by omega) hv2 ev2, Option.bind_some, if_neg zl_t0, p_in1 (by omega) hv3 ev3, Option.bind_some, if_neg zl_t0, p_in1 (by omega) hv4 ev4, Option.bind_some, if_neg zl_t0, p_in1 (by omega) hv5 ev5, Option.bind_some, if_neg zl_t0, a6, Option.bind_some, if_pos zl_f0]
    · unfold fX11_runner
      rw [g_runners, Option.bind_some, n1]
      by_cases q : nI R = nI 60
      · rw [if_pos q]
      · rw [if_neg q, p_in2 (by omega) hv1 ev1, Option.bind_some, if_neg zl_t0, p_in2 (by omega) hv2 ev2, Option.bind_some, if_neg zl_t0, p_in2 (by omega) hv3 ev3, Option.bind_some, if_neg zl_t0, p_in2 (by omega) hv4 ev4, Option.bind_some, if_neg zl_t0, p_in2 (by omega) hv5 ev5, Option.bind_some, if_neg zl_t0, c6, Option.bind_some, if_pos zl_f0]
  subst em; subst ee; subst es
  by_cases h60 : R = 60
  · refine no ?_ ?_
    · unfold fX10_runner fX6_enter
      rw [p_in1 (by omega) hv1 ev1, Option.bind_some, if_neg zl_t0, p_in1 (by omega) hv2 ev2, Option.bind_some, if_neg zl_t0, p_in1 (by omega) hv3 ev3, Option.bind_some, if_neg zl_t0, p_in1 (by omega) hv4 ev4, Option.bind_some, if_neg zl_t0, p_in1 (by omega) hv5 ev5, Option.bind_some, if_neg zl_t0, p_in1 (by omega) hv6 ev6, Option.bind_some, if_neg zl_t0, if_neg (nI_pos (by omega)), if_neg (by rw [zl_lt (by omega) (by omega)]; omega), Option.bind_some]
    · unfold fX11_runner
      rw [g_runners, Option.bind_some, n1, if_pos (by rw [h60])]
  have hR : R < 60 := by omega
  obtain ⟨sp, e1, q1⟩ := p_enter2 (dropped := dropped) (facts := facts) (splits := splits) (struck := struck) (torn := torn) (waved := waved) (x1 := x1) (x2 := x2) (x3 := x3) (x4 := x4) (x5 := x5) (x6 := x6) hN hR
  obtain ⟨w1, e2, qa, qb⟩ := p_runner1 (x1 := x1) (x2 := x2) (x3 := x3) (x4 := x4) (x5 := x5) (x6 := x6) hR N 0 now (by omega) (by omega)
  obtain ⟨w2, e3, qc, qd⟩ := p_runner2 hR N 0 w1 (by omega) (by omega)
  have w21 : w2 1 = nI R := by rw [qd 1 (by omega), qb 1 (by omega)]; exact n1
  have D1 : fX10_runner N (nI R) dropped facts splits struck torn waved x1 x2 x3 x4 x5 x6 = some (nI R, nI (R + 1), upd dropped R 0, upd (upd (upd (upd (upd (upd facts (6 * R + 0) x1) (6 * R + 1) x2) (6 * R + 2) x3) (6 * R + 3) x4) (6 * R + 4) x5) (6 * R + 5) x6, sp, upd struck R 0, upd torn R (-1), upd waved R 0) := by
    unfold fX10_runner
    rw [p_in1 (by omega) hv1 ev1, Option.bind_some, if_neg zl_t0, p_in1 (by omega) hv2 ev2, Option.bind_some, if_neg zl_t0, p_in1 (by omega) hv3 ev3, Option.bind_some, if_neg zl_t0, p_in1 (by omega) hv4 ev4, Option.bind_some, if_neg zl_t0, p_in1 (by omega) hv5 ev5, Option.bind_some, if_neg zl_t0, p_in1 (by omega) hv6 ev6, Option.bind_some, if_neg zl_t0, e1, Option.bind_some]
  have D2 : fX11_runner N T now x1 x2 x3 x4 x5 x6 = some (nI R, nI 0, upd w2 1 (nI (R + 1))) := by
    have hne : ¬ (nI R = nI 60) := by rw [zl_eq (by omega) (by omega)]; exact h60
    have z1 : zin (nI 1) 1562 := zin_k (by omega) (by omega)
    unfold fX11_runner
    rw [g_runners, Option.bind_some, n1, if_neg hne, p_in2 (by omega) hv1 ev1, Option.bind_some, if_neg zl_t0, p_in2 (by omega) hv2 ev2, Option.bind_some, if_neg zl_t0, p_in2 (by omega) hv3 ev3, Option.bind_some, if_neg zl_t0, p_in2 (by omega) hv4 ev4, Option.bind_some, if_neg zl_t0, p_in2 (by omega) hv5 ev5, Option.bind_some, if_neg zl_t0, p_in2 (by omega) hv6 ev6, Option.bind_some, if_neg zl_t0]
    first | rw [Option.bind_some] | rw [g_runners, Option.bind_some, n1]
    rw [if_pos (zin_k (by omega) (by omega)), if_pos (zin_k (by omega) (by omega)), if_pos (zin_k (by omega) (by omega)), if_pos (zin_k (by omega) (by omega)), if_pos (zin_k (by omega) (by omega)), if_pos (zin_k (by omega) (by omega)), if_pos (zin_k (by omega) (by omega)), if_pos (zin_k (by omega) (by omega)), if_pos (zin_k (by omega) (by omega)), if_pos (zin_k (by omega) (by omega)), if_pos (zin_k (by omega) (by omega)), if_pos (zin_k (by omega) (by omega)), e2, e3, if_pos z1, if_pos z1, zl_c (show 1 < 2 ^ 31 by omega), w21, nI_add]
  have far : ∀ q, q ≠ 1 → (q < 122 + 24 * R ∨ 122 + 24 * R + 24 ≤ q) → upd w2 1 (nI (R + 1)) q = now q := fun q h h2 => by rw [zup_n h, qd q (by omega), qb q (by omega)]
  have row : ∀ c, c < 12 → upd w2 1 (nI (R + 1)) (122 + 24 * R + c) = zRow x1 x2 x3 x4 x5 x6 c := fun c hc => by rw [zup_n (by omega), qd _ (by omega)]; exact qa c (Nat.zero_le _) hc
  obtain ⟨z0, z1, z2, z3, z4, z5, z6, z7, z8, z9⟩ := p_row (x1 := x1) (x2 := x2) (x3 := x3) (x4 := x4) (x5 := x5) (x6 := x6)
  refine ⟨nI R, nI (R + 1), _, _, sp, _, _, _, _, D1, D2, M, R + 1, S, ⟨⟨hM.1, hM.2.1, by omega, by omega⟩, rfl, rfl, rfl, by rw [far 0 (by omega) (by omega)]; exact n0, zup_s, by rw [far 2 (by omega) (by omega)]; exact n2⟩, k_mats hM.2.1 hm (fun q h1 h2 => far q (by omega) (by omega)), k_ticks ht (fun q h1 h2 => far q (by omega) (by omega)), fun r hlt => ?_, ?_⟩
  · by_cases hrR : r = R
    · subst hrR
      refine ⟨fun k hk => ?_, ⟨v1, hv1.2, ?_⟩, ⟨v2, hv2.1, hv2.2, ?_⟩, ⟨v3, hv3.2, ?_⟩, ⟨v4, hv4.2, ?_⟩, ⟨v5, hv5.2, ?_⟩, ⟨v6, hv6.2, ?_⟩, ⟨by rw [row 6 (by omega), z6, zup_s]; exact p_zero, by rw [zup_s]; exact Or.inl rfl⟩, ⟨by rw [row 7 (by omega), z7, zup_s]; exact p_zero, by rw [zup_s]; exact Or.inl rfl⟩, ⟨by rw [row 8 (by omega), z8, zup_s]; exact p_zero, by rw [zup_s]; exact Or.inl rfl⟩, ⟨by rw [row 9 (by omega), z9, zup_s], by rw [zup_s]; exact Or.inl rfl⟩, fun k hk => ?_⟩
      · rw [row k (by omega)]
        rcases (show k = 0 ∨ k = 1 ∨ k = 2 ∨ k = 3 ∨ k = 4 ∨ k = 5 by omega) with h | h | h | h | h | h
        · rw [h, z0, zup_n (by omega), zup_n (by omega), zup_n (by omega), zup_n (by omega), zup_n (by omega), zup_s]
        · rw [h, z1, zup_n (by omega), zup_n (by omega), zup_n (by omega), zup_n (by omega), zup_s]
        · rw [h, z2, zup_n (by omega), zup_n (by omega), zup_n (by omega), zup_s]
        · rw [h, z3, zup_n (by omega), zup_n (by omega), zup_s]
        · rw [h, z4, zup_n (by omega), zup_s]
        · rw [h, z5, zup_s]
      · show upd _ (6 * r + 5) x6 (6 * r + 0) = nI v1
        rw [zup_n (by omega), zup_n (by omega), zup_n (by omega), zup_n (by omega), zup_n (by omega), zup_s]; exact ev1
      · rw [zup_n (by omega), zup_n (by omega), zup_n (by omega), zup_n (by omega), zup_s]; exact ev2
      · rw [zup_n (by omega), zup_n (by omega), zup_n (by omega), zup_s]; exact ev3
      · rw [zup_n (by omega), zup_n (by omega), zup_s]; exact ev4
      · rw [zup_n (by omega), zup_s]; exact ev5
      · rw [zup_s]; exact ev6
      · rw [show 122 + 24 * r + 12 + k = 122 + 24 * r + (12 + k) by omega, zup_n (by omega), qc k (Nat.zero_le _) hk, (q1 _).1 (by omega)]
        exact ⟨rfl, Or.inl rfl, fun _ => rfl⟩
    · have hlt2 : r < R := by omega
      obtain ⟨a1, a2, a3, a4, a5, a6, a7, a8, a9, a10, a11, a12⟩ := hr r hlt2
      have fk : ∀ k, k < 6 → upd (upd (upd (upd (upd (upd facts (6 * R + 0) x1) (6 * R + 1) x2) (6 * R + 2) x3) (6 * R + 3) x4) (6 * R + 4) x5) (6 * R + 5) x6 (6 * r + k) = facts (6 * r + k) := fun k hk => by rw [zup_n (by omega), zup_n (by omega), zup_n (by omega), zup_n (by omega), zup_n (by omega), zup_n (by omega)]
      refine ⟨fun k hk => by rw [far _ (by omega) (by omega), fk k hk]; exact a1 k hk, by rw [← Nat.add_zero (6 * r), fk 0 (by omega)]; exact a2, by rw [fk 1 (by omega)]; exact a3, by rw [fk 2 (by omega)]; exact a4, by rw [fk 3 (by omega)]; exact a5, by rw [fk 4 (by omega)]; exact a6, by rw [fk 5 (by omega)]; exact a7, by rw [far _ (by omega) (by omega), zup_n hrR]; exact a8, by rw [far _ (by omega) (by omega), zup_n hrR]; exact a9, by rw [far _ (by omega) (by omega), zup_n hrR]; exact a10, by rw [far _ (by omega) (by omega), zup_n hrR]; exact a11, fun k hk => by rw [far _ (by omega) (by omega), (q1 _).2 (by omega)]; exact a12 k hk⟩
  · refine ⟨fun i hi => ?_, hs.2.1, fun r hlt h1 => ?_, ?_⟩
    · obtain ⟨b1, ρ, b2, b3, b4⟩ := hs.1 i hi
      exact ⟨by rw [far _ (by omega) (by omega)]; exact b1, ρ, by omega, b3, by rw [zup_n (by omega)]; exact b4⟩
    · by_cases hrR : r = R
      · rw [hrR, zup_s] at h1; exact absurd h1 (by decide)
      · rw [zup_n hrR] at h1; exact hs.2.2.1 r (by omega) h1
    · rw [zCnt, zup_s, if_neg (by decide), zcnt_eq (f := upd struck R 0) (g := struck) R (fun r h => zup_n (by omega))]; exact hs.2.2.2
