/-! p1: count of the object as it is made -/
theorem r_count0 {N : Nat} {ticks dropped facts splits order struck torn waved bearings cuts deaths places now bytes text co pl tk : Nat → Int32} {entered strikings mats length mlength dn g l m0 T x1 : Int32} (hN : 10000 ≤ N) (hz : zRace ticks entered strikings dropped facts splits order struck torn waved mats bearings cuts deaths places now) (ht : zText length bytes mlength text) (hE : entered = nI 0) (hM : mats = nI 2) : ∃ v : Int32, (∃ z, fX10_count N dn co ticks entered strikings facts splits mats places length g l m0 pl tk x1 = some (v, z)) ∧ fX11_count N mlength T now x1 = some (v, nI 0) := by
  obtain ⟨M, R, S, h⟩ := hz
  have h0 := h
  obtain ⟨⟨⟨_, hM12, hR, hS⟩, em, ee, es, n0, n1, n2⟩, hm, _⟩ := h0
  obtain ⟨n, hn, e1, e2, _⟩ := ht
  have m2 : M = 2 := by
    have e := em.symm.trans hM
    rw [zl_eq (by omega) (by omega)] at e
    exact e
  have r0 : R = 0 := by
    have e := ee.symm.trans hE
    rw [zl_eq (by omega) (by omega)] at e
    exact e
  subst m2; subst r0
  have hp := (hm.1 1 (by omega)).1
  have hNs : N = (N - 1) + 1 := by omega
  by_cases q0 : x1 = nI 0
  · refine ⟨nI 2, ?_, ?_⟩
    · unfold fX10_count
      rw [if_pos q0]
      unfold fX9_size
      rw [Option.bind_some, hM]
      exact ⟨_, rfl⟩
    · unfold fX11_count
      rw [if_pos q0, g_mats, Option.bind_some, n0]
  by_cases q1 : x1 = nI 1
  · refine ⟨nI 0, ?_, ?_⟩
    · unfold fX10_count
      rw [if_neg q0, if_pos q1]
      unfold fX6_size
      rw [Option.bind_some, hE]
      exact ⟨_, rfl⟩
    · unfold fX11_count
      rw [if_neg q0, if_pos q1, g_runners, Option.bind_some, n1]
  by_cases q2 : x1 = nI 2
  · refine ⟨nI 0, ?_, ?_⟩
    · unfold fX10_count
      rw [if_neg q0, if_neg q1, if_pos q2]
      unfold fX0_gather
      rw [hNs, fX0_gather_L7]
      unfold fX6_size
      rw [Option.bind_some, hE, if_pos (show nI 0 ≤ nI 0 by decide), Option.bind_some]
      exact ⟨_, rfl⟩
    · unfold fX11_count
      rw [if_neg q0, if_neg q1, if_pos q2]
      unfold fX11_doubts
      rw [hNs, fX11_doubts_L5, g_runners, Option.bind_some, n1, if_pos (show nI 0 ≤ nI 0 by decide), if_neg (show ¬ (0 : Int32) ≤ -1 by decide), Option.bind_some]
  by_cases q3 : x1 = nI 3
  · refine ⟨nI n, ?_, ?_⟩
    · unfold fX10_count
      rw [if_neg q0, if_neg q1, if_neg q2, if_pos q3]
      unfold fX7_size
      rw [Option.bind_some, e1]
      exact ⟨_, rfl⟩
    · unfold fX11_count
      rw [if_neg q0, if_neg q1, if_neg q2, if_pos q3, e2]
  by_cases q4 : x1 = nI 4
  · refine ⟨nI S, ?_, ?_⟩
    · unfold fX10_count
      rw [if_neg q0, if_neg q1, if_neg q2, if_neg q3, if_pos q4]
      unfold fX6_strikings
      rw [Option.bind_some, es]
      exact ⟨_, rfl⟩
    · unfold fX11_count
      rw [if_neg q0, if_neg q1, if_neg q2, if_neg q3, if_pos q4, if_pos (show zin (nI 2) 1562 by decide), zl_c (show 2 < 2 ^ 31 by omega), n2]
  by_cases q5 : x1 = nI 5
  · refine ⟨nI 0, ?_, ?_⟩
    · unfold fX10_count
      rw [if_neg q0, if_neg q1, if_neg q2, if_neg q3, if_neg q4, if_pos q5]
      unfold fX4_howManySplits
      rw [hNs, fX4_howManySplits_L4]
      unfold fX6_size
      rw [Option.bind_some, hE, if_pos (show nI 0 ≤ nI 0 by decide), Option.bind_some]
      exact ⟨_, rfl⟩
    · unfold fX11_count
      rw [if_neg q0, if_neg q1, if_neg q2, if_neg q3, if_neg q4, if_pos q5, hNs, fX11_count_L81, g_runners, Option.bind_some, n1, if_pos (show nI 0 ≤ nI 0 by decide)]
  by_cases q6 : x1 = nI 6
  · refine ⟨places 1, ?_, ?_⟩
    · unfold fX10_count
      rw [if_neg q0, if_neg q1, if_neg q2, if_neg q3, if_neg q4, if_neg q5, if_pos q6]
      unfold fX9_lastMat
      rw [hM, if_pos (show nI 2 ≤ nI 2 by decide), Option.bind_some, show nI 2 - nI 1 = nI 1 by decide, c_placeAt (show 2 ≤ 12 by omega) (show 1 < 2 by omega), Option.bind_some]
      exact ⟨_, rfl⟩
    · unfold fX11_count
      rw [if_neg q0, if_neg q1, if_neg q2, if_neg q3, if_neg q4, if_neg q5, if_pos q6]
      unfold fX11_wayLength
      rw [g_mats, Option.bind_some, n0, show nI 2 - nI 1 = nI 1 by decide, g_ofMat (by omega) (by omega), Option.bind_some, Option.bind_some]
      exact congrArg (fun w => some (w, nI 0)) hp
  refine ⟨-1, ?_, ?_⟩
  · unfold fX10_count
    rw [if_neg q0, if_neg q1, if_neg q2, if_neg q3, if_neg q4, if_neg q5, if_neg q6]
    exact ⟨_, rfl⟩
  · unfold fX11_count
    rw [if_neg q0, if_neg q1, if_neg q2, if_neg q3, if_neg q4, if_neg q5, if_neg q6]
