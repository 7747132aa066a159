theorem zrun_split {M R j m : Nat} {facts dropped waved struck torn splits now : Nat → Int32} {v : Int32} (hv : zTick v) (hj : j < R) (hmM : m < M) (hM : M ≤ 12) (hr : zRuns M R facts dropped waved struck torn splits now) : zRuns M R facts dropped waved struck torn (upd splits (12 * j + m) v) (zPutW now j (12 + m) v) := by
  intro r hlt
  obtain ⟨a1, a2, a3, a4, a5, a6, a7, a8, a9, a10, a11, a12⟩ := hr r hlt
  refine ⟨fun k hk => by rw [zput_o (by omega) (by omega) (by omega)]; exact a1 k hk, a2, a3, a4, a5, a6, a7, by rw [zput_o (by omega) (by omega) (by omega)]; exact a8, by rw [zput_o (by omega) (by omega) (by omega)]; exact a9, by rw [zput_o (by omega) (by omega) (by omega)]; exact a10, by rw [zput_o (by omega) (by omega) (by omega)]; exact a11, fun k hk => ?_⟩
  rw [show 122 + 24 * r + 12 + k = 122 + 24 * r + (12 + k) by omega]
  by_cases h : r = j ∧ k = m
  · obtain ⟨h1, h2⟩ := h
    subst h1; subst h2
    rw [zput_s, zup_s]
    exact ⟨rfl, hv, fun q => by omega⟩
  · rw [zput_o (by omega) (by omega) (by omega), zup_n (by omega), show 122 + 24 * r + (12 + k) = 122 + 24 * r + 12 + k by omega]
    exact a12 k hk
theorem p_saw {M R : Nat} {places bearings deaths cuts facts dropped waved struck torn splits now : Nat → Int32} {T x1 x2 x3 : Int32} (hM : M ≤ 12) (hR : R ≤ 60) (h0 : now 0 = nI M) (h1 : now 1 = nI R) (hmm : zMats M places bearings deaths cuts now) (hr : zRuns M R facts dropped waved struck torn splits now) :
    ∃ (r : Int32) (a b : Nat → Int32), fX10_saw (nI R) splits torn (nI M) deaths x1 x2 x3 = some (r, a) ∧ fX11_saw T now x1 x2 x3 = some (r, nI 0, b) ∧ zRuns M R facts dropped waved struck torn a b ∧ (∀ q, q < 122 → b q = now q) := by
  have no : fX10_saw (nI R) splits torn (nI M) deaths x1 x2 x3 = some (-1, splits) → fX11_saw T now x1 x2 x3 = some (-1, nI 0, now) → ∃ (r : Int32) (a b : Nat → Int32), fX10_saw (nI R) splits torn (nI M) deaths x1 x2 x3 = some (r, a) ∧ fX11_saw T now x1 x2 x3 = some (r, nI 0, b) ∧ zRuns M R facts dropped waved struck torn a b ∧ (∀ q, q < 122 → b q = now q) := fun e1 e2 => ⟨-1, splits, now, e1, e2, hr, fun _ _ => rfl⟩
  rcases zarg x1 with h | ⟨j, hj, e⟩
  · refine no ?_ ?_
    · unfold fX10_saw fX4_hasCell
      rw [c_hasRn h, Option.bind_some, if_pos zl_f0, Option.bind_some, if_pos zl_f0]
    · unfold fX11_saw
      rw [g_isRunnern h, Option.bind_some]
      dsimp only
      rw [if_pos zl_f0]
  subst e
  by_cases hjR : j < R
  case neg =>
    refine no ?_ ?_
    · unfold fX10_saw fX4_hasCell
      rw [c_hasR hR hj, decide_eq_false hjR, Option.bind_some, if_pos zl_f0, Option.bind_some, if_pos zl_f0]
    · unfold fX11_saw
      rw [g_isRunner h1 hR hj, decide_eq_false hjR, Option.bind_some]
      dsimp only
      rw [if_pos zl_f0]
  rcases zarg x2 with h | ⟨m, hm, e⟩
  · refine no ?_ ?_
    · unfold fX10_saw fX4_hasCell
      rw [c_hasR hR hj, decide_eq_true hjR, Option.bind_some, if_neg zl_t0, c_hasMn h, Option.bind_some, if_pos zl_f0, Option.bind_some, if_pos zl_f0]
    · unfold fX11_saw
      rw [g_isRunner h1 hR hj, decide_eq_true hjR, Option.bind_some]
      dsimp only
      rw [if_neg zl_t0, g_isMatn h, Option.bind_some, if_pos zl_f0]
  subst e
  by_cases hmM : m < M
  case neg =>
    refine no ?_ ?_
    · unfold fX10_saw fX4_hasCell
      rw [c_hasR hR hj, decide_eq_true hjR, Option.bind_some, if_neg zl_t0, c_hasM hM hm, decide_eq_false hmM, Option.bind_some, if_pos zl_f0, Option.bind_some, if_pos zl_f0]
    · unfold fX11_saw
      rw [g_isRunner h1 hR hj, decide_eq_true hjR, Option.bind_some]
      dsimp only
      rw [if_neg zl_t0, g_isMat h0 hM hm, decide_eq_false hmM, Option.bind_some, if_pos zl_f0]
  -- both stand: what the class and the reference have left to do
  have E1 : fX10_saw (nI R) splits torn (nI M) deaths (nI j) (nI m) x3 = ((fX10_within x3 (nI 0) (nI 40000)).bind (fun b4 => (if (zb b4) = 0 then some ((-1 : Int32), splits) else ((fX9_isDead (nI M) deaths (nI m)).bind (fun b7 => (if (zb b7) = 0 then ((fX6_isTorn (nI R) torn (nI j) (nI m)).bind (fun b10 => (if (zb b10) = 0 then ((fX6_enterSplit (nI R) splits (nI j) (nI m) x3).bind (fun (b13, t_race_runners_splits_r14) => (if (zb b13) = 0 then some ((nI 0), t_race_runners_splits_r14) else some ((nI 1), t_race_runners_splits_r14)))) else some ((-1 : Int32), splits)))) else some ((-1 : Int32), splits))))))) := by
    unfold fX10_saw fX4_hasCell
    rw [c_hasR hR hj, decide_eq_true hjR, Option.bind_some, if_neg zl_t0, c_hasM hM hm, decide_eq_true hmM, Option.bind_some, if_neg zl_t0, Option.bind_some, if_neg zl_t0]
  have E2 : fX11_saw T now (nI j) (nI m) x3 = ((fX11_isIn x3 (nI 0) (nI 40000)).bind (fun b8 => (if (zb b8) = 0 then some ((-1 : Int32), nI 0, now) else ((fX11_ofMat now (nI m) (nI 2)).bind (fun r11 => (if r11 = (nI 1) then some ((-1 : Int32), nI 0, now) else ((fX11_isTorn now (nI j) (nI m)).bind (fun b14 => (if (zb b14) = 0 then ((fX11_of now (nI j) ((nI 12) + nI m)).bind (fun r17 => (if r17 = (-1 : Int32) then ((fX11_put now (nI j) ((nI 12) + nI m) x3).bind (fun t_now_r20 => some ((nI 1), nI 0, t_now_r20))) else (if x3 < r17 then ((fX11_put now (nI j) ((nI 12) + nI m) x3).bind (fun t_now_r23 => some ((nI 1), nI 0, t_now_r23))) else some ((nI 0), nI 0, now))))) else some ((-1 : Int32), nI 0, now)))))))))) := by
    unfold fX11_saw
    rw [g_isRunner h1 hR hj, decide_eq_true hjR, Option.bind_some]
    dsimp only
    rw [if_neg zl_t0, g_isMat h0 hM hm, decide_eq_true hmM, Option.bind_some, if_neg zl_t0]
  rcases zarg x3 with h | ⟨k, hk, e⟩
  · refine no ?_ ?_
    · rw [E1, zw_neg (by omega) h, Option.bind_some, if_pos zl_f0]
    · rw [E2, zi_neg (by omega) h, Option.bind_some, if_pos zl_f0]
  subst e
  by_cases hkk : 0 ≤ k ∧ k ≤ 40000
  case neg =>
    refine no ?_ ?_
    · rw [E1, zw_n (by omega) (by omega) hk, decide_eq_false hkk, Option.bind_some, if_pos zl_f0]
    · rw [E2, zi_n (by omega) (by omega) hk, decide_eq_false hkk, Option.bind_some, if_pos zl_f0]
  obtain ⟨m1, m2, m3, m4, m5, m6, m7, m8⟩ := hmm.1 m hmM
  obtain ⟨a1, a2, a3, a4, a5, a6, a7, a8, a9, a10, a11, a12⟩ := hr j hjR
  have D1 : fX9_isDead (nI M) deaths (nI m) = some (decide (deaths m = 1)) := by
    unfold fX9_isDead
    rw [c_hasM hM hm, decide_eq_true hmM, Option.bind_some, if_neg zl_t0, if_pos (zin_k (by omega) (by omega))]
    rcases m7 with q | q
    · rw [if_pos (show deaths (nI m).toNatClampNeg = 0 by rw [zl_c hm]; exact q), q]; rfl
    · rw [if_neg (show ¬ (deaths (nI m).toNatClampNeg = 0) by rw [zl_c hm, q]; decide), q]; rfl
  have D2 : fX11_ofMat now (nI m) (nI 2) = some (deaths m) := by
    rw [g_ofMat (by omega) (by omega), show 8 + 4 * m + 2 = 10 + 4 * m by omega, m3]
  by_cases hd : deaths m = 1
  · refine no ?_ ?_
    · rw [E1, zw_n (by omega) (by omega) hk, decide_eq_true hkk, Option.bind_some, if_neg zl_t0, D1, Option.bind_some, decide_eq_true hd, if_neg zl_t0]
    · rw [E2, zi_n (by omega) (by omega) hk, decide_eq_true hkk, Option.bind_some, if_neg zl_t0, D2, Option.bind_some, if_pos (by rw [hd, p_one])]
  have hd2 : ¬ (deaths m = nI 1) := by rw [p_one]; exact hd
  have T1 : ∃ t : Bool, fX6_isTorn (nI R) torn (nI j) (nI m) = some t ∧ fX11_isTorn now (nI j) (nI m) = some t := by
    unfold fX6_isTorn fX6_tornFrom fX11_isTorn
    rw [c_hasR hR hj, decide_eq_true hjR, Option.bind_some, if_neg zl_t0, if_pos (zin_k (by omega) (by omega)), zl_c hj, Option.bind_some, show fX11_of now (nI j) (nI 9) = some (torn j) by rw [g_of (by omega) (by omega), a11.1], Option.bind_some]
    by_cases q : torn j = (-1 : Int32)
    · rw [if_pos q, if_pos q]; exact ⟨false, rfl, rfl⟩
    · rw [if_neg q, if_neg q]
      rw [Option.bind_some]
      by_cases q2 : nI m < torn j
      · rw [if_pos q2]; exact ⟨false, rfl, rfl⟩
      · rw [if_neg q2]; exact ⟨true, rfl, rfl⟩
  obtain ⟨t, T1, T2⟩ := T1
  by_cases ht : (zb t) = 0
  case neg =>
    refine no ?_ ?_
    · rw [E1, zw_n (by omega) (by omega) hk, decide_eq_true hkk, Option.bind_some, if_neg zl_t0, D1, Option.bind_some, decide_eq_false hd, if_pos zl_f0, T1, Option.bind_some, if_neg ht]
    · rw [E2, zi_n (by omega) (by omega) hk, decide_eq_true hkk, Option.bind_some, if_neg zl_t0, D2, Option.bind_some, if_neg hd2, T2, Option.bind_some, if_neg ht]
  have ix : ((nI j * nI 12) + nI m) = nI (12 * j + m) := by rw [pk_mul, nI_add, show j * 12 + m = 12 * j + m by omega]
  have zx : zin ((nI j * nI 12) + nI m) 720 := by rw [ix]; exact zin_k (by omega) (by omega)
  have cx : ((nI j * nI 12) + nI m).toNatClampNeg = 12 * j + m := by rw [ix, zl_c (by omega)]
  have S1 : fX6_enterSplit (nI R) splits (nI j) (nI m) (nI k) = (if splits (12 * j + m) = (-1 : Int32) then some (true, upd splits (12 * j + m) (nI k)) else (if nI k < splits (12 * j + m) then some (true, upd splits (12 * j + m) (nI k)) else some (false, splits))) := by
    unfold fX6_enterSplit
    rw [c_hasR hR hj, decide_eq_true hjR, Option.bind_some, if_neg zl_t0, if_neg (nI_pos hm), if_pos (show nI m < nI 12 by rw [zl_lt hm (by omega)]; omega)]
    simp only [if_pos zx, cx]
  have S2 : fX11_of now (nI j) ((nI 12) + nI m) = some (splits (12 * j + m)) := by
    rw [nI_add, g_of (by omega) (by omega), show 122 + 24 * j + (12 + m) = 122 + 24 * j + 12 + m by omega, (a12 m (by omega)).1]
  have S3 : fX11_put now (nI j) ((nI 12) + nI m) (nI k) = some (zPutW now j (12 + m) (nI k)) := by
    rw [nI_add, g_put (by omega) (by omega)]; rfl
  have C1 := E1
  rw [zw_n (by omega) (by omega) hk, decide_eq_true hkk, Option.bind_some, if_neg zl_t0, D1, Option.bind_some, decide_eq_false hd, if_pos zl_f0, T1, Option.bind_some, if_pos ht, S1] at C1
  have C2 := E2
  rw [zi_n (by omega) (by omega) hk, decide_eq_true hkk, Option.bind_some, if_neg zl_t0, D2, Option.bind_some, if_neg hd2, T2, Option.bind_some, if_pos ht, S2, Option.bind_some, S3] at C2
  have fin := zrun_split (M := M) (v := nI k) (Or.inr ⟨k, hkk.2, rfl⟩) hjR hmM hM hr
  have keep : ∀ q, q < 122 → zPutW now j (12 + m) (nI k) q = now q := fun q hq => zput_l hq
  by_cases q1 : splits (12 * j + m) = (-1 : Int32)
  · rw [if_pos q1, Option.bind_some] at C1
    dsimp only at C1
    rw [if_neg zl_t0] at C1
    rw [if_pos q1, Option.bind_some] at C2
    exact ⟨_, _, _, C1, C2, fin, keep⟩
  · rw [if_neg q1] at C1
    rw [if_neg q1] at C2
    by_cases q2 : nI k < splits (12 * j + m)
    · rw [if_pos q2, Option.bind_some] at C1
      dsimp only at C1
      rw [if_neg zl_t0] at C1
      rw [if_pos q2, Option.bind_some] at C2
      exact ⟨_, _, _, C1, C2, fin, keep⟩
    · rw [if_neg q2, Option.bind_some] at C1
      dsimp only at C1
      rw [if_pos zl_f0] at C1
      rw [if_neg q2] at C2
      exact ⟨_, _, _, C1, C2, hr, fun _ _ => rfl⟩
