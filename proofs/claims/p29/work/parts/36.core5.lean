theorem p_torn {M R j m : Nat} {facts dropped waved struck torn splits now : Nat → Int32} (hR : R ≤ 60) (hjR : j < R) (hr : zRuns M R facts dropped waved struck torn splits now) : ∃ t : Bool, fX6_isTorn (nI R) torn (nI j) (nI m) = some t ∧ fX11_isTorn now (nI j) (nI m) = some t := by
  obtain ⟨a1, a2, a3, a4, a5, a6, a7, a8, a9, a10, a11, a12⟩ := hr j hjR
  have hj : j < 2 ^ 31 := by omega
  unfold fX6_isTorn fX6_tornFrom fX11_isTorn
  rw [c_hasR hR hj, decide_eq_true hjR, Option.bind_some, if_neg zl_t0, if_pos (zin_k (by omega) (by omega)), zl_c hj, Option.bind_some, show fX11_of now (nI j) (nI 9) = some (torn j) by rw [g_of (by omega) (by omega), a11.1], Option.bind_some]
  by_cases q : torn j = (-1 : Int32)
  · rw [if_pos q, if_pos q]; exact ⟨false, rfl, rfl⟩
  · rw [if_neg q, if_neg q]
    rw [Option.bind_some]
    by_cases q2 : nI m < torn j
    · rw [if_pos q2]; exact ⟨false, rfl, rfl⟩
    · rw [if_neg q2]; exact ⟨true, rfl, rfl⟩
theorem p_tear1 {j : Nat} (hj : j < 60) {K : Int32 → (Nat → Int32) → Option (Bool × (Nat → Int32) × (Nat → Int32))} : ∀ (n k : Nat) (sp : Nat → Int32), k ≤ 12 → 13 ≤ n + k → ∃ sp' : Nat → Int32, fX6_tearFrom_L38 (nI j) K n (nI k) sp = K (nI 12) sp' ∧ ∀ i, ((12 * j + k ≤ i ∧ i < 12 * j + 12) → sp' i = -1) ∧ (¬ (12 * j + k ≤ i ∧ i < 12 * j + 12) → sp' i = sp i) := by
  intro n
  induction n with
  | zero => intro k sp h1 h2; omega
  | succ n ih =>
    intro k sp h1 h2
    rw [fX6_tearFrom_L38]
    by_cases hk : k = 12
    · subst hk
      rw [if_pos (by rw [zl_le (by omega) (by omega)]; exact Nat.le_refl 12)]
      exact ⟨sp, rfl, fun i => ⟨fun h => by omega, fun _ => rfl⟩⟩
    · have ix : ((nI j * nI 12) + nI k) = nI (12 * j + k) := by rw [pk_mul, nI_add, show j * 12 + k = 12 * j + k by omega]
      rw [if_neg (by rw [zl_le (by omega) (by omega)]; omega), ix, if_pos (zin_k (show 12 * j + k < 720 by omega) (by omega)), zl_c (show 12 * j + k < 2 ^ 31 by omega), nI_add]
      obtain ⟨sp', e, q⟩ := ih (k + 1) (upd sp (12 * j + k) (-1)) (by omega) (by omega)
      refine ⟨sp', e, fun i => ⟨fun h => ?_, fun h => ?_⟩⟩
      · by_cases hi : i = 12 * j + k
        · rw [(q i).2 (by omega), hi, zup_s]
        · exact (q i).1 (by omega)
      · rw [(q i).2 (by omega), zup_n (by omega)]
theorem p_tear2 {j : Nat} (hj : j < 60) {K : Int32 → (Nat → Int32) → Option (Bool × Int32 × (Nat → Int32))} : ∀ (n k : Nat) (w : Nat → Int32), k ≤ 12 → 13 ≤ n + k → ∃ w' : Nat → Int32, fX11_tear_L37 (nI j) K n (nI k) w = K (nI 12) w' ∧ ∀ i, ((122 + 24 * j + 12 + k ≤ i ∧ i < 122 + 24 * j + 24) → w' i = -1) ∧ (¬ (122 + 24 * j + 12 + k ≤ i ∧ i < 122 + 24 * j + 24) → w' i = w i) := by
  intro n
  induction n with
  | zero => intro k w h1 h2; omega
  | succ n ih =>
    intro k w h1 h2
    rw [fX11_tear_L37]
    by_cases hk : k = 12
    · subst hk
      rw [if_pos (by rw [zl_le (by omega) (by omega)]; exact Nat.le_refl 12)]
      exact ⟨w, rfl, fun i => ⟨fun h => by omega, fun _ => rfl⟩⟩
    · rw [if_neg (by rw [zl_le (by omega) (by omega)]; omega), nI_add, g_put (by omega) (by omega), Option.bind_some, nI_add]
      obtain ⟨w', e, q⟩ := ih (k + 1) (upd w (122 + 24 * j + (12 + k)) (-1)) (by omega) (by omega)
      refine ⟨w', e, fun i => ⟨fun h => ?_, fun h => ?_⟩⟩
      · by_cases hi : i = 122 + 24 * j + (12 + k)
        · rw [(q i).2 (by omega), hi, zup_s]
        · exact (q i).1 (by omega)
      · rw [(q i).2 (by omega), zup_n (by omega)]
theorem p_tear {N M R : Nat} {facts dropped waved struck torn splits now : Nat → Int32} {T x1 x2 : Int32} (hN : 10000 ≤ N) (hM : M ≤ 12) (hR : R ≤ 60) (h0 : now 0 = nI M) (h1 : now 1 = nI R) (hr : zRuns M R facts dropped waved struck torn splits now) :
    ∃ (r : Bool) (a ta b : Nat → Int32), fX10_tear N (nI R) splits torn (nI M) x1 x2 = some (r, a, ta) ∧ fX11_tear N T now x1 x2 = some (r, nI 0, b) ∧ zRuns M R facts dropped waved struck ta a b ∧ (∀ q, q < 122 → b q = now q) := by
  have no : fX10_tear N (nI R) splits torn (nI M) x1 x2 = some (false, splits, torn) → fX11_tear N T now x1 x2 = some (false, nI 0, now) → ∃ (r : Bool) (a ta b : Nat → Int32), fX10_tear N (nI R) splits torn (nI M) x1 x2 = some (r, a, ta) ∧ fX11_tear N T now x1 x2 = some (r, nI 0, b) ∧ zRuns M R facts dropped waved struck ta a b ∧ (∀ q, q < 122 → b q = now q) := fun e1 e2 => ⟨false, splits, torn, now, e1, e2, hr, fun _ _ => rfl⟩
  rcases zarg x2 with h | ⟨m, hm, e⟩
  · have E1 : fX10_tear N (nI R) splits torn (nI M) x1 x2 = some (false, splits, torn) := by
      unfold fX10_tear
      rw [c_hasMn h, Option.bind_some, if_pos zl_f0]
    refine no E1 ?_
    unfold fX11_tear
    rcases zarg x1 with g | ⟨j, hj, e⟩
    · rw [g_isRunnern g, Option.bind_some]
      dsimp only
      rw [if_pos zl_f0]
    · rw [e, g_isRunner h1 hR hj, Option.bind_some]
      dsimp only
      by_cases hjR : j < R
      · rw [decide_eq_true hjR, if_neg zl_t0, g_isMatn h, Option.bind_some, if_pos zl_f0]
      · rw [decide_eq_false hjR, if_pos zl_f0]
  subst e
  rcases zarg x1 with g | ⟨j, hj, e⟩
  · refine no ?_ ?_
    · unfold fX10_tear fX6_tearFrom
      rw [c_hasM hM hm, Option.bind_some]
      by_cases hmM : m < M
      · rw [decide_eq_true hmM, if_neg zl_t0, c_hasRn g, Option.bind_some, if_pos zl_f0, Option.bind_some]
        dsimp only
        rw [if_pos zl_f0]
      · rw [decide_eq_false hmM, if_pos zl_f0]
    · unfold fX11_tear
      rw [g_isRunnern g, Option.bind_some]
      dsimp only
      rw [if_pos zl_f0]
  subst e
  by_cases hmM : m < M
  case neg =>
    refine no ?_ ?_
    · unfold fX10_tear
      rw [c_hasM hM hm, decide_eq_false hmM, Option.bind_some, if_pos zl_f0]
    · unfold fX11_tear
      rw [g_isRunner h1 hR hj, Option.bind_some]
      dsimp only
      by_cases hjR : j < R
      · rw [decide_eq_true hjR, if_neg zl_t0, g_isMat h0 hM hm, decide_eq_false hmM, Option.bind_some, if_pos zl_f0]
      · rw [decide_eq_false hjR, if_pos zl_f0]
  by_cases hjR : j < R
  case neg =>
    refine no ?_ ?_
    · unfold fX10_tear fX6_tearFrom
      rw [c_hasM hM hm, decide_eq_true hmM, Option.bind_some, if_neg zl_t0, c_hasR hR hj, decide_eq_false hjR, Option.bind_some, if_pos zl_f0, Option.bind_some]
      dsimp only
      rw [if_pos zl_f0]
    · unfold fX11_tear
      rw [g_isRunner h1 hR hj, decide_eq_false hjR, Option.bind_some]
      dsimp only
      rw [if_pos zl_f0]
  obtain ⟨t, T1, T2⟩ := p_torn (m := m) hR hjR hr
  -- the loops, whatever stands in torn
  have main : ∀ (ta w : Nat → Int32), (∀ q, q < 122 → w q = now q) → zRuns M R facts dropped waved struck ta splits w → ∃ a b : Nat → Int32, fX6_tearFrom_J36 N splits (nI j) (nI m) ta = some (true, a, ta) ∧ fX11_tear_J35 N (nI j) (nI m) (nI 0) w = some (true, nI 0, b) ∧ zRuns M R facts dropped waved struck ta a b ∧ (∀ q, q < 122 → b q = now q) := by
    intro ta w hw hrw
    unfold fX6_tearFrom_J36 fX11_tear_J35
    obtain ⟨a, e1, qa⟩ := p_tear1 (j := j) (by omega) (K := fun (v3_38 : Int32) (t_splits_l38 : Nat → Int32) => some (true, t_splits_l38, ta)) N m splits (by omega) (by omega)
    obtain ⟨b, e2, qb⟩ := p_tear2 (j := j) (by omega) (K := fun (v3_37 : Int32) (t_now_l37 : Nat → Int32) => some (true, nI 0, t_now_l37)) N m w (by omega) (by omega)
    refine ⟨a, b, e1, e2, fun r hlt => ?_, fun q hq => by rw [(qb q).2 (by omega)]; exact hw q hq⟩
    obtain ⟨a1, a2, a3, a4, a5, a6, a7, a8, a9, a10, a11, a12⟩ := hrw r hlt
    refine ⟨fun k hk => by rw [(qb _).2 (by omega)]; exact a1 k hk, a2, a3, a4, a5, a6, a7, by rw [(qb _).2 (by omega)]; exact a8, by rw [(qb _).2 (by omega)]; exact a9, by rw [(qb _).2 (by omega)]; exact a10, by rw [(qb _).2 (by omega)]; exact a11, fun k hk => ?_⟩
    by_cases h : r = j ∧ m ≤ k
    · obtain ⟨h1, h2⟩ := h
      subst h1
      rw [(qb _).1 (by omega), (qa _).1 (by omega)]
      exact ⟨rfl, Or.inl rfl, fun _ => rfl⟩
    · rw [(qb _).2 (by omega), (qa _).2 (by omega)]
      exact a12 k hk
  have C1 : fX10_tear N (nI R) splits torn (nI M) (nI j) (nI m) = ((if (zb t) = 0 then (fX6_tearFrom_J36 N splits (nI j) (nI m) (upd torn j (nI m))) else (fX6_tearFrom_J36 N splits (nI j) (nI m) torn)).bind (fun (b4, t_race_runners_splits_r5, t_race_runners_torn_r6) => (if (zb b4) = 0 then some (false, t_race_runners_splits_r5, t_race_runners_torn_r6) else some (true, t_race_runners_splits_r5, t_race_runners_torn_r6)))) := by
    unfold fX10_tear fX6_tearFrom
    rw [c_hasM hM hm, decide_eq_true hmM, Option.bind_some, if_neg zl_t0, c_hasR hR hj, decide_eq_true hjR, Option.bind_some, if_neg zl_t0, zw_n (by omega) (by omega) hm, decide_eq_true (show 0 ≤ m ∧ m ≤ 11 by omega), Option.bind_some, if_neg zl_t0, T1, Option.bind_some, if_pos (zin_k (show j < 60 by omega) (by omega)), zl_c hj]
  have C2 : fX11_tear N T now (nI j) (nI m) = (if (zb t) = 0 then (fX11_tear_J35 N (nI j) (nI m) (nI 0) (zPutW now j 9 (nI m))) else (fX11_tear_J35 N (nI j) (nI m) (nI 0) now)) := by
    unfold fX11_tear
    rw [g_isRunner h1 hR hj, decide_eq_true hjR, Option.bind_some]
    dsimp only
    rw [if_neg zl_t0, g_isMat h0 hM hm, decide_eq_true hmM, Option.bind_some, if_neg zl_t0, T2, Option.bind_some, g_put (by omega) (by omega), Option.bind_some]
    rfl
  by_cases ht : (zb t) = 0
  · have hrw : zRuns M R facts dropped waved struck (upd torn j (nI m)) splits (zPutW now j 9 (nI m)) := by
      intro r hlt
      obtain ⟨a1, a2, a3, a4, a5, a6, a7, a8, a9, a10, a11, a12⟩ := hr r hlt
      refine ⟨fun k hk => by rw [zput_o (by omega) (by omega) (by omega)]; exact a1 k hk, a2, a3, a4, a5, a6, a7, by rw [zput_o (by omega) (by omega) (by omega)]; exact a8, by rw [zput_o (by omega) (by omega) (by omega)]; exact a9, by rw [zput_o (by omega) (by omega) (by omega)]; exact a10, ?_, fun k hk => by rw [show 122 + 24 * r + 12 + k = 122 + 24 * r + (12 + k) by omega, zput_o (by omega) (by omega) (by omega), show 122 + 24 * r + (12 + k) = 122 + 24 * r + 12 + k by omega]; exact a12 k hk⟩
      by_cases hj2 : r = j
      · subst hj2; rw [zput_s, zup_s]; exact ⟨rfl, Or.inr ⟨m, by omega, rfl⟩⟩
      · rw [zput_o (by omega) (by omega) (Or.inl hj2), zup_n hj2]; exact a11
    obtain ⟨a, b, e1, e2, q1, q2⟩ := main (upd torn j (nI m)) (zPutW now j 9 (nI m)) (fun q hq => zput_l hq) hrw
    rw [if_pos ht, e1, Option.bind_some] at C1
    dsimp only at C1
    rw [if_neg zl_t0] at C1
    rw [if_pos ht, e2] at C2
    exact ⟨true, a, _, b, C1, C2, q1, q2⟩
  · obtain ⟨a, b, e1, e2, q1, q2⟩ := main torn now (fun _ _ => rfl) hr
    rw [if_neg ht, e1, Option.bind_some] at C1
    dsimp only at C1
    rw [if_neg zl_t0] at C1
    rw [if_neg ht, e2] at C2
    exact ⟨true, a, _, b, C1, C2, q1, q2⟩
