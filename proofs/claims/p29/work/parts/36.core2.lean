theorem p_nar0 : vp_nar .boolean 0 = 0 := by decide
theorem p_nar1 : vp_nar .boolean 1 = 1 := by decide
theorem p_bit {x : Int32} (h : x = 0 ∨ x = 1) : vp_nar .boolean x = x := by
  rcases h with h | h
  · rw [h]; exact p_nar0
  · rw [h]; exact p_nar1
theorem p_one : nI 1 = 1 := by decide
theorem p_zero : nI 0 = 0 := by decide
theorem p_10 : ((1 : Int32) = 0) = False := eq_false (by decide)
theorem p_dead {M : Nat} {places bearings deaths cuts now : Nat → Int32} {T x1 x2 : Int32} (hM : M ≤ 12) (h0 : now 0 = nI M) (hy : x2 = 0 ∨ x2 = 1) (hm : zMats M places bearings deaths cuts now) : ∃ (r : Bool) (a b : Nat → Int32), fX10_dead (nI M) deaths x1 x2 = some (r, a) ∧ fX11_dead T now x1 x2 = some (r, nI 0, b) ∧ zMats M places bearings a cuts b ∧ (∀ q, q < 8 ∨ 56 ≤ q → b q = now q) := by
  rcases zarg x1 with h | ⟨j, hj, e⟩
  · have e1 : fX10_dead (nI M) deaths x1 x2 = some (false, deaths) := by
      unfold fX10_dead fX9_setDead
      simp only [c_hasMn h, Option.bind_some, zl_f, ite_true]
    have e2 : fX11_dead T now x1 x2 = some (false, nI 0, now) := by
      unfold fX11_dead
      simp only [g_isMatn h, Option.bind_some, zl_f, ite_true]
    exact ⟨false, deaths, now, e1, e2, hm, fun _ _ => rfl⟩
  · subst e
    by_cases hlt : j < M
    · have z1 : zin (nI j) 12 := zin_k (by omega) (by omega)
      have ix : (((nI 8) + ((nI 4) * nI j)) + (nI 2)) = nI (8 + 4 * j + 2) := by rw [pk_mul, nI_add, nI_add]
      have z2 : zin (((nI 8) + ((nI 4) * nI j)) + (nI 2)) 1562 := by rw [ix]; exact zin_k (by omega) (by omega)
      have i2 : ((((nI 8) + ((nI 4) * nI j)) + (nI 2))).toNatClampNeg = 8 + 4 * j + 2 := by rw [ix, zl_c (by omega)]
      have e1 : fX10_dead (nI M) deaths (nI j) x2 = some (true, upd deaths j x2) := by
        unfold fX10_dead fX9_setDead
        rw [c_hasM hM hj, decide_eq_true hlt, Option.bind_some, if_neg zl_t0, if_pos z1, Option.bind_some, zl_c hj, p_bit hy]
      have e2 : fX11_dead T now (nI j) x2 = some (true, nI 0, upd now (8 + 4 * j + 2) x2) := by
        unfold fX11_dead
        rw [g_isMat h0 hM hj, decide_eq_true hlt, Option.bind_some, if_neg zl_t0]
        rcases hy with hy | hy
        · rw [if_pos hy, if_pos z2, i2, hy, p_zero]
        · rw [if_neg (by rw [hy]; decide), if_pos z2, i2, hy, p_one]
      refine ⟨true, _, _, e1, e2, ⟨fun m hm2 => ?_, hm.2.1, hm.2.2⟩, fun q hq => zup_n (by omega)⟩
      obtain ⟨a1, a2, a3, a4, a5, a6, a7, a8⟩ := hm.1 m hm2
      refine ⟨by rw [zup_n (by omega)]; exact a1, by rw [zup_n (by omega)]; exact a2, ?_, by rw [zup_n (by omega)]; exact a4, a5, a6, ?_, a8⟩
      · by_cases hj2 : m = j
        · subst hj2; rw [zup_s, show 10 + 4 * m = 8 + 4 * m + 2 by omega, zup_s]
        · rw [zup_n hj2, zup_n (by omega)]; exact a3
      · by_cases hj2 : m = j
        · subst hj2; rw [zup_s]; exact hy
        · rw [zup_n hj2]; exact a7
    · have e1 : fX10_dead (nI M) deaths (nI j) x2 = some (false, deaths) := by
        unfold fX10_dead fX9_setDead
        simp only [c_hasM hM hj, decide_eq_false hlt, Option.bind_some, zl_f, ite_true]
      have e2 : fX11_dead T now (nI j) x2 = some (false, nI 0, now) := by
        unfold fX11_dead
        simp only [g_isMat h0 hM hj, decide_eq_false hlt, Option.bind_some, zl_f, ite_true]
      exact ⟨false, deaths, now, e1, e2, hm, fun _ _ => rfl⟩
theorem p_cut {M : Nat} {places bearings deaths cuts now : Nat → Int32} {T x1 x2 : Int32} (hM : M ≤ 12) (h0 : now 0 = nI M) (hm : zMats M places bearings deaths cuts now) : ∃ (r : Bool) (a b : Nat → Int32), fX10_cut (nI M) cuts x1 x2 = some (r, a) ∧ fX11_cut T now x1 x2 = some (r, nI 0, b) ∧ zMats M places bearings deaths a b ∧ (∀ q, q < 8 ∨ 56 ≤ q → b q = now q) := by
  have no : fX10_cut (nI M) cuts x1 x2 = some (false, cuts) → fX11_cut T now x1 x2 = some (false, nI 0, now) → ∃ (r : Bool) (a b : Nat → Int32), fX10_cut (nI M) cuts x1 x2 = some (r, a) ∧ fX11_cut T now x1 x2 = some (r, nI 0, b) ∧ zMats M places bearings deaths a b ∧ (∀ q, q < 8 ∨ 56 ≤ q → b q = now q) := fun e1 e2 => ⟨false, cuts, now, e1, e2, hm, fun _ _ => rfl⟩
  rcases zarg x1 with h | ⟨j, hj, e⟩
  · refine no ?_ ?_
    · unfold fX10_cut fX9_setCut
      rcases c_tick (x2 := x2) with ⟨q, _⟩ | ⟨q, _, _⟩
      · rw [q, Option.bind_some, if_neg zl_t0, c_hasMn h, Option.bind_some, if_pos zl_f0, Option.bind_some]
        dsimp only
        rw [if_pos zl_f0]
      · rw [q, Option.bind_some, if_pos zl_f0]
    · unfold fX11_cut
      rw [g_isMatn h, Option.bind_some, if_pos zl_f0]
  · subst e
    by_cases hlt : j < M
    · have z1 : zin (nI j) 12 := zin_k (by omega) (by omega)
      have ix : (((nI 8) + ((nI 4) * nI j)) + (nI 3)) = nI (8 + 4 * j + 3) := by rw [pk_mul, nI_add, nI_add]
      have z2 : zin (((nI 8) + ((nI 4) * nI j)) + (nI 3)) 1562 := by rw [ix]; exact zin_k (by omega) (by omega)
      have i2 : ((((nI 8) + ((nI 4) * nI j)) + (nI 3))).toNatClampNeg = 8 + 4 * j + 3 := by rw [ix, zl_c (by omega)]
      rcases c_tick (x2 := x2) with ⟨q, ht⟩ | ⟨q, hn, hi⟩
      · have e1 : fX10_cut (nI M) cuts (nI j) x2 = some (true, upd cuts j x2) := by
          unfold fX10_cut fX9_setCut
          rw [q, Option.bind_some, if_neg zl_t0, c_hasM hM hj, decide_eq_true hlt, Option.bind_some, if_neg zl_t0, if_pos z1, Option.bind_some, zl_c hj]
          dsimp only
          rw [if_neg zl_t0]
        have e2 : fX11_cut T now (nI j) x2 = some (true, nI 0, upd now (8 + 4 * j + 3) x2) := by
          unfold fX11_cut
          rw [g_isMat h0 hM hj, decide_eq_true hlt, Option.bind_some, if_neg zl_t0, if_pos z2, i2]
          by_cases hm1 : x2 = (-1 : Int32)
          · rw [if_pos hm1]
          · rw [if_neg hm1, g_tick ht hm1, Option.bind_some, if_neg zl_t0]
        refine ⟨true, _, _, e1, e2, ⟨fun m hm2 => ?_, hm.2.1, hm.2.2⟩, fun q hq => zup_n (by omega)⟩
        obtain ⟨a1, a2, a3, a4, a5, a6, a7, a8⟩ := hm.1 m hm2
        refine ⟨by rw [zup_n (by omega)]; exact a1, by rw [zup_n (by omega)]; exact a2, by rw [zup_n (by omega)]; exact a3, ?_, a5, a6, a7, ?_⟩
        · by_cases hj2 : m = j
          · subst hj2; rw [zup_s, show 11 + 4 * m = 8 + 4 * m + 3 by omega, zup_s]
          · rw [zup_n hj2, zup_n (by omega)]; exact a4
        · by_cases hj2 : m = j
          · subst hj2; rw [zup_s]; exact ht
          · rw [zup_n hj2]; exact a8
      · refine no ?_ ?_
        · unfold fX10_cut
          rw [q, Option.bind_some, if_pos zl_f0]
        · unfold fX11_cut
          rw [g_isMat h0 hM hj, decide_eq_true hlt, Option.bind_some, if_neg zl_t0, if_neg hn, hi, Option.bind_some, if_pos zl_f0]
    · refine no ?_ ?_
      · unfold fX10_cut fX9_setCut
        rcases c_tick (x2 := x2) with ⟨q, _⟩ | ⟨q, _, _⟩
        · rw [q, Option.bind_some, if_neg zl_t0, c_hasM hM hj, decide_eq_false hlt, Option.bind_some, if_pos zl_f0, Option.bind_some]
          dsimp only
          rw [if_pos zl_f0]
        · rw [q, Option.bind_some, if_pos zl_f0]
      · unfold fX11_cut
        rw [g_isMat h0 hM hj, decide_eq_false hlt, Option.bind_some, if_pos zl_f0]
/-- one number of one runner changes -/
def zPutW (now : Nat → Int32) (j w : Nat) (v : Int32) : Nat → Int32 := upd now (122 + 24 * j + w) v
theorem zput_o {now : Nat → Int32} {j w r k : Nat} {v : Int32} (hk : k < 24) (hw : w < 24) (h : r ≠ j ∨ k ≠ w) : zPutW now j w v (122 + 24 * r + k) = now (122 + 24 * r + k) := zup_n (by omega)
theorem zput_s {now : Nat → Int32} {j w : Nat} {v : Int32} : zPutW now j w v (122 + 24 * j + w) = v := zup_s
theorem zput_l {now : Nat → Int32} {j w q : Nat} {v : Int32} (h : q < 122) : zPutW now j w v q = now q := zup_n (by omega)
theorem p_drop {M R : Nat} {facts dropped waved struck torn splits now : Nat → Int32} {T x1 x2 : Int32} (hR : R ≤ 60) (h1 : now 1 = nI R) (hy : x2 = 0 ∨ x2 = 1) (hm : zRuns M R facts dropped waved struck torn splits now) : ∃ (r : Bool) (a b : Nat → Int32), fX10_drop (nI R) dropped x1 x2 = some (r, a) ∧ fX11_drop T now x1 x2 = some (r, nI 0, b) ∧ zRuns M R facts a waved struck torn splits b ∧ (∀ q, q < 122 → b q = now q) := by
  have no : fX10_drop (nI R) dropped x1 x2 = some (false, dropped) → fX11_drop T now x1 x2 = some (false, nI 0, now) → ∃ (r : Bool) (a b : Nat → Int32), fX10_drop (nI R) dropped x1 x2 = some (r, a) ∧ fX11_drop T now x1 x2 = some (r, nI 0, b) ∧ zRuns M R facts a waved struck torn splits b ∧ (∀ q, q < 122 → b q = now q) := fun e1 e2 => ⟨false, dropped, now, e1, e2, hm, fun _ _ => rfl⟩
  rcases zarg x1 with h | ⟨j, hj, e⟩
  · refine no ?_ ?_
    · unfold fX10_drop fX6_setDropped
      rw [c_hasRn h, Option.bind_some, if_pos zl_f0, Option.bind_some]
    · unfold fX11_drop
      rw [g_isRunnern h, Option.bind_some]
      dsimp only
      rw [if_pos zl_f0]
  · subst e
    by_cases hlt : j < R
    · have z1 : zin (nI j) 60 := zin_k (by omega) (by omega)
      have e1 : fX10_drop (nI R) dropped (nI j) x2 = some (true, upd dropped j x2) := by
        unfold fX10_drop fX6_setDropped
        rw [c_hasR hR hj, decide_eq_true hlt, Option.bind_some, if_neg zl_t0, if_pos z1, Option.bind_some, zl_c hj, p_bit hy]
      have e2 : fX11_drop T now (nI j) x2 = some (true, nI 0, zPutW now j 6 x2) := by
        unfold fX11_drop
        rw [g_isRunner h1 hR hj, decide_eq_true hlt, Option.bind_some]
        dsimp only
        rw [if_neg zl_t0]
        rcases hy with hy | hy
        · rw [if_pos hy, g_put (by omega) (by omega), Option.bind_some, hy]; rfl
        · rw [if_neg (by rw [hy]; decide), g_put (by omega) (by omega), Option.bind_some, hy]; rfl
      refine ⟨true, _, _, e1, e2, fun r hr => ?_, fun q hq => zput_l hq⟩
      obtain ⟨a1, a2, a3, a4, a5, a6, a7, a8, a9, a10, a11, a12⟩ := hm r hr
      refine ⟨fun k hk => by rw [zput_o (by omega) (by omega) (by omega)]; exact a1 k hk, a2, a3, a4, a5, a6, a7, ?_, by rw [zput_o (by omega) (by omega) (by omega)]; exact a9, by rw [zput_o (by omega) (by omega) (by omega)]; exact a10, by rw [zput_o (by omega) (by omega) (by omega)]; exact a11, fun k hk => by rw [show 122 + 24 * r + 12 + k = 122 + 24 * r + (12 + k) by omega, zput_o (by omega) (by omega) (by omega), show 122 + 24 * r + (12 + k) = 122 + 24 * r + 12 + k by omega]; exact a12 k hk⟩
      by_cases hj2 : r = j
      · subst hj2; rw [zput_s, zup_s]; exact ⟨rfl, hy⟩
      · rw [zput_o (by omega) (by omega) (Or.inl hj2), zup_n hj2]; exact a8
    · refine no ?_ ?_
      · unfold fX10_drop fX6_setDropped
        rw [c_hasR hR hj, decide_eq_false hlt, Option.bind_some, if_pos zl_f0, Option.bind_some]
      · unfold fX11_drop
        rw [g_isRunner h1 hR hj, decide_eq_false hlt, Option.bind_some]
        dsimp only
        rw [if_pos zl_f0]
theorem p_wave {M R : Nat} {facts dropped waved struck torn splits now : Nat → Int32} {T x1 x2 : Int32} (hR : R ≤ 60) (h1 : now 1 = nI R) (hy : x2 = 0 ∨ x2 = 1) (hm : zRuns M R facts dropped waved struck torn splits now) : ∃ (r : Bool) (a b : Nat → Int32), fX10_wave (nI R) waved x1 x2 = some (r, a) ∧ fX11_wave T now x1 x2 = some (r, nI 0, b) ∧ zRuns M R facts dropped a struck torn splits b ∧ (∀ q, q < 122 → b q = now q) := by
  have no : fX10_wave (nI R) waved x1 x2 = some (false, waved) → fX11_wave T now x1 x2 = some (false, nI 0, now) → ∃ (r : Bool) (a b : Nat → Int32), fX10_wave (nI R) waved x1 x2 = some (r, a) ∧ fX11_wave T now x1 x2 = some (r, nI 0, b) ∧ zRuns M R facts dropped a struck torn splits b ∧ (∀ q, q < 122 → b q = now q) := fun e1 e2 => ⟨false, waved, now, e1, e2, hm, fun _ _ => rfl⟩
  rcases zarg x1 with h | ⟨j, hj, e⟩
  · refine no ?_ ?_
    · unfold fX10_wave fX6_setWaved
      rw [c_hasRn h, Option.bind_some, if_pos zl_f0, Option.bind_some]
    · unfold fX11_wave
      rw [g_isRunnern h, Option.bind_some]
      dsimp only
      rw [if_pos zl_f0]
  · subst e
    by_cases hlt : j < R
    · have z1 : zin (nI j) 60 := zin_k (by omega) (by omega)
      have e1 : fX10_wave (nI R) waved (nI j) x2 = some (true, upd waved j x2) := by
        unfold fX10_wave fX6_setWaved
        rw [c_hasR hR hj, decide_eq_true hlt, Option.bind_some, if_neg zl_t0, if_pos z1, Option.bind_some, zl_c hj, p_bit hy]
      have e2 : fX11_wave T now (nI j) x2 = some (true, nI 0, zPutW now j 7 x2) := by
        unfold fX11_wave
        rw [g_isRunner h1 hR hj, decide_eq_true hlt, Option.bind_some]
        dsimp only
        rw [if_neg zl_t0]
        rcases hy with hy | hy
        · rw [if_pos hy, g_put (by omega) (by omega), Option.bind_some, hy]; rfl
        · rw [if_neg (by rw [hy]; decide), g_put (by omega) (by omega), Option.bind_some, hy]; rfl
      refine ⟨true, _, _, e1, e2, fun r hr => ?_, fun q hq => zput_l hq⟩
      obtain ⟨a1, a2, a3, a4, a5, a6, a7, a8, a9, a10, a11, a12⟩ := hm r hr
      refine ⟨fun k hk => by rw [zput_o (by omega) (by omega) (by omega)]; exact a1 k hk, a2, a3, a4, a5, a6, a7, by rw [zput_o (by omega) (by omega) (by omega)]; exact a8, ?_, by rw [zput_o (by omega) (by omega) (by omega)]; exact a10, by rw [zput_o (by omega) (by omega) (by omega)]; exact a11, fun k hk => by rw [show 122 + 24 * r + 12 + k = 122 + 24 * r + (12 + k) by omega, zput_o (by omega) (by omega) (by omega), show 122 + 24 * r + (12 + k) = 122 + 24 * r + 12 + k by omega]; exact a12 k hk⟩
      by_cases hj2 : r = j
      · subst hj2; rw [zput_s, zup_s]; exact ⟨rfl, hy⟩
      · rw [zput_o (by omega) (by omega) (Or.inl hj2), zup_n hj2]; exact a9
    · refine no ?_ ?_
      · unfold fX10_wave fX6_setWaved
        rw [c_hasR hR hj, decide_eq_false hlt, Option.bind_some, if_pos zl_f0, Option.bind_some]
      · unfold fX11_wave
        rw [g_isRunner h1 hR hj, decide_eq_false hlt, Option.bind_some]
        dsimp only
        rw [if_pos zl_f0]
