/-! what changes the race: both sides answer alike and stay coupled -/
theorem c_tick {x2 : Int32} : fX10_isTickOrNone x2 = some true ∧ zTick x2 ∨ fX10_isTickOrNone x2 = some false ∧ x2 ≠ -1 ∧ fX11_isIn x2 (nI 0) (nI 40000) = some false := by
  unfold fX10_isTickOrNone
  by_cases h : x2 = (-1 : Int32)
  · rw [if_pos h]; exact Or.inl ⟨rfl, Or.inl h⟩
  · rw [if_neg h]
    rcases zarg x2 with q | ⟨j, hj, e⟩
    · rw [zw_neg (by omega) q, Option.bind_some, if_pos zl_f0]
      exact Or.inr ⟨rfl, h, zi_neg (by omega) q⟩
    · rw [e, zw_n (by omega) (by omega) hj, Option.bind_some, zi_n (by omega) (by omega) hj]
      by_cases hq : 0 ≤ j ∧ j ≤ 40000
      · rw [decide_eq_true hq, if_neg zl_t0]
        exact Or.inl ⟨rfl, Or.inr ⟨j, hq.2, rfl⟩⟩
      · rw [decide_eq_false hq, if_pos zl_f0]
        exact Or.inr ⟨rfl, by rw [← e]; exact h, rfl⟩
theorem g_tick {x2 : Int32} (h : zTick x2) (hn : x2 ≠ -1) : fX11_isIn x2 (nI 0) (nI 40000) = some true := by
  rcases h with h | ⟨j, hj, e⟩
  · exact absurd h hn
  · rw [e, zi_n (by omega) (by omega) (by omega), decide_eq_true ⟨Nat.zero_le _, hj⟩]
theorem zin_k {a N : Nat} (h : a < N) (hN : N < 2147483648) : zin (nI a) N := by rw [zl_in (by omega)]; exact h
theorem p_gun {ticks now : Nat → Int32} {T x1 x2 : Int32} (ht : zTicks ticks now) : ∃ (r : Bool) (a b : Nat → Int32), fX10_gun ticks x1 x2 = some (r, a) ∧ fX11_gun T now x1 x2 = some (r, nI 0, b) ∧ zTicks a b ∧ (∀ q, q < 56 ∨ 62 ≤ q → b q = now q) := by
  unfold fX10_gun fX11_gun
  rcases zarg x1 with h1 | ⟨j, hj, e1⟩
  · rw [zi_neg (by omega) h1, Option.bind_some, if_pos zl_f0]
    rcases c_tick (x2 := x2) with ⟨h, ht2⟩ | ⟨h, _⟩
    · rw [h, Option.bind_some, if_neg zl_t0]
      unfold fX2_fire
      rw [zw_neg (by omega) h1, Option.bind_some, if_pos zl_f0, Option.bind_some]
      exact ⟨false, ticks, now, rfl, rfl, ht, fun _ _ => rfl⟩
    · rw [h, Option.bind_some, if_pos zl_f0]
      exact ⟨false, ticks, now, rfl, rfl, ht, fun _ _ => rfl⟩
  · rw [e1, zi_n (by omega) (by omega) hj, Option.bind_some]
    by_cases h5 : 0 ≤ j ∧ j ≤ 5
    · rw [decide_eq_true h5, if_neg zl_t0]
      rcases c_tick (x2 := x2) with ⟨h, ht2⟩ | ⟨h, hn, hi⟩
      · rw [h, Option.bind_some, if_neg zl_t0]
        unfold fX2_fire
        rw [zw_n (by omega) (by omega) hj, Option.bind_some, decide_eq_true h5, if_neg zl_t0, if_pos (zin_k (by omega) (by omega)), Option.bind_some]
        have hz : zin ((nI 56) + nI j) 1562 := by rw [nI_add]; exact zin_k (by omega) (by omega)
        have hc : ((nI 56) + nI j).toNatClampNeg = 56 + j := by rw [nI_add, zl_c (by omega)]
        have fin : zTicks (upd ticks (nI j).toNatClampNeg x2) (upd now ((nI 56) + nI j).toNatClampNeg x2) ∧ (∀ q, q < 56 ∨ 62 ≤ q → upd now ((nI 56) + nI j).toNatClampNeg x2 q = now q) := by
          rw [hc, zl_c (by omega)]
          refine ⟨fun p hp => ?_, fun q hq => zup_n (by omega)⟩
          by_cases hpj : p = j
          · subst hpj; rw [zup_s, zup_s]; exact ⟨rfl, ht2⟩
          · rw [zup_n hpj, zup_n (by omega)]; exact ht p hp
        by_cases hm : x2 = (-1 : Int32)
        · rw [if_pos hm, if_pos hz]
          exact ⟨true, _, _, rfl, rfl, fin.1, fin.2⟩
        · rw [if_neg hm, g_tick ht2 hm, Option.bind_some, if_neg zl_t0, if_pos hz]
          exact ⟨true, _, _, rfl, rfl, fin.1, fin.2⟩
      · rw [h, Option.bind_some, if_pos zl_f0, if_neg hn, hi, Option.bind_some, if_pos zl_f0]
        exact ⟨false, ticks, now, rfl, rfl, ht, fun _ _ => rfl⟩
    · rw [decide_eq_false h5, if_pos zl_f0]
      rcases c_tick (x2 := x2) with ⟨h, ht2⟩ | ⟨h, _⟩
      · rw [h, Option.bind_some, if_neg zl_t0]
        unfold fX2_fire
        rw [zw_n (by omega) (by omega) hj, Option.bind_some, decide_eq_false h5, if_pos zl_f0, Option.bind_some]
        exact ⟨false, ticks, now, rfl, rfl, ht, fun _ _ => rfl⟩
      · rw [h, Option.bind_some, if_pos zl_f0]
        exact ⟨false, ticks, now, rfl, rfl, ht, fun _ _ => rfl⟩
