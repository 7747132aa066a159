theorem zcnt_le {f : Nat → Int32} : ∀ n, zCnt f n ≤ n := by
  intro n
  induction n with
  | zero => exact Nat.le_refl 0
  | succ n ih =>
    rw [zCnt]
    by_cases h : f n = 1
    · rw [if_pos h]; omega
    · rw [if_neg h]; omega
theorem zcnt_lt {f : Nat → Int32} {j : Nat} (hf : f j ≠ 1) : ∀ n, j < n → zCnt f n < n := by
  intro n
  induction n with
  | zero => intro h; omega
  | succ n ih =>
    intro h
    rw [zCnt]
    by_cases hj : j = n
    · rw [← hj, if_neg hf]
      have := zcnt_le (f := f) j
      omega
    · have := ih (by omega)
      by_cases h : f n = 1
      · rw [if_pos h]; omega
      · rw [if_neg h]; omega
theorem zcnt_eq {f g : Nat → Int32} : ∀ n, (∀ r, r < n → f r = g r) → zCnt f n = zCnt g n := by
  intro n
  induction n with
  | zero => intro _; rfl
  | succ n ih =>
    intro h
    rw [zCnt, zCnt, ih (fun r hr => h r (by omega)), h n (by omega)]
theorem zcnt_up {f : Nat → Int32} {j : Nat} (hf : f j ≠ 1) : ∀ n, j < n → zCnt (upd f j 1) n = zCnt f n + 1 := by
  intro n
  induction n with
  | zero => intro h; omega
  | succ n ih =>
    intro h
    rw [zCnt, zCnt]
    by_cases hj : n = j
    · rw [hj, zup_s, if_pos rfl, if_neg hf, zcnt_eq (f := upd f j 1) (g := f) j (fun r hr => zup_n (by omega))]
    · rw [zup_n hj, ih (by omega)]; omega
theorem zcnt_dn {f : Nat → Int32} {j : Nat} (hf : f j = 1) : ∀ n, j < n → zCnt (upd f j 0) n + 1 = zCnt f n := by
  intro n
  induction n with
  | zero => intro h; omega
  | succ n ih =>
    intro h
    rw [zCnt, zCnt]
    by_cases hj : n = j
    · rw [hj, zup_s, if_pos hf, if_neg (by decide), zcnt_eq (f := upd f j 0) (g := f) j (fun r hr => zup_n (by omega))]
    · have := ih (by omega)
      rw [zup_n hj]; omega
theorem p_bit1 : vp_nar .boolean (nI 1) = 1 := by rw [p_one]; exact p_nar1
theorem p_bit0 : vp_nar .boolean (nI 0) = 0 := by rw [p_zero]; exact p_nar0
theorem p_strike {M R S : Nat} {facts dropped waved struck torn splits order now : Nat → Int32} {T x1 : Int32} (hR : R ≤ 60) (hS : S ≤ R) (h1 : now 1 = nI R) (h2 : now 2 = nI S) (hm : zRuns M R facts dropped waved struck torn splits now) (hs : zStr R S order struck now) :
    ∃ (r : Bool) (S' : Nat) (o' st' b : Nat → Int32), fX10_strike (nI R) (nI S) order struck x1 = some (r, nI S', o', st') ∧ fX11_strike T now x1 = some (r, nI 0, b) ∧ S' ≤ R ∧ zRuns M R facts dropped waved st' torn splits b ∧ zStr R S' o' st' b ∧ b 2 = nI S' ∧ (∀ q, q < 2 ∨ (3 ≤ q ∧ q < 62) → b q = now q) := by
  have no : fX10_strike (nI R) (nI S) order struck x1 = some (false, nI S, order, struck) → fX11_strike T now x1 = some (false, nI 0, now) →
    ∃ (r : Bool) (S' : Nat) (o' st' b : Nat → Int32), fX10_strike (nI R) (nI S) order struck x1 = some (r, nI S', o', st') ∧ fX11_strike T now x1 = some (r, nI 0, b) ∧ S' ≤ R ∧ zRuns M R facts dropped waved st' torn splits b ∧ zStr R S' o' st' b ∧ b 2 = nI S' ∧ (∀ q, q < 2 ∨ (3 ≤ q ∧ q < 62) → b q = now q) :=
    fun e1 e2 => ⟨false, S, order, struck, now, e1, e2, hS, hm, hs, h2, fun _ _ => rfl⟩
  rcases zarg x1 with h | ⟨j, hj, e⟩
  · refine no ?_ ?_
    · unfold fX10_strike fX6_strikeOff
      rw [c_hasRn h, Option.bind_some, if_pos zl_f0, Option.bind_some]
    · unfold fX11_strike
      rw [g_isRunnern h, Option.bind_some]
      dsimp only
      rw [if_pos zl_f0]
  · subst e
    by_cases hlt : j < R
    · have z1 : zin (nI j) 60 := zin_k (by omega) (by omega)
      obtain ⟨a1, a2, a3, a4, a5, a6, a7, a8, a9, a10, a11, a12⟩ := hm j hlt
      by_cases hst : struck j = 1
      · refine no ?_ ?_
        · unfold fX10_strike fX6_strikeOff
          rw [c_hasR hR hj, decide_eq_true hlt, Option.bind_some, if_neg zl_t0, if_pos z1, if_neg (show ¬ (struck (nI j).toNatClampNeg = 0) by rw [zl_c hj, hst]; decide), Option.bind_some]
        · unfold fX11_strike
          rw [g_isRunner h1 hR hj, decide_eq_true hlt, Option.bind_some]
          dsimp only
          rw [if_neg zl_t0, g_of (by omega) (by omega), Option.bind_some, a10.1, if_pos (by rw [hst, p_one])]
      · have h0 : struck j = 0 := by
          rcases a10.2 with q | q
          · exact q
          · exact absurd q hst
        have hSR : S < R := by rw [← hs.2.2.2]; exact zcnt_lt hst R hlt
        have zS : zin (nI S) 60 := zin_k (by omega) (by omega)
        have e1 : fX10_strike (nI R) (nI S) order struck (nI j) = some (true, nI (S + 1), upd order S (nI j), upd struck j 1) := by
          unfold fX10_strike fX6_strikeOff
          rw [c_hasR hR hj, decide_eq_true hlt, Option.bind_some, if_neg zl_t0, if_pos z1, if_pos (show struck (nI j).toNatClampNeg = 0 by rw [zl_c hj]; exact h0), zw_n (by omega) (by omega) (by omega), Option.bind_some, decide_eq_true (show 0 ≤ S ∧ S ≤ 59 by omega), if_neg zl_t0, if_pos z1, if_pos zS, Option.bind_some, zl_c hj, nI_add, zl_c (show S < 2 ^ 31 by omega), p_bit1]
        have z2 : zin (nI 2) 1562 := zin_k (by omega) (by omega)
        have c2 : (nI 2).toNatClampNeg = 2 := zl_c (by omega)
        have hb : upd now (122 + 24 * j + 8) (nI 1) 2 = nI S := by rw [zup_n (by omega)]; exact h2
        have hb2 : upd (upd now (122 + 24 * j + 8) (nI 1)) (62 + S) (nI j) 2 = nI S := by rw [zup_n (by omega)]; exact hb
        have z62 : zin (nI 62 + upd now (122 + 24 * j + 8) (nI 1) (nI 2).toNatClampNeg) 1562 := by rw [c2, hb, nI_add]; exact zin_k (by omega) (by omega)
        have e2 : fX11_strike T now (nI j) = some (true, nI 0, upd (upd (zPutW now j 8 (nI 1)) (62 + S) (nI j)) 2 (nI (S + 1))) := by
          unfold fX11_strike
          rw [g_isRunner h1 hR hj, decide_eq_true hlt, Option.bind_some]
          dsimp only
          rw [if_neg zl_t0, g_of (by omega) (by omega), Option.bind_some, a10.1, if_neg (by rw [h0]; decide), g_put (by omega) (by omega), Option.bind_some, if_pos z2, if_pos z62, if_pos z2, if_pos z2, c2, hb, nI_add, zl_c (show 62 + S < 2 ^ 31 by omega), hb2, nI_add]
          rfl
        refine ⟨true, S + 1, _, _, _, e1, e2, by omega, fun r hr => ?_, ⟨fun i hi => ?_, fun i i2 hi hi2 => ?_, fun r hr hr1 => ?_, ?_⟩, zup_s, fun q hq => ?_⟩
        · have hb3 : ∀ q, 122 ≤ q → upd (upd (zPutW now j 8 (nI 1)) (62 + S) (nI j)) 2 (nI (S + 1)) q = zPutW now j 8 (nI 1) q := fun q hq => by rw [zup_n (by omega), zup_n (by omega)]
          obtain ⟨a1, a2, a3, a4, a5, a6, a7, a8, a9, a10, a11, a12⟩ := hm r hr
          refine ⟨fun k hk => by rw [hb3 _ (by omega), zput_o (by omega) (by omega) (by omega)]; exact a1 k hk, a2, a3, a4, a5, a6, a7, by rw [hb3 _ (by omega), zput_o (by omega) (by omega) (by omega)]; exact a8, by rw [hb3 _ (by omega), zput_o (by omega) (by omega) (by omega)]; exact a9, ?_, by rw [hb3 _ (by omega), zput_o (by omega) (by omega) (by omega)]; exact a11, fun k hk => by rw [hb3 _ (by omega), show 122 + 24 * r + 12 + k = 122 + 24 * r + (12 + k) by omega, zput_o (by omega) (by omega) (by omega), show 122 + 24 * r + (12 + k) = 122 + 24 * r + 12 + k by omega]; exact a12 k hk⟩
          rw [hb3 _ (by omega)]
          by_cases hj2 : r = j
          · subst hj2; rw [zput_s, zup_s]; exact ⟨p_one, Or.inr rfl⟩
          · rw [zput_o (by omega) (by omega) (Or.inl hj2), zup_n hj2]; exact a10
        · rw [zup_n (by omega)]
          by_cases hiS : i = S
          · subst hiS; rw [zup_s, zup_s]; exact ⟨rfl, j, hlt, rfl, zup_s⟩
          · obtain ⟨b1, ρ, b2, b3, b4⟩ := hs.1 i (by omega)
            rw [zup_n (by omega), zput_l (by omega), zup_n hiS]
            refine ⟨b1, ρ, b2, b3, ?_⟩
            by_cases hρ : ρ = j
            · rw [hρ, zup_s]
            · rw [zup_n hρ]; exact b4
        · rw [zup_n (show i ≠ S by omega)]
          by_cases hiS : i2 = S
          · rw [hiS, zup_s]
            obtain ⟨b1, ρ, b2, b3, b4⟩ := hs.1 i (by omega)
            rw [b3]
            intro q
            rw [zl_eq (by omega) hj] at q
            exact hst (by rw [← q]; exact b4)
          · rw [zup_n hiS]; exact hs.2.1 i i2 hi (by omega)
        · by_cases hrj : r = j
          · exact ⟨S, by omega, by rw [zup_s, hrj]⟩
          · rw [zup_n hrj] at hr1
            obtain ⟨i, hi, q⟩ := hs.2.2.1 r hr hr1
            exact ⟨i, by omega, by rw [zup_n (by omega)]; exact q⟩
        · rw [zcnt_up hst R hlt, hs.2.2.2]
        · rw [zup_n (by omega), zup_n (by omega)]; exact zput_l (by omega)
    · refine no ?_ ?_
      · unfold fX10_strike fX6_strikeOff
        rw [c_hasR hR hj, decide_eq_false hlt, Option.bind_some, if_pos zl_f0, Option.bind_some]
      · unfold fX11_strike
        rw [g_isRunner h1 hR hj, decide_eq_false hlt, Option.bind_some]
        dsimp only
        rw [if_pos zl_f0]
theorem p_pardon {M R S : Nat} {facts dropped waved struck torn splits order now : Nat → Int32} {T : Int32} (hR : R ≤ 60) (hS : S ≤ R) (h2 : now 2 = nI S) (hm : zRuns M R facts dropped waved struck torn splits now) (hs : zStr R S order struck now) :
    ∃ (r : Int32) (S' : Nat) (st' b : Nat → Int32), fX10_pardon (nI R) (nI S) order struck = some (r, nI S', st') ∧ fX11_pardon T now = some (r, nI 0, b) ∧ S' ≤ R ∧ zRuns M R facts dropped waved st' torn splits b ∧ zStr R S' order st' b ∧ b 2 = nI S' ∧ (∀ q, q < 2 ∨ (3 ≤ q ∧ q < 62) → b q = now q) := by
  have z2 : zin (nI 2) 1562 := zin_k (by omega) (by omega)
  have c2 : (nI 2).toNatClampNeg = 2 := zl_c (by omega)
  by_cases h0 : S = 0
  · subst h0
    have e1 : fX10_pardon (nI R) (nI 0) order struck = some (-1, nI 0, struck) := by
      unfold fX10_pardon fX6_takeStrikingBack
      rw [zw_n (by omega) (by omega) (by omega), Option.bind_some, decide_eq_false (show ¬ (1 ≤ 0 ∧ 0 ≤ 60) by omega), if_pos zl_f0, Option.bind_some]
    have e2 : fX11_pardon T now = some (-1, nI 0, now) := by
      unfold fX11_pardon
      rw [if_pos z2, if_pos (show now (nI 2).toNatClampNeg = 0 by rw [c2, h2]; exact p_zero)]
    exact ⟨-1, 0, struck, now, e1, e2, hS, hm, hs, h2, fun _ _ => rfl⟩
  · obtain ⟨K, hK⟩ : ∃ K, S = K + 1 := ⟨S - 1, by omega⟩
    subst hK
    obtain ⟨b1, ρ, b2, b3, b4⟩ := hs.1 K (by omega)
    have sb : nI (K + 1) - nI 1 = nI K := by rw [pk_sub (by omega)]; rfl
    have e1 : fX10_pardon (nI R) (nI (K + 1)) order struck = some (nI ρ, nI K, upd struck ρ 0) := by
      unfold fX10_pardon fX6_takeStrikingBack
      rw [zw_n (by omega) (by omega) (by omega), Option.bind_some, decide_eq_true (show 1 ≤ K + 1 ∧ K + 1 ≤ 60 by omega), if_neg zl_t0, sb, if_pos (zin_k (show K < 60 by omega) (by omega)), zl_c (show K < 2 ^ 31 by omega), b3, c_hasR hR (by omega), Option.bind_some, decide_eq_true b2, if_neg zl_t0, if_pos (zin_k (show ρ < 60 by omega) (by omega)), Option.bind_some, zl_c (show ρ < 2 ^ 31 by omega), p_bit0]
    have u2 : upd now 2 (nI K) 2 = nI K := zup_s
    have u3 : upd now 2 (nI K) (62 + K) = nI ρ := by rw [zup_n (by omega), b1, b3]
    have e2 : fX11_pardon T now = some (nI ρ, nI 0, zPutW (upd now 2 (nI K)) ρ 8 (nI 0)) := by
      unfold fX11_pardon
      have hne : ¬ (nI (K + 1) = 0) := by
        rw [← p_zero, zl_eq (by omega) (by omega)]; omega
      have z62 : zin ((nI 62) + ((upd now ((nI 2)).toNatClampNeg ((now ((nI 2)).toNatClampNeg) - (nI 1))) ((nI 2)).toNatClampNeg)) 1562 := by rw [c2, h2, sb, u2, nI_add]; exact zin_k (by omega) (by omega)
      rw [if_pos z2, if_neg (show ¬ (now (nI 2).toNatClampNeg = 0) by rw [c2, h2]; exact hne), if_pos z2, if_pos z2, if_pos z2, if_pos z62, c2, h2, sb, u2, nI_add, zl_c (show 62 + K < 2 ^ 31 by omega), u3, g_put (by omega) (by omega), Option.bind_some]
      rfl
    refine ⟨nI ρ, K, _, _, e1, e2, by omega, fun r hr => ?_, ⟨fun i hi => ?_, fun i i2 hi hi2 => hs.2.1 i i2 hi (by omega), fun r hr hr1 => ?_, ?_⟩, by rw [zput_l (by omega)]; exact u2, fun q hq => by rw [zput_l (by omega), zup_n (by omega)]⟩
    · have hb3 : ∀ k, k < 24 → (r ≠ ρ ∨ k ≠ 8) → zPutW (upd now 2 (nI K)) ρ 8 (nI 0) (122 + 24 * r + k) = now (122 + 24 * r + k) := fun k hk h => by rw [zput_o hk (by omega) h, zup_n (by omega)]
      obtain ⟨a1, a2, a3, a4, a5, a6, a7, a8, a9, a10, a11, a12⟩ := hm r hr
      refine ⟨fun k hk => by rw [hb3 _ (by omega) (by omega)]; exact a1 k hk, a2, a3, a4, a5, a6, a7, by rw [hb3 _ (by omega) (by omega)]; exact a8, by rw [hb3 _ (by omega) (by omega)]; exact a9, ?_, by rw [hb3 _ (by omega) (by omega)]; exact a11, fun k hk => by rw [show 122 + 24 * r + 12 + k = 122 + 24 * r + (12 + k) by omega, hb3 _ (by omega) (by omega), show 122 + 24 * r + (12 + k) = 122 + 24 * r + 12 + k by omega]; exact a12 k hk⟩
      by_cases hj2 : r = ρ
      · subst hj2; rw [zput_s, zup_s]; exact ⟨p_zero, Or.inl rfl⟩
      · rw [hb3 _ (by omega) (Or.inl hj2), zup_n hj2]; exact a10
    · obtain ⟨d1, ρ2, d2, d3, d4⟩ := hs.1 i (by omega)
      rw [zput_l (by omega), zup_n (by omega)]
      refine ⟨d1, ρ2, d2, d3, ?_⟩
      have hne : ρ2 ≠ ρ := fun q => hs.2.1 i K hi (by omega) (by rw [d3, b3, q])
      rw [zup_n hne]; exact d4
    · by_cases hrρ : r = ρ
      · rw [hrρ, zup_s] at hr1; exact absurd hr1 (by decide)
      · rw [zup_n hrρ] at hr1
        obtain ⟨i, hi, q⟩ := hs.2.2.1 r hr hr1
        refine ⟨i, ?_, q⟩
        by_cases hiK : i = K
        · rw [hiK, b3, zl_eq (by omega) (by omega)] at q
          exact absurd q.symm hrρ
        · omega
    · have := zcnt_dn b4 R b2
      have := hs.2.2.2
      omega
