/-! lists: list, place, many, prizes -/
theorem c_sizeL {t : Nat → Int32} : ∀ (d v n c : Nat), v + d = 60 → d + 1 ≤ n → c = zcb (fun r => zls t r) v → fX3_size_L4 t (fun (v1_4 : Int32) (v2_4 : Int32) => some (v1_4)) n (nI c) (nI v) = some (nI (zcb (fun r => zls t r) 60)) := by
  intro d
  induction d with
  | zero =>
    intro v n c h1 h2 h3
    obtain rfl : v = 60 := by omega
    cases n with
    | zero => omega
    | succ n => rw [fX3_size_L4, if_pos (show nI 60 ≤ nI 60 by rw [zl_le (by omega) (by omega)]; exact Nat.le_refl _), h3]
  | succ d ih =>
    intro v n c h1 h2 h3
    cases n with
    | zero => omega
    | succ n =>
      have z : zin (nI v) 60 := zin_k (by omega) (by omega)
      rw [fX3_size_L4, if_neg (show ¬ nI 60 ≤ nI v by rw [zl_le (by omega) (by omega)]; omega), if_pos z, zl_c (show v < 2 ^ 31 by omega), nI_add, nI_add]
      by_cases a : t v = -1
      · rw [if_pos a]
        refine ih (v + 1) n c (by omega) (by omega) (h3.trans (zcb_f ?_).symm)
        show ¬ zls t v = true
        unfold zls
        rw [decide_eq_false (fun q => q a)]
        decide
      · rw [if_neg a]
        refine ih (v + 1) n (c + 1) (by omega) (by omega) ?_
        rw [h3]
        exact (zcb_t (show zls t v = true from decide_eq_true a)).symm
theorem c_size {N c : Nat} {t : Nat → Int32} {s : Nat → Nat} (hN : 10000 ≤ N) (h : zSq t 60 c s) : fX3_size N t = some (nI c) := by
  unfold fX3_size
  have e := c_sizeL (t := t) 60 0 N 0 (by omega) (by omega) rfl
  rw [zSq_n h] at e
  exact e
/-- how many listed times are less -/
def zLo (t : Nat → Int32) (x : Int32) : Nat := zcb (fun r => zls t r && decide (t r < x)) 60
theorem c_place {N r : Nat} {t : Nat → Int32} (hN : 10000 ≤ N) (hr : r < 60) : fX3_placeOf N t (nI r) = some (if t r = -1 then -1 else nI (1 + zLo t (t r))) := by
  unfold fX3_placeOf
  rw [c_timeIn hr, Option.bind_some]
  by_cases a : t r = -1
  · rw [if_pos a, if_pos a]
  · rw [if_neg a, if_neg a, c_how hN, Option.bind_some, nI_add]
    rfl
theorem c_placeOut {N : Nat} {t : Nat → Int32} {x : Int32} (hx : x < 0 ∨ ∃ j : Nat, j < 2 ^ 31 ∧ 60 ≤ j ∧ x = nI j) : fX3_placeOf N t x = some (-1) := by
  unfold fX3_placeOf fX3_timeIn
  have e : fX10_within x (nI 0) (nI 59) = some false := by
    rcases hx with hx | ⟨j, hj, h60, rfl⟩
    · exact zw_neg (by omega) hx
    · rw [zw_n (by omega) (by omega) hj, decide_eq_false (by omega)]
  rw [e, Option.bind_some, if_pos zl_f0, Option.bind_some, if_pos (show (-1 : Int32) = -1 from rfl)]
theorem c_prizL {N : Nat} {t : Nat → Int32} {PR : Int32} (hN : 10000 ≤ N) : ∀ (d v n c : Nat), v + d = 60 → d + 1 ≤ n → c = zcb (fun r => zls t r && decide (¬ PR < nI (1 + zLo t (t r)))) v → fX3_prizeWinners_L4 N PR t (fun (v1_4 : Int32) (v2_4 : Int32) => some (v1_4)) n (nI c) (nI v) = some (nI (zcb (fun r => zls t r && decide (¬ PR < nI (1 + zLo t (t r)))) 60)) := by
  intro d
  induction d with
  | zero =>
    intro v n c h1 h2 h3
    obtain rfl : v = 60 := by omega
    cases n with
    | zero => omega
    | succ n => rw [fX3_prizeWinners_L4, if_pos (show nI 60 ≤ nI 60 by rw [zl_le (by omega) (by omega)]; exact Nat.le_refl _), h3]
  | succ d ih =>
    intro v n c h1 h2 h3
    cases n with
    | zero => omega
    | succ n =>
      have z : zin (nI v) 60 := zin_k (by omega) (by omega)
      rw [fX3_prizeWinners_L4, if_neg (show ¬ nI 60 ≤ nI v by rw [zl_le (by omega) (by omega)]; omega), if_pos z, zl_c (show v < 2 ^ 31 by omega), nI_add, nI_add, c_place hN (show v < 60 by omega), Option.bind_some]
      unfold fX5_prizeNumber
      rw [Option.bind_some]
      by_cases a : t v = -1
      · rw [if_pos a]
        refine ih (v + 1) n c (by omega) (by omega) (h3.trans (zcb_f ?_).symm)
        show ¬ (zls t v && decide (¬ PR < nI (1 + zLo t (t v)))) = true
        unfold zls
        rw [decide_eq_false (fun q => q a), Bool.false_and]
        decide
      · rw [if_neg a, if_neg a]
        by_cases b : PR < nI (1 + zLo t (t v))
        · rw [if_pos b]
          refine ih (v + 1) n c (by omega) (by omega) (h3.trans (zcb_f ?_).symm)
          show ¬ (zls t v && decide (¬ PR < nI (1 + zLo t (t v)))) = true
          rw [decide_eq_false (fun q => q b), Bool.and_false]
          decide
        · rw [if_neg b]
          refine ih (v + 1) n (c + 1) (by omega) (by omega) ?_
          rw [h3]
          refine (zcb_t ?_).symm
          show (zls t v && decide (¬ PR < nI (1 + zLo t (t v)))) = true
          unfold zls
          rw [decide_eq_true a, decide_eq_true b]; rfl
theorem c_priz {N c : Nat} {t : Nat → Int32} {s : Nat → Nat} {PR : Int32} (hN : 10000 ≤ N) (h : zSq t 60 c s) : fX3_prizeWinners N PR t = some (nI (zcb (fun k => decide (¬ PR < nI (1 + zLo t (t (s k))))) c)) := by
  unfold fX3_prizeWinners
  have e := c_prizL (t := t) (PR := PR) hN 60 0 N 0 (by omega) (by omega) rfl
  have e3 : zcb (fun r => zls t r && decide (¬ PR < nI (1 + zLo t (t r)))) 60 = zcb (fun k => decide (¬ PR < nI (1 + zLo t (t (s k))))) c := h.2.2 (fun r => decide (¬ PR < nI (1 + zLo t (t r))))
  rw [e3] at e
  exact e
theorem zSq_inj {tm : Nat → Int32} {i c k j : Nat} {s : Nat → Nat} (h : zSq tm i c s) (hk : k < c) (hj : j < c) (e : s k = s j) : k = j := by
  rcases Nat.lt_trichotomy k j with g | g | g
  · have := h.2.1 k j g hj
    rw [e] at this
    exact absurd this zlt_irr
  · exact g
  · have := h.2.1 j k g hk
    rw [e] at this
    exact absurd this zlt_irr
theorem c_ratL {N c : Nat} {t : Nat → Int32} {s : Nat → Nat} {x : Int32} (hN : 10000 ≤ N) (h : zSq t 60 c s) (hc : c ≤ 60) : ∀ (d v n : Nat), v + d = 60 → d + 1 ≤ n →
    ((∀ k, k < c → v ≤ s k → ¬ nI k = x) → fX3_runnerAt_L2 N t x (fun (v2_2 : Int32) => some ((-1 : Int32))) n (nI v) = some (-1)) ∧
    (∀ k, k < c → v ≤ s k → nI k = x → fX3_runnerAt_L2 N t x (fun (v2_2 : Int32) => some ((-1 : Int32))) n (nI v) = some (nI (s k))) := by
  intro d
  induction d with
  | zero =>
    intro v n h1 h2
    obtain rfl : v = 60 := by omega
    cases n with
    | zero => omega
    | succ n =>
      refine ⟨fun _ => ?_, fun k hk hv _ => ?_⟩
      · rw [fX3_runnerAt_L2, if_pos (show nI 60 ≤ nI 60 by rw [zl_le (by omega) (by omega)]; exact Nat.le_refl _)]
      · have := (h.1 k hk).1
        omega
  | succ d ih =>
    intro v n h1 h2
    cases n with
    | zero => omega
    | succ n =>
      have z : zin (nI v) 60 := zin_k (by omega) (by omega)
      obtain ⟨i1, i2⟩ := ih (v + 1) n (by omega) (by omega)
      rw [fX3_runnerAt_L2, if_neg (show ¬ nI 60 ≤ nI v by rw [zl_le (by omega) (by omega)]; omega), if_pos z, zl_c (show v < 2 ^ 31 by omega), nI_add]
      by_cases a : t v = -1
      · rw [if_pos a]
        refine ⟨fun q => i1 (fun k hk hv => q k hk (by omega)), fun k hk hv e => i2 k hk ?_ e⟩
        have hne : ¬ s k = v := fun w => (h.1 k hk).2 (by rw [w]; exact a)
        omega
      · rw [if_neg a]
        obtain ⟨j, hj, ej⟩ := zSq_mem h (show v < 60 by omega) a
        have ei := c_idx hN h hj
        rw [ej] at ei
        rw [ei, Option.bind_some]
        by_cases b : nI j = x
        · rw [if_pos b]
          refine ⟨fun q => absurd b (q j hj (by omega)), fun k hk hv e => ?_⟩
          have hkj : k = j := by
            have e2 := e.trans b.symm
            rw [zl_eq (by omega) (by omega)] at e2
            exact e2
          rw [hkj, ej]
        · rw [if_neg b]
          refine ⟨fun q => i1 (fun k hk hv => q k hk (by omega)), fun k hk hv e => i2 k hk ?_ e⟩
          have hne : ¬ s k = v := fun w => b (by
            have : k = j := zSq_inj h hk hj (w.trans ej.symm)
            rw [← this]; exact e)
          omega
theorem g_placeL {c k : Nat} {t : Nat → Int32} (hc : c ≤ 60) (hk : k < c) : ∀ (d v n : Nat), v + d = c → d + 1 ≤ n → fX11_placeOf_L4 (nI c) t (nI k) (fun (v2_4 : Int32) (v3_4 : Int32) => some (v2_4)) n (nI (1 + zcb (fun j => decide (t j < t k)) v)) (nI v) = some (nI (1 + zcb (fun j => decide (t j < t k)) c)) := by
  intro d
  induction d with
  | zero =>
    intro v n h1 h2
    obtain rfl : v = c := by omega
    cases n with
    | zero => omega
    | succ n => rw [fX11_placeOf_L4, if_pos (show nI v ≤ nI v by rw [zl_le (by omega) (by omega)]; exact Nat.le_refl _)]
  | succ d ih =>
    intro v n h1 h2
    cases n with
    | zero => omega
    | succ n =>
      have e := ih (v + 1) n (by omega) (by omega)
      have z : zin (nI v) 60 := zin_k (by omega) (by omega)
      have z2 : zin (nI k) 60 := zin_k (by omega) (by omega)
      rw [fX11_placeOf_L4, if_neg (show ¬ nI c ≤ nI v by rw [zl_le (by omega) (by omega)]; omega), if_pos z, if_pos z2, zl_c (show v < 2 ^ 31 by omega), zl_c (show k < 2 ^ 31 by omega), nI_add, nI_add, nI_add]
      by_cases a : t k ≤ t v
      · have b : ¬ t v < t k := fun q => by
          have h1 := zq_le a
          have h2 := zq_lt q
          omega
        rw [zcb_f (show ¬ decide (t v < t k) = true by rw [decide_eq_false b]; decide)] at e
        rw [if_pos a, Nat.add_zero]
        exact e
      · have b : t v < t k := Int32.lt_iff_toInt_lt.mpr (zq_nle a)
        rw [zcb_t (show decide (t v < t k) = true from decide_eq_true b)] at e
        rw [if_neg a, show 1 + zcb (fun j => decide (t j < t k)) v + 1 = 1 + (zcb (fun j => decide (t j < t k)) v + 1) by omega]
        exact e
theorem g_place {N c k : Nat} {t tm : Nat → Int32} {s : Nat → Nat} (hN : 10000 ≤ N) (hc : c ≤ 60) (h : zSq tm 60 c s) (ht : ∀ k, k < c → t k = tm (s k)) (hk : k < c) : fX11_placeOf N (nI c) t (nI k) = some (nI (1 + zLo tm (tm (s k)))) := by
  have e := g_placeL (t := t) hc hk c 0 N (by omega) (by omega)
  rw [show zcb (fun j => decide (t j < t k)) 0 = 0 from rfl, Nat.add_zero] at e
  have e3 : zcb (fun r => zls tm r && decide (tm r < tm (s k))) 60 = zcb (fun j => decide (tm (s j) < tm (s k))) c := h.2.2 (fun r => decide (tm r < tm (s k)))
  have e2 : zLo tm (tm (s k)) = zcb (fun j => decide (t j < t k)) c := by
    unfold zLo
    rw [e3]
    exact zcb_congr c (fun j hj => by
      show decide (tm (s j) < tm (s k)) = decide (t j < t k)
      rw [ht j hj, ht k hk])
  unfold fX11_placeOf
  rw [e2]
  exact e
theorem g_prizL {N c : Nat} {t tm : Nat → Int32} {s : Nat → Nat} {PR : Int32} (hN : 10000 ≤ N) (hc : c ≤ 60) (h : zSq tm 60 c s) (ht : ∀ k, k < c → t k = tm (s k)) (K : Int32 → Int32 → Option (Int32 × Int32 × Int32 × Int32 × Int32 × Int32 × Int32 × Int32 × Int32 × (Nat → Int32) × (Nat → Int32))) : ∀ (d v n : Nat), v + d = c → d + 1 ≤ n → fX11_prizes_L23 N (nI c) PR t K n (nI (zcb (fun k => decide (¬ PR < nI (1 + zLo tm (tm (s k))))) v)) (nI v) = K (nI (zcb (fun k => decide (¬ PR < nI (1 + zLo tm (tm (s k))))) c)) (nI c) := by
  intro d
  induction d with
  | zero =>
    intro v n h1 h2
    obtain rfl : v = c := by omega
    cases n with
    | zero => omega
    | succ n => rw [fX11_prizes_L23, if_pos (show nI v ≤ nI v by rw [zl_le (by omega) (by omega)]; exact Nat.le_refl _)]
  | succ d ih =>
    intro v n h1 h2
    cases n with
    | zero => omega
    | succ n =>
      have e := ih (v + 1) n (by omega) (by omega)
      rw [fX11_prizes_L23, if_neg (show ¬ nI c ≤ nI v by rw [zl_le (by omega) (by omega)]; omega), g_place hN hc h ht (show v < c by omega), Option.bind_some, nI_add, nI_add, nI_add]
      by_cases a : PR < nI (1 + zLo tm (tm (s v)))
      · rw [zcb_f (show ¬ decide (¬ PR < nI (1 + zLo tm (tm (s v)))) = true by rw [decide_eq_false (fun q => q a)]; decide)] at e
        rw [if_pos a, Nat.add_zero]
        exact e
      · rw [zcb_t (show decide (¬ PR < nI (1 + zLo tm (tm (s v)))) = true from decide_eq_true a)] at e
        rw [if_neg a]
        exact e
theorem g_L16 {N c : Nat} {t tm o : Nat → Int32} {s : Nat → Nat} {x a1 a2 a3 a4 a6 pm : Int32} (hN : 10000 ≤ N) (hc : c ≤ 60) (h : zSq tm 60 c s) (hot : ∀ k, k < c → o k = nI (s k) ∧ t k = tm (s k)) (K : Int32 → Option (Int32 × Int32 × Int32 × Int32 × Int32 × Int32 × Int32 × Int32 × Int32 × (Nat → Int32) × (Nat → Int32))) : ∀ (d v n : Nat), v + d = c → d + 1 ≤ n →
    ((∀ k, k < c → v ≤ k → ¬ nI (s k) = x) → fX11_place_L16 N x a1 a2 a3 a4 (nI c) a6 pm o t K n (nI v) = K (nI c)) ∧
    (∀ k, k < c → v ≤ k → nI (s k) = x → fX11_place_L16 N x a1 a2 a3 a4 (nI c) a6 pm o t K n (nI v) = some (nI (1 + zLo tm (tm (s k))), a1, a2, a3, a4, nI c, a6, pm, nI 0, o, t)) := by
  intro d
  induction d with
  | zero =>
    intro v n h1 h2
    obtain rfl : v = c := by omega
    cases n with
    | zero => omega
    | succ n =>
      refine ⟨fun _ => ?_, fun k hk hv _ => by omega⟩
      rw [fX11_place_L16, if_pos (show nI v ≤ nI v by rw [zl_le (by omega) (by omega)]; exact Nat.le_refl _)]
  | succ d ih =>
    intro v n h1 h2
    cases n with
    | zero => omega
    | succ n =>
      have z : zin (nI v) 60 := zin_k (by omega) (by omega)
      obtain ⟨i1, i2⟩ := ih (v + 1) n (by omega) (by omega)
      rw [fX11_place_L16, if_neg (show ¬ nI c ≤ nI v by rw [zl_le (by omega) (by omega)]; omega), if_pos z, zl_c (show v < 2 ^ 31 by omega), (hot v (by omega)).1, nI_add, g_place hN hc h (fun k hk => (hot k hk).2) (show v < c by omega), Option.bind_some]
      by_cases b : nI (s v) = x
      · rw [if_pos b]
        refine ⟨fun q => absurd b (q v (by omega) (Nat.le_refl v)), fun k hk hv e => ?_⟩
        have e2 := e.trans b.symm
        have hs1 := (h.1 k hk).1
        have hs2 := (h.1 v (by omega)).1
        rw [zl_eq (by omega) (by omega)] at e2
        rw [e2]
      · rw [if_neg b]
        refine ⟨fun q => i1 (fun k hk hv => q k hk (by omega)), fun k hk hv e => i2 k hk ?_ e⟩
        have hne : ¬ k = v := fun w => b (by rw [← w]; exact e)
        omega
