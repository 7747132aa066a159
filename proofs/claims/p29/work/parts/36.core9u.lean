/-! lists: gathering on both sides -/
theorem q_tst {N M R r : Nat} {x tv : Int32} {ticks facts splits dropped waved struck torn now cuts : Nat → Int32} (hN : 10000 ≤ N) (h : zQr M R r ticks facts splits dropped waved struck torn now) (hcu : ∀ m, m < M → now (8 + 4 * m + 3) = cuts m) (e : fX11_timeFrom N now (nI r) x = some tv) (hn : ¬ tv = -1) : fX11_stateOf N now (nI r) = some (nI 2) := by
  obtain ⟨v, _, v2, _⟩ := q_state hN h hcu
  unfold fX11_timeFrom at e
  rw [v2, Option.bind_some] at e
  by_cases q : v = nI 2
  · rw [v2, q]
  · rw [if_neg q] at e
    exact absurd (Option.some.inj e).symm hn
theorem c_fill60 {x : Int32} : ∀ (n k : Nat) (p : Nat → Int32), k ≤ 60 → 61 ≤ n + k → ∃ p' : Nat → Int32, fJ7_fill_53178_L5 60 x (fun (v2_5 : Int32) (p1_l5 : Nat → Int32) => some (p1_l5)) n (nI k) p = some p' ∧ ∀ i, (k ≤ i ∧ i < 60 → p' i = x) ∧ (i < k → p' i = p i) := by
  intro n
  induction n with
  | zero => intro k p h1 h2; omega
  | succ n ih =>
    intro k p h1 h2
    rw [fJ7_fill_53178_L5]
    by_cases hk : k = 60
    · subst hk
      rw [if_pos (by rw [zl_le (by omega) (by omega)]; exact Nat.le_refl 60)]
      exact ⟨p, rfl, fun i => ⟨fun h => by omega, fun _ => rfl⟩⟩
    · rw [if_neg (by rw [zl_le (by omega) (by omega)]; omega), if_pos (zin_k (show k < 60 by omega) (by omega)), nI_add, zl_c (show k < 2 ^ 31 by omega)]
      obtain ⟨p', e, q⟩ := ih (k + 1) (upd p k x) (by omega) (by omega)
      refine ⟨p', e, fun i => ⟨fun h => ?_, fun h => ?_⟩⟩
      · by_cases hi : i = k
        · rw [(q i).2 (by omega), hi, zup_s]
        · exact (q i).1 (by omega)
      · rw [(q i).2 (by omega), zup_n (by omega)]
theorem c_gatherL {N M R L v : Nat} {ticks facts splits dropped waved struck torn now cuts nu pa si tvf : Nat → Int32} {ho : Nat → Bool} (hR : R ≤ 60) (hv : v = 110 ∨ v = 103)
    (hq : ∀ r, r < R → zQr M R r ticks facts splits dropped waved struck torn now)
    (hH : ∀ r, r < R → fX5_holdsFor N (nI L) nu pa si (nI R) facts (nI r) = some (ho r))
    (hS : ∀ r, r < R → fX4_timeSince N ticks (nI R) dropped facts splits struck waved (nI M) cuts (nI r) (if v = 103 then ticks (facts (6 * r + 5)).toNatClampNeg else zSt ticks facts splits r) = some (tvf r)) : ∀ (d i n : Nat) (t : Nat → Int32), i + d = R → d + 1 ≤ n → ∃ t', (∀ K, fX3_gather_L24 N ticks (nI R) dropped facts splits struck waved (nI M) cuts (nI L) (nI v) nu pa si K n (nI i) t = K (nI R) t') ∧ (∀ r, i ≤ r → r < R → t' r = if ho r = true then tvf r else t r) ∧ ∀ r, (r < i ∨ R ≤ r) → t' r = t r := by
  intro d
  induction d with
  | zero =>
    intro i n t h1 h2
    obtain rfl : i = R := by omega
    cases n with
    | zero => omega
    | succ n =>
      refine ⟨t, fun K => ?_, fun r a b => by omega, fun r _ => rfl⟩
      rw [fX3_gather_L24]
      unfold fX6_size
      rw [Option.bind_some, if_pos (show nI i ≤ nI i by rw [zl_le (by omega) (by omega)]; exact Nat.le_refl _)]
  | succ d ih =>
    intro i n t h1 h2
    cases n with
    | zero => omega
    | succ n =>
      have hi : i < R := by omega
      cases hb : ho i with
      | false =>
        obtain ⟨t', e, q1, q2⟩ := ih (i + 1) n t (by omega) (by omega)
        refine ⟨t', fun K => ?_, fun r a b => ?_, fun r a => q2 r (by omega)⟩
        · rw [fX3_gather_L24]
          unfold fX6_size
          rw [Option.bind_some, if_neg (show ¬ nI R ≤ nI i by rw [zl_le (by omega) (by omega)]; omega), if_neg (show ¬ nI 60 ≤ nI i by rw [zl_le (by omega) (by omega)]; omega), hH i hi, Option.bind_some, hb, if_pos zl_f0, nI_add]
          exact e K
        · by_cases hri : r = i
          · subst hri
            rw [q2 r (by omega), hb, if_neg (by decide)]
          · exact q1 r (by omega) b
      | true =>
        obtain ⟨t', e, q1, q2⟩ := ih (i + 1) n (upd t i (tvf i)) (by omega) (by omega)
        have hg := c_gunOfR (ticks := ticks) hR hi (hq i hi).2.2.2.1
        have hs := c_start (hq i hi)
        have hT := hS i hi
        refine ⟨t', fun K => ?_, fun r a b => ?_, fun r a => by rw [q2 r (by omega), zup_n (by omega)]⟩
        · rw [fX3_gather_L24]
          unfold fX6_size fX5_ordersByGunTime
          rw [Option.bind_some, if_neg (show ¬ nI R ≤ nI i by rw [zl_le (by omega) (by omega)]; omega), if_neg (show ¬ nI 60 ≤ nI i by rw [zl_le (by omega) (by omega)]; omega), hH i hi, Option.bind_some, hb, if_neg zl_t0]
          rcases hv with rfl | rfl
          · rw [if_neg (show ¬ (110 : Nat) = 103 by decide)] at hT
            rw [if_neg (show ¬ nI 110 = nI 103 by decide), Option.bind_some, if_pos zl_f0, hs, Option.bind_some, hT, Option.bind_some, if_pos (zin_k (show i < 60 by omega) (by omega)), zl_c (by omega), nI_add]
            exact e K
          · rw [if_pos (show (103 : Nat) = 103 from rfl)] at hT
            rw [if_pos (show nI 103 = nI 103 from rfl), Option.bind_some, if_neg zl_t0, hg, Option.bind_some, hT, Option.bind_some, if_pos (zin_k (show i < 60 by omega) (by omega)), zl_c (by omega), nI_add]
            exact e K
        · by_cases hri : r = i
          · subst hri
            rw [q2 r (by omega), zup_s, hb, if_pos rfl]
          · rw [q1 r (by omega) b, zup_n hri]
/-- the insertion: from the end down to the place behind all that aren't greater -/
theorem g_L80 {c : Nat} {x : Int32} {tm : Nat → Int32} {s : Nat → Nat} (hc : c < 60) : ∀ (v n : Nat) (o t : Nat → Int32), v ≤ c → v + 1 ≤ n → (∀ k, k < v → o k = nI (s k) ∧ t k = tm (s k)) → (∀ k, v < k → k ≤ c → o k = nI (s (k - 1)) ∧ t k = tm (s (k - 1))) → (∀ k, v ≤ k → k < c → x < tm (s k)) →
    ∃ w o' t', (∀ K, fX11_list_L80 x K n (nI v) o t = K (nI w) o' t') ∧ w ≤ c ∧ (∀ k, k < w → o' k = nI (s k) ∧ t' k = tm (s k)) ∧ (∀ k, w < k → k ≤ c → o' k = nI (s (k - 1)) ∧ t' k = tm (s (k - 1))) ∧ (∀ k, w ≤ k → k < c → x < tm (s k)) ∧ (w = 0 ∨ tm (s (w - 1)) ≤ x) := by
  intro v
  induction v with
  | zero =>
    intro n o t h1 h2 h3 h4 h5
    cases n with
    | zero => omega
    | succ n =>
      refine ⟨0, o, t, fun K => ?_, h1, h3, h4, h5, Or.inl rfl⟩
      rw [fX11_list_L80, if_pos (show nI 0 ≤ 0 by rw [p_zero]; decide)]
  | succ v ih =>
    intro n o t h1 h2 h3 h4 h5
    cases n with
    | zero => omega
    | succ n =>
      have z1 : zin (nI v) 60 := zin_k (by omega) (by omega)
      have z2 : zin (nI (v + 1)) 60 := zin_k (by omega) (by omega)
      have hs : nI (v + 1) - nI 1 = nI v := by rw [pk_sub (by omega), show v + 1 - 1 = v by omega]
      obtain ⟨hov, htv⟩ := h3 v (by omega)
      by_cases q : tm (s v) ≤ x
      · refine ⟨v + 1, o, t, fun K => ?_, h1, h3, h4, h5, Or.inr (by rw [show v + 1 - 1 = v by omega]; exact q)⟩
        rw [fX11_list_L80, if_neg (nI_nle (by omega) (by omega)), hs, if_pos z1, if_pos (show t (nI v).toNatClampNeg ≤ x by rw [zl_c (show v < 2 ^ 31 by omega), htv]; exact q)]
      · have hx : x < tm (s v) := Int32.lt_iff_toInt_lt.mpr (zq_nle q)
        obtain ⟨w, o', t', e, r1, r2, r3, r4, r5⟩ := ih n (upd o (v + 1) (o v)) (upd t (v + 1) (t v)) (by omega) (by omega) (fun k hk => by
            rw [zup_n (by omega), zup_n (by omega)]
            exact h3 k (by omega)) (fun k a b => by
            by_cases hkv : k = v + 1
            · subst hkv
              rw [zup_s, zup_s, show v + 1 - 1 = v by omega]
              exact ⟨hov, htv⟩
            · rw [zup_n hkv, zup_n hkv]
              exact h4 k (by omega) b) (fun k a b => by
            by_cases hkv : k = v
            · rw [hkv]; exact hx
            · exact h5 k (by omega) b)
        refine ⟨w, o', t', fun K => ?_, r1, r2, r3, r4, r5⟩
        rw [fX11_list_L80, if_neg (nI_nle (by omega) (by omega)), hs, if_pos z1, if_neg (show ¬ t (nI v).toNatClampNeg ≤ x by rw [zl_c (show v < 2 ^ 31 by omega), htv]; exact q), if_pos z1, if_pos z2, if_pos z1, if_pos z2, zl_c (show v < 2 ^ 31 by omega), zl_c (show v + 1 < 2 ^ 31 by omega), pk_m1]
        exact e K
/-- the reference's list, runner by runner -/
theorem g_L23 {N n R : Nat} {now text tvf tm : Nat → Int32} {ho : Nat → Bool} {g PR : Int32} (hN : 10000 ≤ N) (hR : R ≤ 60) (n1 : now 1 = nI R)
    (hread : ∀ r, r < R → ∀ as at_ by_ fa op pm, ∃ a1 o1, fX11_read N as at_ by_ fa (nI n) op pm now text (nI r) = some (ho r, nI r, a1, g, -1, o1, PR))
    (htime : ∀ r, r < R → fX11_timeOf N now (nI r) g = some (tvf r)) (hstv : ∀ r, r < R → ∃ v, fX11_stateOf N now (nI r) = some v) (hst : ∀ r, r < R → ¬ tvf r = -1 → fX11_stateOf N now (nI r) = some (nI 2))
    (htm : ∀ r, r < R → tm r = if ho r = true then tvf r else -1) : ∀ (d i m c : Nat) (at_ fa op as by_ pm : Int32) (o t : Nat → Int32) (s : Nat → Nat), i + d = R → d + 1 ≤ m → zSq tm i c s → (∀ k, k < c → o k = nI (s k) ∧ t k = tm (s k)) → (c = 0 ∨ pm = PR) →
    ∃ (at' fa' op' as' by' pm' : Int32) (c' : Nat) (o' t' : Nat → Int32) (s' : Nat → Nat), (∀ K, fX11_list_L23 N (nI n) now text K m (nI i) at_ fa op as by_ pm (nI c) o t = K (nI R) at' fa' op' as' by' pm' (nI c') o' t') ∧ zSq tm R c' s' ∧ (∀ k, k < c' → o' k = nI (s' k) ∧ t' k = tm (s' k)) ∧ (c' = 0 ∨ pm' = PR) := by
  intro d
  induction d with
  | zero =>
    intro i m c at_ fa op as by_ pm o t s h1 h2 h3 h4 h5
    obtain rfl : i = R := by omega
    cases m with
    | zero => omega
    | succ m =>
      refine ⟨at_, fa, op, as, by_, pm, c, o, t, s, fun K => ?_, h3, h4, h5⟩
      rw [fX11_list_L23, g_runners, Option.bind_some, n1, if_pos (show nI i ≤ nI i by rw [zl_le (by omega) (by omega)]; exact Nat.le_refl _)]
  | succ d ih =>
    intro i m c at_ fa op as by_ pm o t s h1 h2 h3 h4 h5
    cases m with
    | zero => omega
    | succ m =>
      have hi : i < R := by omega
      have hc : c ≤ i := by
        have e := h3.2.2 (fun _ => true)
        have a := zcb_le (d := fun r => zls tm r && true) i
        have b := zcb_congr (d := fun k : Nat => true) (d' := fun j => decide (j < c)) c (fun k hk => by
          show true = decide (k < c)
          rw [decide_eq_true hk])
        rw [zcb_below c (Nat.le_refl c)] at b
        rw [e] at a
        have b2 : zcb (fun k => (fun _ => true) (s k)) c = c := b
        omega
      obtain ⟨v, hv⟩ := hstv i hi
      by_cases q : v = nI 2
      · obtain ⟨a1, o1, er⟩ := hread i hi as at_ by_ fa op pm
        cases hb : ho i with
        | false =>
          have ht : tm i = -1 := by rw [htm i hi, hb, if_neg (by decide)]
          obtain ⟨at', fa', op', as', by', pm', c', o', t', s', e, z1, z2, z3⟩ := ih (i + 1) m c a1 (-1) o1 (nI i) g PR o t s (by omega) (by omega) (zSq_skip h3 ht) h4 (Or.inr rfl)
          refine ⟨at', fa', op', as', by', pm', c', o', t', s', fun K => ?_, z1, z2, z3⟩
          rw [fX11_list_L23, g_runners, Option.bind_some, n1, if_neg (show ¬ nI R ≤ nI i by rw [zl_le (by omega) (by omega)]; omega), hv, Option.bind_some, if_pos q, er, Option.bind_some]
          dsimp only
          rw [hb, if_pos zl_f0, nI_add]
          exact e K
        | true =>
          have ht : tm i = tvf i := by rw [htm i hi, hb, if_pos rfl]
          by_cases q2 : tvf i = -1
          · obtain ⟨at', fa', op', as', by', pm', c', o', t', s', e, z1, z2, z3⟩ := ih (i + 1) m c a1 (-1) o1 (nI i) g PR o t s (by omega) (by omega) (zSq_skip h3 (ht.trans q2)) h4 (Or.inr rfl)
            refine ⟨at', fa', op', as', by', pm', c', o', t', s', fun K => ?_, z1, z2, z3⟩
            rw [fX11_list_L23, g_runners, Option.bind_some, n1, if_neg (show ¬ nI R ≤ nI i by rw [zl_le (by omega) (by omega)]; omega), hv, Option.bind_some, if_pos q, er, Option.bind_some]
            dsimp only
            rw [hb, if_neg zl_t0, htime i hi, Option.bind_some, if_pos q2, nI_add]
            exact e K
          · obtain ⟨w, o1', t1', eL, w1, w2, w3, w4, w5⟩ := g_L80 (x := tvf i) (tm := tm) (s := s) (show c < 60 by omega) c N o t (Nat.le_refl c) (by omega) h4 (fun k a b => by omega) (fun k a b => by omega)
            have hlo : ∀ k, k < w → tm (s k) ≤ tm i := by
              intro k hk
              rw [ht]
              rcases w5 with w5 | w5
              · omega
              · by_cases hkw : k = w - 1
                · rw [hkw]; exact w5
                · have a := zq_le w5
                  rcases h3.2.1 k (w - 1) (by omega) (by omega) with b | ⟨b, _⟩
                  · have b2 := zq_lt b
                    exact Int32.le_iff_toInt_le.mpr (by omega)
                  · rw [b]; exact w5
            have hz := zSq_ins h3 (by rw [ht]; exact q2) w1 hlo (fun k a b => by rw [ht]; exact w4 k a b)
            have harr : ∀ k, k < c + 1 → upd o1' w (nI i) k = nI (zins s w i k) ∧ upd t1' w (tvf i) k = tm (zins s w i k) := by
              intro k hk
              rcases Nat.lt_trichotomy k w with f | f | f
              · rw [zup_n (by omega), zup_n (by omega), zins_lt f]
                exact w2 k f
              · rw [f, zup_s, zup_s, zins_eq, ht]
                exact ⟨rfl, rfl⟩
              · rw [zup_n (by omega), zup_n (by omega), zins_gt f]
                exact w3 k f (by omega)
            obtain ⟨at', fa', op', as', by', pm', c', o', t', s', e, z1, z2, z3⟩ := ih (i + 1) m (c + 1) a1 (-1) o1 (nI i) g PR (upd o1' w (nI i)) (upd t1' w (tvf i)) (zins s w i) (by omega) (by omega) hz harr (Or.inr rfl)
            refine ⟨at', fa', op', as', by', pm', c', o', t', s', fun K => ?_, z1, z2, z3⟩
            have zw : zin (nI w) 60 := zin_k (by omega) (by omega)
            rw [fX11_list_L23, g_runners, Option.bind_some, n1, if_neg (show ¬ nI R ≤ nI i by rw [zl_le (by omega) (by omega)]; omega), hv, Option.bind_some, if_pos q, er, Option.bind_some]
            dsimp only
            rw [hb, if_neg zl_t0, htime i hi, Option.bind_some, if_neg q2, Option.bind_some, eL, if_pos zw, if_pos zw, zl_c (show w < 2 ^ 31 by omega), nI_add, nI_add]
            exact e K
      · have ht : tm i = -1 := by
          rw [htm i hi]
          cases hb : ho i with
          | false => rw [if_neg (by decide)]
          | true =>
            rw [if_pos rfl]
            by_cases q2 : tvf i = -1
            · exact q2
            · have := hst i hi q2
              rw [hv] at this
              exact absurd (Option.some.inj this) q
        obtain ⟨at', fa', op', as', by', pm', c', o', t', s', e, z1, z2, z3⟩ := ih (i + 1) m c at_ fa op as by_ pm o t s (by omega) (by omega) (zSq_skip h3 ht) h4 h5
        refine ⟨at', fa', op', as', by', pm', c', o', t', s', fun K => ?_, z1, z2, z3⟩
        rw [fX11_list_L23, g_runners, Option.bind_some, n1, if_neg (show ¬ nI R ≤ nI i by rw [zl_le (by omega) (by omega)]; omega), hv, Option.bind_some, if_neg q, nI_add]
        exact e K
