/-! guess: the trail of one runner -/
theorem znm {i : Nat} : nI i + (-1) = nI i - nI 1 := by
  have e : -(nI 1) = (-1 : Int32) := by decide
  rw [Int32.sub_eq_add_neg, e]
theorem g_madeUp {a b : Nat} (ha : a ≤ 100000) (hb : b ≤ 2000) : fX11_madeUp (nI a) (nI b) = some ((nI a * nI b + nI 999) / nI 1000) := by
  have hz : a * b ≤ 100000 * 2000 := Nat.mul_le_mul ha hb
  have e1 := zq_k a (by omega)
  have e2 := zq_k b (by omega)
  unfold fX11_madeUp
  refine congrArg some (Int32.toInt_inj.mp ?_)
  have k : (1000 : Int64).toInt = 1000 := rfl
  have k9 : (999 : Int64).toInt = 999 := rfl
  have c1 : (a : Int) * (b : Int) = ((a * b : Nat) : Int) := (Int.natCast_mul a b).symm
  rw [Int64.toInt_toInt32, Int64.toInt_div, Int64.toInt_add, Int64.toInt_mul, Int32.toInt_toInt64, Int32.toInt_toInt64, e1, e2, pk_mul, nI_add, pk_div (by omega) (by omega) (by omega), zq_k _ (by omega), k, k9, c1]
  generalize a * b = z at hz ⊢
  rw [Int.bmod_eq_of_le (n := (z : Int)) (by omega) (by omega), Int.bmod_eq_of_le (n := (z : Int) + 999) (by omega) (by omega), Int.tdiv_eq_ediv_of_nonneg (by omega)]
  rw [Int.bmod_eq_of_le (n := ((z : Int) + 999) / 1000) (m := 2 ^ 64) (by omega) (by omega), Int.bmod_eq_of_le (by omega) (by omega)]
  omega
/-- the trail's rows, as follow lays them -/
def zTr (M : Nat) (f places pl tk : Nat → Int32) : Prop := ∀ j, j < M → pl j = places j ∧ tk j = f j
theorem c_tick8 {M i : Nat} {f places pl tk : Nat → Int32} (hM : M ≤ 12) (h : zTr M f places pl tk) (hi : i < M) : fX8_tickAt (nI M) tk (nI i) = some (f i) := by
  unfold fX8_tickAt
  rw [if_neg (nI_pos (by omega)), if_neg (by rw [zl_le (by omega) (by omega)]; omega), if_neg (by rw [zl_le (by omega) (by omega)]; omega), if_pos (zin_k (by omega) (by omega)), zl_c (by omega), (h i hi).2]
theorem c_place8 {M i : Nat} {f places pl tk : Nat → Int32} (hM : M ≤ 12) (h : zTr M f places pl tk) (hi : i < M) : fX8_placeAt (nI M) pl (nI i) = some (places i) := by
  unfold fX8_placeAt
  rw [if_neg (nI_pos (by omega)), if_neg (by rw [zl_le (by omega) (by omega)]; omega), if_neg (by rw [zl_le (by omega) (by omega)]; omega), if_pos (zin_k (by omega) (by omega)), zl_c (by omega), (h i hi).1]
theorem c_isSeen8 {M i : Nat} {f places pl tk : Nat → Int32} (hM : M ≤ 12) (h : zTr M f places pl tk) (hi : i < M) : fX8_isSeen (nI M) tk (nI i) = some (decide (¬ f i = -1)) := by
  unfold fX8_isSeen
  rw [c_tick8 hM h hi, Option.bind_some]
  by_cases q : f i = -1
  · rw [if_pos q, decide_eq_false (fun z => z q)]
  · rw [if_neg q, decide_eq_true q]
theorem zLa_c {f : Nat → Int32} : ∀ (i : Nat), zLa f i = -1 ∨ ∃ a : Nat, a < i ∧ zLa f i = nI a ∧ ¬ f a = -1
  | 0 => Or.inl rfl
  | i + 1 => by
    have u : zLa f (i + 1) = if f i = -1 then zLa f i else nI i := rfl
    rw [u]
    by_cases q : f i = -1
    · rw [if_pos q]
      rcases zLa_c (f := f) i with h | ⟨a, h1, h2, h3⟩
      · exact Or.inl h
      · exact Or.inr ⟨a, by omega, h2, h3⟩
    · rw [if_neg q]
      exact Or.inr ⟨i, by omega, rfl, q⟩
theorem c_aheadL {M : Nat} {f places pl tk : Nat → Int32} (hM : M ≤ 12) (h : zTr M f places pl tk) : ∀ (i n : Nat), i ≤ M → i + 1 ≤ n → fX8_seenAhead_L4 (nI M) tk (fun (v2_4 : Int32) => some ((-1 : Int32))) n (nI i - nI 1) = some (zLa f i) := by
  intro i
  induction i with
  | zero =>
    intro n h1 h2
    cases n with
    | zero => omega
    | succ n =>
      have e : nI 0 - nI 1 = -1 := by decide
      rw [e, fX8_seenAhead_L4, if_pos (of_eq_true zl_m1)]
      rfl
  | succ i ih =>
    intro n h1 h2
    cases n with
    | zero => omega
    | succ n =>
      have u : zLa f (i + 1) = if f i = -1 then zLa f i else nI i := rfl
      rw [pk_sub (by omega), show i + 1 - 1 = i by omega, fX8_seenAhead_L4, if_neg (nI_pos (by omega)), c_isSeen8 hM h (by omega), Option.bind_some, u]
      by_cases q : f i = -1
      · rw [decide_eq_false (fun z => z q), if_pos zl_f0, if_pos q, znm]
        exact ih n (by omega) (by omega)
      · rw [decide_eq_true q, if_neg zl_t0, if_neg q]
theorem c_ahead {N M i : Nat} {f places pl tk : Nat → Int32} (hN : 10000 ≤ N) (hM : M ≤ 12) (h : zTr M f places pl tk) (hi : i ≤ M) : fX8_seenAhead N (nI M) tk (nI i) = some (zLa f i) := by
  unfold fX8_seenAhead
  exact c_aheadL hM h i N hi (by omega)
theorem g_L22 {M R r : Nat} {ticks facts splits dropped waved struck torn now : Nat → Int32} (h : zQr M R r ticks facts splits dropped waved struck torn now) : ∀ (i n : Nat), i ≤ 12 → i + 1 ≤ n → ∀ K, fX11_guessOf_L22 now (nI r) K n (nI i - nI 1) = K (zLa (zSeen ticks facts splits r) i) := by
  intro i
  induction i with
  | zero =>
    intro n h1 h2 K
    cases n with
    | zero => omega
    | succ n =>
      have e : nI 0 - nI 1 = -1 := by decide
      rw [e, fX11_guessOf_L22, if_pos (of_eq_true zl_m1)]
      rfl
  | succ i ih =>
    intro n h1 h2 K
    cases n with
    | zero => omega
    | succ n =>
      have u : zLa (zSeen ticks facts splits r) (i + 1) = if zSeen ticks facts splits r i = -1 then zLa (zSeen ticks facts splits r) i else nI i := rfl
      rw [pk_sub (by omega), show i + 1 - 1 = i by omega, fX11_guessOf_L22, if_neg (nI_pos (by omega)), g_seen h (by omega), Option.bind_some, u]
      by_cases q : zSeen ticks facts splits r i = -1
      · rw [if_pos q, if_pos q, znm]
        exact ih n (by omega) (by omega) K
      · rw [if_neg q, if_neg q]
theorem c_behindL {M : Nat} {f places pl tk : Nat → Int32} (hM : M ≤ 12) (h : zTr M f places pl tk) : ∀ (d i n : Nat), i + d = M → d + 1 ≤ n → (∃ m, i ≤ m ∧ m < M ∧ ¬ f m = -1 ∧ (∀ j, i ≤ j → j < m → f j = -1) ∧ fX8_seenBehind_L4 (nI M) tk (fun (v2_4 : Int32) => some ((-1 : Int32))) n (nI i) = some (nI m)) ∨ ((∀ j, i ≤ j → j < M → f j = -1) ∧ fX8_seenBehind_L4 (nI M) tk (fun (v2_4 : Int32) => some ((-1 : Int32))) n (nI i) = some (-1)) := by
  intro d
  induction d with
  | zero =>
    intro i n h1 h2
    obtain rfl : i = M := by omega
    cases n with
    | zero => omega
    | succ n =>
      refine Or.inr ⟨fun j a b => by omega, ?_⟩
      rw [fX8_seenBehind_L4, if_pos (by rw [zl_le (by omega) (by omega)]; exact Nat.le_refl _)]
  | succ d ih =>
    intro i n h1 h2
    cases n with
    | zero => omega
    | succ n =>
      have hi : i < M := by omega
      rw [fX8_seenBehind_L4, if_neg (by rw [zl_le (by omega) (by omega)]; omega), c_isSeen8 hM h hi, Option.bind_some, nI_add]
      by_cases q : f i = -1
      · rw [decide_eq_false (fun z => z q), if_pos zl_f0]
        rcases ih (i + 1) n (by omega) (by omega) with ⟨m, m1, m2, m3, m4, m5⟩ | ⟨m1, m2⟩
        · refine Or.inl ⟨m, by omega, m2, m3, fun j a b => ?_, m5⟩
          by_cases hji : j = i
          · rw [hji]; exact q
          · exact m4 j (by omega) b
        · refine Or.inr ⟨fun j a b => ?_, m2⟩
          by_cases hji : j = i
          · rw [hji]; exact q
          · exact m1 j (by omega) b
      · rw [decide_eq_true q, if_neg zl_t0]
        exact Or.inl ⟨i, Nat.le_refl i, hi, q, fun j a b => by omega, rfl⟩
theorem g_L56 {M R r : Nat} {ticks facts splits dropped waved struck torn now : Nat → Int32} (h : zQr M R r ticks facts splits dropped waved struck torn now) : ∀ (d i n : Nat), i + d = M → d + 1 ≤ n → (∀ m, i ≤ m → m < M → ¬ zSeen ticks facts splits r m = -1 → (∀ j, i ≤ j → j < m → zSeen ticks facts splits r j = -1) → ∀ K, fX11_guessOf_L56 now (nI r) K n (nI i) = K (nI m)) ∧ ((∀ j, i ≤ j → j < M → zSeen ticks facts splits r j = -1) → ∀ K, fX11_guessOf_L56 now (nI r) K n (nI i) = K (nI M)) := by
  intro d
  obtain ⟨⟨_, hM, hR, hr, n0, _⟩, _⟩ := id h
  induction d with
  | zero =>
    intro i n h1 h2
    obtain rfl : i = M := by omega
    cases n with
    | zero => omega
    | succ n =>
      refine ⟨fun m a b => by omega, fun _ K => ?_⟩
      rw [fX11_guessOf_L56, g_mats, Option.bind_some, n0, if_pos (by rw [zl_le (by omega) (by omega)]; exact Nat.le_refl _)]
  | succ d ih =>
    intro i n h1 h2
    cases n with
    | zero => omega
    | succ n =>
      have hi : i < M := by omega
      obtain ⟨i1, i2⟩ := ih (i + 1) n (by omega) (by omega)
      refine ⟨fun m m1 m2 m3 m4 K => ?_, fun hall K => ?_⟩
      · rw [fX11_guessOf_L56, g_mats, Option.bind_some, n0, if_neg (by rw [zl_le (by omega) (by omega)]; omega), g_seen h (by omega), Option.bind_some, nI_add]
        by_cases hmi : m = i
        · subst hmi
          rw [if_neg m3]
        · rw [if_pos (m4 i (Nat.le_refl i) (by omega))]
          exact i1 m (by omega) m2 m3 (fun j a b => m4 j (by omega) b) K
      · rw [fX11_guessOf_L56, g_mats, Option.bind_some, n0, if_neg (by rw [zl_le (by omega) (by omega)]; omega), g_seen h (by omega), Option.bind_some, nI_add, if_pos (hall i (Nat.le_refl i) hi)]
        exact i2 (fun j a b => hall j (by omega) b) K
theorem zlim {k : Nat} (hk : k ≤ 3) : fX10_leastLimit (nI k) = some (zfL k) ∧ fX10_greatestLimit (nI k) = some (zfG k) ∧ (∃ a : Nat, a ≤ 2000 ∧ zfL k = nI a) ∧ ∃ a : Nat, a ≤ 2000 ∧ zfG k = nI a := by
  have h : k = 0 ∨ k = 1 ∨ k = 2 ∨ k = 3 := by omega
  rcases h with rfl | rfl | rfl | rfl
  · exact ⟨by decide, by decide, ⟨150, by omega, by decide⟩, ⟨900, by omega, by decide⟩⟩
  · exact ⟨by decide, by decide, ⟨150, by omega, by decide⟩, ⟨900, by omega, by decide⟩⟩
  · exact ⟨by decide, by decide, ⟨80, by omega, by decide⟩, ⟨900, by omega, by decide⟩⟩
  · exact ⟨by decide, by decide, ⟨300, by omega, by decide⟩, ⟨1500, by omega, by decide⟩⟩
theorem c_followL {M R r : Nat} {ticks facts splits dropped waved struck torn now places : Nat → Int32} (h : zQr M R r ticks facts splits dropped waved struck torn now) : ∀ (d i n : Nat) (pl tk : Nat → Int32), i + d = M → d + 1 ≤ n → ∃ pl' tk', (∀ K, fX8_follow_L40 ticks (nI R) facts splits (nI M) places (nI r) (nI M) K n (nI i) pl tk = K (nI M) pl' tk') ∧ (∀ j, i ≤ j → j < M → pl' j = places j ∧ tk' j = zSeen ticks facts splits r j) ∧ ∀ j, j < i → pl' j = pl j ∧ tk' j = tk j := by
  intro d
  obtain ⟨⟨_, hM, hR, hr, n0, _⟩, _⟩ := id h
  induction d with
  | zero =>
    intro i n pl tk h1 h2
    obtain rfl : i = M := by omega
    cases n with
    | zero => omega
    | succ n =>
      refine ⟨pl, tk, fun K => ?_, fun j a b => by omega, fun j _ => ⟨rfl, rfl⟩⟩
      rw [fX8_follow_L40, if_pos (by rw [zl_le (by omega) (by omega)]; exact Nat.le_refl _)]
  | succ d ih =>
    intro i n pl tk h1 h2
    cases n with
    | zero => omega
    | succ n =>
      have hi : i < M := by omega
      obtain ⟨pl', tk', e, q1, q2⟩ := ih (i + 1) n (upd pl i (places i)) (upd tk i (zSeen ticks facts splits r i)) (by omega) (by omega)
      refine ⟨pl', tk', fun K => ?_, fun j a b => ?_, fun j a => ?_⟩
      · rw [fX8_follow_L40, if_neg (by rw [zl_le (by omega) (by omega)]; omega), if_neg (by rw [zl_le (by omega) (by omega)]; omega)]
        by_cases hi0 : i = 0
        · subst hi0
          have e0 := e K
          unfold zSeen at e0
          rw [if_pos rfl] at e0
          rw [if_pos p_zero, c_start h, Option.bind_some, if_pos (zin_k (by omega) (by omega)), c_placeAt hM hi, Option.bind_some, if_pos (zin_k (by omega) (by omega)), zl_c (by omega), nI_add]
          exact e0
        · have e0 := e K
          unfold zSeen at e0
          rw [if_neg hi0] at e0
          rw [if_neg (nI_ne0 (by omega) (by omega)), c_splitAt hR hr (by omega), Option.bind_some, if_pos (zin_k (by omega) (by omega)), c_placeAt hM hi, Option.bind_some, if_pos (zin_k (by omega) (by omega)), zl_c (by omega), nI_add]
          exact e0
      · by_cases hji : j = i
        · subst hji
          rw [(q2 j (by omega)).1, (q2 j (by omega)).2, zup_s, zup_s]
          exact ⟨rfl, rfl⟩
        · exact q1 j (by omega) b
      · rw [(q2 j (by omega)).1, (q2 j (by omega)).2, zup_n (by omega), zup_n (by omega)]
        exact ⟨rfl, rfl⟩
theorem c_follow {N M R r k : Nat} {g l m : Int32} {ticks facts splits dropped waved struck torn now places pl tk : Nat → Int32} (hN : 10000 ≤ N) (h : zQr M R r ticks facts splits dropped waved struck torn now) (hk : k ≤ 3) (ek : facts (6 * r + 0) = nI k) : ∃ pl' tk', fX8_follow N g l m pl tk ticks (nI R) facts splits (nI M) places (nI r) = some (zfG k, zfL k, nI M, pl', tk') ∧ zTr M (zSeen ticks facts splits r) places pl' tk' := by
  obtain ⟨⟨_, hM, hR, hr, n0, _⟩, _⟩ := id h
  obtain ⟨pl', tk', e, q1, _⟩ := c_followL (places := places) h M 0 N pl tk (by omega) (by omega)
  refine ⟨pl', tk', ?_, fun j hj => q1 j (Nat.zero_le j) hj⟩
  unfold fX8_follow fX9_size
  rw [c_factOf hR hr (by omega), Option.bind_some, ek, (zlim hk).1, (zlim hk).2.1, Option.bind_some, Option.bind_some, Option.bind_some]
  exact e _
theorem zmx {v : Int32} : (if v < nI 0 then nI 0 else v) = (if nI 0 < v then v else nI 0) := by
  by_cases a : v < nI 0
  · have b : ¬ nI 0 < v := fun q => by
      have h1 := zq_lt a
      have h2 := zq_lt q
      omega
    rw [if_pos a, if_neg b]
  · rw [if_neg a]
    by_cases b : nI 0 < v
    · rw [if_pos b]
    · rw [if_neg b]
      have h1 := zq_nlt a
      have h2 := zq_nlt b
      exact Int32.toInt_inj.mp (by omega)
theorem q_least {N M R r k x : Nat} {y : Int32} {ticks facts splits dropped waved struck torn now places pl tk : Nat → Int32} (hN : 10000 ≤ N) (h : zQr M R r ticks facts splits dropped waved struck torn now) (hk : k ≤ 3) (ek : facts (6 * r + 0) = nI k) (htr : zTr M (zSeen ticks facts splits r) places pl tk) (hpm : ∀ m, m < M → now (8 + 4 * m + 0) = places m) (hpl : ∀ a b, a < b → b < M → ∃ n : Nat, n ≤ 100000 ∧ places b - places a = nI n) (hx : x < M) (hy : y = 0) : ∃ v, fX8_leastGuess N (zfG k) (zfL k) (nI M) pl tk (nI x) = some v ∧ fX11_guessOf N now (nI r) (nI x) y = some v := by
  obtain ⟨⟨_, hM, hR, hr, n0, _⟩, _, hfa, _⟩ := id h
  obtain ⟨_, _, ⟨la, hl1, el⟩, ⟨ga, hg1, eg⟩⟩ := zlim hk
  have hof : fX11_of now (nI r) (nI 0) = some (nI k) := by
    rw [g_of (by omega) (by omega)]
    exact congrArg some ((hfa 0 (by omega)).trans ek)
  have hmat : ∀ m, m < M → fX11_ofMat now (nI m) (nI 0) = some (places m) := fun m hm => by
    rw [g_ofMat (by omega) (by omega), hpm m hm]
  have hz4 : zin (nI k) 4 := zin_k (by omega) (by omega)
  unfold fX8_leastGuess fX11_guessOf
  rw [el, eg, c_ahead hN hM htr (by omega), Option.bind_some, c_isSeen8 hM htr hx, Option.bind_some, g_seen h (by omega), Option.bind_some]
  by_cases q : zSeen ticks facts splits r x = -1
  case neg =>
    rw [decide_eq_true q, if_neg zl_t0, if_neg q, c_tick8 hM htr hx, Option.bind_some]
    exact ⟨_, rfl, rfl⟩
  rw [decide_eq_false (fun z => z q), if_pos zl_f0, if_pos q, g_L22 h x N (by omega) (by omega)]
  rcases zLa_c (f := zSeen ticks facts splits r) x with ha | ⟨a, ha1, ha2, ha3⟩
  · rw [if_pos ha, ha, if_neg (show ¬ (0 : Int32) ≤ -1 by decide), c_tick8 hM htr hx, Option.bind_some, q]
    exact ⟨_, rfl, rfl⟩
  obtain ⟨n1, hn1, en1⟩ := hpl a x ha1 hx
  have haM : a < M := by omega
  rw [ha2, if_neg (nm1 (by omega)), if_pos (nI_pos' (by omega)), c_tick8 hM htr haM, Option.bind_some]
  unfold fX8_quickest fX8_slowest fX8_seenBehind fX10_secondsUp fX10_secondsCut
  rw [c_place8 hM htr hx, Option.bind_some, c_place8 hM htr haM, Option.bind_some, Option.bind_some, Option.bind_some, nI_add x 1]
  obtain ⟨b1, b2⟩ := g_L56 h (M - (x + 1)) (x + 1) N (by omega) (by omega)
  rcases c_behindL hM htr (M - (x + 1)) (x + 1) N (by omega) (by omega) with ⟨m, m1, m2, m3, m4, m5⟩ | ⟨m1, m2⟩
  · obtain ⟨n2, hn2, en2⟩ := hpl x m (by omega) m2
    rw [m5, Option.bind_some, if_neg (nm1 (by omega)), c_tick8 hM htr m2, Option.bind_some, c_place8 hM htr m2, Option.bind_some, Option.bind_some, Option.bind_some, Option.bind_some, zmx]
    rw [b1 m m1 m2 m3 m4, hof, Option.bind_some, if_pos hz4, Option.bind_some, if_pos hz4, hmat x hx, Option.bind_some, hmat a haM, Option.bind_some, g_seen h (by omega), Option.bind_some, if_pos hy, zl_c (show k < 2 ^ 31 by omega), en1, el, g_madeUp hn1 hl1, Option.bind_some]
    unfold fX11_guessOf_J150 fX11_guessOf_J232
    rw [g_mats, Option.bind_some, n0, if_neg (show ¬ nI M ≤ nI m by rw [zl_le (by omega) (by omega)]; omega), hmat m m2, Option.bind_some, hmat x hx, Option.bind_some, g_seen h (by omega), Option.bind_some, if_pos hy, zl_c (show k < 2 ^ 31 by omega), en2, eg, g_made hn2 hg1, Option.bind_some, if_pos hy]
    exact ⟨_, rfl, rfl⟩
  · rw [m2, Option.bind_some, if_pos rfl, zmx]
    rw [b2 m1, hof, Option.bind_some, if_pos hz4, Option.bind_some, if_pos hz4, hmat x hx, Option.bind_some, hmat a haM, Option.bind_some, g_seen h (by omega), Option.bind_some, if_pos hy, zl_c (show k < 2 ^ 31 by omega), en1, el, g_madeUp hn1 hl1, Option.bind_some]
    unfold fX11_guessOf_J150 fX11_guessOf_J232
    rw [g_mats, Option.bind_some, n0, if_pos (show nI M ≤ nI M by rw [zl_le (by omega) (by omega)]; exact Nat.le_refl _)]
    exact ⟨_, rfl, rfl⟩
theorem q_greatest {N M R r k x : Nat} {y : Int32} {ticks facts splits dropped waved struck torn now places pl tk : Nat → Int32} (hN : 10000 ≤ N) (h : zQr M R r ticks facts splits dropped waved struck torn now) (hk : k ≤ 3) (ek : facts (6 * r + 0) = nI k) (htr : zTr M (zSeen ticks facts splits r) places pl tk) (hpm : ∀ m, m < M → now (8 + 4 * m + 0) = places m) (hpl : ∀ a b, a < b → b < M → ∃ n : Nat, n ≤ 100000 ∧ places b - places a = nI n) (hx : x < M) (hy : ¬ y = 0) : ∃ v, fX8_greatestGuess N (zfG k) (zfL k) (nI M) pl tk (nI x) = some v ∧ fX11_guessOf N now (nI r) (nI x) y = some v := by
  obtain ⟨⟨_, hM, hR, hr, n0, _⟩, _, hfa, _⟩ := id h
  obtain ⟨_, _, ⟨la, hl1, el⟩, ⟨ga, hg1, eg⟩⟩ := zlim hk
  have hof : fX11_of now (nI r) (nI 0) = some (nI k) := by
    rw [g_of (by omega) (by omega)]
    exact congrArg some ((hfa 0 (by omega)).trans ek)
  have hmat : ∀ m, m < M → fX11_ofMat now (nI m) (nI 0) = some (places m) := fun m hm => by
    rw [g_ofMat (by omega) (by omega), hpm m hm]
  have hz4 : zin (nI k) 4 := zin_k (by omega) (by omega)
  unfold fX8_greatestGuess fX11_guessOf
  rw [el, eg, c_ahead hN hM htr (by omega), Option.bind_some, c_isSeen8 hM htr hx, Option.bind_some, g_seen h (by omega), Option.bind_some]
  by_cases q : zSeen ticks facts splits r x = -1
  case neg =>
    rw [decide_eq_true q, if_neg zl_t0, if_neg q, c_tick8 hM htr hx, Option.bind_some]
    exact ⟨_, rfl, rfl⟩
  rw [decide_eq_false (fun z => z q), if_pos zl_f0, if_pos q, g_L22 h x N (by omega) (by omega)]
  rcases zLa_c (f := zSeen ticks facts splits r) x with ha | ⟨a, ha1, ha2, ha3⟩
  · rw [if_pos ha, ha, if_neg (show ¬ (0 : Int32) ≤ -1 by decide), c_tick8 hM htr hx, Option.bind_some, q]
    exact ⟨_, rfl, rfl⟩
  obtain ⟨n1, hn1, en1⟩ := hpl a x ha1 hx
  have haM : a < M := by omega
  rw [ha2, if_neg (nm1 (by omega)), if_pos (nI_pos' (by omega)), c_tick8 hM htr haM, Option.bind_some]
  unfold fX8_quickest fX8_slowest fX8_seenBehind fX10_secondsUp fX10_secondsCut
  rw [c_place8 hM htr hx, Option.bind_some, c_place8 hM htr haM, Option.bind_some, Option.bind_some, Option.bind_some, nI_add x 1]
  obtain ⟨b1, b2⟩ := g_L56 h (M - (x + 1)) (x + 1) N (by omega) (by omega)
  rcases c_behindL hM htr (M - (x + 1)) (x + 1) N (by omega) (by omega) with ⟨m, m1, m2, m3, m4, m5⟩ | ⟨m1, m2⟩
  · obtain ⟨n2, hn2, en2⟩ := hpl x m (by omega) m2
    rw [m5, Option.bind_some, if_neg (nm1 (by omega)), c_tick8 hM htr m2, Option.bind_some, c_place8 hM htr m2, Option.bind_some, Option.bind_some, Option.bind_some, Option.bind_some, zmx]
    rw [b1 m m1 m2 m3 m4, hof, Option.bind_some, if_pos hz4, Option.bind_some, if_pos hz4, hmat x hx, Option.bind_some, hmat a haM, Option.bind_some, g_seen h (by omega), Option.bind_some, if_neg hy, zl_c (show k < 2 ^ 31 by omega), en1, eg, g_made hn1 hg1, Option.bind_some]
    unfold fX11_guessOf_J150 fX11_guessOf_J232
    rw [g_mats, Option.bind_some, n0, if_neg (show ¬ nI M ≤ nI m by rw [zl_le (by omega) (by omega)]; omega), hmat m m2, Option.bind_some, hmat x hx, Option.bind_some, g_seen h (by omega), Option.bind_some, if_neg hy, zl_c (show k < 2 ^ 31 by omega), en2, el, g_madeUp hn2 hl1, Option.bind_some, if_neg hy]
    exact ⟨_, rfl, rfl⟩
  · rw [m2, Option.bind_some, if_pos rfl, zmx]
    rw [b2 m1, hof, Option.bind_some, if_pos hz4, Option.bind_some, if_pos hz4, hmat x hx, Option.bind_some, hmat a haM, Option.bind_some, g_seen h (by omega), Option.bind_some, if_neg hy, zl_c (show k < 2 ^ 31 by omega), en1, eg, g_made hn1 hg1, Option.bind_some]
    unfold fX11_guessOf_J150 fX11_guessOf_J232
    rw [g_mats, Option.bind_some, n0, if_pos (show nI M ≤ nI M by rw [zl_le (by omega) (by omega)]; exact Nat.le_refl _)]
    exact ⟨_, rfl, rfl⟩
theorem zpl_of {M R S : Nat} {ticks : Nat → Int32} {entered strikings : Int32} {dropped facts splits order struck torn waved : Nat → Int32} {mats : Int32} {bearings cuts deaths places now : Nat → Int32} (h : zRaceN M R S ticks entered strikings dropped facts splits order struck torn waved mats bearings cuts deaths places now) : (∀ m, m < M → now (8 + 4 * m + 0) = places m) ∧ ∀ a b, a < b → b < M → ∃ n : Nat, n ≤ 100000 ∧ places b - places a = nI n := by
  obtain ⟨_, ⟨hm, hlt, _⟩, _⟩ := h
  refine ⟨fun m h => (hm m h).1, fun a b hab hb => ?_⟩
  obtain ⟨_, _, _, _, ⟨p, hp, ep⟩, _⟩ := hm a (by omega)
  obtain ⟨_, _, _, _, ⟨s, hs, es⟩, _⟩ := hm b hb
  have h1 := hlt a b hab hb
  rw [ep, es, zl_lt (by omega) (by omega)] at h1
  exact ⟨s - p, by omega, by rw [ep, es, pk_sub (by omega)]⟩
theorem r_guess {N : Nat} {ticks dropped facts splits order struck torn waved bearings cuts deaths places now pl tk : Nat → Int32} {entered strikings mats g l m0 : Int32} {T x1 x2 x3 : Int32} (hN : 10000 ≤ N) (hz : zRace ticks entered strikings dropped facts splits order struck torn waved mats bearings cuts deaths places now) : ∃ r g' l' m' pl' tk', fX10_guess N ticks entered facts splits mats places g l m0 pl tk x1 x2 x3 = some (r, g', l', m', pl', tk') ∧ fX11_guess N T now x1 x2 x3 = some (r, nI 0) := by
  obtain ⟨M, R, S, h⟩ := hz
  have h0 := h
  obtain ⟨⟨⟨_, hM, hR, _⟩, em, ee, _, n0, n1, _⟩, _, _, hruns, _⟩ := h0
  subst em; subst ee
  unfold fX10_guess fX11_guess fX4_hasCell
  rcases zarg x1 with hx | ⟨r, hr, rfl⟩
  · rw [c_hasRn hx, g_isRunnern hx, Option.bind_some, Option.bind_some, if_pos zl_f0, Option.bind_some, if_pos zl_f0]
    dsimp only
    rw [if_pos zl_f0]
    exact ⟨_, _, _, _, _, _, rfl, rfl⟩
  · rw [c_hasR hR hr, g_isRunner n1 hR hr, Option.bind_some, Option.bind_some]
    dsimp only
    by_cases hrR : r < R
    · rw [decide_eq_true hrR, if_neg zl_t0, if_neg zl_t0]
      rcases zarg x2 with hy | ⟨m, hm, rfl⟩
      · rw [c_hasMn hy, g_isMatn hy, Option.bind_some, Option.bind_some, if_pos zl_f0, Option.bind_some, if_pos zl_f0]
        exact ⟨_, _, _, _, _, _, rfl, rfl⟩
      · rw [c_hasM hM hm, g_isMat n0 hM hm, Option.bind_some, Option.bind_some]
        by_cases hmM : m < M
        · obtain ⟨k, hk, ek⟩ := (hruns r hrR).2.1
          obtain ⟨p1, p2⟩ := zpl_of h
          obtain ⟨pl', tk', e, htr⟩ := c_follow (places := places) (pl := pl) (tk := tk) (g := g) (l := l) (m := m0) hN (zqr_of h hrR) hk ek
          rw [decide_eq_true hmM, if_neg zl_t0, Option.bind_some, if_neg zl_t0, if_neg zl_t0, e, Option.bind_some]
          dsimp only
          by_cases hy : x3 = 0
          · obtain ⟨v, v1, v2⟩ := q_least hN (zqr_of h hrR) hk ek htr p1 p2 hmM hy
            rw [if_pos hy, v1, v2, Option.bind_some, Option.bind_some]
            exact ⟨_, _, _, _, _, _, rfl, rfl⟩
          · obtain ⟨v, v1, v2⟩ := q_greatest hN (zqr_of h hrR) hk ek htr p1 p2 hmM hy
            rw [if_neg hy, v1, v2, Option.bind_some, Option.bind_some]
            exact ⟨_, _, _, _, _, _, rfl, rfl⟩
        · rw [decide_eq_false hmM, if_pos zl_f0, Option.bind_some, if_pos zl_f0, if_pos zl_f0]
          exact ⟨_, _, _, _, _, _, rfl, rfl⟩
    · rw [decide_eq_false hrR, if_pos zl_f0, if_pos zl_f0, Option.bind_some, if_pos zl_f0]
      exact ⟨_, _, _, _, _, _, rfl, rfl⟩
