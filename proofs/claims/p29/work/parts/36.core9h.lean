/-! questions: split, state, told -/
theorem c_hasRf {R r : Nat} (hR : R ≤ 60) (hr : r < R) : fX6_has (nI R) (nI r) = some true := by
  rw [c_hasR hR (by omega), decide_eq_true hr]
theorem c_splitAt {R r m : Nat} {splits : Nat → Int32} (hR : R ≤ 60) (hr : r < R) (hm : m < 12) : fX6_splitAt (nI R) splits (nI r) (nI m) = some (splits (12 * r + m)) := by
  have ix : nI r * nI 12 + nI m = nI (12 * r + m) := by rw [pk_mul, nI_add, show r * 12 + m = 12 * r + m by omega]
  unfold fX6_splitAt
  rw [c_hasRf hR hr, Option.bind_some, if_neg zl_t0, if_neg (nI_pos (by omega)), if_pos (by rw [zl_lt (by omega) (by omega)]; exact hm), ix, if_pos (zin_k (by omega) (by omega)), zl_c (by omega)]
theorem c_splitAtn {R r : Nat} {splits : Nat → Int32} (hR : R ≤ 60) (hr : r < R) : fX6_splitAt (nI R) splits (nI r) (-1) = some (-1) := by
  unfold fX6_splitAt
  rw [c_hasRf hR hr, Option.bind_some, if_neg zl_t0, if_pos (of_eq_true zl_m1)]
theorem g_splitOf {r m : Nat} {now : Nat → Int32} (hr : r < 60) (hm : m < 12) : fX11_splitOf now (nI r) (nI m) = some (now (122 + 24 * r + 12 + m)) := by
  unfold fX11_splitOf
  rw [nI_add, g_of hr (by omega), Option.bind_some, show 122 + 24 * r + (12 + m) = 122 + 24 * r + 12 + m by omega]
/-- what the questions ask of one runner's rows -/
def zQr (M R r : Nat) (ticks facts splits dropped waved struck torn now : Nat → Int32) : Prop :=
  (1 ≤ M ∧ M ≤ 12 ∧ R ≤ 60 ∧ r < R ∧ now 0 = nI M ∧ now 1 = nI R) ∧ (∀ m, m < 12 → now (122 + 24 * r + 12 + m) = splits (12 * r + m)) ∧ (∀ k, k < 6 → now (122 + 24 * r + k) = facts (6 * r + k)) ∧ (∃ c : Nat, c < 6 ∧ facts (6 * r + 5) = nI c) ∧ (∀ p, p < 6 → now (56 + p) = ticks p) ∧
  (now (122 + 24 * r + 6) = dropped r ∧ zBit (dropped r)) ∧ (now (122 + 24 * r + 7) = waved r ∧ zBit (waved r)) ∧ (now (122 + 24 * r + 8) = struck r ∧ zBit (struck r)) ∧ now (122 + 24 * r + 9) = torn r
theorem zqr_of {M R S r : Nat} {ticks : Nat → Int32} {entered strikings : Int32} {dropped facts splits order struck torn waved : Nat → Int32} {mats : Int32} {bearings cuts deaths places now : Nat → Int32} (h : zRaceN M R S ticks entered strikings dropped facts splits order struck torn waved mats bearings cuts deaths places now) (hr : r < R) : zQr M R r ticks facts splits dropped waved struck torn now := by
  obtain ⟨⟨⟨h1, h2, h3, _⟩, _, _, _, n0, n1, _⟩, hm, ht, hq, _⟩ := h
  obtain ⟨q1, _, _, _, _, _, ⟨c, hc, ec⟩, q2, q3, q4, q5, q6⟩ := hq r hr
  exact ⟨⟨h1, h2, h3, hr, n0, n1⟩, fun m h => (q6 m h).1, q1, ⟨c, by omega, ec⟩, fun p hp => (ht p hp).1, q2, q3, q4, q5.1⟩
def zSt (ticks facts splits : Nat → Int32) (r : Nat) : Int32 := if splits (12 * r) = -1 then ticks (facts (6 * r + 5)).toNatClampNeg else splits (12 * r)
theorem c_gunOfR {R r : Nat} {ticks facts : Nat → Int32} (hR : R ≤ 60) (hr : r < R) (hc : ∃ c : Nat, c < 6 ∧ facts (6 * r + 5) = nI c) : fX4_gunOf ticks (nI R) facts (nI r) = some (ticks (facts (6 * r + 5)).toNatClampNeg) := by
  obtain ⟨c, hc, ec⟩ := hc
  unfold fX4_gunOf
  rw [c_factOf hR hr (by omega), Option.bind_some, ec, c_tickOf hc, Option.bind_some, zl_c (by omega)]
theorem c_start {M R r : Nat} {ticks facts splits dropped waved struck torn now : Nat → Int32} (h : zQr M R r ticks facts splits dropped waved struck torn now) : fX4_startOf ticks (nI R) facts splits (nI r) = some (zSt ticks facts splits r) := by
  obtain ⟨⟨_, _, hR, hr, _⟩, _, _, hc, _⟩ := h
  unfold fX4_startOf zSt
  rw [c_splitAt hR hr (by omega), Option.bind_some, Nat.add_zero]
  by_cases q : splits (12 * r) = -1
  · rw [if_pos q, if_pos q, c_gunOfR hR hr hc, Option.bind_some]
  · rw [if_neg q, if_neg q]
theorem g_gunR {M R r : Nat} {ticks facts splits dropped waved struck torn now : Nat → Int32} (h : zQr M R r ticks facts splits dropped waved struck torn now) : Option.bind (fX11_of now (nI r) (nI 5)) (fun k => fX11_gunOf now k) = some (ticks (facts (6 * r + 5)).toNatClampNeg) := by
  obtain ⟨⟨_, _, hR, hr, _⟩, _, hf, ⟨c, hc, ec⟩, ht, _⟩ := h
  rw [g_of (by omega) (by omega), Option.bind_some, hf 5 (by omega), ec, g_gunOf hc, ht c hc, zl_c (by omega)]
theorem g_sp {M R r m : Nat} {ticks facts splits dropped waved struck torn now : Nat → Int32} (h : zQr M R r ticks facts splits dropped waved struck torn now) (hm : m < 12) : fX11_splitOf now (nI r) (nI m) = some (splits (12 * r + m)) := by
  obtain ⟨⟨_, _, hR, hr, _⟩, hs, _⟩ := h
  rw [g_splitOf (by omega) hm, hs m hm]
theorem g_start {M R r : Nat} {ticks facts splits dropped waved struck torn now : Nat → Int32} (h : zQr M R r ticks facts splits dropped waved struck torn now) : fX11_startOf now (nI r) = some (zSt ticks facts splits r) := by
  have hg := g_gunR h
  obtain ⟨⟨_, _, hR, hr, _⟩, _, hf, ⟨c, hc, ec⟩, ht, _⟩ := id h
  unfold fX11_startOf zSt
  rw [g_sp h (by omega), Option.bind_some, Nat.add_zero]
  by_cases q : splits (12 * r) = -1
  · rw [if_pos q, if_pos q, g_of (by omega) (by omega), Option.bind_some, hf 5 (by omega), ec, g_gunOf hc, Option.bind_some, ht c hc, zl_c (by omega)]
  · rw [if_neg q, if_neg q, Option.bind_some]
def zCu (splits cuts : Nat → Int32) (r m : Nat) : Prop := ¬ cuts m = -1 ∧ ¬ splits (12 * r + m) ≤ cuts m
theorem c_cutAt {M x : Nat} {t : Nat → Int32} (hM : M ≤ 12) (hx : x < M) : fX9_cutAt (nI M) t (nI x) = some (t x) := by
  unfold fX9_cutAt
  rw [c_hasM hM (by omega), Option.bind_some, decide_eq_true hx, if_neg zl_t0, if_pos (zin_k (by omega) (by omega)), zl_c (by omega)]
theorem c_L15 {M R r : Nat} {splits cuts : Nat → Int32} (hR : R ≤ 60) (hM : M ≤ 12) (hr : r < R) : ∀ (d i n : Nat), i + d = M → d + 1 ≤ n → ((∃ m, i ≤ m ∧ m < M ∧ zCu splits cuts r m) → ∀ K, fX4_isOut_L15 (nI R) splits (nI M) cuts (nI r) K n (nI i) = some true) ∧ ((¬ ∃ m, i ≤ m ∧ m < M ∧ zCu splits cuts r m) → ∀ K, fX4_isOut_L15 (nI R) splits (nI M) cuts (nI r) K n (nI i) = K (nI M)) := by
  intro d
  induction d with
  | zero =>
    intro i n h1 h2
    obtain rfl : i = M := by omega
    cases n with
    | zero => omega
    | succ n =>
      refine ⟨fun ⟨m, a, b, _⟩ => by omega, fun _ K => ?_⟩
      rw [fX4_isOut_L15]
      unfold fX9_size
      rw [Option.bind_some, if_pos (by rw [zl_le (by omega) (by omega)]; exact Nat.le_refl _)]
  | succ d ih =>
    intro i n h1 h2
    cases n with
    | zero => omega
    | succ n =>
      have hi : i < M := by omega
      obtain ⟨i1, i2⟩ := ih (i + 1) n (by omega) (by omega)
      have go : ∀ K, fX4_isOut_L15 (nI R) splits (nI M) cuts (nI r) K (n + 1) (nI i) = if cuts i = -1 then fX4_isOut_L15 (nI R) splits (nI M) cuts (nI r) K n (nI (i + 1)) else if splits (12 * r + i) ≤ cuts i then fX4_isOut_L15 (nI R) splits (nI M) cuts (nI r) K n (nI (i + 1)) else some true := by
        intro K
        rw [fX4_isOut_L15]
        unfold fX9_size
        rw [Option.bind_some, if_neg (by rw [zl_le (by omega) (by omega)]; omega), c_cutAt hM hi, Option.bind_some, c_splitAt hR hr (by omega), Option.bind_some, nI_add]
      refine ⟨fun hx K => ?_, fun hx K => ?_⟩
      · rw [go K]
        by_cases a : cuts i = -1
        · rw [if_pos a]
          obtain ⟨m, m1, m2, m3⟩ := hx
          refine i1 ⟨m, ?_, m2, m3⟩ K
          rcases Nat.lt_or_ge i m with g | g
          · omega
          · exact absurd a (by rw [show i = m by omega]; exact m3.1)
        · rw [if_neg a]
          by_cases b : splits (12 * r + i) ≤ cuts i
          · rw [if_pos b]
            obtain ⟨m, m1, m2, m3⟩ := hx
            refine i1 ⟨m, ?_, m2, m3⟩ K
            rcases Nat.lt_or_ge i m with g | g
            · omega
            · exact absurd b (by rw [show i = m by omega]; exact m3.2)
          · rw [if_neg b]
      · rw [go K]
        have hx2 : ¬ ∃ m, i + 1 ≤ m ∧ m < M ∧ zCu splits cuts r m := fun ⟨m, a, b, c⟩ => hx ⟨m, by omega, b, c⟩
        by_cases a : cuts i = -1
        · rw [if_pos a]; exact i2 hx2 K
        · rw [if_neg a]
          by_cases b : splits (12 * r + i) ≤ cuts i
          · rw [if_pos b]; exact i2 hx2 K
          · exact absurd ⟨i, Nat.le_refl i, hi, a, b⟩ hx
theorem g_oL4 {M R r : Nat} {ticks facts splits dropped waved struck torn now cuts : Nat → Int32} (h : zQr M R r ticks facts splits dropped waved struck torn now) (hcu : ∀ m, m < M → now (8 + 4 * m + 3) = cuts m) : ∀ (d i n : Nat) (b : Bool), i + d = M → d + 1 ≤ n → ∃ b' : Bool, (b' = true ↔ (b = true ∨ ∃ m, i ≤ m ∧ m < M ∧ zCu splits cuts r m)) ∧ ∀ K, fX11_isOut_L4 now (nI r) K n b (nI i) = K b' (nI M) := by
  intro d
  have hM : M ≤ 12 := h.1.2.1
  have n0 : now 0 = nI M := h.1.2.2.2.2.1
  induction d with
  | zero =>
    intro i n b h1 h2
    obtain rfl : i = M := by omega
    cases n with
    | zero => omega
    | succ n =>
      refine ⟨b, ⟨fun q => Or.inl q, fun q => q.elim id (fun ⟨m, a, c, _⟩ => by omega)⟩, fun K => ?_⟩
      rw [fX11_isOut_L4, g_mats, Option.bind_some, n0, if_pos (by rw [zl_le (by omega) (by omega)]; exact Nat.le_refl _)]
  | succ d ih =>
    intro i n b h1 h2
    cases n with
    | zero => omega
    | succ n =>
      have hi : i < M := by omega
      cases b with
      | true =>
        obtain ⟨b', e1, e2⟩ := ih (i + 1) n true (by omega) (by omega)
        refine ⟨b', ⟨fun _ => Or.inl rfl, fun _ => e1.mpr (Or.inl rfl)⟩, fun K => ?_⟩
        rw [fX11_isOut_L4, g_mats, Option.bind_some, n0, if_neg (by rw [zl_le (by omega) (by omega)]; omega), if_neg zl_t0, nI_add]
        exact e2 K
      | false =>
        have go : ∀ K, fX11_isOut_L4 now (nI r) K (n + 1) false (nI i) = if cuts i = -1 then fX11_isOut_L4 now (nI r) K n false (nI (i + 1)) else if splits (12 * r + i) ≤ cuts i then fX11_isOut_L4 now (nI r) K n false (nI (i + 1)) else fX11_isOut_L4 now (nI r) K n true (nI (i + 1)) := by
          intro K
          rw [fX11_isOut_L4, g_mats, Option.bind_some, n0, if_neg (by rw [zl_le (by omega) (by omega)]; omega), if_pos (of_eq_true zl_f), g_ofMat (by omega) (by omega), Option.bind_some, hcu i hi, g_sp h (by omega), Option.bind_some, Option.bind_some, nI_add]
        by_cases a : cuts i = -1
        · obtain ⟨b', e1, e2⟩ := ih (i + 1) n false (by omega) (by omega)
          refine ⟨b', ⟨fun q => ?_, fun q => ?_⟩, fun K => by rw [go K, if_pos a]; exact e2 K⟩
          · rcases e1.mp q with z | ⟨m, m1, m2, m3⟩
            · exact Or.inl z
            · exact Or.inr ⟨m, by omega, m2, m3⟩
          · rcases q with z | ⟨m, m1, m2, m3⟩
            · exact e1.mpr (Or.inl z)
            · refine e1.mpr (Or.inr ⟨m, ?_, m2, m3⟩)
              rcases Nat.lt_or_ge i m with g | g
              · omega
              · exact absurd a (by rw [show i = m by omega]; exact m3.1)
        · by_cases c : splits (12 * r + i) ≤ cuts i
          · obtain ⟨b', e1, e2⟩ := ih (i + 1) n false (by omega) (by omega)
            refine ⟨b', ⟨fun q => ?_, fun q => ?_⟩, fun K => by rw [go K, if_neg a, if_pos c]; exact e2 K⟩
            · rcases e1.mp q with z | ⟨m, m1, m2, m3⟩
              · exact Or.inl z
              · exact Or.inr ⟨m, by omega, m2, m3⟩
            · rcases q with z | ⟨m, m1, m2, m3⟩
              · exact e1.mpr (Or.inl z)
              · refine e1.mpr (Or.inr ⟨m, ?_, m2, m3⟩)
                rcases Nat.lt_or_ge i m with g | g
                · omega
                · exact absurd c (by rw [show i = m by omega]; exact m3.2)
          · obtain ⟨b', e1, e2⟩ := ih (i + 1) n true (by omega) (by omega)
            exact ⟨b', ⟨fun _ => Or.inr ⟨i, Nat.le_refl i, hi, a, c⟩, fun _ => e1.mpr (Or.inl rfl)⟩, fun K => by rw [go K, if_neg a, if_neg c]; exact e2 K⟩
theorem b_if {α : Type} {b : Bool} {x y : α} : (if zb b = 0 then x else y) = if b = true then y else x := by
  cases b with
  | true => rw [if_neg zl_t0, if_pos rfl]
  | false => rw [if_pos zl_f0, if_neg (by decide)]
theorem c_isB {R r : Nat} {t : Nat → Int32} (hR : R ≤ 60) (hr : r < R) : fX6_isStruck (nI R) t (nI r) = some (decide (¬ t r = 0)) ∧ fX6_isDropped (nI R) t (nI r) = some (decide (¬ t r = 0)) ∧ fX6_isWaved (nI R) t (nI r) = some (decide (¬ t r = 0)) := by
  unfold fX6_isStruck fX6_isDropped fX6_isWaved
  rw [c_hasRf hR hr, Option.bind_some, if_neg zl_t0, if_pos (zin_k (by omega) (by omega)), zl_c (by omega)]
  by_cases q : t r = 0
  · rw [if_pos q, decide_eq_false (fun h => h q)]; exact ⟨rfl, rfl, rfl⟩
  · rw [if_neg q, decide_eq_true q]; exact ⟨rfl, rfl, rfl⟩
theorem q_out {N M R r : Nat} {ticks facts splits dropped waved struck torn now cuts : Nat → Int32} (hN : 10000 ≤ N) (h : zQr M R r ticks facts splits dropped waved struck torn now) (hcu : ∀ m, m < M → now (8 + 4 * m + 3) = cuts m) : ∃ o : Bool, fX4_isOut N (nI R) splits waved (nI M) cuts (nI r) = some o ∧ fX11_isOut N now (nI r) = some o := by
  obtain ⟨⟨_, hM, hR, hr, _⟩, _, _, _, _, _, ⟨ew, hw⟩, _⟩ := id h
  obtain ⟨c1, c2⟩ := c_L15 (splits := splits) (cuts := cuts) hR hM hr M 0 N (by omega) (by omega)
  obtain ⟨b, e1, e2⟩ := g_oL4 h hcu M 0 N false (by omega) (by omega)
  unfold fX4_isOut fX11_isOut
  rw [(c_isB hR hr).2.2, e2, Option.bind_some]
  by_cases hx : ∃ m, 0 ≤ m ∧ m < M ∧ zCu splits cuts r m
  · have hb : b = true := e1.mpr (Or.inr hx)
    rw [hb, if_neg zl_t0, g_of (by omega) (by omega), Option.bind_some, ew]
    rcases hw with hw | hw
    · rw [hw, decide_eq_false (fun q => q rfl), if_pos zl_f0, if_pos rfl]
      exact ⟨true, c1 hx _, rfl⟩
    · rw [hw, decide_eq_true (show ¬ (1 : Int32) = 0 by decide), if_neg zl_t0, if_neg (show ¬ (1 : Int32) = 0 by decide)]
      exact ⟨false, rfl, rfl⟩
  · have hb : b = false := by
      cases b with
      | false => rfl
      | true => exact absurd ((e1.mp rfl).resolve_left (by decide)) hx
    rw [hb, if_pos zl_f0]
    refine ⟨false, ?_, rfl⟩
    rcases hw with hw | hw
    · rw [hw, decide_eq_false (fun q => q rfl), if_pos zl_f0]
      exact c2 hx _
    · rw [hw, decide_eq_true (show ¬ (1 : Int32) = 0 by decide), if_neg zl_t0]
theorem q_state {N M R r : Nat} {ticks facts splits dropped waved struck torn now cuts : Nat → Int32} (hN : 10000 ≤ N) (h : zQr M R r ticks facts splits dropped waved struck torn now) (hcu : ∀ m, m < M → now (8 + 4 * m + 3) = cuts m) : ∃ v : Int32, fX4_stateOf N ticks (nI R) dropped facts splits struck waved (nI M) cuts (nI r) = some v ∧ fX11_stateOf N now (nI r) = some v ∧ (v = nI 2 → 2 ≤ M) := by
  obtain ⟨⟨hM1, hM, hR, hr, n0, _⟩, _, _, _, _, ⟨ed, hd⟩, _, ⟨es, hs⟩, _⟩ := id h
  obtain ⟨o, o1, o2⟩ := q_out hN h hcu
  unfold fX4_stateOf fX11_stateOf
  rw [(c_isB hR hr).1, (c_isB hR hr).2.1, g_of (by omega) (by omega), Option.bind_some, Option.bind_some, Option.bind_some, es]
  rcases hs with hs | hs
  · rw [hs, decide_eq_false (fun q => q rfl), if_pos zl_f0, if_neg (show ¬ (0 : Int32) = nI 1 by decide), g_of (by omega) (by omega), Option.bind_some, ed]
    rcases hd with hd | hd
    · rw [hd, decide_eq_false (fun q => q rfl), if_pos zl_f0, if_neg (show ¬ (0 : Int32) = nI 1 by decide), o1, o2, Option.bind_some, Option.bind_some]
      cases o with
      | true => rw [if_neg zl_t0, if_neg zl_t0]; exact ⟨_, rfl, rfl, fun q => absurd q (by decide)⟩
      | false =>
        rw [if_pos zl_f0, if_pos zl_f0, g_mats, Option.bind_some, Option.bind_some, n0, g_start h, c_start h, Option.bind_some]
        unfold fX9_lastMat
        by_cases h2 : 2 ≤ M
        · rw [if_pos (show nI 2 ≤ nI M by rw [zl_le (by omega) (by omega)]; exact h2), Option.bind_some, if_neg (show ¬ nI M ≤ nI 1 by rw [zl_le (by omega) (by omega)]; omega), pk_sub (by omega), c_splitAt hR hr (by omega), g_sp h (by omega), Option.bind_some]
          by_cases a : splits (12 * r + (M - 1)) = -1
          · rw [if_pos a]
            by_cases b : zSt ticks facts splits r = -1
            · rw [if_pos b]; exact ⟨_, rfl, rfl, fun _ => h2⟩
            · rw [if_neg b]; exact ⟨_, rfl, rfl, fun _ => h2⟩
          · rw [if_neg a]; exact ⟨_, rfl, rfl, fun _ => h2⟩
        · rw [if_neg (show ¬ nI 2 ≤ nI M by rw [zl_le (by omega) (by omega)]; exact h2), Option.bind_some, if_pos (show nI M ≤ nI 1 by rw [zl_le (by omega) (by omega)]; omega), c_splitAtn hR hr, Option.bind_some, if_pos (show (-1 : Int32) = -1 from rfl)]
          by_cases b : zSt ticks facts splits r = -1
          · rw [if_pos b]; exact ⟨_, rfl, rfl, fun q => absurd q (by decide)⟩
          · rw [if_neg b]; exact ⟨_, rfl, rfl, fun q => absurd q (by decide)⟩
    · rw [hd, decide_eq_true (show ¬ (1 : Int32) = 0 by decide), if_neg zl_t0, if_pos (show (1 : Int32) = nI 1 by decide)]
      exact ⟨_, rfl, rfl, fun q => absurd q (by decide)⟩
  · rw [hs, decide_eq_true (show ¬ (1 : Int32) = 0 by decide), if_neg zl_t0, if_pos (show (1 : Int32) = nI 1 by decide)]
    exact ⟨_, rfl, rfl, fun q => absurd q (by decide)⟩
theorem q_time {N M R r : Nat} {x : Int32} {ticks facts splits dropped waved struck torn now cuts : Nat → Int32} (hN : 10000 ≤ N) (h : zQr M R r ticks facts splits dropped waved struck torn now) (hcu : ∀ m, m < M → now (8 + 4 * m + 3) = cuts m) : ∃ v : Int32, fX4_timeSince N ticks (nI R) dropped facts splits struck waved (nI M) cuts (nI r) x = some v ∧ fX11_timeFrom N now (nI r) x = some v ∧ (¬ v = -1 → 2 ≤ M) := by
  obtain ⟨v, v1, v2, v3⟩ := q_state hN h hcu
  obtain ⟨⟨hM1, hM, hR, hr, n0, _⟩, _⟩ := id h
  unfold fX4_timeSince fX11_timeFrom fX9_lastMat
  rw [v1, v2, Option.bind_some, Option.bind_some]
  by_cases hx : x = -1
  · rw [if_pos hx, if_pos hx]
    by_cases h2 : v = nI 2
    · rw [if_pos h2]; exact ⟨_, rfl, rfl, fun q => absurd rfl q⟩
    · rw [if_neg h2]; exact ⟨_, rfl, rfl, fun q => absurd rfl q⟩
  · rw [if_neg hx, if_neg hx]
    by_cases h2 : v = nI 2
    · have h3 := v3 h2
      rw [if_pos h2, if_pos h2, g_mats, Option.bind_some, n0, if_pos (by rw [zl_le (by omega) (by omega)]; exact h3), Option.bind_some, pk_sub (by omega), c_splitAt hR hr (by omega), g_sp h (by omega), Option.bind_some]
      by_cases a : 0 ≤ splits (12 * r + (M - 1)) - x
      · rw [if_pos a]; exact ⟨_, rfl, rfl, fun _ => h3⟩
      · rw [if_neg a]; exact ⟨_, rfl, rfl, fun _ => h3⟩
    · rw [if_neg h2, if_neg h2]; exact ⟨_, rfl, rfl, fun q => absurd rfl q⟩
theorem zcu_of {M R S : Nat} {ticks : Nat → Int32} {entered strikings : Int32} {dropped facts splits order struck torn waved : Nat → Int32} {mats : Int32} {bearings cuts deaths places now : Nat → Int32} (h : zRaceN M R S ticks entered strikings dropped facts splits order struck torn waved mats bearings cuts deaths places now) : ∀ m, m < M → now (8 + 4 * m + 3) = cuts m := by
  intro m hm
  have q := (h.2.1.1 m hm).2.2.2.1
  rw [show 8 + 4 * m + 3 = 11 + 4 * m by omega]
  exact q
theorem r_split {ticks dropped facts splits order struck torn waved bearings cuts deaths places now : Nat → Int32} {entered strikings mats : Int32} {T x1 x2 : Int32} (hz : zRace ticks entered strikings dropped facts splits order struck torn waved mats bearings cuts deaths places now) : ∃ r, fX10_split entered splits mats x1 x2 = some r ∧ fX11_split T now x1 x2 = some (r, nI 0) := by
  obtain ⟨M, R, S, h⟩ := hz
  have h0 := h
  obtain ⟨⟨⟨_, hM, hR, _⟩, em, ee, _, n0, n1, _⟩, _⟩ := h0
  subst em; subst ee
  unfold fX10_split fX11_split fX4_hasCell
  rcases zarg x1 with hx | ⟨r, hr, rfl⟩
  · rw [c_hasRn hx, g_isRunnern hx, Option.bind_some, Option.bind_some, if_pos zl_f0, Option.bind_some, if_pos zl_f0]
    dsimp only
    rw [if_pos zl_f0]
    exact ⟨_, rfl, rfl⟩
  · rw [c_hasR hR hr, g_isRunner n1 hR hr, Option.bind_some, Option.bind_some]
    dsimp only
    by_cases hrR : r < R
    · rw [decide_eq_true hrR, if_neg zl_t0, if_neg zl_t0]
      rcases zarg x2 with hy | ⟨m, hm, rfl⟩
      · rw [c_hasMn hy, g_isMatn hy, Option.bind_some, Option.bind_some, if_pos zl_f0, Option.bind_some, if_pos zl_f0]
        exact ⟨_, rfl, rfl⟩
      · rw [c_hasM hM hm, g_isMat n0 hM hm, Option.bind_some, Option.bind_some]
        by_cases hmM : m < M
        · rw [decide_eq_true hmM, if_neg zl_t0, Option.bind_some, if_neg zl_t0, if_neg zl_t0, c_splitAt hR hrR (by omega), g_sp (zqr_of h hrR) (by omega), Option.bind_some, Option.bind_some]
          exact ⟨_, rfl, rfl⟩
        · rw [decide_eq_false hmM, if_pos zl_f0, Option.bind_some, if_pos zl_f0, if_pos zl_f0]
          exact ⟨_, rfl, rfl⟩
    · rw [decide_eq_false hrR, if_pos zl_f0, if_pos zl_f0, Option.bind_some, if_pos zl_f0]
      exact ⟨_, rfl, rfl⟩
theorem q_howMany {N M R S : Nat} {ticks dropped facts splits order struck torn waved bearings cuts deaths places now : Nat → Int32} {entered strikings mats : Int32} {x : Int32} (hN : 10000 ≤ N) (h : zRaceN M R S ticks entered strikings dropped facts splits order struck torn waved mats bearings cuts deaths places now) : ∀ (d i n : Nat) (c : Int32), i + d = R → d + 1 ≤ n →
    ∃ v, (∀ K, fX4_howManyAre_L4 N ticks (nI R) dropped facts splits struck waved (nI M) cuts x K n c (nI i) = K v (nI R)) ∧ ∀ K, fX11_state_L9 N now x K n c (nI i) = K v (nI R) := by
  intro d
  have h0 := h
  obtain ⟨⟨⟨_, hM, hR, _⟩, em, ee, _, n0, n1, _⟩, _⟩ := h0
  induction d with
  | zero =>
    intro i n c h1 h2
    obtain rfl : i = R := by omega
    cases n with
    | zero => omega
    | succ n =>
      refine ⟨c, fun K => ?_, fun K => ?_⟩
      · rw [fX4_howManyAre_L4]
        unfold fX6_size
        rw [Option.bind_some, if_pos (by rw [zl_le (by omega) (by omega)]; exact Nat.le_refl _)]
      · rw [fX11_state_L9, g_runners, Option.bind_some, n1, if_pos (by rw [zl_le (by omega) (by omega)]; exact Nat.le_refl _)]
  | succ d ih =>
    intro i n c h1 h2
    cases n with
    | zero => omega
    | succ n =>
      have hi : i < R := by omega
      obtain ⟨v, v1, v2, _⟩ := q_state (N := N) hN (zqr_of h hi) (zcu_of h)
      by_cases hv : v = x
      · obtain ⟨w, w1, w2⟩ := ih (i + 1) n (c + nI 1) (by omega) (by omega)
        refine ⟨w, fun K => ?_, fun K => ?_⟩
        · rw [fX4_howManyAre_L4]
          unfold fX6_size
          rw [Option.bind_some, if_neg (by rw [zl_le (by omega) (by omega)]; omega), v1, Option.bind_some, if_pos hv, nI_add]
          exact w1 K
        · rw [fX11_state_L9, g_runners, Option.bind_some, n1, if_neg (by rw [zl_le (by omega) (by omega)]; omega), v2, Option.bind_some, if_pos hv, nI_add i 1]
          exact w2 K
      · obtain ⟨w, w1, w2⟩ := ih (i + 1) n c (by omega) (by omega)
        have c0 : c + nI 0 = c := by rw [p_zero]; exact Int32.add_zero c
        refine ⟨w, fun K => ?_, fun K => ?_⟩
        · rw [fX4_howManyAre_L4]
          unfold fX6_size
          rw [Option.bind_some, if_neg (by rw [zl_le (by omega) (by omega)]; omega), v1, Option.bind_some, if_neg hv, nI_add]
          exact w1 K
        · rw [fX11_state_L9, g_runners, Option.bind_some, n1, if_neg (by rw [zl_le (by omega) (by omega)]; omega), v2, Option.bind_some, if_neg hv, c0, nI_add i 1]
          exact w2 K
theorem r_state {N : Nat} {ticks dropped facts splits order struck torn waved bearings cuts deaths places now : Nat → Int32} {entered strikings mats : Int32} {T x1 : Int32} (hN : 10000 ≤ N) (hz : zRace ticks entered strikings dropped facts splits order struck torn waved mats bearings cuts deaths places now) : ∃ r, fX10_state N ticks entered dropped facts splits struck waved mats cuts x1 = some r ∧ fX11_state N T now x1 = some (r, nI 0) := by
  obtain ⟨M, R, S, h⟩ := hz
  have h0 := h
  obtain ⟨⟨⟨_, hM, hR, _⟩, em, ee, _, n0, n1, _⟩, _⟩ := h0
  obtain ⟨v, v1, v2⟩ := q_howMany (x := x1) (N := N) hN h R 0 N (nI 0) (by omega) (by omega)
  subst em; subst ee
  refine ⟨v, ?_, ?_⟩
  · unfold fX10_state fX4_howManyAre
    rw [v1, Option.bind_some]
  · unfold fX11_state
    exact v2 _
/-! told -/
def zLa (f : Nat → Int32) : Nat → Int32
  | 0 => -1
  | m + 1 => if f m = -1 then zLa f m else nI m
def zSeen (ticks facts splits : Nat → Int32) (r m : Nat) : Int32 := if m = 0 then zSt ticks facts splits r else splits (12 * r + m)
theorem g_seen {M R r m : Nat} {ticks facts splits dropped waved struck torn now : Nat → Int32} (h : zQr M R r ticks facts splits dropped waved struck torn now) (hm : m < 12) : fX11_seen now (nI r) (nI m) = some (zSeen ticks facts splits r m) := by
  unfold fX11_seen zSeen
  by_cases q : m = 0
  · subst q
    rw [if_pos p_zero, if_pos rfl, g_start h, Option.bind_some]
  · rw [if_neg (nI_ne0 (by omega) (by omega)), if_neg q, g_sp h hm, Option.bind_some]
theorem c_L10 {M R r : Nat} {ticks facts splits dropped waved struck torn now : Nat → Int32} (h : zQr M R r ticks facts splits dropped waved struck torn now) : ∀ (i n : Nat), i < 12 → i + 1 ≤ n → fX4_latestOf_L10 (nI R) splits (nI r) (fun (v2_10 : Int32) => ((fX4_startOf ticks (nI R) facts splits (nI r)).bind (fun r3 => (if r3 = (-1 : Int32) then some ((-1 : Int32)) else some ((nI 0)))))) n (nI i) = some (zLa (zSeen ticks facts splits r) (i + 1)) := by
  intro i
  obtain ⟨⟨_, hM, hR, hr, _⟩, _⟩ := id h
  induction i with
  | zero =>
    intro n h1 h2
    cases n with
    | zero => omega
    | succ n =>
      rw [fX4_latestOf_L10, if_pos (by rw [p_zero]; decide), c_start h, Option.bind_some]
      show _ = some (if zSeen ticks facts splits r 0 = -1 then -1 else nI 0)
      unfold zSeen
      rw [if_pos rfl]
      by_cases q : zSt ticks facts splits r = -1
      · rw [if_pos q, if_pos q]
      · rw [if_neg q, if_neg q]
  | succ i ih =>
    intro n h1 h2
    cases n with
    | zero => omega
    | succ n =>
      rw [fX4_latestOf_L10, if_neg (nI_nle (by omega) (by omega)), c_splitAt hR hr h1, Option.bind_some, pk_m1]
      show _ = some (if zSeen ticks facts splits r (i + 1) = -1 then zLa (zSeen ticks facts splits r) (i + 1) else nI (i + 1))
      have e : zSeen ticks facts splits r (i + 1) = splits (12 * r + (i + 1)) := if_neg (by omega)
      rw [e]
      by_cases q : splits (12 * r + (i + 1)) = -1
      · rw [if_pos q, if_pos q]
        exact ih n (by omega) (by omega)
      · rw [if_neg q, if_neg q]
theorem g_L104 {M R r : Nat} {ticks facts splits dropped waved struck torn now : Nat → Int32} (h : zQr M R r ticks facts splits dropped waved struck torn now) : ∀ (d i n : Nat), i + d = M → d + 1 ≤ n → ∀ K, fX11_told_L104 now (nI r) K n (zLa (zSeen ticks facts splits r) i) (nI i) = K (zLa (zSeen ticks facts splits r) M) (nI M) := by
  intro d
  obtain ⟨⟨_, hM, hR, hr, n0, _⟩, _⟩ := id h
  induction d with
  | zero =>
    intro i n h1 h2 K
    obtain rfl : i = M := by omega
    cases n with
    | zero => omega
    | succ n => rw [fX11_told_L104, g_mats, Option.bind_some, n0, if_pos (by rw [zl_le (by omega) (by omega)]; exact Nat.le_refl _)]
  | succ d ih =>
    intro i n h1 h2 K
    cases n with
    | zero => omega
    | succ n =>
      have e := ih (i + 1) n (by omega) (by omega) K
      have u : zLa (zSeen ticks facts splits r) (i + 1) = if zSeen ticks facts splits r i = -1 then zLa (zSeen ticks facts splits r) i else nI i := rfl
      rw [fX11_told_L104, g_mats, Option.bind_some, n0, if_neg (by rw [zl_le (by omega) (by omega)]; omega), g_seen h (by omega), Option.bind_some, nI_add]
      by_cases q : zSeen ticks facts splits r i = -1
      · rw [if_pos q]
        rw [u, if_pos q] at e
        exact e
      · rw [if_neg q]
        rw [u, if_neg q] at e
        exact e
theorem c_noFact {R : Nat} {x k : Int32} {facts : Nat → Int32} (hR : R ≤ 60) (hx : x < 0 ∨ ∃ j : Nat, j < 2 ^ 31 ∧ R ≤ j ∧ x = nI j) : fX6_factOf (nI R) facts x k = some (-1) := by
  unfold fX6_factOf
  rcases hx with hx | ⟨j, hj, hR2, rfl⟩
  · rw [if_pos hx]
  · rw [if_neg (nI_pos hj), if_pos (by rw [zl_le (by omega) hj]; exact hR2)]
theorem c_noHas {R : Nat} {x : Int32} (hR : R ≤ 60) (hx : x < 0 ∨ ∃ j : Nat, j < 2 ^ 31 ∧ R ≤ j ∧ x = nI j) : fX6_has (nI R) x = some false := by
  rcases hx with hx | ⟨j, hj, hR2, rfl⟩
  · exact c_hasRn hx
  · rw [c_hasR hR hj, decide_eq_false (by omega)]
theorem c_noSplit {R : Nat} {x k : Int32} {splits : Nat → Int32} (hR : R ≤ 60) (hx : x < 0 ∨ ∃ j : Nat, j < 2 ^ 31 ∧ R ≤ j ∧ x = nI j) : fX6_splitAt (nI R) splits x k = some (-1) := by
  unfold fX6_splitAt
  rw [c_noHas hR hx, Option.bind_some, if_pos zl_f0]
theorem c_noGun {R : Nat} {x : Int32} {ticks facts : Nat → Int32} (hR : R ≤ 60) (hx : x < 0 ∨ ∃ j : Nat, j < 2 ^ 31 ∧ R ≤ j ∧ x = nI j) : fX4_gunOf ticks (nI R) facts x = some (-1) := by
  unfold fX4_gunOf fX2_tickOf
  rw [c_noFact hR hx, Option.bind_some, if_pos (of_eq_true zl_m1), Option.bind_some]
theorem c_noStart {R : Nat} {x : Int32} {ticks facts splits : Nat → Int32} (hR : R ≤ 60) (hx : x < 0 ∨ ∃ j : Nat, j < 2 ^ 31 ∧ R ≤ j ∧ x = nI j) : fX4_startOf ticks (nI R) facts splits x = some (-1) := by
  unfold fX4_startOf
  rw [c_noSplit hR hx, Option.bind_some, if_pos rfl, c_noGun hR hx, Option.bind_some]
theorem c_noL10 {R : Nat} {x : Int32} {ticks facts splits : Nat → Int32} (hR : R ≤ 60) (hx : x < 0 ∨ ∃ j : Nat, j < 2 ^ 31 ∧ R ≤ j ∧ x = nI j) : ∀ (i n : Nat), i < 12 → i + 1 ≤ n → fX4_latestOf_L10 (nI R) splits x (fun (v2_10 : Int32) => ((fX4_startOf ticks (nI R) facts splits x).bind (fun r3 => (if r3 = (-1 : Int32) then some ((-1 : Int32)) else some ((nI 0)))))) n (nI i) = some (-1) := by
  intro i
  induction i with
  | zero =>
    intro n h1 h2
    cases n with
    | zero => omega
    | succ n => rw [fX4_latestOf_L10, if_pos (by rw [p_zero]; decide), c_noStart hR hx, Option.bind_some, if_pos rfl]
  | succ i ih =>
    intro n h1 h2
    cases n with
    | zero => omega
    | succ n =>
      rw [fX4_latestOf_L10, if_neg (nI_nle (by omega) (by omega)), c_noSplit hR hx, Option.bind_some, if_pos rfl, pk_m1]
      exact ih n (by omega) (by omega)
theorem c_noTold {N M R : Nat} {x y : Int32} {ticks facts splits dropped waved struck torn cuts places : Nat → Int32} (hN : 10000 ≤ N) (hM1 : 1 ≤ M) (hM : M ≤ 12) (hR : R ≤ 60) (hx : x < 0 ∨ ∃ j : Nat, j < 2 ^ 31 ∧ R ≤ j ∧ x = nI j) : fX4_tell N ticks (nI R) dropped facts splits struck torn waved (nI M) cuts places x y = some (-1) := by
  have hw : ∃ b, fX10_within y (nI 0) (nI 5) = some b := by
    unfold fX10_within
    by_cases a : y < nI 0
    · rw [if_pos a]; exact ⟨_, rfl⟩
    · rw [if_neg a]
      by_cases b : nI 5 < y
      · rw [if_pos b]; exact ⟨_, rfl⟩
      · rw [if_neg b]; exact ⟨_, rfl⟩
  obtain ⟨b, hb⟩ := hw
  unfold fX4_tell
  rw [hb, Option.bind_some]
  cases b with
  | true => rw [if_neg zl_t0, c_noFact hR hx, Option.bind_some]
  | false =>
    rw [if_pos zl_f0]
    by_cases k6 : y = nI 6
    · rw [if_pos k6, c_noHas hR hx, Option.bind_some, if_pos zl_f0]
    rw [if_neg k6]
    by_cases k7 : y = nI 7
    · rw [if_pos k7, c_noStart hR hx, Option.bind_some]
    rw [if_neg k7]
    by_cases k8 : y = nI 8
    · rw [if_pos k8]
      unfold fX4_latestOf fX9_size
      rw [Option.bind_some, pk_sub hM1, c_noL10 hR hx (M - 1) N (by omega) (by omega), Option.bind_some]
    rw [if_neg k8]
    by_cases k9 : y = nI 9
    · rw [if_pos k9, c_noStart hR hx, Option.bind_some]
      unfold fX4_timeSince
      rw [if_pos rfl, Option.bind_some]
    rw [if_neg k9]
    by_cases k10 : y = nI 10
    · rw [if_pos k10, c_noGun hR hx, Option.bind_some]
      unfold fX4_timeSince
      rw [if_pos rfl, Option.bind_some]
    rw [if_neg k10]
    by_cases k11 : y = nI 11
    · rw [if_pos k11]
      unfold fX4_startIsGunsOf
      rw [c_noStart hR hx, Option.bind_some, if_pos rfl, Option.bind_some]
    rw [if_neg k11]
    by_cases k12 : y = nI 12
    · rw [if_pos k12, c_noStart hR hx, Option.bind_some]
      unfold fX4_timeSince fX4_overPace
      rw [if_pos rfl, Option.bind_some, if_pos rfl, Option.bind_some]
    rw [if_neg k12]
    by_cases k13 : y = nI 13
    · rw [if_pos k13]
      unfold fX6_tornFrom
      rw [c_noHas hR hx, Option.bind_some, if_pos zl_f0, Option.bind_some]
    rw [if_neg k13]
theorem zne_neg {x : Int32} {k : Nat} (hk : k < 2147483648) (hx : x < 0) : ¬ x = nI k := fun e => nI_pos (show k < 2 ^ 31 by omega) (by rw [← e]; exact hx)
theorem r_told {N : Nat} {ticks dropped facts splits order struck torn waved bearings cuts deaths places now : Nat → Int32} {entered strikings mats : Int32} {T x1 x2 : Int32} (hN : 10000 ≤ N) (hz : zRace ticks entered strikings dropped facts splits order struck torn waved mats bearings cuts deaths places now) : ∃ r, fX10_told N ticks entered dropped facts splits struck torn waved mats cuts places x1 x2 = some r ∧ fX11_told N T now x1 x2 = some (r, nI 0) := by
  obtain ⟨M, R, S, h⟩ := hz
  have h0 := h
  obtain ⟨⟨⟨hM1, hM, hR, _⟩, em, ee, _, n0, n1, _⟩, hmats, _, hruns, _⟩ := h0
  subst em; subst ee
  unfold fX10_told fX11_told
  have hno : (x1 < 0 ∨ ∃ j : Nat, j < 2 ^ 31 ∧ R ≤ j ∧ x1 = nI j) → fX11_isRunner T now x1 = some (false, nI 0) := by
    intro hx
    rcases hx with hx | ⟨j, hj, hR2, rfl⟩
    · exact g_isRunnern hx
    · rw [g_isRunner n1 hR hj, decide_eq_false (by omega)]
  have done : (x1 < 0 ∨ ∃ j : Nat, j < 2 ^ 31 ∧ R ≤ j ∧ x1 = nI j) ∨ ∃ r, r < R ∧ x1 = nI r := by
    rcases zarg x1 with hx | ⟨j, hj, rfl⟩
    · exact Or.inl (Or.inl hx)
    · rcases Nat.lt_or_ge j R with g | g
      · exact Or.inr ⟨j, g, rfl⟩
      · exact Or.inl (Or.inr ⟨j, hj, g, rfl⟩)
  rcases done with hx | ⟨r, hr, rfl⟩
  · rw [hno hx, c_noTold hN hM1 hM hR hx, Option.bind_some, Option.bind_some]
    dsimp only
    rw [if_pos zl_f0]
    exact ⟨_, rfl, rfl⟩
  have q := zqr_of h hr
  have hcu := zcu_of h
  have hro := hruns r hr
  rw [g_isRunner n1 hR (show r < 2 ^ 31 by omega), decide_eq_true hr, Option.bind_some]
  dsimp only
  rw [if_neg zl_t0]
  unfold fX4_tell
  rcases zarg x2 with hy | ⟨k, hk, rfl⟩
  · rw [zw_neg (by omega) hy, Option.bind_some, if_pos zl_f0]
    rw [if_neg (zne_neg (k := 6) (by omega) hy), if_neg (zne_neg (k := 7) (by omega) hy), if_neg (zne_neg (k := 8) (by omega) hy), if_neg (zne_neg (k := 9) (by omega) hy), if_neg (zne_neg (k := 10) (by omega) hy), if_neg (zne_neg (k := 11) (by omega) hy), if_neg (zne_neg (k := 12) (by omega) hy), if_neg (zne_neg (k := 13) (by omega) hy), Option.bind_some]
    rw [if_neg (zne_neg (k := 0) (by omega) hy), if_neg (zne_neg (k := 1) (by omega) hy), if_neg (zne_neg (k := 2) (by omega) hy), if_neg (zne_neg (k := 3) (by omega) hy), if_neg (zne_neg (k := 4) (by omega) hy), if_neg (zne_neg (k := 5) (by omega) hy), if_neg (zne_neg (k := 6) (by omega) hy), if_neg (zne_neg (k := 7) (by omega) hy), if_neg (zne_neg (k := 8) (by omega) hy), if_neg (zne_neg (k := 9) (by omega) hy), if_neg (zne_neg (k := 10) (by omega) hy), if_neg (zne_neg (k := 11) (by omega) hy), if_neg (zne_neg (k := 12) (by omega) hy), if_neg (zne_neg (k := 13) (by omega) hy)]
    exact ⟨_, rfl, rfl⟩
  rw [zw_n (by omega) (by omega) hk]
  have facts_ : ∀ w, w < 6 → fX11_of now (nI r) (nI w) = some (facts (6 * r + w)) := fun w hw => by
    rw [g_of (by omega) (by omega)]
    exact congrArg some (q.2.2.1 w hw)
  have k_ : k = 0 ∨ k = 1 ∨ k = 2 ∨ k = 3 ∨ k = 4 ∨ k = 5 ∨ k = 6 ∨ k = 7 ∨ k = 8 ∨ k = 9 ∨ k = 10 ∨ k = 11 ∨ k = 12 ∨ k = 13 ∨ 13 < k := by omega
  rcases k_ with rfl | rfl | rfl | rfl | rfl | rfl | rfl | rfl | rfl | rfl | rfl | rfl | rfl | rfl | hbig
  · rw [Option.bind_some, decide_eq_true (show 0 ≤ 0 ∧ 0 ≤ 5 by omega), if_neg zl_t0, c_factOf hR hr (by omega), Option.bind_some, Option.bind_some, if_pos (show nI 0 = nI 0 from rfl), facts_ 0 (by omega), Option.bind_some]
    exact ⟨_, rfl, rfl⟩
  · rw [Option.bind_some, decide_eq_true (show 0 ≤ 1 ∧ 1 ≤ 5 by omega), if_neg zl_t0, c_factOf hR hr (by omega), Option.bind_some, Option.bind_some, if_neg (show ¬ nI 1 = nI 0 by decide), if_pos (show nI 1 = nI 1 from rfl), facts_ 1 (by omega), Option.bind_some]
    exact ⟨_, rfl, rfl⟩
  · rw [Option.bind_some, decide_eq_true (show 0 ≤ 2 ∧ 2 ≤ 5 by omega), if_neg zl_t0, c_factOf hR hr (by omega), Option.bind_some, Option.bind_some, if_neg (show ¬ nI 2 = nI 0 by decide), if_neg (show ¬ nI 2 = nI 1 by decide), if_pos (show nI 2 = nI 2 from rfl), facts_ 2 (by omega), Option.bind_some]
    exact ⟨_, rfl, rfl⟩
  · rw [Option.bind_some, decide_eq_true (show 0 ≤ 3 ∧ 3 ≤ 5 by omega), if_neg zl_t0, c_factOf hR hr (by omega), Option.bind_some, Option.bind_some, if_neg (show ¬ nI 3 = nI 0 by decide), if_neg (show ¬ nI 3 = nI 1 by decide), if_neg (show ¬ nI 3 = nI 2 by decide), if_pos (show nI 3 = nI 3 from rfl), facts_ 3 (by omega), Option.bind_some]
    exact ⟨_, rfl, rfl⟩
  · rw [Option.bind_some, decide_eq_true (show 0 ≤ 4 ∧ 4 ≤ 5 by omega), if_neg zl_t0, c_factOf hR hr (by omega), Option.bind_some, Option.bind_some, if_neg (show ¬ nI 4 = nI 0 by decide), if_neg (show ¬ nI 4 = nI 1 by decide), if_neg (show ¬ nI 4 = nI 2 by decide), if_neg (show ¬ nI 4 = nI 3 by decide), if_pos (show nI 4 = nI 4 from rfl), facts_ 4 (by omega), Option.bind_some]
    exact ⟨_, rfl, rfl⟩
  · rw [Option.bind_some, decide_eq_true (show 0 ≤ 5 ∧ 5 ≤ 5 by omega), if_neg zl_t0, c_factOf hR hr (by omega), Option.bind_some, Option.bind_some, if_neg (show ¬ nI 5 = nI 0 by decide), if_neg (show ¬ nI 5 = nI 1 by decide), if_neg (show ¬ nI 5 = nI 2 by decide), if_neg (show ¬ nI 5 = nI 3 by decide), if_neg (show ¬ nI 5 = nI 4 by decide), if_pos (show nI 5 = nI 5 from rfl), facts_ 5 (by omega), Option.bind_some]
    exact ⟨_, rfl, rfl⟩
  · obtain ⟨v, v1, v2, _⟩ := q_state hN q hcu
    rw [Option.bind_some, decide_eq_false (show ¬ (0 ≤ 6 ∧ 6 ≤ 5) by omega), if_pos zl_f0, if_pos (show nI 6 = nI 6 from rfl), if_neg (show ¬ nI 6 = nI 0 by decide), if_neg (show ¬ nI 6 = nI 1 by decide), if_neg (show ¬ nI 6 = nI 2 by decide), if_neg (show ¬ nI 6 = nI 3 by decide), if_neg (show ¬ nI 6 = nI 4 by decide), if_neg (show ¬ nI 6 = nI 5 by decide), if_pos (show nI 6 = nI 6 from rfl), c_hasRf hR hr, Option.bind_some, if_neg zl_t0, v1, v2, Option.bind_some, Option.bind_some, Option.bind_some]
    exact ⟨_, rfl, rfl⟩
  · rw [Option.bind_some, decide_eq_false (show ¬ (0 ≤ 7 ∧ 7 ≤ 5) by omega), if_pos zl_f0, if_neg (show ¬ nI 7 = nI 6 by decide), if_pos (show nI 7 = nI 7 from rfl), if_neg (show ¬ nI 7 = nI 0 by decide), if_neg (show ¬ nI 7 = nI 1 by decide), if_neg (show ¬ nI 7 = nI 2 by decide), if_neg (show ¬ nI 7 = nI 3 by decide), if_neg (show ¬ nI 7 = nI 4 by decide), if_neg (show ¬ nI 7 = nI 5 by decide), if_neg (show ¬ nI 7 = nI 6 by decide), if_pos (show nI 7 = nI 7 from rfl), c_start q, g_start q, Option.bind_some, Option.bind_some, Option.bind_some]
    exact ⟨_, rfl, rfl⟩
  · rw [Option.bind_some, decide_eq_false (show ¬ (0 ≤ 8 ∧ 8 ≤ 5) by omega), if_pos zl_f0, if_neg (show ¬ nI 8 = nI 6 by decide), if_neg (show ¬ nI 8 = nI 7 by decide), if_pos (show nI 8 = nI 8 from rfl), if_neg (show ¬ nI 8 = nI 0 by decide), if_neg (show ¬ nI 8 = nI 1 by decide), if_neg (show ¬ nI 8 = nI 2 by decide), if_neg (show ¬ nI 8 = nI 3 by decide), if_neg (show ¬ nI 8 = nI 4 by decide), if_neg (show ¬ nI 8 = nI 5 by decide), if_neg (show ¬ nI 8 = nI 6 by decide), if_neg (show ¬ nI 8 = nI 7 by decide), if_pos (show nI 8 = nI 8 from rfl)]
    unfold fX4_latestOf fX9_size
    rw [Option.bind_some, pk_sub hM1, c_L10 q (M - 1) N (by omega) (by omega), Option.bind_some, Option.bind_some, show M - 1 + 1 = M by omega]
    exact ⟨_, rfl, g_L104 q M 0 N (by omega) (by omega) _⟩
  · obtain ⟨v, v1, v2, _⟩ := q_time (x := zSt ticks facts splits r) hN q hcu
    unfold fX11_timeOf
    rw [Option.bind_some, decide_eq_false (show ¬ (0 ≤ 9 ∧ 9 ≤ 5) by omega), if_pos zl_f0, if_neg (show ¬ nI 9 = nI 6 by decide), if_neg (show ¬ nI 9 = nI 7 by decide), if_neg (show ¬ nI 9 = nI 8 by decide), if_pos (show nI 9 = nI 9 from rfl), if_neg (show ¬ nI 9 = nI 0 by decide), if_neg (show ¬ nI 9 = nI 1 by decide), if_neg (show ¬ nI 9 = nI 2 by decide), if_neg (show ¬ nI 9 = nI 3 by decide), if_neg (show ¬ nI 9 = nI 4 by decide), if_neg (show ¬ nI 9 = nI 5 by decide), if_neg (show ¬ nI 9 = nI 6 by decide), if_neg (show ¬ nI 9 = nI 7 by decide), if_neg (show ¬ nI 9 = nI 8 by decide), if_pos (show nI 9 = nI 9 from rfl), c_start q, Option.bind_some, v1, Option.bind_some, Option.bind_some, if_pos p_zero, g_start q, Option.bind_some, v2, Option.bind_some, Option.bind_some]
    exact ⟨_, rfl, rfl⟩
  · obtain ⟨v, v1, v2, _⟩ := q_time (x := ticks (facts (6 * r + 5)).toNatClampNeg) hN q hcu
    obtain ⟨c, hc, ec⟩ := q.2.2.2.1
    have hg : fX11_gunOf now (facts (6 * r + 5)) = some (ticks (facts (6 * r + 5)).toNatClampNeg) := by
      rw [ec, g_gunOf hc, q.2.2.2.2.1 c hc, zl_c (by omega)]
    unfold fX11_timeOf
    rw [Option.bind_some, decide_eq_false (show ¬ (0 ≤ 10 ∧ 10 ≤ 5) by omega), if_pos zl_f0, if_neg (show ¬ nI 10 = nI 6 by decide), if_neg (show ¬ nI 10 = nI 7 by decide), if_neg (show ¬ nI 10 = nI 8 by decide), if_neg (show ¬ nI 10 = nI 9 by decide), if_pos (show nI 10 = nI 10 from rfl), if_neg (show ¬ nI 10 = nI 0 by decide), if_neg (show ¬ nI 10 = nI 1 by decide), if_neg (show ¬ nI 10 = nI 2 by decide), if_neg (show ¬ nI 10 = nI 3 by decide), if_neg (show ¬ nI 10 = nI 4 by decide), if_neg (show ¬ nI 10 = nI 5 by decide), if_neg (show ¬ nI 10 = nI 6 by decide), if_neg (show ¬ nI 10 = nI 7 by decide), if_neg (show ¬ nI 10 = nI 8 by decide), if_neg (show ¬ nI 10 = nI 9 by decide), if_pos (show nI 10 = nI 10 from rfl), c_gunOfR hR hr q.2.2.2.1, Option.bind_some, v1, Option.bind_some, Option.bind_some, if_neg (by decide), facts_ 5 (by omega), Option.bind_some, hg, Option.bind_some, v2, Option.bind_some, Option.bind_some]
    exact ⟨_, rfl, rfl⟩
  · unfold fX4_startIsGunsOf
    rw [Option.bind_some, decide_eq_false (show ¬ (0 ≤ 11 ∧ 11 ≤ 5) by omega), if_pos zl_f0, if_neg (show ¬ nI 11 = nI 6 by decide), if_neg (show ¬ nI 11 = nI 7 by decide), if_neg (show ¬ nI 11 = nI 8 by decide), if_neg (show ¬ nI 11 = nI 9 by decide), if_neg (show ¬ nI 11 = nI 10 by decide), if_pos (show nI 11 = nI 11 from rfl), if_neg (show ¬ nI 11 = nI 0 by decide), if_neg (show ¬ nI 11 = nI 1 by decide), if_neg (show ¬ nI 11 = nI 2 by decide), if_neg (show ¬ nI 11 = nI 3 by decide), if_neg (show ¬ nI 11 = nI 4 by decide), if_neg (show ¬ nI 11 = nI 5 by decide), if_neg (show ¬ nI 11 = nI 6 by decide), if_neg (show ¬ nI 11 = nI 7 by decide), if_neg (show ¬ nI 11 = nI 8 by decide), if_neg (show ¬ nI 11 = nI 9 by decide), if_neg (show ¬ nI 11 = nI 10 by decide), if_pos (show nI 11 = nI 11 from rfl), c_start q, g_start q, Option.bind_some, Option.bind_some]
    by_cases a : zSt ticks facts splits r = -1
    · rw [if_pos a, if_pos a, Option.bind_some]
      exact ⟨_, rfl, rfl⟩
    · rw [if_neg a, if_neg a, c_splitAt hR hr (by omega), g_sp q (by omega), Option.bind_some, Option.bind_some]
      by_cases b : splits (12 * r + 0) = -1
      · rw [if_pos b, if_pos b, Option.bind_some]
        exact ⟨_, rfl, rfl⟩
      · rw [if_neg b, if_neg b, Option.bind_some]
        exact ⟨_, rfl, rfl⟩
  · obtain ⟨v, v1, v2, v3⟩ := q_time (x := zSt ticks facts splits r) hN q hcu
    have ht : fX11_timeOf N now (nI r) (nI 0) = some v := by
      unfold fX11_timeOf
      rw [if_pos p_zero, g_start q, Option.bind_some, v2, Option.bind_some]
    have s0 := c_start q
    have f0 := c_factOf (facts := facts) hR hr (show 0 < 6 by omega)
    have f1 := c_factOf (facts := facts) hR hr (show 1 < 6 by omega)
    have o0 := facts_ 0 (by omega)
    have o1 := facts_ 1 (by omega)
    rw [Option.bind_some, decide_eq_false (show ¬ (0 ≤ 12 ∧ 12 ≤ 5) by omega), if_pos zl_f0, if_neg (show ¬ nI 12 = nI 6 by decide), if_neg (show ¬ nI 12 = nI 7 by decide), if_neg (show ¬ nI 12 = nI 8 by decide), if_neg (show ¬ nI 12 = nI 9 by decide), if_neg (show ¬ nI 12 = nI 10 by decide), if_neg (show ¬ nI 12 = nI 11 by decide), if_pos (show nI 12 = nI 12 from rfl), if_neg (show ¬ nI 12 = nI 0 by decide), if_neg (show ¬ nI 12 = nI 1 by decide), if_neg (show ¬ nI 12 = nI 2 by decide), if_neg (show ¬ nI 12 = nI 3 by decide), if_neg (show ¬ nI 12 = nI 4 by decide), if_neg (show ¬ nI 12 = nI 5 by decide), if_neg (show ¬ nI 12 = nI 6 by decide), if_neg (show ¬ nI 12 = nI 7 by decide), if_neg (show ¬ nI 12 = nI 8 by decide), if_neg (show ¬ nI 12 = nI 9 by decide), if_neg (show ¬ nI 12 = nI 10 by decide), if_neg (show ¬ nI 12 = nI 11 by decide), if_pos (show nI 12 = nI 12 from rfl)]
    unfold fX4_overPace
    by_cases a : facts (6 * r + 0) = nI 1
    · by_cases b : v = -1
      · simp only [s0, v1, f0, o0, ht, Option.bind_some, if_pos a, if_pos b]
        exact ⟨_, rfl, rfl⟩
      · have h2 := v3 b
        have hml : M - 1 < M := by omega
        obtain ⟨e8, _, _, _, ⟨pa, hpa, epa⟩, _⟩ := hmats.1 (M - 1) hml
        obtain ⟨pb, _, hpb, epb⟩ := hro.2.2.1
        have lm : fX9_lastMat (nI M) = some (nI (M - 1)) := by
          unfold fX9_lastMat
          rw [if_pos (by rw [zl_le (by omega) (by omega)]; exact h2), pk_sub hM1]
        have wl : fX11_wayLength now = some (places (M - 1)) := by
          unfold fX11_wayLength
          rw [g_mats, Option.bind_some, n0, pk_sub hM1, g_ofMat (by omega) (by omega), Option.bind_some, Nat.add_zero, e8]
        have pl := c_placeAt (t := places) hM hml
        have md : fX11_made (places (M - 1)) (facts (6 * r + 1)) = some (places (M - 1) * facts (6 * r + 1) / nI 1000) := by
          rw [epa, epb, g_made hpa hpb]
        simp only [s0, v1, f0, f1, o0, o1, ht, lm, wl, pl, md, fX10_secondsCut, Option.bind_some, if_pos a, if_neg b]
        exact ⟨_, rfl, rfl⟩
    · by_cases b : v = -1
      · simp only [s0, v1, f0, o0, ht, Option.bind_some, if_neg a, if_pos b]
        exact ⟨_, rfl, rfl⟩
      · simp only [s0, v1, f0, o0, ht, Option.bind_some, if_neg a, if_neg b]
        exact ⟨_, rfl, rfl⟩
  · unfold fX6_tornFrom
    rw [Option.bind_some, decide_eq_false (show ¬ (0 ≤ 13 ∧ 13 ≤ 5) by omega), if_pos zl_f0, if_neg (show ¬ nI 13 = nI 6 by decide), if_neg (show ¬ nI 13 = nI 7 by decide), if_neg (show ¬ nI 13 = nI 8 by decide), if_neg (show ¬ nI 13 = nI 9 by decide), if_neg (show ¬ nI 13 = nI 10 by decide), if_neg (show ¬ nI 13 = nI 11 by decide), if_neg (show ¬ nI 13 = nI 12 by decide), if_pos (show nI 13 = nI 13 from rfl), if_neg (show ¬ nI 13 = nI 0 by decide), if_neg (show ¬ nI 13 = nI 1 by decide), if_neg (show ¬ nI 13 = nI 2 by decide), if_neg (show ¬ nI 13 = nI 3 by decide), if_neg (show ¬ nI 13 = nI 4 by decide), if_neg (show ¬ nI 13 = nI 5 by decide), if_neg (show ¬ nI 13 = nI 6 by decide), if_neg (show ¬ nI 13 = nI 7 by decide), if_neg (show ¬ nI 13 = nI 8 by decide), if_neg (show ¬ nI 13 = nI 9 by decide), if_neg (show ¬ nI 13 = nI 10 by decide), if_neg (show ¬ nI 13 = nI 11 by decide), if_neg (show ¬ nI 13 = nI 12 by decide), if_pos (show nI 13 = nI 13 from rfl), c_hasRf hR hr, Option.bind_some, if_neg zl_t0, if_pos (zin_k (by omega) (by omega)), zl_c (by omega), g_of (by omega) (by omega), Option.bind_some, Option.bind_some, q.2.2.2.2.2.2.2.2]
    exact ⟨_, rfl, rfl⟩
  · rw [Option.bind_some, decide_eq_false (show ¬ (0 ≤ k ∧ k ≤ 5) by omega), if_pos zl_f0, if_neg (show ¬ nI k = nI 6 by rw [zl_eq hk (by omega)]; omega), if_neg (show ¬ nI k = nI 7 by rw [zl_eq hk (by omega)]; omega), if_neg (show ¬ nI k = nI 8 by rw [zl_eq hk (by omega)]; omega), if_neg (show ¬ nI k = nI 9 by rw [zl_eq hk (by omega)]; omega), if_neg (show ¬ nI k = nI 10 by rw [zl_eq hk (by omega)]; omega), if_neg (show ¬ nI k = nI 11 by rw [zl_eq hk (by omega)]; omega), if_neg (show ¬ nI k = nI 12 by rw [zl_eq hk (by omega)]; omega), if_neg (show ¬ nI k = nI 13 by rw [zl_eq hk (by omega)]; omega), Option.bind_some, if_neg (show ¬ nI k = nI 0 by rw [zl_eq hk (by omega)]; omega), if_neg (show ¬ nI k = nI 1 by rw [zl_eq hk (by omega)]; omega), if_neg (show ¬ nI k = nI 2 by rw [zl_eq hk (by omega)]; omega), if_neg (show ¬ nI k = nI 3 by rw [zl_eq hk (by omega)]; omega), if_neg (show ¬ nI k = nI 4 by rw [zl_eq hk (by omega)]; omega), if_neg (show ¬ nI k = nI 5 by rw [zl_eq hk (by omega)]; omega), if_neg (show ¬ nI k = nI 6 by rw [zl_eq hk (by omega)]; omega), if_neg (show ¬ nI k = nI 7 by rw [zl_eq hk (by omega)]; omega), if_neg (show ¬ nI k = nI 8 by rw [zl_eq hk (by omega)]; omega), if_neg (show ¬ nI k = nI 9 by rw [zl_eq hk (by omega)]; omega), if_neg (show ¬ nI k = nI 10 by rw [zl_eq hk (by omega)]; omega), if_neg (show ¬ nI k = nI 11 by rw [zl_eq hk (by omega)]; omega), if_neg (show ¬ nI k = nI 12 by rw [zl_eq hk (by omega)]; omega), if_neg (show ¬ nI k = nI 13 by rw [zl_eq hk (by omega)]; omega)]
    exact ⟨_, rfl, rfl⟩
/-! foretold -/
theorem q_fore {M R x : Nat} {y : Int32} {ticks facts places bear now : Nat → Int32} (hf : zFit M R ticks facts places bear) (hn : zNT M R ticks facts places bear now) (hx : x < M) : ∀ (d i n : Nat) (c : Int32), i + d = R → d + 1 ≤ n →
    ∃ v, (∀ K, fX1_passersIn_L16 ticks (nI R) facts y (places x) K n c (nI i) = K v (nI R)) ∧ ∀ K, fX11_foretold_L24 now (nI x) y K n c (nI i) = K v (nI R) := by
  intro d
  have hM : M ≤ 12 := hf.1
  have hR : R ≤ 60 := hf.2.1
  have c0 : ∀ c : Int32, c + nI 0 = c := fun c => by rw [p_zero]; exact Int32.add_zero c
  induction d with
  | zero =>
    intro i n c h1 h2
    obtain rfl : i = R := by omega
    cases n with
    | zero => omega
    | succ n =>
      refine ⟨c, fun K => ?_, fun K => ?_⟩
      · rw [fX1_passersIn_L16]
        unfold fX6_size
        rw [Option.bind_some, if_pos (by rw [zl_le (by omega) (by omega)]; exact Nat.le_refl _)]
      · rw [fX11_foretold_L24, g_runners, Option.bind_some, hn.2.1, if_pos (by rw [zl_le (by omega) (by omega)]; exact Nat.le_refl _)]
  | succ d ih =>
    intro i n c h1 h2
    cases n with
    | zero => omega
    | succ n =>
      have hi : i < R := by omega
      obtain ⟨k, hk, ek, hcase⟩ := zMi_c hf hx hi
      have hgun := c_gunOfR (ticks := ticks) hR hi ⟨k, hk, ek⟩
      rw [ek, zl_c (show k < 2 ^ 31 by omega)] at hgun
      rcases hcase with ⟨htc, hp, _⟩ | ⟨htc, s, hs, hp, _, hsum⟩
      · obtain ⟨v, v1, v2⟩ := ih (i + 1) n c (by omega) (by omega)
        refine ⟨v, fun K => ?_, fun K => ?_⟩
        · rw [fX1_passersIn_L16]
          unfold fX6_size
          rw [Option.bind_some, if_neg (by rw [zl_le (by omega) (by omega)]; omega), hgun, Option.bind_some, c_factOf hR hi (by omega), Option.bind_some, if_pos htc, nI_add]
          exact v1 K
        · rw [fX11_foretold_L24, g_runners, Option.bind_some, hn.2.1, if_neg (by rw [zl_le (by omega) (by omega)]; omega), g_passes hf hn hx hi, Option.bind_some, if_pos hp, c0, nI_add]
          exact v2 K
      · by_cases hy : nI s / nI 60 = y
        · obtain ⟨v, v1, v2⟩ := ih (i + 1) n (c + nI 1) (by omega) (by omega)
          refine ⟨v, fun K => ?_, fun K => ?_⟩
          · rw [fX1_passersIn_L16]
            unfold fX6_size fX10_secondsCut
            rw [Option.bind_some, if_neg (by rw [zl_le (by omega) (by omega)]; omega), hgun, Option.bind_some, c_factOf hR hi (by omega), Option.bind_some, if_neg htc, Option.bind_some, hsum, if_pos hy, nI_add]
            exact v1 K
          · rw [fX11_foretold_L24, g_runners, Option.bind_some, hn.2.1, if_neg (by rw [zl_le (by omega) (by omega)]; omega), g_passes hf hn hx hi, Option.bind_some, hp, if_neg (nm1 (by omega)), Option.bind_some, if_pos hy, nI_add]
            exact v2 K
        · obtain ⟨v, v1, v2⟩ := ih (i + 1) n c (by omega) (by omega)
          refine ⟨v, fun K => ?_, fun K => ?_⟩
          · rw [fX1_passersIn_L16]
            unfold fX6_size fX10_secondsCut
            rw [Option.bind_some, if_neg (by rw [zl_le (by omega) (by omega)]; omega), hgun, Option.bind_some, c_factOf hR hi (by omega), Option.bind_some, if_neg htc, Option.bind_some, hsum, if_neg hy, nI_add]
            exact v1 K
          · rw [fX11_foretold_L24, g_runners, Option.bind_some, hn.2.1, if_neg (by rw [zl_le (by omega) (by omega)]; omega), g_passes hf hn hx hi, Option.bind_some, hp, if_neg (nm1 (by omega)), Option.bind_some, if_neg hy, c0, nI_add]
            exact v2 K
theorem r_foretold {N : Nat} {ticks dropped facts splits order struck torn waved bearings cuts deaths places now : Nat → Int32} {entered strikings mats : Int32} {T x1 x2 : Int32} (hN : 10000 ≤ N) (hz : zRace ticks entered strikings dropped facts splits order struck torn waved mats bearings cuts deaths places now) : ∃ r, fX10_foretold N ticks entered facts mats places x1 x2 = some r ∧ fX11_foretold N T now x1 x2 = some (r, nI 0) := by
  obtain ⟨M, R, S, h⟩ := hz
  obtain ⟨hf, hn⟩ := zfit_of h
  obtain ⟨⟨⟨_, hM, hR, _⟩, em, ee, _, n0, n1, _⟩, _⟩ := h
  subst em; subst ee
  unfold fX10_foretold fX11_foretold
  rcases zarg x1 with hx | ⟨j, hj, rfl⟩
  · rw [c_hasMn hx, g_isMatn hx, Option.bind_some, Option.bind_some, if_pos zl_f0, if_pos zl_f0]
    exact ⟨_, rfl, rfl⟩
  rw [c_hasM hM hj, g_isMat n0 hM hj, Option.bind_some, Option.bind_some]
  by_cases hjM : j < M
  case neg =>
    rw [decide_eq_false hjM, if_pos zl_f0, if_pos zl_f0]
    exact ⟨_, rfl, rfl⟩
  rw [decide_eq_true hjM, if_neg zl_t0, if_neg zl_t0]
  rcases zarg x2 with hy | ⟨k, hk, rfl⟩
  · have h0 : ¬ (0 : Int32) ≤ x2 := fun q => by
      have a := zq_le q
      have b := zq_lt hy
      omega
    rw [if_pos hy, if_neg h0]
    exact ⟨_, rfl, rfl⟩
  · obtain ⟨v, v1, v2⟩ := q_fore (y := nI k) hf hn hjM R 0 N (nI 0) (by omega) (by omega)
    rw [if_neg (nI_pos hk), if_pos (nI_pos' hk)]
    unfold fX1_passersIn
    rw [c_placeAt hM hjM, Option.bind_some, v1, Option.bind_some, v2]
    exact ⟨_, rfl, rfl⟩
