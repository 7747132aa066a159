theorem r_end {length mlength T x1 : Int32} {bytes text : Nat → Int32} (hx : zText length bytes mlength text) : ∃ (r : Bool) (a : Int32), fX10_end length x1 = some (r, a) ∧ fX11_end mlength T x1 = some (r, a, nI 0) ∧ zText a bytes a text := by
  obtain ⟨n, hn, e1, e2, h⟩ := hx
  subst e1; subst e2
  obtain ⟨r, n', e1, e2, q⟩ := p_end (T := T) (x1 := x1) hn
  exact ⟨r, nI n', e1, e2, n', by omega, rfl, rfl, fun k hk => h k (by omega)⟩
theorem zrace_ext {ticks dropped facts splits order struck torn waved bearings cuts deaths places now ticks' dropped' facts' splits' order' struck' torn' waved' bearings' cuts' deaths' places' now' : Nat → Int32} {entered strikings mats : Int32}
    (hz : zRace ticks entered strikings dropped facts splits order struck torn waved mats bearings cuts deaths places now)
    (e1 : ∀ i, i < 6 → ticks' i = ticks i) (e2 : ∀ i, i < 60 → zBit (dropped i) → dropped' i = dropped i) (e3 : ∀ i, i < 360 → facts' i = facts i) (e4 : ∀ i, i < 720 → splits' i = splits i) (e5 : ∀ i, i < 60 → order' i = order i) (e6 : ∀ i, i < 60 → zBit (struck i) → struck' i = struck i) (e7 : ∀ i, i < 60 → torn' i = torn i) (e8 : ∀ i, i < 60 → zBit (waved i) → waved' i = waved i)
    (e9 : ∀ i, i < 12 → bearings' i = bearings i) (e10 : ∀ i, i < 12 → cuts' i = cuts i) (e11 : ∀ i, i < 12 → zBit (deaths i) → deaths' i = deaths i) (e12 : ∀ i, i < 12 → places' i = places i) (e13 : ∀ i, i < 1562 → now' i = now i) :
    zRace ticks' entered strikings dropped' facts' splits' order' struck' torn' waved' mats bearings' cuts' deaths' places' now' := by
  obtain ⟨M, R, S, ⟨hM, em, ee, es, n0, n1, n2⟩, hm, ht, hr, hs⟩ := hz
  have st : ∀ r, r < R → struck' r = struck r := fun r h => e6 r (by omega) (hr r h).2.2.2.2.2.2.2.2.2.1.2
  refine ⟨M, R, S, ⟨hM, em, ee, es, by rw [e13 0 (by omega)]; exact n0, by rw [e13 1 (by omega)]; exact n1, by rw [e13 2 (by omega)]; exact n2⟩, ⟨fun m h => ?_, fun a b hab hb => ?_, ?_⟩, fun p hp => ?_, fun r h => ?_, fun i hi => ?_, fun i j hij hj => ?_, fun r h h1 => ?_, ?_⟩
  · obtain ⟨a1, a2, a3, a4, a5, a6, a7, a8⟩ := hm.1 m h
    rw [e13 _ (by omega), e13 _ (by omega), e13 _ (by omega), e13 _ (by omega), e9 m (by omega), e10 m (by omega), e11 m (by omega) a7, e12 m (by omega)]
    exact ⟨a1, a2, a3, a4, a5, a6, a7, a8⟩
  · rw [e12 a (by omega), e12 b (by omega)]; exact hm.2.1 a b hab hb
  · rw [e12 0 (by omega)]; exact hm.2.2
  · rw [e13 _ (by omega), e1 p hp]; exact ht p hp
  · obtain ⟨a1, a2, a3, a4, a5, a6, a7, a8, a9, a10, a11, a12⟩ := hr r h
    rw [zRun]
    refine ⟨fun k hk => by rw [e13 _ (by omega), e3 _ (by omega)]; exact a1 k hk, by rw [e3 _ (by omega)]; exact a2, by rw [e3 _ (by omega)]; exact a3, by rw [e3 _ (by omega)]; exact a4, by rw [e3 _ (by omega)]; exact a5, by rw [e3 _ (by omega)]; exact a6, by rw [e3 _ (by omega)]; exact a7, by rw [e13 _ (by omega), e2 r (by omega) a8.2]; exact a8, by rw [e13 _ (by omega), e8 r (by omega) a9.2]; exact a9, by rw [e13 _ (by omega), st r h]; exact a10, by rw [e13 _ (by omega), e7 r (by omega)]; exact a11, fun k hk => by rw [e13 _ (by omega), e4 _ (by omega)]; exact a12 k hk⟩
  · obtain ⟨b1, ρ, b2, b3, b4⟩ := hs.1 i hi
    rw [e13 _ (by omega), e5 i (by omega)]
    exact ⟨b1, ρ, b2, b3, by rw [st ρ b2]; exact b4⟩
  · rw [e5 i (by omega), e5 j (by omega)]; exact hs.2.1 i j hij hj
  · rw [st r h] at h1
    obtain ⟨i, hi, q⟩ := hs.2.2.1 r h h1
    exact ⟨i, hi, by rw [e5 i (by omega)]; exact q⟩
  · rw [zcnt_eq R st]; exact hs.2.2.2
theorem p_cp1 {p : Nat → Int32} : ∀ (n k : Nat) (d : Nat → Int32), k ≤ 12 → 13 ≤ n + k → ∃ d' : Nat → Int32, (∀ K, fX9_copyFrom_L47 p K n (nI k) d = K (nI 12) d') ∧ ∀ i, (k ≤ i ∧ i < 12 → d' i = vp_nar .boolean (p i)) ∧ (i < k → d' i = d i) := by
  intro n
  induction n with
  | zero => intro k d h1 h2; omega
  | succ n ih =>
    intro k d h1 h2
    by_cases hk : k = 12
    · subst hk
      refine ⟨d, fun K => ?_, fun i => ⟨fun h => by omega, fun _ => rfl⟩⟩
      rw [fX9_copyFrom_L47, if_pos (by rw [zl_le (by omega) (by omega)]; exact Nat.le_refl 12)]
    · obtain ⟨d', e, q⟩ := ih (k + 1) (upd d k (vp_nar .boolean (p k))) (by omega) (by omega)
      have z : zin (nI k) 12 := zin_k (by omega) (by omega)
      refine ⟨d', fun K => ?_, fun i => ⟨fun h => ?_, fun h => ?_⟩⟩
      · rw [fX9_copyFrom_L47, if_neg (by rw [zl_le (by omega) (by omega)]; omega), if_pos z, if_pos z, zl_c (show k < 2 ^ 31 by omega), nI_add]
        exact e K
      · by_cases hi : i = k
        · rw [(q i).2 (by omega), hi, zup_s]
        · exact (q i).1 (by omega)
      · rw [(q i).2 (by omega), zup_n (by omega)]
theorem p_cp2 {p1 p2 p3 : Nat → Int32} : ∀ (n k : Nat) (d1 d2 d3 : Nat → Int32), k ≤ 60 → 61 ≤ n + k → ∃ d1' d2' d3' : Nat → Int32, (∀ K, fX6_copyFrom_L64 p1 p2 p3 K n (nI k) d1 d2 d3 = K (nI 60) d1' d2' d3') ∧ ∀ i, (k ≤ i ∧ i < 60 → d1' i = vp_nar .boolean (p1 i) ∧ d2' i = vp_nar .boolean (p2 i) ∧ d3' i = vp_nar .boolean (p3 i)) ∧ (i < k → d1' i = d1 i ∧ d2' i = d2 i ∧ d3' i = d3 i) := by
  intro n
  induction n with
  | zero => intro k d1 d2 d3 h1 h2; omega
  | succ n ih =>
    intro k d1 d2 d3 h1 h2
    by_cases hk : k = 60
    · subst hk
      refine ⟨d1, d2, d3, fun K => ?_, fun i => ⟨fun h => by omega, fun _ => ⟨rfl, rfl, rfl⟩⟩⟩
      rw [fX6_copyFrom_L64, if_pos (by rw [zl_le (by omega) (by omega)]; exact Nat.le_refl 60)]
    · obtain ⟨a, b, c, e, q⟩ := ih (k + 1) (upd d1 k (vp_nar .boolean (p1 k))) (upd d2 k (vp_nar .boolean (p2 k))) (upd d3 k (vp_nar .boolean (p3 k))) (by omega) (by omega)
      have z : zin (nI k) 60 := zin_k (by omega) (by omega)
      refine ⟨a, b, c, fun K => ?_, fun i => ⟨fun h => ?_, fun h => ?_⟩⟩
      · rw [fX6_copyFrom_L64, if_neg (by rw [zl_le (by omega) (by omega)]; omega), if_pos z, if_pos z, if_pos z, if_pos z, if_pos z, if_pos z, zl_c (show k < 2 ^ 31 by omega), nI_add]
        exact e K
      · by_cases hi : i = k
        · obtain ⟨r1, r2, r3⟩ := (q i).2 (by omega)
          rw [r1, r2, r3, hi, zup_s, zup_s, zup_s]; exact ⟨rfl, rfl, rfl⟩
        · exact (q i).1 (by omega)
      · obtain ⟨r1, r2, r3⟩ := (q i).2 (by omega)
        rw [r1, r2, r3, zup_n (by omega), zup_n (by omega), zup_n (by omega)]; exact ⟨rfl, rfl, rfl⟩
theorem p_cp3 {w : Nat → Int32} : ∀ (n k : Nat) (d : Nat → Int32), k ≤ 1562 → 1563 ≤ n + k → ∃ d' : Nat → Int32, (∀ K, fX11_image_L7 w K n (nI k) d = K (nI 1562) d') ∧ ∀ i, (k ≤ i ∧ i < 1562 → d' i = w i) ∧ (i < k → d' i = d i) := by
  intro n
  induction n with
  | zero => intro k d h1 h2; omega
  | succ n ih =>
    intro k d h1 h2
    by_cases hk : k = 1562
    · subst hk
      refine ⟨d, fun K => ?_, fun i => ⟨fun h => by omega, fun _ => rfl⟩⟩
      rw [fX11_image_L7, if_pos (by rw [zl_le (by omega) (by omega)]; exact Nat.le_refl _)]
    · obtain ⟨d', e, q⟩ := ih (k + 1) (upd d k (w k)) (by omega) (by omega)
      have z : zin (nI k) 1562 := zin_k (by omega) (by omega)
      refine ⟨d', fun K => ?_, fun i => ⟨fun h => ?_, fun h => ?_⟩⟩
      · rw [fX11_image_L7, if_neg (by rw [zl_le (by omega) (by omega)]; omega), if_pos z, if_pos z, zl_c (show k < 2 ^ 31 by omega), nI_add]
        exact e K
      · by_cases hi : i = k
        · rw [(q i).2 (by omega), hi, zup_s]
        · exact (q i).1 (by omega)
      · rw [(q i).2 (by omega), zup_n (by omega)]
theorem p_copy {N : Nat} {ticks dropped facts splits order struck torn waved bearings cuts deaths places now ticks' dropped' facts' splits' order' struck' torn' waved' bearings' cuts' deaths' places' : Nat → Int32} {entered strikings mats entered' strikings' mats' : Int32} (hN : 10000 ≤ N) :
    ∃ t d f s o st to w b c de p : Nat → Int32, fX4_copyFrom N ticks' entered' strikings' dropped' facts' splits' order' struck' torn' waved' mats' bearings' cuts' deaths' places' ticks entered strikings dropped facts splits order struck torn waved mats bearings cuts deaths places = some (t, entered, strikings, d, f, s, o, st, to, w, mats, b, c, de, p) ∧
      ∀ now' : Nat → Int32, (∀ i, i < 1562 → now' i = now i) → zRace ticks entered strikings dropped facts splits order struck torn waved mats bearings cuts deaths places now → zRace t entered strikings d f s o st to w mats b c de p now' := by
  obtain ⟨de, e1, q1⟩ := p_cp1 (p := deaths) N 0 deaths' (by omega) (by omega)
  obtain ⟨d, st, w, e2, q2⟩ := p_cp2 (p1 := dropped) (p2 := struck) (p3 := waved) N 0 dropped' struck' waved' (by omega) (by omega)
  have cp : ∀ (f g : Nat → Int32) (n i : Nat), i < n → va_cpy f g 0 0 n i = f i := fun f g n i hi => by
    rw [pk_cpy_in (Nat.zero_le _) (by omega)]; rw [Nat.sub_zero, Nat.zero_add]
  refine ⟨va_cpy ticks ticks' 0 0 6, d, va_cpy facts facts' 0 0 360, va_cpy splits splits' 0 0 720, va_cpy order order' 0 0 60, st, va_cpy torn torn' 0 0 60, w, va_cpy bearings bearings' 0 0 12, va_cpy cuts cuts' 0 0 12, de, va_cpy places places' 0 0 12, ?_, fun now' hw hz => ?_⟩
  · unfold fX4_copyFrom fX9_copyFrom fX2_copyFrom fX6_copyFrom
    rw [e1, Option.bind_some]
    dsimp only
    rw [Option.bind_some, e2, Option.bind_some]
  · exact zrace_ext hz (fun i hi => cp _ _ _ i hi) (fun i hi hb => by rw [((q2 i).1 ⟨Nat.zero_le _, hi⟩).1, p_bit hb]) (fun i hi => cp _ _ _ i hi) (fun i hi => cp _ _ _ i hi) (fun i hi => cp _ _ _ i hi) (fun i hi hb => by rw [((q2 i).1 ⟨Nat.zero_le _, hi⟩).2.1, p_bit hb]) (fun i hi => cp _ _ _ i hi) (fun i hi hb => by rw [((q2 i).1 ⟨Nat.zero_le _, hi⟩).2.2, p_bit hb]) (fun i hi => cp _ _ _ i hi) (fun i hi => cp _ _ _ i hi) (fun i hi hb => by rw [(q1 i).1 ⟨Nat.zero_le _, hi⟩, p_bit hb]) (fun i hi => cp _ _ _ i hi) hw
