/-! doubt: the doubts in their order -/
def zcb (d : Nat → Bool) : Nat → Nat
  | 0 => 0
  | c + 1 => zcb d c + (if d c = true then 1 else 0)
theorem zcb_le {d : Nat → Bool} : ∀ c, zcb d c ≤ c
  | 0 => Nat.le_refl 0
  | c + 1 => by
    have h := zcb_le (d := d) c
    show zcb d c + (if d c = true then 1 else 0) ≤ c + 1
    by_cases q : d c = true
    · rw [if_pos q]; omega
    · rw [if_neg q]; omega
theorem zcb_t {d : Nat → Bool} {c : Nat} (h : d c = true) : zcb d (c + 1) = zcb d c + 1 := by
  show zcb d c + (if d c = true then 1 else 0) = _
  rw [if_pos h]
theorem zcb_f {d : Nat → Bool} {c : Nat} (h : ¬ d c = true) : zcb d (c + 1) = zcb d c := by
  show zcb d c + (if d c = true then 1 else 0) = _
  rw [if_neg h]; rfl
theorem zcb_mono {d : Nat → Bool} {a : Nat} : ∀ k, zcb d a ≤ zcb d (a + k)
  | 0 => Nat.le_refl _
  | k + 1 => by
    have h := zcb_mono (d := d) (a := a) k
    have e : zcb d (a + (k + 1)) = zcb d (a + k) + (if d (a + k) = true then 1 else 0) := rfl
    rw [e]; omega
theorem zcb_lt {d : Nat → Bool} {c C : Nat} (h : c < C) (hd : d c = true) : zcb d c < zcb d C := by
  have h1 := zcb_mono (d := d) (a := c + 1) (C - (c + 1))
  rw [show c + 1 + (C - (c + 1)) = C by omega, zcb_t hd] at h1
  omega
theorem zcb_find {d : Nat → Bool} {k : Nat} : ∀ C, k < zcb d C → ∃ c, c < C ∧ d c = true ∧ zcb d c = k
  | 0, h => absurd h (Nat.not_lt_zero k)
  | C + 1, h => by
    by_cases q : d C = true
    · rw [zcb_t q] at h
      by_cases e : k = zcb d C
      · exact ⟨C, by omega, q, e.symm⟩
      · obtain ⟨c, h1, h2, h3⟩ := zcb_find (d := d) (k := k) C (by omega)
        exact ⟨c, by omega, h2, h3⟩
    · rw [zcb_f q] at h
      obtain ⟨c, h1, h2, h3⟩ := zcb_find (d := d) (k := k) C h
      exact ⟨c, by omega, h2, h3⟩
theorem zcb_flat {d : Nat → Bool} {a : Nat} : ∀ k, (∀ c, a ≤ c → c < a + k → d c = false) → zcb d (a + k) = zcb d a
  | 0, _ => rfl
  | k + 1, h => by
    have h1 := zcb_flat (d := d) (a := a) k (fun c h1 h2 => h c h1 (by omega))
    have e := zcb_f (d := d) (c := a + k) (by rw [h (a + k) (by omega) (by omega)]; decide)
    exact e.trans h1
def zad (b : Bool) (dn : Int32) (co : Nat → Int32) (r m k : Nat) : Option (Int32 × (Nat → Int32)) := if b = true then fX0_add dn co (nI r) (nI m) (nI k) else some (dn, co)
theorem zbp {α β : Type} {o : Option (α × β)} : Option.bind o (fun (a, b) => some (a, b)) = o := by
  cases o with
  | none => rfl
  | some p => rfl
/-- the class's list of doubts, the first C codes looked at -/
def zDo (d : Nat → Bool) (C : Nat) (dn : Int32) (co : Nat → Int32) : Prop := dn = nI (zcb d C) ∧ ∀ c, c < C → d c = true → co (zcb d c) = nI c
theorem zad_ok {d : Nat → Bool} {r m k C : Nat} {dn : Int32} {co : Nat → Int32} (hC : C < 2160) (e : (r * 12 + m) * 3 + k = C + 1) (h : zDo d C dn co) : ∃ dn' co', zad (d C) dn co r m k = some (dn', co') ∧ zDo d (C + 1) dn' co' := by
  obtain ⟨h1, h2⟩ := h
  have hle := zcb_le (d := d) C
  unfold zad
  by_cases q : d C = true
  · rw [if_pos q]
    unfold fX0_add
    rw [h1, if_neg (nI_pos (by omega)), if_neg (by rw [zl_le (by omega) (by omega)]; omega), if_pos (zin_k (by omega) (by omega)), zl_c (by omega), nI_add, pk_mul, nI_add, pk_mul, nI_add, e, pk_sub (by omega), show C + 1 - 1 = C by omega]
    refine ⟨_, _, rfl, by rw [zcb_t q], fun c hc hd => ?_⟩
    by_cases hcC : c = C
    · rw [hcC, zup_s]
    · have := zcb_lt (d := d) (c := c) (C := C) (by omega) hd
      rw [zup_n (by omega)]
      exact h2 c (by omega) hd
  · rw [if_neg q]
    refine ⟨_, _, rfl, by rw [zcb_f q]; exact h1, fun c hc hd => ?_⟩
    by_cases hcC : c = C
    · exact absurd (by rw [← hcC]; exact hd) q
    · exact h2 c (by omega) hd
theorem g_dL30 {M R r : Nat} {ticks facts splits dropped waved struck torn now : Nat → Int32} (h : zQr M R r ticks facts splits dropped waved struck torn now) : ∀ (e i n : Nat) (b : Bool), i + e = M → e + 1 ≤ n → ∃ b' : Bool, (b' = true ↔ (b = true ∨ ∃ m, i ≤ m ∧ m < M ∧ ¬ zSeen ticks facts splits r m = -1)) ∧ ∀ K, fX11_isDoubt_L30 now (nI r) K n b (nI i) = K b' (nI M) := by
  intro e
  have hM : M ≤ 12 := h.1.2.1
  have n0 : now 0 = nI M := h.1.2.2.2.2.1
  induction e with
  | zero =>
    intro i n b h1 h2
    obtain rfl : i = M := by omega
    cases n with
    | zero => omega
    | succ n =>
      refine ⟨b, ⟨fun q => Or.inl q, fun q => q.elim id (fun ⟨m, a, c, _⟩ => by omega)⟩, fun K => ?_⟩
      rw [fX11_isDoubt_L30, g_mats, Option.bind_some, n0, if_pos (by rw [zl_le (by omega) (by omega)]; exact Nat.le_refl _)]
  | succ e ih =>
    intro i n b h1 h2
    cases n with
    | zero => omega
    | succ n =>
      have hi : i < M := by omega
      cases b with
      | true =>
        obtain ⟨b', e1, e2⟩ := ih (i + 1) n true (by omega) (by omega)
        refine ⟨b', ⟨fun _ => Or.inl rfl, fun _ => e1.mpr (Or.inl rfl)⟩, fun K => ?_⟩
        rw [fX11_isDoubt_L30, g_mats, Option.bind_some, n0, if_neg (by rw [zl_le (by omega) (by omega)]; omega), if_neg zl_t0, nI_add]
        exact e2 K
      | false =>
        have go : ∀ K, fX11_isDoubt_L30 now (nI r) K (n + 1) false (nI i) = if zSeen ticks facts splits r i = -1 then fX11_isDoubt_L30 now (nI r) K n false (nI (i + 1)) else fX11_isDoubt_L30 now (nI r) K n true (nI (i + 1)) := by
          intro K
          rw [fX11_isDoubt_L30, g_mats, Option.bind_some, n0, if_neg (by rw [zl_le (by omega) (by omega)]; omega), if_pos (of_eq_true zl_f), g_seen h (by omega), Option.bind_some, nI_add]
        by_cases a : zSeen ticks facts splits r i = -1
        · obtain ⟨b', e1, e2⟩ := ih (i + 1) n false (by omega) (by omega)
          refine ⟨b', ⟨fun q => ?_, fun q => ?_⟩, fun K => by rw [go K, if_pos a]; exact e2 K⟩
          · rcases e1.mp q with z | ⟨m, m1, m2, m3⟩
            · exact Or.inl z
            · exact Or.inr ⟨m, by omega, m2, m3⟩
          · rcases q with z | ⟨m, m1, m2, m3⟩
            · exact e1.mpr (Or.inl z)
            · refine e1.mpr (Or.inr ⟨m, ?_, m2, m3⟩)
              rcases Nat.lt_or_ge i m with g | g
              · omega
              · exact absurd a (by rw [show i = m by omega]; exact m3)
        · obtain ⟨b', e1, e2⟩ := ih (i + 1) n true (by omega) (by omega)
          exact ⟨b', ⟨fun _ => Or.inr ⟨i, Nat.le_refl i, hi, a⟩, fun _ => e1.mpr (Or.inl rfl)⟩, fun K => by rw [go K, if_neg a]; exact e2 K⟩
theorem g_dL122 {M R r : Nat} {ticks facts splits dropped waved struck torn now : Nat → Int32} (h : zQr M R r ticks facts splits dropped waved struck torn now) : ∀ (i n : Nat), i ≤ 12 → i + 1 ≤ n → ∀ K, fX11_isDoubt_L122 now (nI r) K n (nI i - nI 1) = K (zLa (zSeen ticks facts splits r) i) := by
  intro i
  induction i with
  | zero =>
    intro n h1 h2 K
    cases n with
    | zero => omega
    | succ n =>
      have e : nI 0 - nI 1 = -1 := by decide
      rw [e, fX11_isDoubt_L122, if_pos (of_eq_true zl_m1)]
      rfl
  | succ i ih =>
    intro n h1 h2 K
    cases n with
    | zero => omega
    | succ n =>
      have u : zLa (zSeen ticks facts splits r) (i + 1) = if zSeen ticks facts splits r i = -1 then zLa (zSeen ticks facts splits r) i else nI i := rfl
      rw [pk_sub (by omega), show i + 1 - 1 = i by omega, fX11_isDoubt_L122, if_neg (nI_pos (by omega)), g_seen h (by omega), Option.bind_some, u]
      by_cases q : zSeen ticks facts splits r i = -1
      · rw [if_pos q, if_pos q, znm]
        exact ih n (by omega) (by omega) K
      · rw [if_neg q, if_neg q]
theorem q_db {N M R r k m : Nat} {ticks facts splits dropped waved struck torn now places pl tk : Nat → Int32} (hN : 10000 ≤ N) (h : zQr M R r ticks facts splits dropped waved struck torn now) (hk : k ≤ 3) (ek : facts (6 * r + 0) = nI k) (htr : zTr M (zSeen ticks facts splits r) places pl tk) (hpm : ∀ m, m < M → now (8 + 4 * m + 0) = places m) (hpl : ∀ a b, a < b → b < M → ∃ n : Nat, n ≤ 100000 ∧ places b - places a = nI n) (hm : m < M) :
    ∃ b1 b2 b3 : Bool, fX11_isDoubt N now (nI r) (nI m) (nI 1) = some b1 ∧ fX11_isDoubt N now (nI r) (nI m) (nI 2) = some b2 ∧ fX11_isDoubt N now (nI r) (nI m) (nI 3) = some b3 ∧
      ∀ (dn : Int32) (co : Nat → Int32), fX0_gatherAt N dn co (zfG k) (zfL k) (nI M) pl tk (nI r) (nI m) = Option.bind (zad b1 dn co r m 1) (fun s => Option.bind (zad b2 s.1 s.2 r m 2) (fun s => zad b3 s.1 s.2 r m 3)) := by
  obtain ⟨⟨_, hM, hR, hr, n0, _⟩, _, hfa, _⟩ := id h
  obtain ⟨_, _, ⟨la, hl1, el⟩, ⟨ga, hg1, eg⟩⟩ := zlim hk
  have hof : fX11_of now (nI r) (nI 0) = some (nI k) := by
    rw [g_of (by omega) (by omega)]
    exact congrArg some ((hfa 0 (by omega)).trans ek)
  have hmat : ∀ m, m < M → fX11_ofMat now (nI m) (nI 0) = some (places m) := fun m hm => by
    rw [g_ofMat (by omega) (by omega), hpm m hm]
  have hz4 : zin (nI k) 4 := zin_k (by omega) (by omega)
  unfold fX11_isDoubt fX11_isDoubt_J15
  rw [g_seen h (by omega), Option.bind_some, Option.bind_some, Option.bind_some, if_pos rfl, if_pos rfl, if_neg (show ¬ nI 2 = nI 1 by decide), if_neg (show ¬ nI 2 = nI 1 by decide), if_neg (show ¬ nI 2 = nI 3 by decide), if_neg (show ¬ nI 2 = nI 3 by decide), if_neg (show ¬ nI 3 = nI 1 by decide), if_neg (show ¬ nI 3 = nI 1 by decide), if_pos rfl, if_pos rfl]
  obtain ⟨b, eb, e30⟩ := g_dL30 h (M - (m + 1)) (m + 1) N false (by omega) (by omega)
  obtain ⟨v1, lv1, gv1⟩ := q_least hN h hk ek htr hpm hpl hm rfl
  obtain ⟨v2, lv2, gv2⟩ := q_greatest (y := nI 1) hN h hk ek htr hpm hpl hm (by decide)
  have gv1' : fX11_guessOf N now (nI r) (nI m) (nI 0) = some v1 := gv1
  by_cases q : zSeen ticks facts splits r m = -1
  · -- not seen
    rw [if_pos q, if_pos q, if_pos q, nI_add, e30, g_dL122 h m N (by omega) (by omega), if_pos zl_f0, if_pos zl_f0, gv1', gv2, Option.bind_some, Option.bind_some]
    have htq : fX8_isTooQuick N (zfL k) (nI M) pl tk (nI m) = some false := by
      unfold fX8_isTooQuick
      rw [c_ahead hN hM htr (by omega), Option.bind_some]
      by_cases z : zLa (zSeen ticks facts splits r) m = -1
      · rw [if_pos z]
      · rw [if_neg z, c_isSeen8 hM htr hm, Option.bind_some, decide_eq_false (fun w => w q), if_pos zl_f0]
    have hJ : ∀ (dn : Int32) (co : Nat → Int32), fX0_gatherAt_J28 N (nI M) (zfL k) (zfG k) pl tk (nI r) (nI m) false dn co = zad (decide (¬ v1 ≤ v2)) dn co r m 3 := by
      intro dn co
      unfold fX0_gatherAt_J28 zad
      rw [htq, Option.bind_some, if_pos zl_f0, if_pos zl_f0, lv1, Option.bind_some, lv2, Option.bind_some]
      by_cases z : v1 ≤ v2
      · rw [if_pos z, decide_eq_false (fun w => w z), if_neg (show ¬ (false = true) by decide)]
      · rw [if_neg z, decide_eq_true z, if_pos rfl, zbp]
    have h3 : (if v1 ≤ v2 then some false else some true) = some (decide (¬ v1 ≤ v2)) := by
      by_cases z : v1 ≤ v2
      · rw [if_pos z, decide_eq_false (fun w => w z)]
      · rw [if_neg z, decide_eq_true z]
    refine ⟨b, false, decide (¬ v1 ≤ v2), ?_, rfl, h3, fun dn co => ?_⟩
    · cases b with
      | true => rw [if_neg zl_t0]
      | false => rw [if_pos zl_f0]
    · unfold fX0_gatherAt fX8_seenBehind
      rw [c_isSeen8 hM htr hm, Option.bind_some, decide_eq_false (fun w => w q), if_pos zl_f0, nI_add]
      rcases c_behindL hM htr (M - (m + 1)) (m + 1) N (by omega) (by omega) with ⟨j, j1, j2, j3, _, j5⟩ | ⟨j1, j2⟩
      · have hb : b = true := eb.mpr (Or.inr ⟨j, j1, j2, j3⟩)
        rw [j5, Option.bind_some, if_neg (nm1 (by omega)), hb]
        unfold zad
        rw [if_pos rfl]
        cases hA : fX0_add dn co (nI r) (nI m) (nI 1) with
        | none => rfl
        | some p =>
          rw [Option.bind_some, Option.bind_some, if_neg (show ¬ (false = true) by decide), Option.bind_some]
          exact hJ p.1 p.2
      · have hb : b = false := by
          cases b with
          | false => rfl
          | true =>
            obtain ⟨j, a1, a2, a3⟩ := (eb.mp rfl).resolve_left (by decide)
            exact absurd (j1 j a1 a2) a3
        rw [j2, Option.bind_some, if_pos rfl, hb]
        show fX0_gatherAt_J28 N (nI M) (zfL k) (zfG k) pl tk (nI r) (nI m) false dn co = _
        rw [hJ]
        unfold zad
        rw [if_neg (show ¬ (false = true) by decide), Option.bind_some, if_neg (show ¬ (false = true) by decide), Option.bind_some]
  · -- seen
    rw [if_neg q, if_neg q, if_neg q, nI_add, e30, g_dL122 h m N (by omega) (by omega), if_neg zl_t0, if_neg zl_t0, if_neg zl_t0]
    have htq : ∃ b2 : Bool, fX8_isTooQuick N (zfL k) (nI M) pl tk (nI m) = some b2 ∧ (if 0 ≤ zLa (zSeen ticks facts splits r) m then (Option.bind (some (zSeen ticks facts splits r m)) (fun r7 => ((fX11_seen now (nI r) (zLa (zSeen ticks facts splits r) m)).bind (fun r9 => ((fX11_ofMat now (nI m) (nI 0)).bind (fun r11 => ((fX11_ofMat now (zLa (zSeen ticks facts splits r) m) (nI 0)).bind (fun r13 => ((fX11_of now (nI r) (nI 0)).bind (fun r15 => (if zin r15 4 then ((fX11_madeUp (r11 - r13) (zfL (r15).toNatClampNeg)).bind (fun r18 => (if r18 ≤ (r7 - r9) then some (false) else some (true)))) else none))))))))))) else some (false)) = some b2 := by
      unfold fX8_isTooQuick
      rw [c_ahead hN hM htr (by omega), Option.bind_some]
      rcases zLa_c (f := zSeen ticks facts splits r) m with ha | ⟨a, ha1, ha2, ha3⟩
      · rw [if_pos ha, ha, if_neg (show ¬ (0 : Int32) ≤ -1 by decide)]
        exact ⟨false, rfl, rfl⟩
      · obtain ⟨n1, hn1, en1⟩ := hpl a m ha1 hm
        have haM : a < M := by omega
        unfold fX8_quickest fX10_secondsUp
        rw [ha2, if_neg (nm1 (by omega)), if_pos (nI_pos' (by omega)), c_isSeen8 hM htr hm, Option.bind_some, decide_eq_true q, if_neg zl_t0, c_tick8 hM htr hm, Option.bind_some, c_tick8 hM htr haM, Option.bind_some, c_place8 hM htr hm, Option.bind_some, c_place8 hM htr haM, Option.bind_some, Option.bind_some, Option.bind_some, Option.bind_some, g_seen h (by omega), Option.bind_some, hmat m hm, Option.bind_some, hmat a haM, Option.bind_some, hof, Option.bind_some, if_pos hz4, zl_c (show k < 2 ^ 31 by omega), en1, el, g_madeUp hn1 hl1, Option.bind_some]
        by_cases z : (nI n1 * nI la + nI 999) / nI 1000 ≤ zSeen ticks facts splits r m - zSeen ticks facts splits r a
        · rw [if_pos z]; exact ⟨false, rfl, rfl⟩
        · rw [if_neg z]; exact ⟨true, rfl, rfl⟩
    obtain ⟨b2, t1, t2⟩ := htq
    have hs : fX11_seen now (nI r) (nI m) = some (zSeen ticks facts splits r m) := g_seen h (by omega)
    refine ⟨false, b2, false, rfl, ?_, rfl, fun dn co => ?_⟩
    · exact t2
    · unfold fX0_gatherAt fX0_gatherAt_J28 zad
      rw [c_isSeen8 hM htr hm, Option.bind_some, decide_eq_true q, if_neg zl_t0, t1, Option.bind_some, if_neg (show ¬ (false = true) by decide), Option.bind_some]
      cases b2 with
      | false => rw [if_pos zl_f0, if_neg zl_t0, if_neg (show ¬ (false = true) by decide), Option.bind_some, if_neg (show ¬ (false = true) by decide)]
      | true =>
        rw [if_neg zl_t0, if_pos rfl]
        cases hA : fX0_add dn co (nI r) (nI m) (nI 2) with
        | none => rfl
        | some p =>
          rw [Option.bind_some, Option.bind_some, if_neg (show ¬ (false = true) by decide)]
          show (if zb true = 0 then _ else some (p.1, p.2)) = _
          rw [if_neg zl_t0]
theorem zbind3 {α β γ : Type} {o : Option (α × β)} {f : α × β → Option γ} {a : α} {b : β} (e : o = some (a, b)) : Option.bind o f = f (a, b) := by rw [e]; rfl
theorem c_dL27 {N M r k : Nat} {d : Nat → Bool} {pl tk : Nat → Int32} (hM : M ≤ 12) (hr : r < 60)
    (hg : ∀ m, m < M → ∀ (dn : Int32) (co : Nat → Int32), fX0_gatherAt N dn co (zfG k) (zfL k) (nI M) pl tk (nI r) (nI m) = Option.bind (zad (d (36 * r + 3 * m)) dn co r m 1) (fun s => Option.bind (zad (d (36 * r + 3 * m + 1)) s.1 s.2 r m 2) (fun s => zad (d (36 * r + 3 * m + 2)) s.1 s.2 r m 3)))
    (h0 : ∀ c, 36 * r + 3 * M ≤ c → c < 36 * r + 36 → d c = false) : ∀ (e m n : Nat) (dn : Int32) (co : Nat → Int32), m + e = M → e + 1 ≤ n → zDo d (36 * r + 3 * m) dn co →
    ∃ dn' co', (∀ K, fX0_gather_L27 N (nI M) (nI r) (zfG k) (zfL k) (nI M) pl tk K n (nI m) dn co = K (nI M) dn' co') ∧ zDo d (36 * r + 36) dn' co' := by
  intro e
  induction e with
  | zero =>
    intro m n dn co h1 h2 h3
    obtain rfl : m = M := by omega
    cases n with
    | zero => omega
    | succ n =>
      refine ⟨dn, co, fun K => ?_, ?_⟩
      · rw [fX0_gather_L27]
        unfold fX9_size
        rw [Option.bind_some, if_pos (by rw [zl_le (by omega) (by omega)]; exact Nat.le_refl _)]
      · have hf := zcb_flat (d := d) (a := 36 * r + 3 * m) (36 - 3 * m) (fun c a b => h0 c a (by omega))
        rw [show 36 * r + 3 * m + (36 - 3 * m) = 36 * r + 36 by omega] at hf
        refine ⟨by rw [hf]; exact h3.1, fun c hc hd => ?_⟩
        rcases Nat.lt_or_ge c (36 * r + 3 * m) with g | g
        · exact h3.2 c g hd
        · exact absurd hd (by rw [h0 c g hc]; decide)
  | succ e ih =>
    intro m n dn co h1 h2 h3
    cases n with
    | zero => omega
    | succ n =>
      have hm : m < M := by omega
      obtain ⟨d1, c1, e1, p1⟩ := zad_ok (r := r) (m := m) (k := 1) (show 36 * r + 3 * m < 2160 by omega) (by omega) h3
      obtain ⟨d2, c2, e2, p2⟩ := zad_ok (r := r) (m := m) (k := 2) (show 36 * r + 3 * m + 1 < 2160 by omega) (by omega) p1
      obtain ⟨d3, c3, e3, p3⟩ := zad_ok (r := r) (m := m) (k := 3) (show 36 * r + 3 * m + 2 < 2160 by omega) (by omega) p2
      have eg : fX0_gatherAt N dn co (zfG k) (zfL k) (nI M) pl tk (nI r) (nI m) = some (d3, c3) := by
        rw [hg m hm, e1, Option.bind_some]
        show Option.bind (zad _ d1 c1 r m 2) _ = _
        rw [e2, Option.bind_some]
        exact e3
      have p3' : zDo d (36 * r + 3 * (m + 1)) d3 c3 := by
        rw [show 36 * r + 3 * (m + 1) = 36 * r + 3 * m + 2 + 1 by omega]; exact p3
      obtain ⟨dn', co', i1, i2⟩ := ih (m + 1) n d3 c3 (by omega) (by omega) p3'
      refine ⟨dn', co', fun K => ?_, i2⟩
      rw [fX0_gather_L27]
      unfold fX9_size
      rw [Option.bind_some, if_neg (by rw [zl_le (by omega) (by omega)]; omega), eg, Option.bind_some]
      dsimp only
      rw [nI_add]
      exact i1 K
def zAns (y : Int32) (c : Nat) : Int32 := if y = 0 then nI (c / 36) else if y = nI 1 then nI (c / 3 % 12) else if y = nI 2 then nI (c % 3 + 1) else -1
theorem g_dL29 {N k0 r m : Nat} {y : Int32} {d : Nat → Bool} {now : Nat → Int32} (hk0 : k0 < 2147483648) (hr : r < 60) (hm : m < 12)
    (hd : ∀ j, j < 3 → fX11_isDoubt N now (nI r) (nI m) (nI (j + 1)) = some (d (36 * r + 3 * m + j))) : ∀ (e j n : Nat), j + e = 3 → e + 1 ≤ n →
    (∃ c, 36 * r + 3 * m + j ≤ c ∧ c < 36 * r + 3 * m + 3 ∧ d c = true ∧ zcb d c = k0 ∧ ∀ K, fX11_doubts_L29 N now (nI k0) y (nI r) (nI m) K n (nI (zcb d (36 * r + 3 * m + j))) (nI (j + 1)) = some (zAns y c)) ∨
    ((∀ c, 36 * r + 3 * m + j ≤ c → c < 36 * r + 3 * m + 3 → d c = true → ¬ zcb d c = k0) ∧ ∀ K, fX11_doubts_L29 N now (nI k0) y (nI r) (nI m) K n (nI (zcb d (36 * r + 3 * m + j))) (nI (j + 1)) = K (nI (zcb d (36 * r + 3 * m + 3))) (nI 4)) := by
  intro e
  induction e with
  | zero =>
    intro j n h1 h2
    obtain rfl : j = 3 := by omega
    cases n with
    | zero => omega
    | succ n =>
      refine Or.inr ⟨fun c a b => by omega, fun K => ?_⟩
      rw [fX11_doubts_L29, if_pos (by rw [zl_le (by omega) (by omega)]; omega)]
  | succ e ih =>
    intro j n h1 h2
    cases n with
    | zero => omega
    | succ n =>
      have hj : j < 3 := by omega
      have hle := zcb_le (d := d) (36 * r + 3 * m + j)
      by_cases q : d (36 * r + 3 * m + j) = true
      · by_cases z : zcb d (36 * r + 3 * m + j) = k0
        · refine Or.inl ⟨36 * r + 3 * m + j, Nat.le_refl _, by omega, q, z, fun K => ?_⟩
          rw [fX11_doubts_L29, if_neg (by rw [zl_le (by omega) (by omega)]; omega), hd j hj, Option.bind_some, q, if_neg zl_t0, z, if_pos rfl]
          unfold zAns
          rw [show (36 * r + 3 * m + j) / 36 = r by omega, show (36 * r + 3 * m + j) / 3 % 12 = m by omega, show (36 * r + 3 * m + j) % 3 + 1 = j + 1 by omega]
          by_cases y0 : y = 0
          · rw [if_pos y0, if_pos y0]
          · rw [if_neg y0, if_neg y0]
            by_cases y1 : y = nI 1
            · rw [if_pos y1, if_pos y1]
            · rw [if_neg y1, if_neg y1]
              by_cases y2 : y = nI 2
              · rw [if_pos y2, if_pos y2]
              · rw [if_neg y2, if_neg y2]
        · have go : ∀ K, fX11_doubts_L29 N now (nI k0) y (nI r) (nI m) K (n + 1) (nI (zcb d (36 * r + 3 * m + j))) (nI (j + 1)) = fX11_doubts_L29 N now (nI k0) y (nI r) (nI m) K n (nI (zcb d (36 * r + 3 * m + (j + 1)))) (nI (j + 1 + 1)) := by
            intro K
            rw [fX11_doubts_L29, if_neg (by rw [zl_le (by omega) (by omega)]; omega), hd j hj, Option.bind_some, q, if_neg zl_t0, if_neg (by rw [zl_eq (by omega) (by omega)]; exact z), nI_add, nI_add, ← zcb_t q]
            rfl
          rcases ih (j + 1) n (by omega) (by omega) with ⟨c, c1, c2, c3, c4, c5⟩ | ⟨c1, c2⟩
          · exact Or.inl ⟨c, by omega, c2, c3, c4, fun K => by rw [go K]; exact c5 K⟩
          · refine Or.inr ⟨fun c a b hc => ?_, fun K => by rw [go K]; exact c2 K⟩
            by_cases hcj : c = 36 * r + 3 * m + j
            · rw [hcj]; exact z
            · exact c1 c (by omega) b hc
      · have qf : d (36 * r + 3 * m + j) = false := by
          cases hq : d (36 * r + 3 * m + j) with
          | false => rfl
          | true => exact absurd hq q
        have go : ∀ K, fX11_doubts_L29 N now (nI k0) y (nI r) (nI m) K (n + 1) (nI (zcb d (36 * r + 3 * m + j))) (nI (j + 1)) = fX11_doubts_L29 N now (nI k0) y (nI r) (nI m) K n (nI (zcb d (36 * r + 3 * m + (j + 1)))) (nI (j + 1 + 1)) := by
          intro K
          rw [fX11_doubts_L29, if_neg (by rw [zl_le (by omega) (by omega)]; omega), hd j hj, Option.bind_some, qf, if_pos zl_f0, nI_add, ← zcb_f q]
          rfl
        rcases ih (j + 1) n (by omega) (by omega) with ⟨c, c1, c2, c3, c4, c5⟩ | ⟨c1, c2⟩
        · exact Or.inl ⟨c, by omega, c2, c3, c4, fun K => by rw [go K]; exact c5 K⟩
        · refine Or.inr ⟨fun c a b hc => ?_, fun K => by rw [go K]; exact c2 K⟩
          by_cases hcj : c = 36 * r + 3 * m + j
          · exact absurd (by rw [← hcj]; exact hc) q
          · exact c1 c (by omega) b hc
theorem g_dL17 {N M k0 r : Nat} {y : Int32} {d : Nat → Bool} {now : Nat → Int32} (hN : 10000 ≤ N) (hk0 : k0 < 2147483648) (hr : r < 60) (hM : M ≤ 12) (n0 : now 0 = nI M)
    (hd : ∀ m, m < M → ∀ j, j < 3 → fX11_isDoubt N now (nI r) (nI m) (nI (j + 1)) = some (d (36 * r + 3 * m + j))) (h0 : ∀ c, 36 * r + 3 * M ≤ c → c < 36 * r + 36 → d c = false) : ∀ (e m n : Nat), m + e = M → e + 1 ≤ n →
    (∃ c, 36 * r + 3 * m ≤ c ∧ c < 36 * r + 36 ∧ d c = true ∧ zcb d c = k0 ∧ ∀ K, fX11_doubts_L17 N now (nI k0) y (nI r) K n (nI (zcb d (36 * r + 3 * m))) (nI m) = some (zAns y c)) ∨
    ((∀ c, 36 * r + 3 * m ≤ c → c < 36 * r + 36 → d c = true → ¬ zcb d c = k0) ∧ ∀ K, fX11_doubts_L17 N now (nI k0) y (nI r) K n (nI (zcb d (36 * r + 3 * m))) (nI m) = K (nI (zcb d (36 * r + 36))) (nI M)) := by
  intro e
  induction e with
  | zero =>
    intro m n h1 h2
    obtain rfl : m = M := by omega
    cases n with
    | zero => omega
    | succ n =>
      have hf := zcb_flat (d := d) (a := 36 * r + 3 * m) (36 - 3 * m) (fun c a b => h0 c a (by omega))
      rw [show 36 * r + 3 * m + (36 - 3 * m) = 36 * r + 36 by omega] at hf
      refine Or.inr ⟨fun c a b hc => absurd hc (by rw [h0 c a b]; decide), fun K => ?_⟩
      rw [fX11_doubts_L17, g_mats, Option.bind_some, n0, if_pos (by rw [zl_le (by omega) (by omega)]; exact Nat.le_refl _), hf]
  | succ e ih =>
    intro m n h1 h2
    cases n with
    | zero => omega
    | succ n =>
      have hm : m < M := by omega
      have go : ∀ K, fX11_doubts_L17 N now (nI k0) y (nI r) K (n + 1) (nI (zcb d (36 * r + 3 * m))) (nI m) = fX11_doubts_L29 N now (nI k0) y (nI r) (nI m) (fun (v3_29 : Int32) (v6_29 : Int32) => (fX11_doubts_L17 N now (nI k0) y (nI r) K n v3_29 (nI m + (nI 1)))) N (nI (zcb d (36 * r + 3 * m + 0))) (nI (0 + 1)) := by
        intro K
        rw [fX11_doubts_L17, g_mats, Option.bind_some, n0, if_neg (by rw [zl_le (by omega) (by omega)]; omega)]
        rfl
      rcases g_dL29 (y := y) hk0 hr (by omega) (hd m hm) 3 0 N (by omega) (by omega) with ⟨c, c1, c2, c3, c4, c5⟩ | ⟨c1, c2⟩
      · exact Or.inl ⟨c, by omega, by omega, c3, c4, fun K => by rw [go K]; exact c5 _⟩
      · have e3 : 36 * r + 3 * m + 3 = 36 * r + 3 * (m + 1) := by omega
        rcases ih (m + 1) n (by omega) (by omega) with ⟨c, d1, d2, d3, d4, d5⟩ | ⟨d1, d2⟩
        · refine Or.inl ⟨c, by omega, d2, d3, d4, fun K => ?_⟩
          rw [go K, c2, nI_add, e3]
          exact d5 K
        · refine Or.inr ⟨fun c a b hc => ?_, fun K => ?_⟩
          · rcases Nat.lt_or_ge c (36 * r + 3 * m + 3) with g | g
            · exact c1 c (by omega) g hc
            · exact d1 c (by omega) b hc
          · rw [go K, c2, nI_add, e3]
            exact d2 K
theorem g_dL5 {N M R k0 : Nat} {y : Int32} {d : Nat → Bool} {now : Nat → Int32} (hN : 10000 ≤ N) (hk0 : k0 < 2147483648) (hR : R ≤ 60) (hM : M ≤ 12) (n0 : now 0 = nI M) (n1 : now 1 = nI R)
    (hd : ∀ r, r < R → ∀ m, m < M → ∀ j, j < 3 → fX11_isDoubt N now (nI r) (nI m) (nI (j + 1)) = some (d (36 * r + 3 * m + j))) (h0 : ∀ r, r < R → ∀ c, 36 * r + 3 * M ≤ c → c < 36 * r + 36 → d c = false) : ∀ (e r n : Nat), r + e = R → e + 1 ≤ n →
    (∃ c, 36 * r ≤ c ∧ c < 36 * R ∧ d c = true ∧ zcb d c = k0 ∧ ∀ K, fX11_doubts_L5 N now (nI k0) y K n (nI (zcb d (36 * r))) (nI r) = some (zAns y c)) ∨
    ((∀ c, 36 * r ≤ c → c < 36 * R → d c = true → ¬ zcb d c = k0) ∧ ∀ K, fX11_doubts_L5 N now (nI k0) y K n (nI (zcb d (36 * r))) (nI r) = K (nI (zcb d (36 * R))) (nI R)) := by
  intro e
  induction e with
  | zero =>
    intro r n h1 h2
    obtain rfl : r = R := by omega
    cases n with
    | zero => omega
    | succ n =>
      refine Or.inr ⟨fun c a b => by omega, fun K => ?_⟩
      rw [fX11_doubts_L5, g_runners, Option.bind_some, n1, if_pos (by rw [zl_le (by omega) (by omega)]; exact Nat.le_refl _)]
  | succ e ih =>
    intro r n h1 h2
    cases n with
    | zero => omega
    | succ n =>
      have hr : r < R := by omega
      have go : ∀ K, fX11_doubts_L5 N now (nI k0) y K (n + 1) (nI (zcb d (36 * r))) (nI r) = fX11_doubts_L17 N now (nI k0) y (nI r) (fun (v3_17 : Int32) (v5_17 : Int32) => (fX11_doubts_L5 N now (nI k0) y K n v3_17 (nI r + (nI 1)))) N (nI (zcb d (36 * r + 3 * 0))) (nI 0) := by
        intro K
        rw [fX11_doubts_L5, g_runners, Option.bind_some, n1, if_neg (by rw [zl_le (by omega) (by omega)]; omega)]
        rfl
      have e3 : 36 * r + 36 = 36 * (r + 1) := by omega
      rcases g_dL17 (y := y) hN hk0 (by omega) hM n0 (hd r hr) (h0 r hr) M 0 N (by omega) (by omega) with ⟨c, c1, c2, c3, c4, c5⟩ | ⟨c1, c2⟩
      · exact Or.inl ⟨c, by omega, by omega, c3, c4, fun K => by rw [go K]; exact c5 _⟩
      · rcases ih (r + 1) n (by omega) (by omega) with ⟨c, d1, d2, d3, d4, d5⟩ | ⟨d1, d2⟩
        · refine Or.inl ⟨c, by omega, d2, d3, d4, fun K => ?_⟩
          rw [go K, c2, nI_add, e3]
          exact d5 K
        · refine Or.inr ⟨fun c a b hc => ?_, fun K => ?_⟩
          · rcases Nat.lt_or_ge c (36 * r + 36) with g | g
            · exact c1 c (by omega) g hc
            · exact d1 c (by omega) b hc
          · rw [go K, c2, nI_add, e3]
            exact d2 K
theorem c_tell {d : Nat → Bool} {R k0 : Nat} {y dn : Int32} {co : Nat → Int32} (hk0 : k0 < 2147483648) (hR : R ≤ 60) (h : zDo d (36 * R) dn co) : (∀ c, c < 36 * R → d c = true → zcb d c = k0 → fX0_tell dn co (nI k0) y = some (zAns y c)) ∧ ((∀ c, c < 36 * R → d c = true → ¬ zcb d c = k0) → fX0_tell dn co (nI k0) y = some (-1)) := by
  obtain ⟨h1, h2⟩ := h
  have hle := zcb_le (d := d) (36 * R)
  refine ⟨fun c hc hd hz => ?_, fun hno => ?_⟩
  · have hlt := zcb_lt hc hd
    have e := h2 c hc hd
    rw [hz] at e hlt
    unfold fX0_tell zAns
    rw [h1, if_neg (nI_pos (by omega)), if_neg (by rw [zl_le (by omega) (by omega)]; omega), if_pos (by rw [zl_lt (by omega) (by omega)]; omega), if_pos (zin_k (by omega) (by omega)), zl_c (by omega), e, pk_div (by omega) (by omega) (by omega), pk_div (by omega) (by omega) (by omega), pk_mul, pk_mul, pk_sub (show c / 3 / 12 * 12 ≤ c / 3 by omega), pk_sub (show c / 3 * 3 ≤ c by omega), nI_add, show c / 3 - c / 3 / 12 * 12 = c / 3 % 12 by omega, show c - c / 3 * 3 + 1 = c % 3 + 1 by omega, show c / 3 / 12 = c / 36 by omega, p_zero]
    by_cases y0 : y = 0
    · rw [if_pos y0, if_pos y0]
    · rw [if_neg y0, if_neg y0]
      by_cases y1 : y = nI 1
      · rw [if_pos y1, if_pos y1]
      · rw [if_neg y1, if_neg y1]
        by_cases y2 : y = nI 2
        · rw [if_pos y2, if_pos y2]
        · rw [if_neg y2, if_neg y2]
  · have hno2 : zcb d (36 * R) ≤ k0 := by
      rcases Nat.lt_or_ge k0 (zcb d (36 * R)) with g | g
      · obtain ⟨c, c1, c2, c3⟩ := zcb_find (36 * R) g
        exact absurd c3 (hno c c1 c2)
      · exact g
    unfold fX0_tell
    rw [h1, if_neg (nI_pos (by omega)), if_pos (by rw [zl_le (by omega) (by omega)]; exact hno2)]
def zDb (N M : Nat) (now : Nat → Int32) (c : Nat) : Bool := if c / 3 % 12 < M then (fX11_isDoubt N now (nI (c / 36)) (nI (c / 3 % 12)) (nI (c % 3 + 1))).getD false else false
theorem zDb_at {N M r m j : Nat} {b : Bool} {now : Nat → Int32} (hm : m < M) (hM : M ≤ 12) (hj : j < 3) (e : fX11_isDoubt N now (nI r) (nI m) (nI (j + 1)) = some b) : zDb N M now (36 * r + 3 * m + j) = b := by
  unfold zDb
  rw [show (36 * r + 3 * m + j) / 36 = r by omega, show (36 * r + 3 * m + j) / 3 % 12 = m by omega, show (36 * r + 3 * m + j) % 3 + 1 = j + 1 by omega, if_pos hm, e]
  rfl
theorem zDb_no {N M r c : Nat} {now : Nat → Int32} (hM : M ≤ 12) (h1 : 36 * r + 3 * M ≤ c) (h2 : c < 36 * r + 36) : zDb N M now c = false := by
  unfold zDb
  rw [if_neg (by omega)]
theorem c_dL7 {N M R S : Nat} {ticks : Nat → Int32} {entered strikings : Int32} {dropped facts splits order struck torn waved : Nat → Int32} {mats : Int32} {bearings cuts deaths places now : Nat → Int32} (hN : 10000 ≤ N) (h : zRaceN M R S ticks entered strikings dropped facts splits order struck torn waved mats bearings cuts deaths places now) : ∀ (e r n : Nat) (dn : Int32) (co : Nat → Int32) (ms le gr : Int32) (pl tk : Nat → Int32), r + e = R → e + 1 ≤ n → zDo (zDb N M now) (36 * r) dn co →
    ∃ dn' co' ms' le' gr' pl' tk', (∀ K, fX0_gather_L7 N ticks (nI R) facts splits (nI M) places K n (nI r) dn co ms le gr pl tk = K (nI R) dn' co' ms' le' gr' pl' tk') ∧ zDo (zDb N M now) (36 * R) dn' co' := by
  intro e
  have h0 := h
  obtain ⟨⟨⟨_, hM, hR, _⟩, em, ee, _, n0, n1, _⟩, _, _, hruns, _⟩ := h0
  obtain ⟨p1, p2⟩ := zpl_of h
  induction e with
  | zero =>
    intro r n dn co ms le gr pl tk h1 h2 h3
    obtain rfl : r = R := by omega
    cases n with
    | zero => omega
    | succ n =>
      refine ⟨dn, co, ms, le, gr, pl, tk, fun K => ?_, h3⟩
      rw [fX0_gather_L7]
      unfold fX6_size
      rw [Option.bind_some, if_pos (by rw [zl_le (by omega) (by omega)]; exact Nat.le_refl _)]
  | succ e ih =>
    intro r n dn co ms le gr pl tk h1 h2 h3
    cases n with
    | zero => omega
    | succ n =>
      have hr : r < R := by omega
      obtain ⟨k, hk, ek⟩ := (hruns r hr).2.1
      obtain ⟨pl', tk', ef, htr⟩ := c_follow (places := places) (pl := pl) (tk := tk) (g := gr) (l := le) (m := ms) hN (zqr_of h hr) hk ek
      have hg : ∀ m, m < M → ∀ (dn : Int32) (co : Nat → Int32), fX0_gatherAt N dn co (zfG k) (zfL k) (nI M) pl' tk' (nI r) (nI m) = Option.bind (zad (zDb N M now (36 * r + 3 * m)) dn co r m 1) (fun s => Option.bind (zad (zDb N M now (36 * r + 3 * m + 1)) s.1 s.2 r m 2) (fun s => zad (zDb N M now (36 * r + 3 * m + 2)) s.1 s.2 r m 3)) := by
        intro m hm
        obtain ⟨b1, b2, b3, e1, e2, e3, q⟩ := q_db hN (zqr_of h hr) hk ek htr p1 p2 hm
        have z1 := zDb_at (j := 0) hm hM (by omega) e1
        have z2 := zDb_at (j := 1) hm hM (by omega) e2
        have z3 := zDb_at (j := 2) hm hM (by omega) e3
        rw [Nat.add_zero] at z1
        rw [z1, z2, z3]
        exact q
      obtain ⟨d2, c2, g1, g2⟩ := c_dL27 (N := N) hM (show r < 60 by omega) hg (fun c a b => zDb_no hM a b) M 0 N dn co (by omega) (by omega) (by rw [show 36 * r + 3 * 0 = 36 * r by omega]; exact h3)
      obtain ⟨dn', co', ms', le', gr', pl2, tk2, i1, i2⟩ := ih (r + 1) n d2 c2 (nI M) (zfL k) (zfG k) pl' tk' (by omega) (by omega) (by rw [show 36 * (r + 1) = 36 * r + 36 by omega]; exact g2)
      refine ⟨dn', co', ms', le', gr', pl2, tk2, fun K => ?_, i2⟩
      rw [fX0_gather_L7]
      unfold fX6_size
      rw [Option.bind_some, if_neg (by rw [zl_le (by omega) (by omega)]; omega), ef, Option.bind_some]
      dsimp only
      rw [g1, nI_add]
      exact i1 K
theorem r_doubt {N : Nat} {ticks dropped facts splits order struck torn waved bearings cuts deaths places now pl tk codes : Nat → Int32} {entered strikings mats g l m0 dn0 : Int32} {T x1 x2 : Int32} (hN : 10000 ≤ N) (hz : zRace ticks entered strikings dropped facts splits order struck torn waved mats bearings cuts deaths places now) : ∃ r d' c' g' l' m' pl' tk', fX10_doubt N dn0 codes ticks entered facts splits mats places g l m0 pl tk x1 x2 = some (r, d', c', g', l', m', pl', tk') ∧ fX11_doubt N T now x1 x2 = some (r, nI 0) := by
  obtain ⟨M, R, S, h⟩ := hz
  have h0 := h
  obtain ⟨⟨⟨_, hM, hR, _⟩, em, ee, _, n0, n1, _⟩, _, _, hruns, _⟩ := h0
  obtain ⟨p1, p2⟩ := zpl_of h
  obtain ⟨dn', co', ms', le', gr', pl', tk', g1, g2⟩ := c_dL7 hN h R 0 N (nI 0) codes m0 l g pl tk (by omega) (by omega) ⟨rfl, fun c hc => by omega⟩
  subst em; subst ee
  have hgather : fX0_gather N dn0 codes ticks (nI R) facts splits (nI M) places g l m0 pl tk = some (dn', dn', co', gr', le', ms', pl', tk') := by
    unfold fX0_gather
    exact g1 _
  have hd : ∀ r, r < R → ∀ m, m < M → ∀ j, j < 3 → fX11_isDoubt N now (nI r) (nI m) (nI (j + 1)) = some (zDb N M now (36 * r + 3 * m + j)) := by
    intro r hr m hm j hj
    obtain ⟨k, hk, ek⟩ := (hruns r hr).2.1
    obtain ⟨pl2, tk2, _, htr⟩ := c_follow (places := places) (pl := pl) (tk := tk) (g := g) (l := l) (m := m0) hN (zqr_of h hr) hk ek
    obtain ⟨b1, b2, b3, e1, e2, e3, _⟩ := q_db hN (zqr_of h hr) hk ek htr p1 p2 hm
    have hj3 : j = 0 ∨ j = 1 ∨ j = 2 := by omega
    rcases hj3 with rfl | rfl | rfl
    · rw [zDb_at hm hM hj e1]; exact e1
    · rw [zDb_at hm hM hj e2]; exact e2
    · rw [zDb_at hm hM hj e3]; exact e3
  unfold fX10_doubt fX11_doubt fX11_doubts
  rw [hgather, Option.bind_some]
  dsimp only
  rcases zarg x1 with hx | ⟨k0, hk0, rfl⟩
  · have hn : ¬ (0 : Int32) ≤ x1 := fun q => by
      have a := zq_le q
      have b := zq_lt hx
      omega
    unfold fX0_tell
    rw [if_pos hx, if_neg hn, Option.bind_some]
    exact ⟨_, _, _, _, _, _, _, _, rfl, rfl⟩
  · obtain ⟨t1, t2⟩ := c_tell (y := x2) (k0 := k0) (by omega) hR g2
    rw [if_pos (nI_pos' hk0)]
    rcases g_dL5 (y := x2) hN (show k0 < 2147483648 by omega) hR hM n0 n1 hd (fun r _ c a b => zDb_no hM a b) R 0 N (by omega) (by omega) with ⟨c, _, c2, c3, c4, c5⟩ | ⟨c1, c2⟩
    · rw [t1 c c2 c3 c4, Option.bind_some]
      have e5 := c5 (fun (v3_5 : Int32) (v4_5 : Int32) => (if 0 ≤ nI k0 then some ((-1 : Int32)) else some (v3_5)))
      rw [show nI (zcb (zDb N M now) (36 * 0)) = nI 0 from rfl] at e5
      rw [e5, Option.bind_some]
      exact ⟨_, _, _, _, _, _, _, _, rfl, rfl⟩
    · rw [t2 (fun c a b => c1 c (by omega) a b), Option.bind_some]
      have e5 := c2 (fun (v3_5 : Int32) (v4_5 : Int32) => (if 0 ≤ nI k0 then some ((-1 : Int32)) else some (v3_5)))
      rw [show nI (zcb (zDb N M now) (36 * 0)) = nI 0 from rfl] at e5
      rw [e5, if_pos (nI_pos' hk0), Option.bind_some]
      exact ⟨_, _, _, _, _, _, _, _, rfl, rfl⟩
