/-! plan: the least step without a tight mat -/
def zTk (a v : Nat) : Nat → Int32 := fun p => nI (a + p * v)
def zGood (M R : Nat) (ticks facts places bear : Nat → Int32) : Prop := ∀ x, x < M → zfv (zMi ticks facts places x) (bear x) R = -1
theorem zTk_fit {M R a v : Nat} {ticks facts places bear : Nat → Int32} (hf : zFit M R ticks facts places bear) (ha : a ≤ 10000) (hv : v ≤ 3000) : zFit M R (zTk a v) facts places bear := by
  refine ⟨hf.1, hf.2.1, fun p hp => ?_, hf.2.2.2⟩
  have h : p * v ≤ 5 * 3000 := Nat.mul_le_mul (by omega) hv
  exact Or.inr ⟨a + p * v, by omega, rfl⟩
theorem c_fireL {a v : Nat} : ∀ (d i n : Nat) (t : Nat → Int32), i + d = 6 → d + 1 ≤ n → ∃ t', (∀ K, fX2_fireInSteps_L2 (nI a) (nI v) K n (nI i) t = K (nI 6) t') ∧ (∀ p, i ≤ p → p < 6 → t' p = zTk a v p) ∧ ∀ p, p < i → t' p = t p := by
  intro d
  induction d with
  | zero =>
    intro i n t h1 h2
    obtain rfl : i = 6 := by omega
    cases n with
    | zero => omega
    | succ n =>
      refine ⟨t, fun K => ?_, fun p h3 h4 => by omega, fun p h => rfl⟩
      rw [fX2_fireInSteps_L2, if_pos (by rw [zl_le (by omega) (by omega)]; exact Nat.le_refl _)]
  | succ d ih =>
    intro i n t h1 h2
    cases n with
    | zero => omega
    | succ n =>
      obtain ⟨t', e, q1, q2⟩ := ih (i + 1) n (upd t i (zTk a v i)) (by omega) (by omega)
      refine ⟨t', fun K => ?_, fun p h3 h4 => ?_, fun p h3 => ?_⟩
      · rw [fX2_fireInSteps_L2, if_neg (by rw [zl_le (by omega) (by omega)]; omega), if_pos (zin_k (by omega) (by omega)), zl_c (show i < 2 ^ 31 by omega), pk_mul, nI_add, nI_add]
        exact e K
      · by_cases hp : p = i
        · subst hp
          rw [q2 p (by omega), zup_s]
        · exact q1 p (by omega) h4
      · rw [q2 p (by omega), zup_n (by omega)]
theorem c_fire {N a v : Nat} {t : Nat → Int32} (hN : 10000 ≤ N) : ∃ t', fX2_fireInSteps N t (nI a) (nI v) = some t' ∧ ∀ p, p < 6 → t' p = zTk a v p := by
  obtain ⟨t', e, q, _⟩ := c_fireL (a := a) (v := v) 6 0 N t (by omega) (by omega)
  exact ⟨t', e _, fun p hp => q p (Nat.zero_le p) hp⟩
theorem c_L18 {N M R : Nat} {ticks facts places bear pens secs p2 : Nat → Int32} (hN : 10000 ≤ N) (hf : zFit M R ticks facts places bear) (hpre : ∀ x, x < M → zPrd R x facts places pens secs) (h2 : ∀ p, p < 6 → p2 p = ticks p) : ∀ (d i n : Nat) (mt pt : Nat → Int32), i + d = M → d + 1 ≤ n → (∀ q, q < 4001 → pt q = 0) → (∀ x, x < i → zfv (zMi ticks facts places x) (bear x) R = -1) →
    ∃ r mt' pt', fX1_someTightMat_L18 N pens secs p2 (nI R) (nI M) bear (fun (v3_18 : Int32) (t_minutes_l18 : Nat → Int32) (t_passers_l18 : Nat → Int32) => some ((-1 : Int32), t_minutes_l18, t_passers_l18)) n (nI i) mt pt = some (r, mt', pt') ∧ (∀ q, q < 4001 → pt' q = 0) ∧ ((r = -1 ∧ zGood M R ticks facts places bear) ∨ ∃ y, y < M ∧ r = nI y ∧ ¬ zGood M R ticks facts places bear) := by
  intro d
  have hM : M ≤ 12 := hf.1
  induction d with
  | zero =>
    intro i n mt pt h1 h3 h4 h5
    obtain rfl : i = M := by omega
    cases n with
    | zero => omega
    | succ n =>
      refine ⟨-1, mt, pt, ?_, h4, Or.inl ⟨rfl, h5⟩⟩
      rw [fX1_someTightMat_L18]
      unfold fX9_size
      rw [Option.bind_some, if_pos (by rw [zl_le (by omega) (by omega)]; exact Nat.le_refl _)]
  | succ d ih =>
    intro i n mt pt h1 h3 h4 h5
    cases n with
    | zero => omega
    | succ n =>
      have hi : i < M := by omega
      obtain ⟨m1, p1, e1, q1⟩ := c_first (mt := mt) (pt := pt) hN hf hi (hpre i hi) h2 h4
      rw [fX1_someTightMat_L18]
      unfold fX9_size
      rw [Option.bind_some, if_neg (by rw [zl_le (by omega) (by omega)]; omega), e1, Option.bind_some]
      dsimp only
      by_cases hv : zfv (zMi ticks facts places i) (bear i) R = -1
      · rw [if_pos hv, nI_add]
        exact ih (i + 1) n m1 p1 (by omega) (by omega) q1 (fun x hx => by
          by_cases hxi : x = i
          · rw [hxi]; exact hv
          · exact h5 x (by omega))
      · rw [if_neg hv]
        exact ⟨_, _, _, rfl, q1, Or.inr ⟨i, hi, rfl, fun g => hv (g i hi)⟩⟩
theorem c_some {N M R y : Nat} {ticks facts places bear pens secs p2 mt pt : Nat → Int32} (hN : 10000 ≤ N) (hf : zFit M R ticks facts places bear) (hpre : ∀ x, x < M → zPrd R x facts places pens secs) (h2 : ∀ p, p < 6 → p2 p = ticks p) (hy : y < M) (hz : ∀ q, q < 4001 → pt q = 0) :
    ∃ r mt' pt', fX1_someTightMat N mt pt pens secs p2 (nI R) (nI M) bear (nI y) = some (r, mt', pt') ∧ (∀ q, q < 4001 → pt' q = 0) ∧ ((r = -1 ∧ zGood M R ticks facts places bear) ∨ ∃ y, y < M ∧ r = nI y ∧ ¬ zGood M R ticks facts places bear) := by
  have hM : M ≤ 12 := hf.1
  obtain ⟨m1, p1, e1, q1⟩ := c_first (mt := mt) (pt := pt) hN hf hy (hpre y hy) h2 hz
  unfold fX1_someTightMat
  rw [e1, Option.bind_some]
  dsimp only
  by_cases hv : zfv (zMi ticks facts places y) (bear y) R = -1
  · rw [if_pos hv]
    exact c_L18 hN hf hpre h2 M 0 N m1 p1 (by omega) (by omega) q1 (fun x hx => by omega)
  · rw [if_neg hv]
    exact ⟨_, _, _, rfl, q1, Or.inr ⟨y, hy, rfl, fun g => hv (g y hy)⟩⟩
theorem c_L34 {N M R a X : Nat} {ticks facts places bear pens secs : Nat → Int32} (hN : 10000 ≤ N) (hf : zFit M R ticks facts places bear) (hpre : ∀ x, x < M → zPrd R x facts places pens secs) (ha : a ≤ 10000) (hX : X ≤ 3000) : ∀ (d i n y : Nat) (mt pt tr gt : Nat → Int32), i + d = X + 1 → d + 1 ≤ n → y < M → (∀ q, q < 4001 → pt q = 0) →
    ∃ r mt' pt' tr' gt', fX1_planFrom_L34 N (nI R) (nI M) bear (nI a) (nI X) pens secs (fun (v4_34 : Int32) (v5_34 : Int32) (t_minutes_l34 : Nat → Int32) (t_passers_l34 : Nat → Int32) (t_tried_ticks_l34 : Nat → Int32) (p1_guns_ticks_l34 : Nat → Int32) => some ((-1 : Int32), t_minutes_l34, t_passers_l34, pens, secs, t_tried_ticks_l34, p1_guns_ticks_l34)) n (nI y) (nI i) mt pt tr gt = some (r, mt', pt', pens, secs, tr', gt') ∧ (∀ q, q < 4001 → pt' q = 0) ∧
      ((r = -1 ∧ gt' = gt ∧ ∀ v, i ≤ v → v ≤ X → ¬ zGood M R (zTk a v) facts places bear) ∨ ∃ v, i ≤ v ∧ v ≤ X ∧ r = nI v ∧ zGood M R (zTk a v) facts places bear ∧ (∀ w, i ≤ w → w < v → ¬ zGood M R (zTk a w) facts places bear) ∧ ∀ p, p < 6 → gt' p = zTk a v p) := by
  intro d
  have hM : M ≤ 12 := hf.1
  induction d with
  | zero =>
    intro i n y mt pt tr gt h1 h3 h4 h5
    obtain rfl : i = X + 1 := by omega
    cases n with
    | zero => omega
    | succ n =>
      refine ⟨-1, mt, pt, tr, gt, ?_, h5, Or.inl ⟨rfl, rfl, fun v h6 h7 => by omega⟩⟩
      rw [fX1_planFrom_L34, if_pos (by rw [zl_lt (by omega) (by omega)]; omega)]
  | succ d ih =>
    intro i n y mt pt tr gt h1 h3 h4 h5
    cases n with
    | zero => omega
    | succ n =>
      obtain ⟨t1, e1, q1⟩ := c_fire (N := N) (a := a) (v := i) (t := tr) hN
      obtain ⟨r, m1, p1, e2, q2, hr⟩ := c_some (mt := mt) (pt := pt) hN (zTk_fit (v := i) hf ha (by omega)) hpre q1 h4 h5
      rw [fX1_planFrom_L34, if_neg (by rw [zl_lt (by omega) (by omega)]; omega), e1, Option.bind_some, e2, Option.bind_some]
      dsimp only
      rcases hr with ⟨hr, hg⟩ | ⟨y', hy', hr, hg⟩
      · rw [if_pos hr]
        unfold fX2_copyFrom
        rw [Option.bind_some]
        refine ⟨_, _, _, _, _, rfl, q2, Or.inr ⟨i, Nat.le_refl i, by omega, rfl, hg, fun w h6 h7 => by omega, fun p hp => ?_⟩⟩
        rw [pk_cpy_in (by omega) (by omega), show 0 + (p - 0) = p by omega]
        exact q1 p hp
      · rw [if_neg (by rw [hr]; exact nm1 (by omega)), hr, nI_add]
        obtain ⟨r2, m2, p2, t2, g2, e3, q3, h6⟩ := ih (i + 1) n y' m1 p1 t1 gt (by omega) (by omega) hy' q2
        refine ⟨r2, m2, p2, t2, g2, e3, q3, ?_⟩
        rcases h6 with ⟨h7, h8, h9⟩ | ⟨v, h7, h8, h9, h10, h11, h12⟩
        · refine Or.inl ⟨h7, h8, fun v hv1 hv2 => ?_⟩
          by_cases hvi : v = i
          · rw [hvi]; exact hg
          · exact h9 v (by omega) hv2
        · refine Or.inr ⟨v, by omega, h8, h9, h10, fun w hw1 hw2 => ?_, h12⟩
          by_cases hwi : w = i
          · rw [hwi]; exact hg
          · exact h11 w (by omega) hw2
theorem c_L3 {N M R : Nat} {facts places : Nat → Int32} (hN : 10000 ≤ N) (hM : M ≤ 12) (hR : R ≤ 60) : ∀ (d i n : Nat) (pens secs : Nat → Int32), i + d = M → d + 1 ≤ n → (∀ x, x < i → zPrd R x facts places pens secs) →
    ∃ pens' secs', (∀ K, fX1_planFrom_L3 N (nI R) facts (nI M) places K n (nI i) pens secs = K (nI M) pens' secs') ∧ ∀ x, x < M → zPrd R x facts places pens' secs' := by
  intro d
  induction d with
  | zero =>
    intro i n pens secs h1 h2 h3
    obtain rfl : i = M := by omega
    cases n with
    | zero => omega
    | succ n =>
      refine ⟨pens, secs, fun K => ?_, h3⟩
      rw [fX1_planFrom_L3]
      unfold fX9_size
      rw [Option.bind_some, if_pos (by rw [zl_le (by omega) (by omega)]; exact Nat.le_refl _)]
  | succ d ih =>
    intro i n pens secs h1 h2 h3
    cases n with
    | zero => omega
    | succ n =>
      obtain ⟨p1, s1, e1, q1, q2⟩ := c_prepare (N := N) (facts := facts) (places := places) (pens := pens) (secs := secs) hN hM hR (show i < M by omega)
      obtain ⟨p2, s2, e2, q3⟩ := ih (i + 1) n p1 s1 (by omega) (by omega) (fun x hx => by
        by_cases hxi : x = i
        · rw [hxi]; exact q1
        · intro r hr
          refine ⟨(q1 r hr).1, ?_⟩
          rw [q2 r x (by omega) hxi]
          exact (h3 x (by omega) r hr).2)
      refine ⟨p2, s2, fun K => ?_, q3⟩
      rw [fX1_planFrom_L3]
      unfold fX9_size
      rw [Option.bind_some, if_neg (by rw [zl_le (by omega) (by omega)]; omega), e1, Option.bind_some]
      dsimp only
      rw [nI_add]
      exact e2 K
/-! the reference's plan -/
theorem g_L37 {now : Nat → Int32} : ∀ (d i n : Nat) (sv : Nat → Int32), i + d = 6 → d + 1 ≤ n → ∃ sv', (∀ K, fX11_plan_L37 now K n (nI i) sv = K (nI 6) sv') ∧ (∀ p, i ≤ p → p < 6 → sv' p = now (56 + p)) ∧ ∀ p, p < i → sv' p = sv p := by
  intro d
  induction d with
  | zero =>
    intro i n sv h1 h2
    obtain rfl : i = 6 := by omega
    cases n with
    | zero => omega
    | succ n =>
      refine ⟨sv, fun K => ?_, fun p h3 h4 => by omega, fun p h => rfl⟩
      rw [fX11_plan_L37, if_pos (by rw [zl_le (by omega) (by omega)]; exact Nat.le_refl _)]
  | succ d ih =>
    intro i n sv h1 h2
    cases n with
    | zero => omega
    | succ n =>
      obtain ⟨sv', e, q1, q2⟩ := ih (i + 1) n (upd sv i (now (56 + i))) (by omega) (by omega)
      refine ⟨sv', fun K => ?_, fun p h3 h4 => ?_, fun p h3 => ?_⟩
      · rw [fX11_plan_L37, if_neg (by rw [zl_le (by omega) (by omega)]; omega), g_gunOf (by omega), Option.bind_some, if_pos (zin_k (by omega) (by omega)), zl_c (show i < 2 ^ 31 by omega), nI_add]
        exact e K
      · by_cases hp : p = i
        · subst hp
          rw [q2 p (by omega), zup_s]
        · exact q1 p (by omega) h4
      · rw [q2 p (by omega), zup_n (by omega)]
theorem g_L162 {sv : Nat → Int32} : ∀ (d i n : Nat) (nw : Nat → Int32), i + d = 6 → d + 1 ≤ n → ∃ nw', (∀ K, fX11_plan_L162 sv K n (nI i) nw = K (nI 6) nw') ∧ (∀ p, i ≤ p → p < 6 → nw' (56 + p) = sv p) ∧ ∀ q, (q < 56 + i ∨ 62 ≤ q) → nw' q = nw q := by
  intro d
  induction d with
  | zero =>
    intro i n nw h1 h2
    obtain rfl : i = 6 := by omega
    cases n with
    | zero => omega
    | succ n =>
      refine ⟨nw, fun K => ?_, fun p h3 h4 => by omega, fun p h => rfl⟩
      rw [fX11_plan_L162, if_pos (by rw [zl_le (by omega) (by omega)]; exact Nat.le_refl _)]
  | succ d ih =>
    intro i n nw h1 h2
    cases n with
    | zero => omega
    | succ n =>
      obtain ⟨nw', e, q1, q2⟩ := ih (i + 1) n (upd nw (56 + i) (sv i)) (by omega) (by omega)
      refine ⟨nw', fun K => ?_, fun p h3 h4 => ?_, fun q h3 => ?_⟩
      · rw [fX11_plan_L162, if_neg (by rw [zl_le (by omega) (by omega)]; omega), if_pos (zin_k (by omega) (by omega)), nI_add, if_pos (zin_k (by omega) (by omega)), zl_c (show i < 2 ^ 31 by omega), zl_c (show 56 + i < 2 ^ 31 by omega), nI_add]
        exact e K
      · by_cases hp : p = i
        · subst hp
          rw [q2 (56 + p) (by omega), zup_s]
        · exact q1 p (by omega) h4
      · rw [q2 q (by omega), zup_n (by omega)]
theorem g_L72 {a v : Nat} : ∀ (d i n : Nat) (nw : Nat → Int32), i + d = 6 → d + 1 ≤ n → ∃ nw', (∀ K, fX11_plan_L72 (nI a) (nI v) K n (nI i) nw = K (nI 6) nw') ∧ (∀ p, i ≤ p → p < 6 → nw' (56 + p) = zTk a v p) ∧ ∀ q, (q < 56 + i ∨ 62 ≤ q) → nw' q = nw q := by
  intro d
  induction d with
  | zero =>
    intro i n nw h1 h2
    obtain rfl : i = 6 := by omega
    cases n with
    | zero => omega
    | succ n =>
      refine ⟨nw, fun K => ?_, fun p h3 h4 => by omega, fun p h => rfl⟩
      rw [fX11_plan_L72, if_pos (by rw [zl_le (by omega) (by omega)]; exact Nat.le_refl _)]
  | succ d ih =>
    intro i n nw h1 h2
    cases n with
    | zero => omega
    | succ n =>
      obtain ⟨nw', e, q1, q2⟩ := ih (i + 1) n (upd nw (56 + i) (zTk a v i)) (by omega) (by omega)
      refine ⟨nw', fun K => ?_, fun p h3 h4 => ?_, fun q h3 => ?_⟩
      · rw [fX11_plan_L72, if_neg (by rw [zl_le (by omega) (by omega)]; omega), nI_add, if_pos (zin_k (by omega) (by omega)), zl_c (show 56 + i < 2 ^ 31 by omega), pk_mul, nI_add, nI_add]
        exact e K
      · by_cases hp : p = i
        · subst hp
          rw [q2 (56 + p) (by omega), zup_s]
        · exact q1 p (by omega) h4
      · rw [q2 q (by omega), zup_n (by omega)]
theorem g_L108 {N M R : Nat} {ticks facts places bear nw : Nat → Int32} (hN : 10000 ≤ N) (hf : zFit M R ticks facts places bear) (hn : zNT M R ticks facts places bear nw) : ∀ (d i n : Nat) (ps : Nat → Int32), i + d = M → d + 2 ≤ n → (∀ q, q < 5000 → ps q = 0) → (∀ x, x < i → zfv (zMi ticks facts places x) (bear x) R = -1) →
    ∃ (b : Bool) (j : Int32) (ps' : Nat → Int32), (∀ K, fX11_plan_L108 N nw K n true (nI i) ps = K b j ps') ∧ (∀ q, q < 5000 → ps' q = 0) ∧ ((b = true ∧ zGood M R ticks facts places bear) ∨ (b = false ∧ ¬ zGood M R ticks facts places bear)) := by
  intro d
  have hM : M ≤ 12 := hf.1
  induction d with
  | zero =>
    intro i n ps h1 h3 h4 h5
    obtain rfl : i = M := by omega
    cases n with
    | zero => omega
    | succ n =>
      refine ⟨true, nI i, ps, fun K => ?_, h4, Or.inl ⟨rfl, h5⟩⟩
      rw [fX11_plan_L108, g_mats, Option.bind_some, hn.1, if_pos (by rw [zl_le (by omega) (by omega)]; exact Nat.le_refl _)]
  | succ d ih =>
    intro i n ps h1 h3 h4 h5
    cases n with
    | zero => omega
    | succ n =>
      have hi : i < M := by omega
      obtain ⟨p1, e1, q1⟩ := g_first (ps := ps) hN hf hn hi h4
      by_cases hv : zfv (zMi ticks facts places i) (bear i) R = -1
      · obtain ⟨b, j, p2, e2, q2, h6⟩ := ih (i + 1) n p1 (by omega) (by omega) q1 (fun x hx => by
          by_cases hxi : x = i
          · rw [hxi]; exact hv
          · exact h5 x (by omega))
        refine ⟨b, j, p2, fun K => ?_, q2, h6⟩
        rw [fX11_plan_L108, g_mats, Option.bind_some, hn.1, if_neg (by rw [zl_le (by omega) (by omega)]; omega), if_neg zl_t0, e1, Option.bind_some]
        dsimp only
        rw [if_pos hv, nI_add]
        exact e2 K
      · cases n with
        | zero => omega
        | succ n =>
          refine ⟨false, nI (i + 1), p1, fun K => ?_, q1, Or.inr ⟨rfl, fun g => hv (g i hi)⟩⟩
          rw [fX11_plan_L108, g_mats, Option.bind_some, hn.1, if_neg (by rw [zl_le (by omega) (by omega)]; omega), if_neg zl_t0, e1, Option.bind_some]
          dsimp only
          rw [if_neg hv, nI_add, fX11_plan_L108, g_mats, Option.bind_some, hn.1]
          by_cases h7 : i + 1 = M
          · rw [if_pos (by rw [zl_le (by omega) (by omega)]; omega)]
          · rw [if_neg (by rw [zl_le (by omega) (by omega)]; omega), if_pos (of_eq_true zl_f)]
theorem znt_of {M R : Nat} {ticks ticks' facts places bear now nw : Nat → Int32} (hM : M ≤ 12) (hn : zNT M R ticks facts places bear now) (hk : ∀ q, (q < 56 ∨ 62 ≤ q) → nw q = now q) (ht : ∀ p, p < 6 → nw (56 + p) = ticks' p) : zNT M R ticks' facts places bear nw := by
  obtain ⟨n0, n1, nm, _, nr⟩ := hn
  refine ⟨by rw [hk 0 (by omega)]; exact n0, by rw [hk 1 (by omega)]; exact n1, fun m hm => ?_, ht, fun r hr => ?_⟩
  · rw [hk _ (by omega), hk _ (by omega)]; exact nm m hm
  · rw [hk _ (by omega), hk _ (by omega)]; exact nr r hr
theorem g_L63 {N M R a X : Nat} {ticks facts places bear now sv : Nat → Int32} (hN : 10000 ≤ N) (hf : zFit M R ticks facts places bear) (hn : zNT M R ticks facts places bear now) (ha : a ≤ 10000) (hX : X ≤ 3000) : ∀ (d i n : Nat) (nw ps : Nat → Int32), i + d = X + 1 → d + 1 ≤ n → (∀ q, (q < 56 ∨ 62 ≤ q) → nw q = now q) → (∀ q, q < 5000 → ps q = 0) →
    ∃ r nw' ps', fX11_plan_L63 N (nI a) (nI X) (fun (v4_63 : Int32) (t_now_l63 : Nat → Int32) (t_passing_l63 : Nat → Int32) => fX11_plan_L162 sv (fun (v4_162 : Int32) (t_now_l162 : Nat → Int32) => some ((-1 : Int32), (nI 0), t_now_l162, t_passing_l63)) N (nI 0) t_now_l63) n (nI i) nw ps = some (r, nI 0, nw', ps') ∧ (∀ q, q < 5000 → ps' q = 0) ∧ (∀ q, (q < 56 ∨ 62 ≤ q) → nw' q = now q) ∧
      ((r = -1 ∧ (∀ p, p < 6 → nw' (56 + p) = sv p) ∧ ∀ v, i ≤ v → v ≤ X → ¬ zGood M R (zTk a v) facts places bear) ∨ ∃ v, i ≤ v ∧ v ≤ X ∧ r = nI v ∧ zGood M R (zTk a v) facts places bear ∧ (∀ w, i ≤ w → w < v → ¬ zGood M R (zTk a w) facts places bear) ∧ ∀ p, p < 6 → nw' (56 + p) = zTk a v p) := by
  intro d
  have hM : M ≤ 12 := hf.1
  induction d with
  | zero =>
    intro i n nw ps h1 h3 h4 h5
    obtain rfl : i = X + 1 := by omega
    cases n with
    | zero => omega
    | succ n =>
      obtain ⟨nw', e, q1, q2⟩ := g_L162 (sv := sv) 6 0 N nw (by omega) (by omega)
      refine ⟨-1, nw', ps, ?_, h5, fun q hq => by rw [q2 q (by omega)]; exact h4 q hq, Or.inl ⟨rfl, fun p hp => q1 p (Nat.zero_le p) hp, fun v h6 h7 => by omega⟩⟩
      rw [fX11_plan_L63, if_pos (by rw [zl_lt (by omega) (by omega)]; omega)]
      exact e _
  | succ d ih =>
    intro i n nw ps h1 h3 h4 h5
    cases n with
    | zero => omega
    | succ n =>
      obtain ⟨n1, e1, q1, q2⟩ := g_L72 (a := a) (v := i) 6 0 N nw (by omega) (by omega)
      have hk1 : ∀ q, (q < 56 ∨ 62 ≤ q) → n1 q = now q := fun q hq => by rw [q2 q (by omega)]; exact h4 q hq
      have hp1 : ∀ p, p < 6 → n1 (56 + p) = zTk a i p := fun p hp => q1 p (Nat.zero_le p) hp
      obtain ⟨b, j, p1, e2, q3, hr⟩ := g_L108 hN (zTk_fit (v := i) hf ha (by omega)) (znt_of hM hn hk1 hp1) M 0 N ps (by omega) (by omega) h5 (fun x hx => by omega)
      rw [fX11_plan_L63, if_neg (by rw [zl_lt (by omega) (by omega)]; omega), e1, e2]
      rcases hr with ⟨hr, hg⟩ | ⟨hr, hg⟩
      · subst hr
        rw [if_neg zl_t0]
        exact ⟨_, _, _, rfl, q3, hk1, Or.inr ⟨i, Nat.le_refl i, by omega, rfl, hg, fun w h6 h7 => by omega, hp1⟩⟩
      · subst hr
        rw [if_pos (of_eq_true zl_f), nI_add]
        obtain ⟨r2, n2, p2, e3, q4, q5, h6⟩ := ih (i + 1) n n1 p1 (by omega) (by omega) hk1 q3
        refine ⟨r2, n2, p2, e3, q4, q5, ?_⟩
        rcases h6 with ⟨h7, h8, h9⟩ | ⟨v, h7, h8, h9, h10, h11, h12⟩
        · refine Or.inl ⟨h7, h8, fun v hv1 hv2 => ?_⟩
          by_cases hvi : v = i
          · rw [hvi]; exact hg
          · exact h9 v (by omega) hv2
        · refine Or.inr ⟨v, by omega, h8, h9, h10, fun w hw1 hw2 => ?_, h12⟩
          by_cases hwi : w = i
          · rw [hwi]; exact hg
          · exact h11 w (by omega) hw2
theorem k_race {M R S : Nat} {ticks ticks' : Nat → Int32} {entered strikings : Int32} {dropped facts splits order struck torn waved : Nat → Int32} {mats : Int32} {bearings cuts deaths places now nw : Nat → Int32} (h : zRaceN M R S ticks entered strikings dropped facts splits order struck torn waved mats bearings cuts deaths places now) (hk : ∀ q, (q < 56 ∨ 62 ≤ q) → nw q = now q) (ht : zTicks ticks' nw) : zRace ticks' entered strikings dropped facts splits order struck torn waved mats bearings cuts deaths places nw := by
  obtain ⟨⟨hM, em, ee, es, n0, n1, n2⟩, hm, _, hr, hs⟩ := h
  exact ⟨M, R, S, ⟨hM, em, ee, es, by rw [hk 0 (by omega)]; exact n0, by rw [hk 1 (by omega)]; exact n1, by rw [hk 2 (by omega)]; exact n2⟩, k_mats hM.2.1 hm (fun q h1 h2 => hk q (by omega)), ht, k_runs hr (fun q h1 => hk q (by omega)), k_str (by omega) hs (fun q h1 h2 => hk q (by omega))⟩
theorem r_plan {N : Nat} {ticks : Nat → Int32} {entered strikings : Int32} {dropped facts splits order struck torn waved : Nat → Int32} {mats : Int32} {bearings cuts deaths places now minutes passers pens secs tried passing : Nat → Int32} {T x1 x2 : Int32} (hN : 10000 ≤ N) (h : zRace ticks entered strikings dropped facts splits order struck torn waved mats bearings cuts deaths places now) (hp : ∀ k, k < 4001 → passers k = 0) (hq : ∀ k, k < 5000 → passing k = 0) :
    ∃ (r : Int32) (mt pt pe se tr gt nw ps : Nat → Int32), fX10_plan N minutes passers pens secs tried ticks entered facts mats bearings places x1 x2 = some (r, mt, pt, pe, se, tr, gt) ∧ fX11_plan N T now passing x1 x2 = some (r, nI 0, nw, ps) ∧ zRace gt entered strikings dropped facts splits order struck torn waved mats bearings cuts deaths places nw ∧ (∀ k, k < 4001 → pt k = 0) ∧ ∀ k, k < 5000 → ps k = 0 := by
  unfold fX10_plan fX11_plan
  rcases zarg x1 with hx | ⟨a, ha, rfl⟩
  · rw [zw_neg (by omega) hx, zi_neg (by omega) hx, Option.bind_some, Option.bind_some, if_pos zl_f0, if_pos zl_f0]
    exact ⟨_, _, _, _, _, _, _, _, _, rfl, rfl, h, hp, hq⟩
  rw [zw_n (by omega) (by omega) ha, zi_n (by omega) (by omega) ha, Option.bind_some, Option.bind_some]
  by_cases ha2 : 0 ≤ a ∧ a ≤ 10000
  case neg =>
    rw [decide_eq_false ha2, if_pos zl_f0, if_pos zl_f0]
    exact ⟨_, _, _, _, _, _, _, _, _, rfl, rfl, h, hp, hq⟩
  rw [decide_eq_true ha2, if_neg zl_t0, if_neg zl_t0]
  rcases zarg x2 with hx | ⟨X, hX, rfl⟩
  · rw [zw_neg (by omega) hx, zi_neg (by omega) hx, Option.bind_some, Option.bind_some, if_pos zl_f0, if_pos zl_f0]
    exact ⟨_, _, _, _, _, _, _, _, _, rfl, rfl, h, hp, hq⟩
  rw [zw_n (by omega) (by omega) hX, zi_n (by omega) (by omega) hX, Option.bind_some, Option.bind_some]
  by_cases hX2 : 0 ≤ X ∧ X ≤ 3000
  case neg =>
    rw [decide_eq_false hX2, if_pos zl_f0, if_pos zl_f0]
    exact ⟨_, _, _, _, _, _, _, _, _, rfl, rfl, h, hp, hq⟩
  rw [decide_eq_true hX2, if_neg zl_t0, if_neg zl_t0]
  obtain ⟨M, R, S, h⟩ := h
  obtain ⟨hf, hn⟩ := zfit_of h
  have h0 := h
  obtain ⟨⟨⟨hM0, hM, hR, _⟩, em, ee, _, n0, n1, _⟩, _, ht, _⟩ := h0
  obtain ⟨pe, se, e1, q1⟩ := c_L3 (N := N) (facts := facts) (places := places) hN hM hR M 0 N pens secs (by omega) (by omega) (fun x hx => by omega)
  obtain ⟨r, mt, pt, tr, gt, e2, q2, h2⟩ := c_L34 hN hf q1 ha2.2 hX2.2 (X + 1) 0 N 0 minutes passers tried ticks (by omega) (by omega) (by omega) hp
  obtain ⟨sv, e3, q3, _⟩ := g_L37 (now := now) 6 0 N (fun _ => 0) (by omega) (by omega)
  obtain ⟨r', nw, ps, e4, q4, q5, h4⟩ := g_L63 (sv := sv) hN hf hn ha2.2 hX2.2 (X + 1) 0 N now passing (by omega) (by omega) (fun q _ => rfl) hq
  have hc : fX1_planFrom N minutes passers pens secs tried ticks entered facts mats bearings places (nI a) (nI X) = some (r, mt, pt, pe, se, tr, gt) := by
    unfold fX1_planFrom
    rw [ee, em]
    exact (e1 _).trans e2
  have hrr : r = r' ∧ zTicks gt nw := by
    rcases h2 with ⟨u1, u2, u3⟩ | ⟨v, u1, u2, u3, u4, u5, u6⟩
    · rcases h4 with ⟨w1, w2, w3⟩ | ⟨w, w1, w2, w3, w4, w5, w6⟩
      · refine ⟨by rw [u1, w1], fun p hp => ⟨?_, ?_⟩⟩
        · rw [w2 p hp, q3 p (Nat.zero_le p) hp, u2]; exact (ht p hp).1
        · rw [u2]; exact (ht p hp).2
      · exact absurd w4 (u3 w w1 w2)
    · rcases h4 with ⟨w1, w2, w3⟩ | ⟨w, w1, w2, w3, w4, w5, w6⟩
      · exact absurd u4 (w3 v u1 u2)
      · have hvw : v = w := by
          rcases Nat.lt_trichotomy v w with g | g | g
          · exact absurd u4 (w5 v u1 g)
          · exact g
          · exact absurd w4 (u5 w w1 g)
        subst hvw
        refine ⟨by rw [u3, w3], fun p hp => ⟨by rw [w6 p hp, u6 p hp], ?_⟩⟩
        rw [u6 p hp]
        exact (zTk_fit hf ha2.2 (by omega)).2.2.1 p hp
  obtain ⟨hr, hzt⟩ := hrr
  subst hr
  refine ⟨r, mt, pt, pe, se, tr, gt, nw, ps, ?_, ?_, k_race h q5 hzt, q2, q4⟩
  · rw [hc, Option.bind_some]
  · exact (e3 _).trans e4
