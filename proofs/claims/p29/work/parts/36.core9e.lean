/-! tight and plan: how many pass a mat in a minute -/
def zFit (M R : Nat) (ticks facts places bear : Nat → Int32) : Prop :=
  M ≤ 12 ∧ R ≤ 60 ∧ (∀ p, p < 6 → zTick (ticks p)) ∧ (∀ m, m < M → (∃ k : Nat, k ≤ 100000 ∧ places m = nI k) ∧ ∃ k : Nat, k ≤ 1000 ∧ bear m = nI k) ∧ ∀ r, r < R → (∃ k : Nat, k ≤ 2000 ∧ facts (6 * r + 1) = nI k) ∧ ∃ k : Nat, k < 6 ∧ facts (6 * r + 5) = nI k
def zNT (M R : Nat) (ticks facts places bear now : Nat → Int32) : Prop :=
  now 0 = nI M ∧ now 1 = nI R ∧ (∀ m, m < M → now (8 + 4 * m + 0) = places m ∧ now (8 + 4 * m + 1) = bear m) ∧ (∀ p, p < 6 → now (56 + p) = ticks p) ∧ ∀ r, r < R → now (122 + 24 * r + 1) = facts (6 * r + 1) ∧ now (122 + 24 * r + 5) = facts (6 * r + 5)
def zPs (ticks facts places : Nat → Int32) (x r : Nat) : Int32 := if ticks (facts (6 * r + 5)).toNatClampNeg = -1 then -1 else ticks (facts (6 * r + 5)).toNatClampNeg + places x * facts (6 * r + 1) / nI 1000
def zMi (ticks facts places : Nat → Int32) (x r : Nat) : Int32 := if ticks (facts (6 * r + 5)).toNatClampNeg = -1 then -1 else (ticks (facts (6 * r + 5)).toNatClampNeg + places x * facts (6 * r + 1) / nI 1000) / nI 60
def zcn (mi : Nat → Int32) : Nat → Nat → Nat
  | 0, _ => 0
  | r + 1, q => zcn mi r q + (if mi r = nI q then 1 else 0)
def zfv (mi : Nat → Int32) (b : Int32) : Nat → Int32
  | 0 => -1
  | r + 1 => if mi r = -1 then zfv mi b r else if nI (zcn mi (r + 1) (mi r).toNatClampNeg) ≤ b then zfv mi b r else if zfv mi b r = -1 then mi r else if zfv mi b r ≤ mi r then zfv mi b r else mi r
theorem nm1 {a : Nat} (h : a < 2147483648) : ¬ (nI a = -1) := of_eq_false (zl_ne1 h)
theorem zMi_c {M R x r : Nat} {ticks facts places bear : Nat → Int32} (hf : zFit M R ticks facts places bear) (hx : x < M) (hr : r < R) : ∃ c : Nat, c < 6 ∧ facts (6 * r + 5) = nI c ∧ ((ticks c = -1 ∧ zPs ticks facts places x r = -1 ∧ zMi ticks facts places x r = -1) ∨ (ticks c ≠ -1 ∧ ∃ s : Nat, s ≤ 240000 ∧ zPs ticks facts places x r = nI s ∧ zMi ticks facts places x r = nI (s / 60) ∧ ticks c + places x * facts (6 * r + 1) / nI 1000 = nI s)) := by
  obtain ⟨_, _, ht, hm, hq⟩ := hf
  obtain ⟨⟨a, ha, ea⟩, _⟩ := hm x hx
  obtain ⟨⟨b, hb, eb⟩, ⟨c, hc, ec⟩⟩ := hq r hr
  refine ⟨c, hc, ec, ?_⟩
  unfold zPs zMi
  rw [ec, zl_c (show c < 2 ^ 31 by omega)]
  rcases ht c hc with h | ⟨k, hk, h⟩
  · exact Or.inl ⟨h, if_pos h, if_pos h⟩
  · have hn : ¬ (ticks c = -1) := by rw [h]; exact nm1 (by omega)
    have hz : a * b ≤ 100000 * 2000 := Nat.mul_le_mul ha hb
    have e : ticks c + places x * facts (6 * r + 1) / nI 1000 = nI (k + a * b / 1000) := by
      rw [h, ea, eb, pk_mul, pk_div (by omega) (by omega) (by omega), nI_add]
    have hs : k + a * b / 1000 ≤ 240000 := by omega
    refine Or.inr ⟨hn, k + a * b / 1000, hs, ?_, ?_, e⟩
    · rw [if_neg hn, e]
    · rw [if_neg hn, e, pk_div (by omega) (by omega) (by omega)]
theorem zMi_ok {M R x : Nat} {ticks facts places bear : Nat → Int32} (hf : zFit M R ticks facts places bear) (hx : x < M) : ∀ r, r < R → zMi ticks facts places x r = -1 ∨ ∃ k : Nat, k ≤ 4000 ∧ zMi ticks facts places x r = nI k := by
  intro r hr
  obtain ⟨c, hc, ec, ⟨_, _, h⟩ | ⟨_, s, hs, _, h, _⟩⟩ := zMi_c hf hx hr
  · exact Or.inl h
  · exact Or.inr ⟨s / 60, by omega, h⟩
theorem zcn_le {mi : Nat → Int32} {q : Nat} : ∀ r, zcn mi r q ≤ r
  | 0 => Nat.le_refl 0
  | r + 1 => by
    have h := zcn_le (mi := mi) (q := q) r
    show zcn mi r q + (if mi r = nI q then 1 else 0) ≤ r + 1
    by_cases h2 : mi r = nI q
    · rw [if_pos h2]; omega
    · rw [if_neg h2]; omega
theorem zcn_some {mi : Nat → Int32} {q : Nat} : ∀ r, zcn mi r q = 0 ∨ ∃ j, j < r ∧ mi j = nI q
  | 0 => Or.inl rfl
  | r + 1 => by
    show zcn mi r q + (if mi r = nI q then 1 else 0) = 0 ∨ _
    by_cases h2 : mi r = nI q
    · exact Or.inr ⟨r, by omega, h2⟩
    · rw [if_neg h2]
      rcases zcn_some (mi := mi) (q := q) r with h | ⟨j, hj, e⟩
      · exact Or.inl h
      · exact Or.inr ⟨j, by omega, e⟩
theorem zcn_hit {mi : Nat → Int32} {r q : Nat} (h : mi r = nI q) : zcn mi (r + 1) q = zcn mi r q + 1 := by
  show zcn mi r q + (if mi r = nI q then 1 else 0) = _
  rw [if_pos h]
theorem zcn_miss {mi : Nat → Int32} {r q : Nat} (h : ¬ mi r = nI q) : zcn mi (r + 1) q = zcn mi r q := by
  show zcn mi r q + (if mi r = nI q then 1 else 0) = _
  rw [if_neg h]; rfl
theorem zt_skip {mi tab : Nat → Int32} {Q i : Nat} (hQ : Q ≤ 5000) (hm : mi i = -1) (ht : ∀ q, q < Q → tab q = nI (zcn mi i q)) : ∀ q, q < Q → tab q = nI (zcn mi (i + 1) q) := by
  intro q hq
  rw [zcn_miss (by rw [hm]; exact fun h => nm1 (by omega) h.symm)]
  exact ht q hq
theorem zt_hit {mi tab : Nat → Int32} {Q i k : Nat} (hQ : Q ≤ 5000) (hk : k < Q) (hm : mi i = nI k) (ht : ∀ q, q < Q → tab q = nI (zcn mi i q)) : ∀ q, q < Q → upd tab k (tab k + nI 1) q = nI (zcn mi (i + 1) q) := by
  intro q hq
  by_cases h : q = k
  · rw [h, zup_s, zcn_hit hm, ht k hk, nI_add]
  · rw [zup_n h, zcn_miss (by rw [hm, zl_eq (by omega) (by omega)]; omega), ht q hq]
theorem zfv_neg {mi : Nat → Int32} {b : Int32} {i : Nat} (hm : mi i = -1) : zfv mi b (i + 1) = zfv mi b i := if_pos hm
theorem zfv_pos {mi : Nat → Int32} {b : Int32} {i k : Nat} (hm : mi i = nI k) (hk : k < 2147483648) : zfv mi b (i + 1) = if nI (zcn mi (i + 1) k) ≤ b then zfv mi b i else if zfv mi b i = -1 then nI k else if zfv mi b i ≤ nI k then zfv mi b i else nI k := by
  have e : zfv mi b (i + 1) = if mi i = -1 then zfv mi b i else if nI (zcn mi (i + 1) (mi i).toNatClampNeg) ≤ b then zfv mi b i else if zfv mi b i = -1 then mi i else if zfv mi b i ≤ mi i then zfv mi b i else mi i := rfl
  rw [e, hm, if_neg (nm1 hk), zl_c (by omega)]
theorem zfv_none {mi : Nat → Int32} {B R : Nat} (hB : R ≤ B) (hB2 : B ≤ 1000) (hm : ∀ r, r < R → mi r = -1 ∨ ∃ k : Nat, k ≤ 4000 ∧ mi r = nI k) : ∀ i, i ≤ R → zfv mi (nI B) i = -1
  | 0, _ => rfl
  | i + 1, h => by
    have ih := zfv_none hB hB2 hm i (by omega)
    rcases hm i (by omega) with q | ⟨k, hk, q⟩
    · rw [zfv_neg q]; exact ih
    · have h1 := zcn_le (mi := mi) (q := k) (i + 1)
      rw [zfv_pos q (by omega), if_pos (nI_le (by omega) (by omega))]
      exact ih
theorem zclr {mi tab : Nat → Int32} {Q i R : Nat} {k : Nat} (hm : mi i = nI k) (hk : k < 2147483648) (hQ : Q ≤ 5000) (ht : ∀ q, q < Q → tab q = 0 ∨ ∃ j, i ≤ j ∧ j < R ∧ mi j = nI q) : ∀ q, q < Q → upd tab k (nI 0) q = 0 ∨ ∃ j, i + 1 ≤ j ∧ j < R ∧ mi j = nI q := by
  intro q hq
  by_cases h : q = k
  · rw [h, zup_s]; exact Or.inl p_zero
  · rw [zup_n h]
    rcases ht q hq with h0 | ⟨j, h1, h2, h3⟩
    · exact Or.inl h0
    · refine Or.inr ⟨j, ?_, h2, h3⟩
      rcases Nat.lt_or_ge i j with g | g
      · omega
      · have : j = i := by omega
        subst this
        rw [hm, zl_eq (by omega) (by omega)] at h3
        omega
theorem zclr0 {mi tab : Nat → Int32} {Q i R : Nat} (hm : mi i = -1) (hQ : Q ≤ 5000) (ht : ∀ q, q < Q → tab q = 0 ∨ ∃ j, i ≤ j ∧ j < R ∧ mi j = nI q) : ∀ q, q < Q → tab q = 0 ∨ ∃ j, i + 1 ≤ j ∧ j < R ∧ mi j = nI q := by
  intro q hq
  rcases ht q hq with h0 | ⟨j, h1, h2, h3⟩
  · exact Or.inl h0
  · refine Or.inr ⟨j, ?_, h2, h3⟩
    rcases Nat.lt_or_ge i j with g | g
    · omega
    · have : j = i := by omega
      subst this
      rw [hm] at h3
      exact absurd h3.symm (nm1 (by omega))
theorem ztab0 {mi tab : Nat → Int32} {Q R : Nat} (ht : ∀ q, q < Q → tab q = nI (zcn mi R q)) : ∀ q, q < Q → tab q = 0 ∨ ∃ j, 0 ≤ j ∧ j < R ∧ mi j = nI q := by
  intro q hq
  rcases zcn_some (mi := mi) (q := q) R with h | ⟨j, hj, e⟩
  · rw [ht q hq, h]; exact Or.inl p_zero
  · exact Or.inr ⟨j, Nat.zero_le _, hj, e⟩
theorem ztabe {mi tab : Nat → Int32} {Q R : Nat} (ht : ∀ q, q < Q → tab q = 0 ∨ ∃ j, R ≤ j ∧ j < R ∧ mi j = nI q) : ∀ q, q < Q → tab q = 0 := by
  intro q hq
  rcases ht q hq with h | ⟨j, h1, h2, _⟩
  · exact h
  · omega
/-! the reference -/
theorem g_made {a b : Nat} (ha : a ≤ 100000) (hb : b ≤ 2000) : fX11_made (nI a) (nI b) = some (nI a * nI b / nI 1000) := by
  have hz : a * b ≤ 100000 * 2000 := Nat.mul_le_mul ha hb
  have e1 := zq_k a (by omega)
  have e2 := zq_k b (by omega)
  unfold fX11_made
  refine congrArg some (Int32.toInt_inj.mp ?_)
  have k : (1000 : Int64).toInt = 1000 := rfl
  have c1 : (a : Int) * (b : Int) = ((a * b : Nat) : Int) := (Int.natCast_mul a b).symm
  rw [Int64.toInt_toInt32, Int64.toInt_div, Int64.toInt_mul, Int32.toInt_toInt64, Int32.toInt_toInt64, e1, e2, pk_mul, pk_div (by omega) (by omega) (by omega), zq_k _ (by omega), k, c1]
  generalize a * b = z at hz ⊢
  rw [Int.bmod_eq_of_le (n := (z : Int)) (by omega) (by omega), Int.tdiv_eq_ediv_of_nonneg (by omega)]
  rw [Int.bmod_eq_of_le (n := (z : Int) / 1000) (m := 2 ^ 64) (by omega) (by omega), Int.bmod_eq_of_le (by omega) (by omega)]
  omega
theorem g_passes {M R x r : Nat} {ticks facts places bear now : Nat → Int32} (hf : zFit M R ticks facts places bear) (hn : zNT M R ticks facts places bear now) (hx : x < M) (hr : r < R) : fX11_passes now (nI r) (nI x) = some (zPs ticks facts places x r) := by
  obtain ⟨hM, hR, ht, hm, hq⟩ := hf
  obtain ⟨n0, n1, nm, ng, nr⟩ := hn
  obtain ⟨⟨a, ha, ea⟩, _⟩ := hm x hx
  obtain ⟨⟨b, hb, eb⟩, ⟨c, hc, ec⟩⟩ := hq r hr
  unfold fX11_passes zPs
  rw [g_of (by omega) (by omega), Option.bind_some, (nr r hr).2, ec, g_gunOf hc, Option.bind_some, ng c hc, zl_c (show c < 2 ^ 31 by omega)]
  by_cases q : ticks c = -1
  · rw [if_pos q, if_pos q]
  · rw [if_neg q, if_neg q, g_ofMat (by omega) (by omega), Option.bind_some, g_of (by omega) (by omega), Option.bind_some, (nm x hx).1, (nr r hr).1, ea, eb, g_made ha hb, Option.bind_some]
theorem g_L4 {M R x : Nat} {ticks facts places bear now : Nat → Int32} (hf : zFit M R ticks facts places bear) (hn : zNT M R ticks facts places bear now) (hx : x < M) : ∀ (d i n : Nat) (tab : Nat → Int32), i + d = R → d + 1 ≤ n → (∀ q, q < 5000 → tab q = nI (zcn (zMi ticks facts places x) i q)) →
    ∃ tab', (∀ K, fX11_firstTight_L4 now (nI x) K n (zfv (zMi ticks facts places x) (bear x) i) (nI i) tab = K (zfv (zMi ticks facts places x) (bear x) R) (nI R) tab') ∧ ∀ q, q < 5000 → tab' q = nI (zcn (zMi ticks facts places x) R q) := by
  intro d
  have hR : R ≤ 60 := hf.2.1
  have hM : M ≤ 12 := hf.1
  induction d with
  | zero =>
    intro i n tab h1 h2 h3
    obtain rfl : i = R := by omega
    cases n with
    | zero => omega
    | succ n =>
      refine ⟨tab, fun K => ?_, h3⟩
      rw [fX11_firstTight_L4, g_runners, Option.bind_some, hn.2.1, if_pos (by rw [zl_le (by omega) (by omega)]; exact Nat.le_refl _)]
  | succ d ih =>
    intro i n tab h1 h2 h3
    cases n with
    | zero => omega
    | succ n =>
      have hi : i < R := by omega
      obtain ⟨c, hc, ec, ⟨_, hp, hm⟩ | ⟨_, s, hs, hp, hm, _⟩⟩ := zMi_c hf hx hi
      · obtain ⟨tab', e, q1⟩ := ih (i + 1) n tab (by omega) (by omega) (zt_skip (by omega) hm h3)
        refine ⟨tab', fun K => ?_, q1⟩
        rw [fX11_firstTight_L4, g_runners, Option.bind_some, hn.2.1, if_neg (by rw [zl_le (by omega) (by omega)]; omega), g_passes hf hn hx hi, Option.bind_some, if_pos hp, nI_add]
        have e' := e K
        rw [zfv_neg hm] at e'
        exact e'
      · obtain ⟨tab', e, q1⟩ := ih (i + 1) n (upd tab (s / 60) (tab (s / 60) + nI 1)) (by omega) (by omega) (zt_hit (by omega) (by omega) hm h3)
        refine ⟨tab', fun K => ?_, q1⟩
        have hz : zin (nI (s / 60)) 5000 := zin_k (by omega) (by omega)
        have hcnt := zt_hit (show 5000 ≤ 5000 by omega) (show s / 60 < 5000 by omega) hm h3 (s / 60) (by omega)
        rw [fX11_firstTight_L4, g_runners, Option.bind_some, hn.2.1, if_neg (by rw [zl_le (by omega) (by omega)]; omega), g_passes hf hn hx hi, Option.bind_some, hp, if_neg (nm1 (by omega)), pk_div (by omega) (by omega) (by omega), if_pos hz, if_pos hz, if_pos hz, g_ofMat (by omega) (by omega), Option.bind_some, (hn.2.2.1 x hx).2, zl_c (show s / 60 < 2 ^ 31 by omega), hcnt, nI_add, ← e K, zfv_pos hm (by omega)]
        by_cases k1 : nI (zcn (zMi ticks facts places x) (i + 1) (s / 60)) ≤ bear x
        · rw [if_pos k1, if_pos k1]
        · rw [if_neg k1, if_neg k1]
          by_cases k2 : zfv (zMi ticks facts places x) (bear x) i = -1
          · rw [if_pos k2, if_pos k2]
          · rw [if_neg k2, if_neg k2]
            by_cases k3 : zfv (zMi ticks facts places x) (bear x) i ≤ nI (s / 60)
            · rw [if_pos k3, if_pos k3]
            · rw [if_neg k3, if_neg k3]
theorem g_L90 {M R x : Nat} {ticks facts places bear now : Nat → Int32} (hf : zFit M R ticks facts places bear) (hn : zNT M R ticks facts places bear now) (hx : x < M) : ∀ (d i n : Nat) (tab : Nat → Int32), i + d = R → d + 1 ≤ n → (∀ q, q < 5000 → tab q = 0 ∨ ∃ j, i ≤ j ∧ j < R ∧ zMi ticks facts places x j = nI q) →
    ∃ tab', (∀ K, fX11_firstTight_L90 now (nI x) K n (nI i) tab = K (nI R) tab') ∧ ∀ q, q < 5000 → tab' q = 0 := by
  intro d
  have hR : R ≤ 60 := hf.2.1
  have hM : M ≤ 12 := hf.1
  induction d with
  | zero =>
    intro i n tab h1 h2 h3
    obtain rfl : i = R := by omega
    cases n with
    | zero => omega
    | succ n =>
      refine ⟨tab, fun K => ?_, ztabe h3⟩
      rw [fX11_firstTight_L90, g_runners, Option.bind_some, hn.2.1, if_pos (by rw [zl_le (by omega) (by omega)]; exact Nat.le_refl _)]
  | succ d ih =>
    intro i n tab h1 h2 h3
    cases n with
    | zero => omega
    | succ n =>
      have hi : i < R := by omega
      obtain ⟨c, hc, ec, ⟨_, hp, hm⟩ | ⟨_, s, hs, hp, hm, _⟩⟩ := zMi_c hf hx hi
      · obtain ⟨tab', e, q1⟩ := ih (i + 1) n tab (by omega) (by omega) (zclr0 hm (by omega) h3)
        refine ⟨tab', fun K => ?_, q1⟩
        rw [fX11_firstTight_L90, g_runners, Option.bind_some, hn.2.1, if_neg (by rw [zl_le (by omega) (by omega)]; omega), g_passes hf hn hx hi, Option.bind_some, if_pos hp, nI_add]
        exact e K
      · obtain ⟨tab', e, q1⟩ := ih (i + 1) n (upd tab (s / 60) (nI 0)) (by omega) (by omega) (zclr hm (by omega) (by omega) h3)
        refine ⟨tab', fun K => ?_, q1⟩
        rw [fX11_firstTight_L90, g_runners, Option.bind_some, hn.2.1, if_neg (by rw [zl_le (by omega) (by omega)]; omega), g_passes hf hn hx hi, Option.bind_some, hp, if_neg (nm1 (by omega)), Option.bind_some, pk_div (by omega) (by omega) (by omega), if_pos (zin_k (by omega) (by omega)), nI_add, zl_c (show s / 60 < 2 ^ 31 by omega)]
        exact e K
theorem g_first {N M R x : Nat} {ticks facts places bear now ps : Nat → Int32} (hN : 10000 ≤ N) (hf : zFit M R ticks facts places bear) (hn : zNT M R ticks facts places bear now) (hx : x < M) (hz : ∀ q, q < 5000 → ps q = 0) : ∃ ps', fX11_firstTight N now ps (nI x) = some (zfv (zMi ticks facts places x) (bear x) R, ps') ∧ ∀ q, q < 5000 → ps' q = 0 := by
  have hR : R ≤ 60 := hf.2.1
  obtain ⟨t1, e1, q1⟩ := g_L4 hf hn hx R 0 N ps (by omega) (by omega) (fun q hq => by rw [hz q hq]; rfl)
  obtain ⟨t2, e2, q2⟩ := g_L90 hf hn hx R 0 N t1 (by omega) (by omega) (ztab0 q1)
  refine ⟨t2, ?_, q2⟩
  unfold fX11_firstTight
  exact (e1 _).trans (e2 _)
/-! the class -/
theorem c_tickOf {t : Nat → Int32} {c : Nat} (hc : c < 6) : fX2_tickOf t (nI c) = some (t c) := by
  unfold fX2_tickOf
  rw [if_neg (nI_pos (by omega)), if_neg (by rw [zl_le (by omega) (by omega)]; omega), if_pos (zin_k hc (by omega)), zl_c (by omega)]
theorem c_factOf {R r k : Nat} {facts : Nat → Int32} (hR : R ≤ 60) (hr : r < R) (hk : k < 6) : fX6_factOf (nI R) facts (nI r) (nI k) = some (facts (6 * r + k)) := by
  unfold fX6_factOf
  have ix : nI r * nI 6 + nI k = nI (6 * r + k) := by rw [pk_mul, nI_add, show r * 6 + k = 6 * r + k by omega]
  rw [if_neg (nI_pos (by omega)), if_neg (by rw [zl_le (by omega) (by omega)]; omega), if_neg (by rw [zl_le (by omega) (by omega)]; omega), if_neg (nI_pos (by omega)), if_pos (by rw [zl_lt (by omega) (by omega)]; omega), ix, if_pos (zin_k (by omega) (by omega)), zl_c (by omega)]
theorem c_J99n {r1 v6 : Int32} {i : Nat} {mt pt : Nat → Int32} {rec : Int32 → Int32 → (Nat → Int32) → (Nat → Int32) → Option (Int32 × (Nat → Int32) × (Nat → Int32))} (hi : i < 60) : fX1_firstTight_J99L44 r1 v6 (nI i) mt pt rec (-1) = rec v6 (nI (i + 1)) (upd mt i (-1)) pt := by
  unfold fX1_firstTight_J99L44 fX1_firstTight_J180L44
  rw [if_pos (zin_k hi (by omega)), if_pos (of_eq_true zl_m1), zl_c (by omega), nI_add]
theorem c_J99p {b : Int32} {mi : Nat → Int32} {i k : Nat} {mt pt : Nat → Int32} {rec : Int32 → Int32 → (Nat → Int32) → (Nat → Int32) → Option (Int32 × (Nat → Int32) × (Nat → Int32))} (hi : i < 60) (hk : k ≤ 4000) (hm : mi i = nI k) (hcnt : upd pt k (pt k + nI 1) k = nI (zcn mi (i + 1) k)) :
    fX1_firstTight_J99L44 b (zfv mi b i) (nI i) mt pt rec (nI k) = rec (zfv mi b (i + 1)) (nI (i + 1)) (upd mt i (nI k)) (upd pt k (pt k + nI 1)) := by
  have hz : zin (nI k) 4001 := zin_k (by omega) (by omega)
  unfold fX1_firstTight_J99L44 fX1_firstTight_J180L44
  rw [if_pos (zin_k hi (by omega)), if_neg (nI_pos (by omega)), if_neg (by rw [zl_le (by omega) (by omega)]; omega), if_pos hz, if_pos hz, if_pos hz, zl_c (show i < 2 ^ 31 by omega), zl_c (show k < 2 ^ 31 by omega), hcnt, nI_add, zfv_pos hm (by omega)]
  by_cases k1 : nI (zcn mi (i + 1) k) ≤ b
  · rw [if_pos k1, if_pos k1]
  · rw [if_neg k1, if_neg k1]
    by_cases k2 : zfv mi b i = -1
    · rw [if_pos k2, if_pos k2]
    · rw [if_neg k2, if_neg k2]
      by_cases k3 : zfv mi b i ≤ nI k
      · rw [if_pos k3, if_pos k3]
      · rw [if_neg k3, if_neg k3]
/-- the rows that the class prepares: a runner's pen, and its seconds to mat x -/
def zPrd (R x : Nat) (facts places pens secs : Nat → Int32) : Prop := ∀ r, r < R → pens r = facts (6 * r + 5) ∧ secs (12 * r + x) = places x * facts (6 * r + 1) / nI 1000
theorem c_L44 {M R x : Nat} {ticks facts places bear pens secs p2 : Nat → Int32} (hf : zFit M R ticks facts places bear) (hx : x < M) (hpre : zPrd R x facts places pens secs) (h2 : ∀ p, p < 6 → p2 p = ticks p) : ∀ (d i n : Nat) (mt pt : Nat → Int32), i + d = R → d + 1 ≤ n → (∀ j, j < i → mt j = zMi ticks facts places x j) → (∀ q, q < 4001 → pt q = nI (zcn (zMi ticks facts places x) i q)) →
    ∃ mt' pt', (∀ K, fX1_firstTight_L44 pens secs p2 (nI x) (bear x) (nI R) K n (zfv (zMi ticks facts places x) (bear x) i) (nI i) mt pt = K (zfv (zMi ticks facts places x) (bear x) R) (nI R) mt' pt') ∧ (∀ j, j < R → mt' j = zMi ticks facts places x j) ∧ ∀ q, q < 4001 → pt' q = nI (zcn (zMi ticks facts places x) R q) := by
  intro d
  have hR : R ≤ 60 := hf.2.1
  have hM : M ≤ 12 := hf.1
  induction d with
  | zero =>
    intro i n mt pt h1 h3 h4 h5
    obtain rfl : i = R := by omega
    cases n with
    | zero => omega
    | succ n =>
      refine ⟨mt, pt, fun K => ?_, h4, h5⟩
      rw [fX1_firstTight_L44, if_pos (by rw [zl_le (by omega) (by omega)]; exact Nat.le_refl _)]
  | succ d ih =>
    intro i n mt pt h1 h3 h4 h5
    cases n with
    | zero => omega
    | succ n =>
      have hi : i < R := by omega
      obtain ⟨hpen, hsec⟩ := hpre i hi
      have hmt : ∀ v, v = zMi ticks facts places x i → ∀ j, j < i + 1 → upd mt i v j = zMi ticks facts places x j := by
        intro v hv j hj
        by_cases hji : j = i
        · rw [hji, zup_s, hv]
        · rw [zup_n hji]; exact h4 j (by omega)
      have ix : nI i * nI 12 + nI x = nI (12 * i + x) := by rw [pk_mul, nI_add, show i * 12 + x = 12 * i + x by omega]
      obtain ⟨c, hc, ec, ⟨htc, _, hm⟩ | ⟨htc, s, hs, _, hm, hsum⟩⟩ := zMi_c hf hx hi
      · obtain ⟨mt', pt', e, q1, q2⟩ := ih (i + 1) n (upd mt i (-1)) pt (by omega) (by omega) (hmt _ hm.symm) (zt_skip (by omega) hm h5)
        refine ⟨mt', pt', fun K => ?_, q1, q2⟩
        have e' := e K
        rw [zfv_neg hm] at e'
        rw [fX1_firstTight_L44, if_neg (by rw [zl_le (by omega) (by omega)]; omega), if_neg (by rw [zl_le (by omega) (by omega)]; omega), if_pos (zin_k (by omega) (by omega)), zl_c (show i < 2 ^ 31 by omega), hpen, ec, c_tickOf hc, Option.bind_some, h2 c hc, if_pos htc, c_J99n (by omega)]
        exact e'
      · obtain ⟨mt', pt', e, q1, q2⟩ := ih (i + 1) n (upd mt i (nI (s / 60))) (upd pt (s / 60) (pt (s / 60) + nI 1)) (by omega) (by omega) (hmt _ hm.symm) (zt_hit (by omega) (by omega) hm h5)
        refine ⟨mt', pt', fun K => ?_, q1, q2⟩
        have hcnt := zt_hit (show 4001 ≤ 5000 by omega) (show s / 60 < 4001 by omega) hm h5 (s / 60) (by omega)
        rw [fX1_firstTight_L44, if_neg (by rw [zl_le (by omega) (by omega)]; omega), if_neg (by rw [zl_le (by omega) (by omega)]; omega), if_pos (zin_k (by omega) (by omega)), zl_c (show i < 2 ^ 31 by omega), hpen, ec, c_tickOf hc, Option.bind_some, h2 c hc, if_neg htc, ix, if_pos (zin_k (by omega) (by omega)), zl_c (show 12 * i + x < 2 ^ 31 by omega), hsec, hsum, pk_div (by omega) (by omega) (by omega), c_J99p (by omega) (by omega) hm hcnt]
        exact e K
theorem c_forget {R : Nat} {mt mi : Nat → Int32} (hR : R ≤ 60) (hmt : ∀ j, j < R → mt j = mi j) (hc : ∀ r, r < R → mi r = -1 ∨ ∃ k : Nat, k ≤ 4000 ∧ mi r = nI k) : ∀ (d i n : Nat) (pt : Nat → Int32), i + d = R → d + 1 ≤ n → (∀ q, q < 4001 → pt q = 0 ∨ ∃ j, i ≤ j ∧ j < R ∧ mi j = nI q) →
    ∃ pt', (∀ K, fX1_forgetPassers_L2 mt (nI R) K n (nI i) pt = K (nI R) pt') ∧ ∀ q, q < 4001 → pt' q = 0 := by
  intro d
  induction d with
  | zero =>
    intro i n pt h1 h2 h3
    obtain rfl : i = R := by omega
    cases n with
    | zero => omega
    | succ n =>
      refine ⟨pt, fun K => ?_, ztabe h3⟩
      rw [fX1_forgetPassers_L2, if_pos (by rw [zl_le (by omega) (by omega)]; exact Nat.le_refl _)]
  | succ d ih =>
    intro i n pt h1 h2 h3
    cases n with
    | zero => omega
    | succ n =>
      have hi : i < R := by omega
      rcases hc i hi with hm | ⟨k, hk, hm⟩
      · obtain ⟨pt', e, q⟩ := ih (i + 1) n pt (by omega) (by omega) (zclr0 hm (by omega) h3)
        refine ⟨pt', fun K => ?_, q⟩
        rw [fX1_forgetPassers_L2, if_neg (by rw [zl_le (by omega) (by omega)]; omega), if_neg (by rw [zl_le (by omega) (by omega)]; omega), if_pos (zin_k (by omega) (by omega)), zl_c (show i < 2 ^ 31 by omega), hmt i hi, hm, if_pos (of_eq_true zl_m1), nI_add]
        exact e K
      · obtain ⟨pt', e, q⟩ := ih (i + 1) n (upd pt k (nI 0)) (by omega) (by omega) (zclr hm (by omega) (by omega) h3)
        refine ⟨pt', fun K => ?_, q⟩
        rw [fX1_forgetPassers_L2, if_neg (by rw [zl_le (by omega) (by omega)]; omega), if_neg (by rw [zl_le (by omega) (by omega)]; omega), if_pos (zin_k (by omega) (by omega)), zl_c (show i < 2 ^ 31 by omega), hmt i hi, hm, if_neg (nI_pos (by omega)), if_neg (by rw [zl_le (by omega) (by omega)]; omega), if_pos (zin_k (by omega) (by omega)), zl_c (show k < 2 ^ 31 by omega), nI_add]
        exact e K
theorem c_placeAt {M x : Nat} {t : Nat → Int32} (hM : M ≤ 12) (hx : x < M) : fX9_placeAt (nI M) t (nI x) = some (t x) := by
  unfold fX9_placeAt
  rw [c_hasM hM (by omega), Option.bind_some, decide_eq_true hx, if_neg zl_t0, if_pos (zin_k (by omega) (by omega)), zl_c (by omega)]
theorem c_bearingAt {M x : Nat} {t : Nat → Int32} (hM : M ≤ 12) (hx : x < M) : fX9_bearingAt (nI M) t (nI x) = some (t x) := by
  unfold fX9_bearingAt
  rw [c_hasM hM (by omega), Option.bind_some, decide_eq_true hx, if_neg zl_t0, if_pos (zin_k (by omega) (by omega)), zl_c (by omega)]
theorem c_first {N M R x : Nat} {ticks facts places bear pens secs p2 mt pt : Nat → Int32} (hN : 10000 ≤ N) (hf : zFit M R ticks facts places bear) (hx : x < M) (hpre : zPrd R x facts places pens secs) (h2 : ∀ p, p < 6 → p2 p = ticks p) (hz : ∀ q, q < 4001 → pt q = 0) :
    ∃ mt' pt', fX1_firstTight N mt pt pens secs (nI R) (nI M) bear p2 (nI x) = some (zfv (zMi ticks facts places x) (bear x) R, mt', pt') ∧ ∀ q, q < 4001 → pt' q = 0 := by
  have hR : R ≤ 60 := hf.2.1
  have hM : M ≤ 12 := hf.1
  obtain ⟨_, ⟨B, hB, eB⟩⟩ := hf.2.2.2.1 x hx
  unfold fX1_firstTight fX6_size
  rw [c_bearingAt hM hx, Option.bind_some, Option.bind_some, if_neg (nI_pos (by omega)), if_neg (by rw [zl_le (by omega) (by omega)]; omega)]
  by_cases hb : B < R
  · rw [if_pos (by rw [eB, zl_lt (by omega) (by omega)]; exact hb)]
    obtain ⟨m1, t1, e1, q1, q2⟩ := c_L44 hf hx hpre h2 R 0 N mt pt (by omega) (by omega) (fun j hj => by omega) (fun q hq => by rw [hz q hq]; rfl)
    obtain ⟨t2, e2, q3⟩ := c_forget hR q1 (zMi_ok hf hx) R 0 N t1 (by omega) (by omega) (ztab0 q2)
    refine ⟨m1, t2, (e1 _).trans ?_, q3⟩
    unfold fX1_forgetPassers
    show Option.bind (fX1_forgetPassers_L2 m1 (nI R) _ N (nI 0) t1) _ = _
    rw [e2, Option.bind_some]
  · rw [if_neg (by rw [eB, zl_lt (by omega) (by omega)]; exact hb)]
    refine ⟨mt, pt, ?_, hz⟩
    rw [eB, zfv_none (by omega) hB (zMi_ok hf hx) R (Nat.le_refl R)]
theorem c_prep {R x : Nat} {facts places : Nat → Int32} (hR : R ≤ 60) (hx : x < 12) : ∀ (d i n : Nat) (pens secs : Nat → Int32), i + d = R → d + 1 ≤ n → 
    ∃ pens' secs', (∀ K, fX1_prepare_L12 (nI R) facts (nI x) (places x) K n (nI i) pens secs = K (nI R) pens' secs') ∧ (∀ r, i ≤ r → r < R → pens' r = facts (6 * r + 5) ∧ secs' (12 * r + x) = places x * facts (6 * r + 1) / nI 1000) ∧ (∀ r, r < i → pens' r = pens r) ∧ ∀ r y, y < 12 → (y ≠ x ∨ r < i) → secs' (12 * r + y) = secs (12 * r + y) := by
  intro d
  induction d with
  | zero =>
    intro i n pens secs h1 h2
    obtain rfl : i = R := by omega
    cases n with
    | zero => omega
    | succ n =>
      refine ⟨pens, secs, fun K => ?_, fun r h3 h4 => by omega, fun r h => rfl, fun r y _ _ => rfl⟩
      rw [fX1_prepare_L12]
      unfold fX6_size
      rw [Option.bind_some, if_pos (by rw [zl_le (by omega) (by omega)]; exact Nat.le_refl _)]
  | succ d ih =>
    intro i n pens secs h1 h2
    cases n with
    | zero => omega
    | succ n =>
      have hi : i < R := by omega
      have ix : nI i * nI 12 + nI x = nI (12 * i + x) := by rw [pk_mul, nI_add, show i * 12 + x = 12 * i + x by omega]
      obtain ⟨pens', secs', e, q1, q2, q3⟩ := ih (i + 1) n (upd pens i (facts (6 * i + 5))) (upd secs (12 * i + x) (places x * facts (6 * i + 1) / nI 1000)) (by omega) (by omega)
      refine ⟨pens', secs', fun K => ?_, fun r h3 h4 => ?_, fun r h3 => ?_, fun r y hy h3 => ?_⟩
      · rw [fX1_prepare_L12]
        unfold fX6_size fX10_secondsCut
        rw [Option.bind_some, if_neg (by rw [zl_le (by omega) (by omega)]; omega), if_neg (by rw [zl_le (by omega) (by omega)]; omega), c_factOf hR hi (by omega), Option.bind_some, if_pos (zin_k (by omega) (by omega)), if_neg (nI_pos (by omega)), if_neg (by rw [zl_le (by omega) (by omega)]; omega), c_factOf hR hi (by omega), Option.bind_some, Option.bind_some, ix, if_pos (zin_k (by omega) (by omega)), zl_c (show i < 2 ^ 31 by omega), zl_c (show 12 * i + x < 2 ^ 31 by omega), nI_add]
        exact e K
      · by_cases hri : r = i
        · subst hri
          rw [q2 r (by omega), q3 r x hx (Or.inr (by omega)), zup_s, zup_s]
          exact ⟨rfl, rfl⟩
        · exact q1 r (by omega) h4
      · rw [q2 r (by omega), zup_n (by omega)]
      · rw [q3 r y hy (by omega), zup_n (by omega)]
theorem c_prepare {N M R x : Nat} {facts places pens secs : Nat → Int32} (hN : 10000 ≤ N) (hM : M ≤ 12) (hR : R ≤ 60) (hx : x < M) : ∃ pens' secs', fX1_prepare N pens secs (nI R) facts (nI M) places (nI x) = some (pens', secs') ∧ zPrd R x facts places pens' secs' ∧ ∀ r y, y < 12 → y ≠ x → secs' (12 * r + y) = secs (12 * r + y) := by
  obtain ⟨pens', secs', e, q1, q2, q3⟩ := c_prep (facts := facts) (places := places) hR (show x < 12 by omega) R 0 N pens secs (by omega) (by omega)
  refine ⟨pens', secs', ?_, fun r hr => q1 r (Nat.zero_le r) hr, fun r y hy h => q3 r y hy (Or.inl h)⟩
  unfold fX1_prepare
  rw [c_placeAt hM hx, Option.bind_some]
  exact e _
theorem zfit_of {M R S : Nat} {ticks : Nat → Int32} {entered strikings : Int32} {dropped facts splits order struck torn waved : Nat → Int32} {mats : Int32} {bearings cuts deaths places now : Nat → Int32} (h : zRaceN M R S ticks entered strikings dropped facts splits order struck torn waved mats bearings cuts deaths places now) :
    zFit M R ticks facts places bearings ∧ zNT M R ticks facts places bearings now := by
  obtain ⟨⟨⟨_, hM, hR, _⟩, _, _, _, n0, n1, _⟩, hm, ht, hr, _⟩ := h
  refine ⟨⟨hM, hR, fun p hp => (ht p hp).2, fun m hlt => ?_, fun r hlt => ?_⟩, n0, n1, fun m hlt => ?_, fun p hp => (ht p hp).1, fun r hlt => ?_⟩
  · obtain ⟨_, _, _, _, a, ⟨b, _, hb, eb⟩, _⟩ := hm.1 m hlt
    exact ⟨a, b, hb, eb⟩
  · obtain ⟨_, _, ⟨a, _, ha, ea⟩, _, _, _, ⟨b, hb, eb⟩, _⟩ := hr r hlt
    exact ⟨⟨a, ha, ea⟩, b, by omega, eb⟩
  · obtain ⟨a, b, _⟩ := hm.1 m hlt
    refine ⟨a, ?_⟩
    rw [show 8 + 4 * m + 1 = 9 + 4 * m by omega]
    exact b
  · have h1 := (hr r hlt).1
    exact ⟨h1 1 (by omega), h1 5 (by omega)⟩
theorem r_tight {N : Nat} {ticks : Nat → Int32} {entered strikings : Int32} {dropped facts splits order struck torn waved : Nat → Int32} {mats : Int32} {bearings cuts deaths places now minutes passers pens secs passing : Nat → Int32} {T x1 : Int32} (hN : 10000 ≤ N) (h : zRace ticks entered strikings dropped facts splits order struck torn waved mats bearings cuts deaths places now) (hp : ∀ k, k < 4001 → passers k = 0) (hq : ∀ k, k < 5000 → passing k = 0) :
    ∃ (r : Int32) (mt pt pe se ps : Nat → Int32), fX10_tight N minutes passers pens secs ticks entered facts mats bearings places x1 = some (r, mt, pt, pe, se) ∧ fX11_tight N T now passing x1 = some (r, nI 0, ps) ∧ (∀ k, k < 4001 → pt k = 0) ∧ ∀ k, k < 5000 → ps k = 0 := by
  obtain ⟨M, R, S, h⟩ := h
  obtain ⟨hf, hn⟩ := zfit_of h
  obtain ⟨⟨⟨_, hM, hR, _⟩, em, ee, _, n0, n1, _⟩, _⟩ := h
  unfold fX10_tight fX11_tight
  rcases zarg x1 with hx | ⟨j, hj, rfl⟩
  · rw [c_hasMn hx, g_isMatn hx, Option.bind_some, Option.bind_some, if_pos zl_f0, if_pos zl_f0]
    exact ⟨_, _, _, _, _, _, rfl, rfl, hp, hq⟩
  · rw [em, c_hasM hM hj, g_isMat n0 hM hj, Option.bind_some, Option.bind_some]
    by_cases hjM : j < M
    · obtain ⟨pe, se, e1, q1, _⟩ := c_prepare (facts := facts) (places := places) (pens := pens) (secs := secs) hN hM hR hjM
      obtain ⟨mt, pt, e2, q2⟩ := c_first (mt := minutes) (pt := passers) hN hf hjM q1 (fun _ _ => rfl) hp
      obtain ⟨ps, e3, q3⟩ := g_first hN hf hn hjM hq
      refine ⟨zfv (zMi ticks facts places j) (bearings j) R, mt, pt, pe, se, ps, ?_, ?_, q2, q3⟩
      · rw [decide_eq_true hjM, if_neg zl_t0]
        unfold fX1_firstTightMinute
        rw [ee, e1, Option.bind_some]
        show Option.bind (Option.bind (fX1_firstTight N minutes passers pe se (nI R) (nI M) bearings ticks (nI j)) _) _ = _
        rw [e2, Option.bind_some, Option.bind_some]
      · rw [decide_eq_true hjM, if_neg zl_t0, e3, Option.bind_some]
    · rw [decide_eq_false hjM, if_pos zl_f0, if_pos zl_f0]
      exact ⟨_, _, _, _, _, _, rfl, rfl, hp, hq⟩
