/-! lists: the team's best -/
def zsm (g : Nat → Int32) : Nat → Int32
  | 0 => 0
  | n + 1 => zsm g n + g n
theorem zsm_congr {f g : Nat → Int32} : ∀ n, (∀ k, k < n → f k = g k) → zsm f n = zsm g n
  | 0, _ => rfl
  | n + 1, h => by
    show zsm f n + f n = zsm g n + g n
    rw [zsm_congr n (fun k hk => h k (by omega)), h n (by omega)]
theorem zsm_add {f g h : Nat → Int32} : ∀ n, (∀ k, k < n → h k = f k + g k) → zsm h n = zsm f n + zsm g n
  | 0, _ => by
    show (0 : Int32) = 0 + 0
    decide
  | n + 1, q => by
    show zsm h n + h n = zsm f n + f n + (zsm g n + g n)
    rw [zsm_add n (fun k hk => q k (by omega)), q n (by omega), Int32.add_assoc, Int32.add_assoc, ← Int32.add_assoc (zsm g n), Int32.add_comm (zsm g n) (f n), Int32.add_assoc]
theorem zsm_0 {g : Nat → Int32} : ∀ n, (∀ k, k < n → g k = 0) → zsm g n = 0
  | 0, _ => rfl
  | n + 1, h => by
    show zsm g n + g n = 0
    rw [zsm_0 n (fun k hk => h k (by omega)), h n (by omega)]
    decide
theorem zsm_one {g : Nat → Int32} {a : Nat} : ∀ n, a < n → (∀ k, k < n → ¬ k = a → g k = 0) → zsm g n = g a
  | 0, h, _ => by omega
  | n + 1, h, q => by
    show zsm g n + g n = g a
    by_cases e : a = n
    · subst e
      rw [zsm_0 a (fun k hk => q k (by omega) (by omega)), Int32.zero_add]
    · rw [zsm_one n (by omega) (fun k hk => q k (by omega)), q n (by omega) (by omega), Int32.add_zero]
theorem zsm_cut {f : Nat → Int32} {n : Nat} (hn : n ≤ 60) : ∀ d, n + d ≤ 60 → zsm (fun k => if nI n ≤ nI k then 0 else f k) (n + d) = zsm f n
  | 0, _ => zsm_congr n (fun k hk => by
      show (if nI n ≤ nI k then 0 else f k) = f k
      rw [if_neg (show ¬ nI n ≤ nI k by rw [zl_le (by omega) (by omega)]; omega)])
  | d + 1, h => by
    show zsm (fun k => if nI n ≤ nI k then 0 else f k) (n + d) + (if nI n ≤ nI (n + d) then 0 else f (n + d)) = zsm f n
    rw [zsm_cut hn d (by omega), if_pos (show nI n ≤ nI (n + d) by rw [zl_le (by omega) (by omega)]; omega), Int32.add_zero]
/-- a sum over the runners is one over the places -/
theorem zsm_zSqL {tm g : Nat → Int32} {i c : Nat} {s : Nat → Nat} (h : zSq tm i c s) : ∀ k, k ≤ c → zsm (fun j => g (s j)) k = zsm (fun r => if zcb (fun j => decide (s j = r)) k = 0 then 0 else g r) i
  | 0, _ => by
    rw [zsm_0 (g := fun r => if zcb (fun j => decide (s j = r)) 0 = 0 then 0 else g r) i (fun r _ => if_pos rfl)]
    rfl
  | k + 1, hk => by
    have ih := zsm_zSqL (g := g) h k (by omega)
    have hs := (h.1 k (by omega)).1
    have hno : zcb (fun j => decide (s j = s k)) k = 0 := zcb_no k (fun j hj => decide_eq_false (fun e => by
      have := zSq_inj h (show j < c by omega) (show k < c by omega) e
      omega))
    have one := zsm_one (g := fun r => if r = s k then g (s k) else 0) i hs (fun r _ e => if_neg e)
    have one2 : zsm (fun r => if r = s k then g (s k) else 0) i = g (s k) := one.trans (if_pos rfl)
    show zsm (fun j => g (s j)) k + g (s k) = _
    rw [ih, ← one2]
    refine (zsm_add i (fun r hr => ?_)).symm
    show (if zcb (fun j => decide (s j = r)) (k + 1) = 0 then 0 else g r) = (if zcb (fun j => decide (s j = r)) k = 0 then 0 else g r) + (if r = s k then g (s k) else 0)
    by_cases e : r = s k
    · subst e
      rw [hno, zcb_t (show decide (s k = s k) = true from decide_eq_true rfl), hno, if_neg (show ¬ 0 + 1 = 0 by omega), if_pos (show (0 : Nat) = 0 from rfl), if_pos (show s k = s k from rfl), Int32.zero_add]
    · rw [zcb_f (show ¬ decide (s k = r) = true by rw [decide_eq_false (fun q => e q.symm)]; decide), if_neg e, Int32.add_zero]
theorem zsm_zSq {tm g : Nat → Int32} {i c : Nat} {s : Nat → Nat} (h : zSq tm i c s) (hg : ∀ r, r < i → tm r = -1 → g r = 0) : zsm g i = zsm (fun j => g (s j)) c := by
  rw [zsm_zSqL h c (Nat.le_refl c)]
  refine zsm_congr i (fun r hr => ?_)
  show g r = if zcb (fun j => decide (s j = r)) c = 0 then 0 else g r
  by_cases a : tm r = -1
  · rw [hg r hr a]
    by_cases b : zcb (fun j => decide (s j = r)) c = 0
    · rw [if_pos b]
    · rw [if_neg b]
  · obtain ⟨k, hk, ek⟩ := zSq_mem h hr a
    have hp := zcb_lt (d := fun j => decide (s j = r)) hk (decide_eq_true ek)
    rw [if_neg (show ¬ zcb (fun j => decide (s j = r)) c = 0 by omega)]
theorem zflt {s : Nat → Nat} {q : Nat → Bool} : ∀ c, ∃ s2 : Nat → Nat, (∀ k, k < c → q (s k) = true → s2 (zcb (fun j => q (s j)) k) = s k) ∧ ∀ P : Nat → Bool, zcb (fun j => P (s2 j)) (zcb (fun j => q (s j)) c) = zcb (fun k => q (s k) && P (s k)) c
  | 0 => ⟨fun _ => 0, fun k hk => by omega, fun _ => rfl⟩
  | c + 1 => by
    obtain ⟨s2, h1, h2⟩ := zflt (s := s) (q := q) c
    cases hq : q (s c) with
    | false =>
      refine ⟨s2, fun k hk hk2 => ?_, fun P => ?_⟩
      · by_cases e : k = c
        · rw [e, hq] at hk2
          cases hk2
        · exact h1 k (by omega) hk2
      · rw [zcb_f (d := fun j => q (s j)) (show ¬ q (s c) = true by rw [hq]; decide), h2 P]
        refine (zcb_f ?_).symm
        show ¬ (q (s c) && P (s c)) = true
        rw [hq, Bool.false_and]
        decide
    | true =>
      refine ⟨fun j => if j = zcb (fun j => q (s j)) c then s c else s2 j, fun k hk hk2 => ?_, fun P => ?_⟩
      · show (if zcb (fun j => q (s j)) k = zcb (fun j => q (s j)) c then s c else s2 (zcb (fun j => q (s j)) k)) = s k
        by_cases e : k = c
        · rw [e, if_pos rfl]
        · have hlt := zcb_lt (d := fun j => q (s j)) (show k < c by omega) hk2
          rw [if_neg (by omega), h1 k (by omega) hk2]
      · rw [zcb_t (d := fun j => q (s j)) hq]
        show zcb (fun j => P (if j = zcb (fun j => q (s j)) c then s c else s2 j)) (zcb (fun j => q (s j)) c) + (if P (if zcb (fun j => q (s j)) c = zcb (fun j => q (s j)) c then s c else s2 (zcb (fun j => q (s j)) c)) = true then 1 else 0) = zcb (fun k => q (s k) && P (s k)) c + (if (q (s c) && P (s c)) = true then 1 else 0)
        rw [if_pos (show zcb (fun j => q (s j)) c = zcb (fun j => q (s j)) c from rfl), hq, Bool.true_and, zcb_congr (d := fun j => P (if j = zcb (fun j => q (s j)) c then s c else s2 j)) (d' := fun j => P (s2 j)) _ (fun j hj => by
          show P (if j = zcb (fun j => q (s j)) c then s c else s2 j) = P (s2 j)
          rw [if_neg (by omega)]), h2 P]
theorem zSq_flt {tm tm2 : Nat → Int32} {c : Nat} {s : Nat → Nat} {q : Nat → Bool} (h : zSq tm 60 c s) (h2 : ∀ r, r < 60 → tm2 r = if q r = true then tm r else -1) : ∃ s2 : Nat → Nat, zSq tm2 60 (zcb (fun j => q (s j)) c) s2 ∧ ∀ k, k < c → q (s k) = true → s2 (zcb (fun j => q (s j)) k) = s k := by
  obtain ⟨s2, f1, f2⟩ := zflt (s := s) (q := q) c
  have at_ : ∀ j, j < zcb (fun j => q (s j)) c → ∃ k, k < c ∧ q (s k) = true ∧ zcb (fun j => q (s j)) k = j ∧ s2 j = s k ∧ tm2 (s k) = tm (s k) := by
    intro j hj
    obtain ⟨k, k1, k2, k3⟩ := zcb_find (d := fun j => q (s j)) c hj
    have k2' : q (s k) = true := k2
    refine ⟨k, k1, k2', k3, ?_, ?_⟩
    · rw [← k3]
      exact f1 k k1 k2'
    · rw [h2 (s k) (h.1 k k1).1, k2', if_pos rfl]
  refine ⟨s2, ⟨fun j hj => ?_, fun j j' hjj hj' => ?_, fun P => ?_⟩, f1⟩
  · obtain ⟨k, k1, _, _, k4, k5⟩ := at_ j hj
    rw [k4, k5]
    exact h.1 k k1
  · obtain ⟨k, k1, _, k3, k4, k5⟩ := at_ j (by omega)
    obtain ⟨k', k1', _, k3', k4', k5'⟩ := at_ j' hj'
    have hkk : k < k' := by
      rcases Nat.lt_or_ge k k' with g | g
      · exact g
      · have := zcb_mono (d := fun j => q (s j)) (a := k') (k - k')
        rw [show k' + (k - k') = k by omega] at this
        omega
    unfold zlt
    rw [k4, k4', k5, k5']
    exact h.2.1 k k' hkk k1'
  · rw [f2 P]
    have e : zcb (fun r => zls tm r && (q r && P r)) 60 = zcb (fun k => q (s k) && P (s k)) c := h.2.2 (fun r => q r && P r)
    rw [← e]
    refine zcb_congr 60 (fun r hr => ?_)
    show (zls tm2 r && P r) = (zls tm r && (q r && P r))
    unfold zls
    rw [h2 r hr]
    cases q r with
    | true => rw [if_pos rfl, Bool.true_and]
    | false => rw [if_neg (by decide), decide_eq_false (fun z => z rfl), Bool.false_and, Bool.and_false]
theorem c_leaveL {R : Nat} {facts : Nat → Int32} {x : Int32} (hR : R ≤ 60) (hx : ¬ x = -1) : ∀ (d v n : Nat) (t : Nat → Int32), v + d = 60 → d + 1 ≤ n → ∃ t', fX3_leaveOnlyTeam_L2 (nI R) facts x (fun (v3_2 : Int32) (t_times_l2 : Nat → Int32) => some (t_times_l2)) n (nI v) t = some t' ∧ (∀ r, v ≤ r → r < 60 → t' r = if decide (r < R ∧ facts (6 * r + 4) = x) = true then t r else -1) ∧ ∀ r, r < v → t' r = t r := by
  intro d
  induction d with
  | zero =>
    intro v n t h1 h2
    obtain rfl : v = 60 := by omega
    cases n with
    | zero => omega
    | succ n =>
      refine ⟨t, ?_, fun r a b => by omega, fun r _ => rfl⟩
      rw [fX3_leaveOnlyTeam_L2, if_pos (show nI 60 ≤ nI 60 by rw [zl_le (by omega) (by omega)]; exact Nat.le_refl _)]
  | succ d ih =>
    intro v n t h1 h2
    cases n with
    | zero => omega
    | succ n =>
      have z : zin (nI v) 60 := zin_k (by omega) (by omega)
      by_cases q : v < R ∧ facts (6 * v + 4) = x
      · obtain ⟨t', e, p1, p2⟩ := ih (v + 1) n t (by omega) (by omega)
        refine ⟨t', ?_, fun r a b => ?_, fun r a => p2 r (by omega)⟩
        · rw [fX3_leaveOnlyTeam_L2, if_neg (show ¬ nI 60 ≤ nI v by rw [zl_le (by omega) (by omega)]; omega), c_factOf hR q.1 (by omega), Option.bind_some, if_pos q.2, nI_add]
          exact e
        · by_cases hrv : r = v
          · rw [hrv, p2 v (by omega), decide_eq_true q, if_pos rfl]
          · exact p1 r (by omega) b
      · obtain ⟨t', e, p1, p2⟩ := ih (v + 1) n (upd t v (-1)) (by omega) (by omega)
        have hf : ∃ w, fX6_factOf (nI R) facts (nI v) (nI 4) = some w ∧ ¬ w = x := by
          by_cases g : v < R
          · exact ⟨_, c_factOf hR g (by omega), fun e => q ⟨g, e⟩⟩
          · exact ⟨-1, c_noFact hR (Or.inr ⟨v, by omega, by omega, rfl⟩), fun e => hx e.symm⟩
        obtain ⟨w, w1, w2⟩ := hf
        refine ⟨t', ?_, fun r a b => ?_, fun r a => by rw [p2 r (by omega), zup_n (by omega)]⟩
        · rw [fX3_leaveOnlyTeam_L2, if_neg (show ¬ nI 60 ≤ nI v by rw [zl_le (by omega) (by omega)]; omega), w1, Option.bind_some, if_neg w2, if_pos z, zl_c (show v < 2 ^ 31 by omega), nI_add]
          exact e
        · by_cases hrv : r = v
          · rw [hrv, p2 v (by omega), zup_s, decide_eq_false q, if_neg (by decide)]
          · rw [p1 r (by omega) b, zup_n hrv]
/-- what the class adds for a runner -/
def zAd (N : Nat) (t : Nat → Int32) (n : Int32) (r : Nat) : Int32 := if t r = -1 then 0 else (fX3_indexOf N t (nI r)).elim 0 (fun w => if n ≤ w then 0 else t r)
theorem c_bestL {N : Nat} {t : Nat → Int32} {x : Int32} (K : Int32 → Int32 → Option (Int32 × (Nat → Int32))) (hi : ∀ r, r < 60 → ¬ t r = -1 → ∃ w, fX3_indexOf N t (nI r) = some w) : ∀ (d v n : Nat), v + d = 60 → d + 1 ≤ n → fX3_bestOfTeam_L22 N x t K n (zsm (zAd N t x) v) (nI v) = K (zsm (zAd N t x) 60) (nI 60) := by
  intro d
  induction d with
  | zero =>
    intro v n h1 h2
    obtain rfl : v = 60 := by omega
    cases n with
    | zero => omega
    | succ n => rw [fX3_bestOfTeam_L22, if_pos (show nI 60 ≤ nI 60 by rw [zl_le (by omega) (by omega)]; exact Nat.le_refl _)]
  | succ d ih =>
    intro v n h1 h2
    cases n with
    | zero => omega
    | succ n =>
      have z : zin (nI v) 60 := zin_k (by omega) (by omega)
      have e := ih (v + 1) n (by omega) (by omega)
      have es : zsm (zAd N t x) (v + 1) = zsm (zAd N t x) v + zAd N t x v := rfl
      rw [es] at e
      rw [fX3_bestOfTeam_L22, if_neg (show ¬ nI 60 ≤ nI v by rw [zl_le (by omega) (by omega)]; omega), if_pos z, if_pos z, zl_c (show v < 2 ^ 31 by omega), nI_add]
      by_cases a : t v = -1
      · have ea : zAd N t x v = 0 := if_pos a
        rw [ea, Int32.add_zero] at e
        rw [if_pos a]
        exact e
      · obtain ⟨w, hw⟩ := hi v (by omega) a
        have ea : zAd N t x v = if x ≤ w then 0 else t v := by
          unfold zAd
          rw [if_neg a, hw]; rfl
        rw [if_neg a, hw, Option.bind_some]
        by_cases b : x ≤ w
        · rw [ea, if_pos b, Int32.add_zero] at e
          rw [if_pos b]
          exact e
        · rw [ea, if_neg b] at e
          rw [if_neg b]
          exact e
theorem c_best {N R n c : Nat} {tm facts : Nat → Int32} {s : Nat → Nat} {x : Int32} {q : Nat → Bool} (hN : 10000 ≤ N) (hR : R ≤ 60) (hx : ¬ x = -1) (hn : n ≤ 10) (hc : c ≤ 60) (h : zSq tm 60 c s) (hq : q = fun r => decide (r < R ∧ facts (6 * r + 4) = x)) :
    ∃ (tm2 : Nat → Int32) (s2 : Nat → Nat), (∀ k, k < c → q (s k) = true → s2 (zcb (fun j => q (s j)) k) = s k ∧ tm2 (s k) = tm (s k)) ∧ ∃ z, fX3_bestOfTeam N tm (nI R) facts x (nI n) = some (if n ≤ zcb (fun j => q (s j)) c then zsm (fun k => tm2 (s2 k)) n else -1, z) := by
  have hqr : ∀ r, q r = decide (r < R ∧ facts (6 * r + 4) = x) := fun r => congrFun hq r
  obtain ⟨tm2, e1, e2, _⟩ := c_leaveL (facts := facts) hR hx 60 0 N tm (by omega) (by omega)
  obtain ⟨s2, f1, f2⟩ := zSq_flt (tm2 := tm2) (q := q) h (fun r hr => by rw [e2 r (Nat.zero_le r) hr, hqr r])
  refine ⟨tm2, s2, fun k hk hk2 => ⟨f2 k hk hk2, by rw [e2 (s k) (Nat.zero_le _) (h.1 k hk).1, ← hqr (s k), hk2, if_pos rfl]⟩, ?_⟩
  have hle := zcb_le (d := fun j => q (s j)) c
  clear f2
  generalize zcb (fun j => q (s j)) c = c2 at hle f1 ⊢
  unfold fX3_bestOfTeam fX3_leaveOnlyTeam
  rw [e1, Option.bind_some, c_size hN f1, Option.bind_some]
  by_cases g : n ≤ c2
  · have hb := fun K => c_bestL (x := nI n) K (fun r hr ha => by
      obtain ⟨k, hk, ek⟩ := zSq_mem f1 hr ha
      have := c_idx hN f1 hk
      rw [ek] at this
      exact ⟨_, this⟩) 60 0 N (by omega) (by omega)
    have hs : zsm (zAd N tm2 (nI n)) 60 = zsm (fun k => tm2 (s2 k)) n := by
      rw [zsm_zSq (g := zAd N tm2 (nI n)) f1 (fun r _ a => if_pos a)]
      have e3 : zsm (fun j => zAd N tm2 (nI n) (s2 j)) c2 = zsm (fun k => if nI n ≤ nI k then 0 else tm2 (s2 k)) c2 := zsm_congr c2 (fun k hk => by
        show zAd N tm2 (nI n) (s2 k) = if nI n ≤ nI k then 0 else tm2 (s2 k)
        unfold zAd
        rw [if_neg (f1.1 k hk).2, c_idx hN f1 hk]; rfl)
      have e4 := zsm_cut (f := fun k => tm2 (s2 k)) (show n ≤ 60 by omega) (c2 - n) (by omega)
      rw [show n + (c2 - n) = c2 by omega] at e4
      exact e3.trans e4
    rw [if_pos (show nI n ≤ nI c2 by rw [zl_le (by omega) (by omega)]; exact g), if_pos g, ← hs]
    exact ⟨_, hb _⟩
  · rw [if_neg (show ¬ nI n ≤ nI c2 by rw [zl_le (by omega) (by omega)]; exact g), if_neg g]
    exact ⟨_, rfl⟩
theorem g_L42 {R n c : Nat} {t tm tm2 o facts now : Nat → Int32} {s s2 : Nat → Nat} {x : Int32} {q : Nat → Bool} (hn : n ≤ 10) (hc : c ≤ 60) (h : zSq tm 60 c s) (hot : ∀ k, k < c → o k = nI (s k) ∧ t k = tm (s k)) (hq : q = fun r => decide (r < R ∧ facts (6 * r + 4) = x)) (hR : ∀ k, k < c → s k < R) (hfa : ∀ r, r < R → fX11_of now (nI r) (nI 4) = some (facts (6 * r + 4)))
    (h2 : ∀ k, k < c → q (s k) = true → s2 (zcb (fun j => q (s j)) k) = s k ∧ tm2 (s k) = tm (s k)) :
    ∀ (d k m : Nat), k + d = c → d + 1 ≤ m → zcb (fun j => q (s j)) k ≤ n → ∃ j' k' : Nat, (∀ K, fX11_team_L42 now x (nI n) (nI c) o t K m (nI (zcb (fun j => q (s j)) k)) (zsm (fun i => tm2 (s2 i)) (zcb (fun j => q (s j)) k)) (nI k) = K (nI j') (zsm (fun i => tm2 (s2 i)) j') (nI k')) ∧ j' ≤ n ∧ ((j' = n ∧ n ≤ zcb (fun j => q (s j)) c) ∨ (j' < n ∧ j' = zcb (fun j => q (s j)) c)) := by
  intro d
  induction d with
  | zero =>
    intro k m h1 h3 h4
    obtain rfl : k = c := by omega
    cases m with
    | zero => omega
    | succ m =>
      refine ⟨zcb (fun j => q (s j)) k, k, fun K => ?_, h4, by omega⟩
      rw [fX11_team_L42, if_pos (show nI k ≤ nI k by rw [zl_le (by omega) (by omega)]; exact Nat.le_refl _)]
  | succ d ih =>
    intro k m h1 h3 h4
    cases m with
    | zero => omega
    | succ m =>
      have hk : k < c := by omega
      have hle := zcb_mono (d := fun j => q (s j)) (a := k) (c - k)
      rw [show k + (c - k) = c by omega] at hle
      by_cases g : n ≤ zcb (fun j => q (s j)) k
      · refine ⟨zcb (fun j => q (s j)) k, k, fun K => ?_, h4, Or.inl (by omega)⟩
        rw [fX11_team_L42, if_neg (show ¬ nI c ≤ nI k by rw [zl_le (by omega) (by omega)]; omega), if_pos (show nI n ≤ nI (zcb (fun j => q (s j)) k) by rw [zl_le (by omega) (by omega)]; exact g)]
      · have z : zin (nI k) 60 := zin_k (by omega) (by omega)
        have hqk : q (s k) = decide (s k < R ∧ facts (6 * s k + 4) = x) := congrFun hq (s k)
        by_cases a : facts (6 * s k + 4) = x
        · have hqt : q (s k) = true := hqk.trans (decide_eq_true ⟨hR k hk, a⟩)
          obtain ⟨w1, w2⟩ := h2 k hk hqt
          have e1 : zcb (fun j => q (s j)) (k + 1) = zcb (fun j => q (s j)) k + 1 := zcb_t hqt
          obtain ⟨j', k', e, r1, r2⟩ := ih (k + 1) m (by omega) (by omega) (by omega)
          refine ⟨j', k', fun K => ?_, r1, r2⟩
          rw [e1] at e
          have e5 : zsm (fun i => tm2 (s2 i)) (zcb (fun j => q (s j)) k + 1) = zsm (fun i => tm2 (s2 i)) (zcb (fun j => q (s j)) k) + t k := by
            show zsm (fun i => tm2 (s2 i)) (zcb (fun j => q (s j)) k) + tm2 (s2 (zcb (fun j => q (s j)) k)) = _
            rw [w1, w2, (hot k hk).2]
          rw [e5] at e
          rw [fX11_team_L42, if_neg (show ¬ nI c ≤ nI k by rw [zl_le (by omega) (by omega)]; omega), if_neg (show ¬ nI n ≤ nI (zcb (fun j => q (s j)) k) by rw [zl_le (by omega) (by omega)]; exact g), if_pos z, if_pos z, zl_c (show k < 2 ^ 31 by omega), (hot k hk).1, hfa (s k) (hR k hk), Option.bind_some, if_pos a, nI_add, nI_add]
          exact e K
        · have hqf : ¬ q (s k) = true := fun w => a (of_decide_eq_true (hqk.symm.trans w)).2
          have e1 : zcb (fun j => q (s j)) (k + 1) = zcb (fun j => q (s j)) k := zcb_f hqf
          obtain ⟨j', k', e, r1, r2⟩ := ih (k + 1) m (by omega) (by omega) (by omega)
          refine ⟨j', k', fun K => ?_, r1, r2⟩
          rw [e1] at e
          rw [fX11_team_L42, if_neg (show ¬ nI c ≤ nI k by rw [zl_le (by omega) (by omega)]; omega), if_neg (show ¬ nI n ≤ nI (zcb (fun j => q (s j)) k) by rw [zl_le (by omega) (by omega)]; exact g), if_pos z, if_pos z, zl_c (show k < 2 ^ 31 by omega), (hot k hk).1, hfa (s k) (hR k hk), Option.bind_some, if_neg a, nI_add]
          exact e K
theorem r_team {N : Nat} {ticks dropped facts splits order struck torn waved bearings cuts deaths places now times listT ordT bytes text nu pa si : Nat → Int32} {entered strikings mats length mlength di la op od pr sg as at_ by_ fa mo pm li T x1 x2 : Int32} (hN : 10000 ≤ N) (hz : zRace ticks entered strikings dropped facts splits order struck torn waved mats bearings cuts deaths places now) (ht : zText length bytes mlength text) : ∃ v : Int32, (∃ z, fX10_team N di la op od pr sg nu pa si times ticks entered dropped facts splits struck waved mats cuts length bytes x1 x2 = some (v, z)) ∧ ∃ z, fX11_team N as at_ by_ fa mlength li mo pm T now ordT text listT x1 x2 = some (v, z) := by
  obtain ⟨M, R, S, h⟩ := hz
  have h0 := h
  obtain ⟨⟨⟨_, hM, hR, _⟩, em, ee, _, n0, n1, _⟩, _⟩ := h0
  subst em; subst ee
  obtain ⟨n, V, e1, e2, hv⟩ := zvb_of ht
  subst e1; subst e2
  have win : ∀ (x : Int32) (b : Nat), b < 100 → (fX10_within x (nI 1) (nI b) = some false ∧ fX11_isIn x (nI 1) (nI b) = some false) ∨ ∃ j : Nat, 1 ≤ j ∧ j ≤ b ∧ x = nI j ∧ fX10_within x (nI 1) (nI b) = some true ∧ fX11_isIn x (nI 1) (nI b) = some true := by
    intro x b hb
    rcases zarg x with hx | ⟨j, hj, rfl⟩
    · exact Or.inl ⟨zw_neg (by omega) hx, zi_neg (by omega) hx⟩
    · rw [zw_n (by omega) (by omega) hj, zi_n (by omega) (by omega) hj]
      by_cases q : 1 ≤ j ∧ j ≤ b
      · rw [decide_eq_true q]
        exact Or.inr ⟨j, q.1, q.2, rfl, rfl, rfl⟩
      · rw [decide_eq_false q]
        exact Or.inl ⟨rfl, rfl⟩
  rcases win x1 9 (by omega) with ⟨c1, g1⟩ | ⟨j1, a1, b1, rfl, c1, g1⟩
  · refine ⟨-1, ?_, ?_⟩
    · unfold fX10_team
      rw [c1, Option.bind_some, if_pos zl_f0]
      exact ⟨_, rfl⟩
    · unfold fX11_team
      rw [g1, Option.bind_some, if_pos zl_f0]
      exact ⟨_, rfl⟩
  rcases win x2 10 (by omega) with ⟨c2, g2⟩ | ⟨j2, a2, b2, rfl, c2, g2⟩
  · refine ⟨-1, ?_, ?_⟩
    · unfold fX10_team
      rw [c1, Option.bind_some, if_neg zl_t0, c2, Option.bind_some, if_pos zl_f0]
      exact ⟨_, rfl⟩
    · unfold fX11_team
      rw [g1, Option.bind_some, if_neg zl_t0, g2, Option.bind_some, if_pos zl_f0]
      exact ⟨_, rfl⟩
  cases hg : zRn n V 0 0 0 0 with
  | some f =>
    obtain ⟨⟨_, _, _, _, _, _, _, _, _, _, eC⟩, ⟨_, _, _, _, _, _, _, _, _, eG⟩⟩ := l_bad (now := now) (R := nI R) (M := nI M) (ticks := ticks) (dropped := dropped) (facts := facts) (splits := splits) (struck := struck) (waved := waved) (cuts := cuts) (times := times) (listT := listT) (ordT := ordT) (di := di) (la := la) (op := op) (od := od) (pr := pr) (sg := sg) (as := as) (at_ := at_) (by_ := by_) (fa := fa) (mo := mo) (pm := pm) (li := li) (nu := nu) (pa := pa) (si := si) hN hv hg
    refine ⟨-1, ?_, ?_⟩
    · unfold fX10_team
      rw [c1, Option.bind_some, if_neg zl_t0, c2, Option.bind_some, if_neg zl_t0, eC, Option.bind_some]
      dsimp only
      rw [if_pos zl_f0]
      exact ⟨_, rfl⟩
    · unfold fX11_team
      rw [g1, Option.bind_some, if_neg zl_t0, g2, Option.bind_some, if_neg zl_t0, eG, Option.bind_some]
      dsimp only
      rw [if_pos zl_f0]
      exact ⟨_, rfl⟩
  | none =>
    obtain ⟨tm, c, s, o, t, PR, pm', ⟨z1, z2, z3, z4, z5⟩, ⟨_, _, _, _, _, _, _, _, eC⟩, ⟨_, _, _, _, _, eG⟩⟩ := l_good (times := times) (listT := listT) (ordT := ordT) (di := di) (la := la) (op := op) (od := od) (pr := pr) (sg := sg) (as := as) (at_ := at_) (by_ := by_) (fa := fa) (mo := mo) (pm := pm) (li := li) (nu := nu) (pa := pa) (si := si) hN h hv hg
    obtain ⟨q, hq⟩ : ∃ q : Nat → Bool, q = fun r => decide (r < R ∧ facts (6 * r + 4) = nI j1) := ⟨_, rfl⟩
    obtain ⟨tm2, s2, k1, zz, k2⟩ := c_best (N := N) (n := j2) hN hR (of_eq_false (zl_ne1 (show j1 < 2 ^ 31 by omega))) b2 z2 z1 hq
    have hsR : ∀ k, k < c → s k < R := fun k hk => by
      rcases Nat.lt_or_ge (s k) R with g | g
      · exact g
      · exact absurd (z5 (s k) g (z1.1 k hk).1) (z1.1 k hk).2
    obtain ⟨j', k', e, r1, r2⟩ := g_L42 (now := now) (n := j2) b2 z2 z1 z3 hq hsR (fun r hr => by
      rw [g_of (by omega) (by omega)]
      exact congrArg some ((zqr_of h hr).2.2.1 4 (by omega))) k1 c 0 N (by omega) (by omega) (Nat.zero_le _)
    refine ⟨if j2 ≤ zcb (fun j => q (s j)) c then zsm (fun k => tm2 (s2 k)) j2 else -1, ?_, ?_⟩
    · unfold fX10_team
      rw [c1, Option.bind_some, if_neg zl_t0, c2, Option.bind_some, if_neg zl_t0, eC, Option.bind_some]
      dsimp only
      rw [if_neg zl_t0, k2, Option.bind_some]
      exact ⟨_, rfl⟩
    · unfold fX11_team
      rw [g1, Option.bind_some, if_neg zl_t0, g2, Option.bind_some, if_neg zl_t0, eG, Option.bind_some]
      dsimp only
      rw [if_neg zl_t0]
      have e0 : zcb (fun j => q (s j)) 0 = 0 := rfl
      rw [e0] at e
      have e1 : zsm (fun i => tm2 (s2 i)) 0 = nI 0 := by rw [p_zero]; rfl
      rw [e1] at e
      rw [e]
      rcases r2 with ⟨r2, r3⟩ | ⟨r2, r3⟩
      · rw [r2, if_pos (show nI j2 = nI j2 from rfl), if_pos r3]
        exact ⟨_, rfl⟩
      · rw [if_neg (show ¬ nI j' = nI j2 by rw [zl_eq (by omega) (by omega)]; omega), if_neg (show ¬ j2 ≤ zcb (fun j => q (s j)) c by omega)]
        exact ⟨_, rfl⟩
