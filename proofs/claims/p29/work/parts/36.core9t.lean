/-! lists: an order by time and number, and counting -/
theorem zcb_congr {d d' : Nat → Bool} : ∀ c, (∀ k, k < c → d k = d' k) → zcb d c = zcb d' c
  | 0, _ => rfl
  | c + 1, h => by
    show zcb d c + (if d c = true then 1 else 0) = zcb d' c + (if d' c = true then 1 else 0)
    rw [zcb_congr c (fun k hk => h k (by omega)), h c (by omega)]
theorem zcb_no {d : Nat → Bool} : ∀ c, (∀ k, k < c → d k = false) → zcb d c = 0
  | 0, _ => rfl
  | c + 1, h => by
    rw [zcb_f (by rw [h c (by omega)]; decide)]
    exact zcb_no c (fun k hk => h k (by omega))
theorem zcb_below {k : Nat} : ∀ c, k ≤ c → zcb (fun j => decide (j < k)) c = k
  | 0, h => by
    have : k = 0 := by omega
    subst this; rfl
  | c + 1, h => by
    by_cases q : k = c + 1
    · subst q
      have e := zcb_congr (d := fun j => decide (j < c + 1)) (d' := fun j => decide (j < c)) c (fun j hj => by
        show decide (j < c + 1) = decide (j < c)
        rw [decide_eq_true (by omega), decide_eq_true hj])
      rw [zcb_t (show decide (c < c + 1) = true from decide_eq_true (by omega)), e, zcb_below c (Nat.le_refl c)]
    · rw [zcb_f (show ¬ decide (c < k) = true by rw [decide_eq_false (by omega)]; decide)]
      exact zcb_below c (by omega)
theorem zcb_add {d1 d2 d : Nat → Bool} : ∀ c, (∀ k, k < c → d k = (d1 k || d2 k) ∧ (d1 k && d2 k) = false) → zcb d1 c + zcb d2 c = zcb d c
  | 0, _ => rfl
  | c + 1, h => by
    have ih := zcb_add (d1 := d1) (d2 := d2) (d := d) c (fun k hk => h k (by omega))
    obtain ⟨h1, h2⟩ := h c (by omega)
    show zcb d1 c + (if d1 c = true then 1 else 0) + (zcb d2 c + (if d2 c = true then 1 else 0)) = zcb d c + (if d c = true then 1 else 0)
    cases q1 : d1 c with
    | true =>
      cases q2 : d2 c with
      | true => rw [q1, q2] at h2; exact absurd h2 (by decide)
      | false =>
        rw [q1, q2] at h1
        rw [h1, if_pos rfl, if_neg (by decide), if_pos (show (true || false) = true from rfl)]; omega
    | false =>
      cases q2 : d2 c with
      | true =>
        rw [q1, q2] at h1
        rw [h1, if_pos rfl, if_neg (by decide), if_pos (show (false || true) = true from rfl)]; omega
      | false =>
        rw [q1, q2] at h1
        rw [h1, if_neg (by decide), if_neg (by decide)]; omega
def zlt (tm : Nat → Int32) (a b : Nat) : Prop := tm a < tm b ∨ (tm a = tm b ∧ a < b)
theorem zlt_irr {tm : Nat → Int32} {a : Nat} : ¬ zlt tm a a := fun h => by
  rcases h with h | ⟨_, h⟩
  · have := zq_lt h
    omega
  · omega
theorem zlt_asym {tm : Nat → Int32} {a b : Nat} (h : zlt tm a b) : ¬ zlt tm b a := fun g => by
  rcases h with h | ⟨e, h⟩
  · have h1 := zq_lt h
    rcases g with g | ⟨e2, g⟩
    · have h2 := zq_lt g
      omega
    · rw [e2] at h1
      omega
  · rcases g with g | ⟨e2, g⟩
    · have h2 := zq_lt g
      rw [e] at h2
      omega
    · omega
def zls (tm : Nat → Int32) (r : Nat) : Bool := decide (¬ tm r = -1)
/-- c places, s their runners: all below i that are listed, in their order; every count over the runners is one over the places -/
def zSq (tm : Nat → Int32) (i c : Nat) (s : Nat → Nat) : Prop :=
  (∀ k, k < c → s k < i ∧ ¬ tm (s k) = -1) ∧ (∀ k k', k < k' → k' < c → zlt tm (s k) (s k')) ∧ ∀ P : Nat → Bool, zcb (fun r => zls tm r && P r) i = zcb (fun k => P (s k)) c
def zins (s : Nat → Nat) (v x : Nat) : Nat → Nat := fun k => if k < v then s k else if k = v then x else s (k - 1)
theorem zins_lt {s : Nat → Nat} {v x k : Nat} (h : k < v) : zins s v x k = s k := if_pos h
theorem zins_eq {s : Nat → Nat} {v x : Nat} : zins s v x v = x := by
  unfold zins
  rw [if_neg (by omega), if_pos rfl]
theorem zins_gt {s : Nat → Nat} {v x k : Nat} (h : v < k) : zins s v x k = s (k - 1) := by
  unfold zins
  rw [if_neg (by omega), if_neg (by omega)]
theorem zins_count {s : Nat → Nat} {x : Nat} {P : Nat → Bool} : ∀ (c v : Nat), v ≤ c → zcb (fun k => P (zins s v x k)) (c + 1) = zcb (fun k => P (s k)) c + (if P x = true then 1 else 0)
  | 0, v, h => by
    have : v = 0 := by omega
    subst this
    show 0 + (if P (zins s 0 x 0) = true then 1 else 0) = 0 + _
    rw [zins_eq]
  | c + 1, v, h => by
    by_cases q : v = c + 1
    · subst q
      show zcb (fun k => P (zins s (c + 1) x k)) (c + 1) + (if P (zins s (c + 1) x (c + 1)) = true then 1 else 0) = _
      rw [zins_eq, zcb_congr (d' := fun k => P (s k)) (c + 1) (fun k hk => by rw [zins_lt hk])]
    · have ih := zins_count (s := s) (x := x) (P := P) c v (by omega)
      show zcb (fun k => P (zins s v x k)) (c + 1) + (if P (zins s v x (c + 1)) = true then 1 else 0) = zcb (fun k => P (s k)) c + (if P (s c) = true then 1 else 0) + _
      rw [ih, zins_gt (by omega), show c + 1 - 1 = c by omega]
      omega
theorem zSq_skip {tm : Nat → Int32} {i c : Nat} {s : Nat → Nat} (h : zSq tm i c s) (hi : tm i = -1) : zSq tm (i + 1) c s := by
  obtain ⟨h1, h2, h3⟩ := h
  refine ⟨fun k hk => ⟨by have := (h1 k hk).1; omega, (h1 k hk).2⟩, h2, fun P => ?_⟩
  rw [← h3 P]
  refine zcb_f ?_
  show ¬ (zls tm i && P i) = true
  unfold zls
  rw [decide_eq_false (fun q => q hi), Bool.false_and]
  decide
theorem zSq_ins {tm : Nat → Int32} {i c v : Nat} {s : Nat → Nat} (h : zSq tm i c s) (hi : ¬ tm i = -1) (hv : v ≤ c) (hlo : ∀ k, k < v → tm (s k) ≤ tm i) (hhi : ∀ k, v ≤ k → k < c → tm i < tm (s k)) : zSq tm (i + 1) (c + 1) (zins s v i) := by
  obtain ⟨h1, h2, h3⟩ := h
  have lo : ∀ k, k < v → zlt tm (s k) i := fun k hk => by
    have a := (h1 k (by omega)).1
    by_cases q : tm (s k) = tm i
    · exact Or.inr ⟨q, a⟩
    · have b := zq_le (hlo k hk)
      have c := zq_ne q
      exact Or.inl (Int32.lt_iff_toInt_lt.mpr (by omega))
  refine ⟨fun k hk => ?_, fun k k' hkk hk' => ?_, fun P => ?_⟩
  · rcases Nat.lt_trichotomy k v with g | g | g
    · rw [zins_lt g]
      have := h1 k (by omega)
      exact ⟨by omega, this.2⟩
    · rw [g, zins_eq]
      exact ⟨by omega, hi⟩
    · rw [zins_gt g]
      have := h1 (k - 1) (by omega)
      exact ⟨by omega, this.2⟩
  · rcases Nat.lt_trichotomy k' v with g | g | g
    · rw [zins_lt g, zins_lt (by omega)]
      exact h2 k k' hkk (by omega)
    · subst g
      rw [zins_eq, zins_lt hkk]
      exact lo k hkk
    · rw [zins_gt g]
      rcases Nat.lt_trichotomy k v with f | f | f
      · rw [zins_lt f]
        exact h2 k (k' - 1) (by omega) (by omega)
      · subst f
        rw [zins_eq]
        exact Or.inl (hhi (k' - 1) (by omega) (by omega))
      · rw [zins_gt f]
        exact h2 (k - 1) (k' - 1) (by omega) (by omega)
  · rw [zins_count c v hv, ← h3 P]
    show zcb (fun r => zls tm r && P r) i + (if (zls tm i && P i) = true then 1 else 0) = _
    have e : (zls tm i && P i) = P i := by
      unfold zls
      rw [decide_eq_true hi, Bool.true_and]
    rw [e]
/-- a runner's place in the order is the number of those ahead -/
theorem zSq_rank {tm : Nat → Int32} {i c k : Nat} {s : Nat → Nat} (h : zSq tm i c s) (hk : k < c) (P : Nat → Bool) (hP : ∀ r, P r = true ↔ zlt tm r (s k)) : zcb (fun r => zls tm r && P r) i = k := by
  obtain ⟨h1, h2, h3⟩ := h
  rw [h3 P, zcb_congr (d' := fun j => decide (j < k)) c (fun j hj => ?_), zcb_below c (by omega)]
  show P (s j) = decide (j < k)
  rcases Nat.lt_trichotomy j k with g | g | g
  · rw [decide_eq_true g, (hP (s j)).mpr (h2 j k g hk)]
  · rw [decide_eq_false (by omega)]
    cases q : P (s j) with
    | false => rfl
    | true => exact absurd ((hP (s j)).mp q) (by rw [g]; exact zlt_irr)
  · rw [decide_eq_false (by omega)]
    cases q : P (s j) with
    | false => rfl
    | true => exact absurd (h2 k j g hj) (zlt_asym ((hP (s j)).mp q))
theorem zSq_mem {tm : Nat → Int32} {i c r : Nat} {s : Nat → Nat} (h : zSq tm i c s) (hr : r < i) (hl : ¬ tm r = -1) : ∃ k, k < c ∧ s k = r := by
  have e := h.2.2 (fun x => decide (x = r))
  have h1 : 0 < zcb (fun x => zls tm x && decide (x = r)) i := by
    refine Nat.lt_of_le_of_lt (Nat.zero_le _) (zcb_lt (d := fun x => zls tm x && decide (x = r)) hr ?_)
    show (zls tm r && decide (r = r)) = true
    unfold zls
    rw [decide_eq_true hl, decide_eq_true rfl]; rfl
  rw [e] at h1
  obtain ⟨k, k1, k2, _⟩ := zcb_find c h1
  exact ⟨k, k1, of_decide_eq_true k2⟩
