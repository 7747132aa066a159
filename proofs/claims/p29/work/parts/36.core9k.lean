/-! fault: the two readers of a text go the same way -/
def zJo (op v : Nat) : Option (Nat × Nat × Nat) := if v = 38 then some (0, op, 0) else if v = 41 then (if op = 0 then none else some (4, op - 1, 0)) else if v = 59 then (if op = 0 then some (5, op, 0) else none) else if v = 124 then some (0, op, 0) else none
def zDi (st op dg v : Nat) : Option (Nat × Nat × Nat) := if 48 ≤ v ∧ v ≤ 57 then (if dg + 1 ≤ 5 then some (st, op, dg + 1) else none) else none
def zWo (v : Nat) : Prop := v = 107 ∨ v = 112 ∨ v = 115 ∨ v = 116 ∨ v = 121
/-- one byte: stage, open ( and digits; none: no text goes on so -/
def zA (st op dg v : Nat) : Option (Nat × Nat × Nat) :=
  if v = 32 then some (if st = 3 then 4 else if st = 8 then 9 else st, op, if st = 3 then 0 else dg)
  else if st = 0 then (if v = 40 then (if 8 < op + 1 then none else some (0, op + 1, 0)) else if v = 107 ∨ v = 112 ∨ v = 115 ∨ v = 116 ∨ v = 121 then some (1, op, 0) else none)
  else if st = 1 then (if v = 61 ∨ v = 60 ∨ v = 62 then some (2, op, 0) else none)
  else if st = 2 then zDi 3 op dg v
  else if st = 3 then (if 48 ≤ v ∧ v ≤ 57 then zDi 3 op dg v else zJo op v)
  else if st = 4 then zJo op v
  else if st = 5 then (if v = 110 ∨ v = 103 then some (6, op, 0) else none)
  else if st = 6 then (if v = 59 then some (7, op, dg) else none)
  else if st = 7 then zDi 8 op dg v
  else if st = 8 then zDi 8 op dg v
  else none
def zR (V : Nat → Nat) : Nat → Nat → Nat → Nat → Nat → Option Nat
  | 0, p, st, _, _ => if st = 6 ∨ st = 8 ∨ st = 9 then none else some p
  | k + 1, p, st, op, dg => match zA st op dg (V p) with
    | none => some p
    | some (s, o, d) => zR V k (p + 1) s o d
def zRn (n : Nat) (V : Nat → Nat) (p st op dg : Nat) : Option Nat := zR V (n - p) p st op dg
def zRe : Option Nat → Int32
  | none => -1
  | some p => nI p
theorem zRn_end {n : Nat} {V : Nat → Nat} {st op dg : Nat} : zRn n V n st op dg = if st = 6 ∨ st = 8 ∨ st = 9 then none else some n := by
  unfold zRn
  rw [Nat.sub_self]; rfl
theorem zRn_none {n : Nat} {V : Nat → Nat} {p st op dg : Nat} (hp : p < n) (h : zA st op dg (V p) = none) : zRn n V p st op dg = some p := by
  unfold zRn
  rw [show n - p = (n - (p + 1)) + 1 by omega]
  show (match zA st op dg (V p) with | none => some p | some (s, o, d) => zR V (n - (p + 1)) (p + 1) s o d) = some p
  rw [h]
theorem zRn_some {n : Nat} {V : Nat → Nat} {p st op dg s o d : Nat} (hp : p < n) (h : zA st op dg (V p) = some (s, o, d)) : zRn n V p st op dg = zRn n V (p + 1) s o d := by
  unfold zRn
  rw [show n - p = (n - (p + 1)) + 1 by omega]
  show (match zA st op dg (V p) with | none => some p | some (s, o, d) => zR V (n - (p + 1)) (p + 1) s o d) = _
  rw [h]
theorem zRn_skip {n : Nat} {V : Nat → Nat} {st op dg : Nat} (h3 : ¬ st = 3) (h8 : ¬ st = 8) : ∀ (k p : Nat), p + k ≤ n → (∀ i, p ≤ i → i < p + k → V i = 32) → zRn n V p st op dg = zRn n V (p + k) st op dg
  | 0, _, _, _ => rfl
  | k + 1, p, h1, h2 => by
    have e : zA st op dg (V p) = some (st, op, dg) := by
      unfold zA
      rw [if_pos (h2 p (Nat.le_refl p) (by omega)), if_neg h3, if_neg h8, if_neg h3]
    rw [zRn_some (by omega) e, zRn_skip h3 h8 k (p + 1) (by omega) (fun i a b => h2 i (by omega) (by omega)), show p + 1 + k = p + (k + 1) by omega]
theorem zRn_3 {n : Nat} {V : Nat → Nat} {p op dg : Nat} (hp : p ≤ n) (h : p < n → ¬ (48 ≤ V p ∧ V p ≤ 57)) : zRn n V p 3 op dg = zRn n V p 4 op 0 := by
  rcases Nat.lt_or_ge p n with g | g
  · have e : zA 3 op dg (V p) = zA 4 op 0 (V p) := by
      unfold zA
      by_cases q : V p = 32
      · rw [if_pos q, if_pos q]; rfl
      · rw [if_neg q, if_neg q]
        show (if 48 ≤ V p ∧ V p ≤ 57 then zDi 3 op dg (V p) else zJo op (V p)) = zJo op (V p)
        rw [if_neg (h g)]
    cases hz : zA 4 op 0 (V p) with
    | none => rw [zRn_none g (e.trans hz), zRn_none g hz]
    | some s => rw [zRn_some (s := s.1) (o := s.2.1) (d := s.2.2) g (e.trans hz), zRn_some (s := s.1) (o := s.2.1) (d := s.2.2) g hz]
  · obtain rfl : p = n := by omega
    rw [zRn_end, zRn_end]; rfl
theorem zRn_8 {n : Nat} {V : Nat → Nat} {p op dg : Nat} (hp : p ≤ n) (h : p < n → ¬ (48 ≤ V p ∧ V p ≤ 57)) : zRn n V p 8 op dg = zRn n V p 9 op dg := by
  rcases Nat.lt_or_ge p n with g | g
  · by_cases q : V p = 32
    · have e1 : zA 8 op dg (V p) = some (9, op, dg) := by unfold zA; rw [if_pos q]; rfl
      have e2 : zA 9 op dg (V p) = some (9, op, dg) := by unfold zA; rw [if_pos q]; rfl
      rw [zRn_some g e1, zRn_some g e2]
    · have e1 : zA 8 op dg (V p) = none := by
        unfold zA
        rw [if_neg q]
        show zDi 8 op dg (V p) = none
        unfold zDi
        rw [if_neg (h g)]
      have e2 : zA 9 op dg (V p) = none := by unfold zA; rw [if_neg q]; rfl
      rw [zRn_none g e1, zRn_none g e2]
  · obtain rfl : p = n := by omega
    rw [zRn_end, zRn_end]; rfl
/-! the class -/
def zVb (n : Nat) (V : Nat → Nat) (bytes text : Nat → Int32) : Prop := n ≤ 200 ∧ ∀ k, k < n → 1 ≤ V k ∧ V k ≤ 255 ∧ bytes k = nI (V k) ∧ text k = (nI (V k)).toInt8.toInt32
theorem zvb_of {length mlength : Int32} {bytes text : Nat → Int32} (h : zText length bytes mlength text) : ∃ (n : Nat) (V : Nat → Nat), length = nI n ∧ mlength = nI n ∧ zVb n V bytes text := by
  obtain ⟨n, hn, e1, e2, hv⟩ := h
  refine ⟨n, fun k => (bytes k).toNatClampNeg, e1, e2, hn, fun k hk => ?_⟩
  obtain ⟨v, a, b, c, d⟩ := hv k hk
  have e : (bytes k).toNatClampNeg = v := by rw [c, zl_c (by omega)]
  show 1 ≤ (bytes k).toNatClampNeg ∧ (bytes k).toNatClampNeg ≤ 255 ∧ bytes k = nI (bytes k).toNatClampNeg ∧ text k = (nI (bytes k).toNatClampNeg).toInt8.toInt32
  rw [e]
  exact ⟨a, b, c, d⟩
theorem c_byteAt {n p : Nat} {V : Nat → Nat} {bytes text : Nat → Int32} (h : zVb n V bytes text) (hp : p < n) : fX7_byteAt (nI n) bytes (nI p) = some (nI (V p)) := by
  have hn := h.1
  unfold fX7_byteAt
  rw [if_neg (nI_pos (by omega)), if_neg (by rw [zl_le (by omega) (by omega)]; omega), if_neg (by rw [zl_le (by omega) (by omega)]; omega), if_pos (zin_k (by omega) (by omega)), zl_c (by omega), (h.2 p hp).2.2.1]
theorem c_digit5 {v : Nat} (hv : v ≤ 255) : fX5_isDigit (nI v) = some (decide (48 ≤ v ∧ v ≤ 57)) := by
  unfold fX5_isDigit
  rw [zw_n (by omega) (by omega) (by omega), Option.bind_some]
theorem c_lay {l : Nat} {x : Int32} {nu pa si : Nat → Int32} (hl : l < 200) : ∃ nu' pa' si', fX5_lay (nI l) nu pa si x = some (nI (l + 1), nu', pa', si') := by
  have z : zin (nI l) 200 := zin_k hl (by omega)
  unfold fX5_lay
  rw [zw_n (by omega) (by omega) (by omega), Option.bind_some, decide_eq_true (by omega), if_neg zl_t0, if_pos z, if_pos z, if_pos z, nI_add]
  exact ⟨_, _, _, rfl⟩
/-- what the automaton's digits say of the class's: only where a number is read, or may come -/
def zDg (st dg : Nat) (digits : Int32) : Prop := (st = 2 ∨ st = 3 ∨ st = 6 ∨ st = 7 ∨ st = 8) → digits = nI dg
theorem zne_k {v k : Nat} (hv : v ≤ 255) (hk : k ≤ 255) (h : ¬ v = k) : ¬ nI v = nI k := by rw [zl_eq (by omega) (by omega)]; exact h
theorem zeq_k {v k : Nat} (h : v = k) : nI v = nI k := by rw [h]
theorem c_joint {op v l : Nat} {stage : Int32} {nu pa si : Nat → Int32} (hv : v ≤ 255) (hop : op ≤ 8) (hl : l < 200) :
    (zJo op v = none → ∃ a b c d e f, fX5_takeJoint (nI l) (nI op) stage nu pa si (nI v) = some (false, a, b, c, d, e, f)) ∧
    (∀ s o d, zJo op v = some (s, o, d) → (d = 0 ∧ o ≤ 8 ∧ (s = 0 ∨ s = 4 ∨ s = 5)) ∧ ∃ l' nu' pa' si', l' ≤ l + 1 ∧ fX5_takeJoint (nI l) (nI op) stage nu pa si (nI v) = some (true, nI l', nI o, nI s, nu', pa', si')) := by
  unfold zJo fX5_takeJoint
  by_cases h38 : v = 38
  · rw [if_pos h38, if_pos (zeq_k h38)]
    exact ⟨fun q => (by cases q), fun s o d q => by cases q; exact ⟨⟨rfl, hop, Or.inl rfl⟩, l, nu, pa, si, by omega, rfl⟩⟩
  rw [if_neg h38, if_neg (zne_k hv (by omega) h38)]
  by_cases h41 : v = 41
  · obtain ⟨nu', pa', si', e⟩ := c_lay (x := nI v) (nu := nu) (pa := pa) (si := si) hl
    rw [if_pos h41, if_pos (zeq_k h41), e, Option.bind_some]
    dsimp only
    by_cases h0 : op = 0
    · subst h0
      rw [if_pos rfl, if_pos (show nI 0 - nI 1 < 0 by decide)]
      exact ⟨fun _ => ⟨_, _, _, _, _, _, rfl⟩, fun s o d q => by cases q⟩
    · rw [if_neg h0, pk_sub (by omega), if_neg (nI_pos (by omega))]
      exact ⟨fun q => (by cases q), fun s o d q => by cases q; exact ⟨⟨rfl, by omega, Or.inr (Or.inl rfl)⟩, l + 1, nu', pa', si', by omega, rfl⟩⟩
  rw [if_neg h41, if_neg (zne_k hv (by omega) h41)]
  by_cases h59 : v = 59
  · rw [if_pos h59, if_pos (zeq_k h59)]
    by_cases h0 : op = 0
    · subst h0
      rw [if_pos rfl, if_pos p_zero]
      exact ⟨fun q => (by cases q), fun s o d q => by cases q; exact ⟨⟨rfl, by omega, Or.inr (Or.inr rfl)⟩, l, nu, pa, si, by omega, rfl⟩⟩
    · rw [if_neg h0, if_neg (nI_ne0 (by omega) (by omega))]
      exact ⟨fun _ => ⟨_, _, _, _, _, _, rfl⟩, fun s o d q => by cases q⟩
  rw [if_neg h59, if_neg (zne_k hv (by omega) h59)]
  by_cases h124 : v = 124
  · obtain ⟨nu', pa', si', e⟩ := c_lay (x := nI v) (nu := nu) (pa := pa) (si := si) hl
    rw [if_pos h124, if_pos (zeq_k h124), e, Option.bind_some]
    dsimp only
    exact ⟨fun q => (by cases q), fun s o d q => by cases q; exact ⟨⟨rfl, hop, Or.inl rfl⟩, l + 1, nu', pa', si', by omega, rfl⟩⟩
  rw [if_neg h124, if_neg (zne_k hv (by omega) h124)]
  exact ⟨fun _ => ⟨_, _, _, _, _, _, rfl⟩, fun s o d q => by cases q⟩
theorem c_dig {op dg v l : Nat} {stage digits : Int32} {nu : Nat → Int32} (hv : v ≤ 255) (hdg : dg ≤ 5) (hd : digits = nI dg) (hl : l ≤ 200) :
    (zDi 3 op dg v = none → ∃ a b c, fX5_takeDigit digits (nI l) stage nu (nI v) = some (false, a, b, c)) ∧
    (∀ s o d, zDi 3 op dg v = some (s, o, d) → (s = 3 ∧ o = op ∧ d = dg + 1 ∧ d ≤ 5) ∧ ∃ nu', fX5_takeDigit digits (nI l) stage nu (nI v) = some (true, nI d, nI 3, nu')) := by
  subst hd
  unfold zDi fX5_takeDigit
  rw [c_digit5 hv, Option.bind_some]
  by_cases h : 48 ≤ v ∧ v ≤ 57
  · rw [if_pos h, decide_eq_true h, if_neg zl_t0, nI_add]
    by_cases h5 : dg + 1 ≤ 5
    · rw [if_pos h5, if_pos (by rw [zl_le (by omega) (by omega)]; exact h5), zw_n (by omega) (by omega) (by omega), Option.bind_some]
      refine ⟨fun q => (by cases q), fun s o d q => ?_⟩
      cases q
      refine ⟨⟨rfl, rfl, rfl, h5⟩, ?_⟩
      by_cases hl1 : 1 ≤ l ∧ l ≤ 200
      · have z : zin (nI l - nI 1) 200 := by rw [pk_sub hl1.1]; exact zin_k (by omega) (by omega)
        rw [decide_eq_true hl1, if_neg zl_t0, if_pos z, if_pos z]
        exact ⟨_, rfl⟩
      · rw [decide_eq_false hl1, if_pos zl_f0]
        exact ⟨_, rfl⟩
    · rw [if_neg h5, if_neg (by rw [zl_le (by omega) (by omega)]; exact h5)]
      exact ⟨fun _ => ⟨_, _, _, rfl⟩, fun s o d q => by cases q⟩
  · rw [if_neg h, decide_eq_false h, if_pos zl_f0]
    exact ⟨fun _ => ⟨_, _, _, rfl⟩, fun s o d q => by cases q⟩
theorem c_pdig {op dg v : Nat} {stage digits prizes : Int32} (hv : v ≤ 255) (hdg : dg ≤ 5) (hd : digits = nI dg) :
    (zDi 8 op dg v = none → ∃ a b c, fX5_takePrizeDigit digits prizes stage (nI v) = some (false, a, b, c)) ∧
    (∀ s o d, zDi 8 op dg v = some (s, o, d) → (s = 8 ∧ o = op ∧ d = dg + 1 ∧ d ≤ 5) ∧ ∃ pr', fX5_takePrizeDigit digits prizes stage (nI v) = some (true, nI d, pr', nI 8)) := by
  subst hd
  unfold zDi fX5_takePrizeDigit
  rw [c_digit5 hv, Option.bind_some]
  by_cases h : 48 ≤ v ∧ v ≤ 57
  · rw [if_pos h, decide_eq_true h, if_neg zl_t0, nI_add]
    by_cases h5 : dg + 1 ≤ 5
    · rw [if_pos h5, if_pos (by rw [zl_le (by omega) (by omega)]; exact h5)]
      refine ⟨fun q => (by cases q), fun s o d q => ?_⟩
      cases q
      exact ⟨⟨rfl, rfl, rfl, h5⟩, _, rfl⟩
    · rw [if_neg h5, if_neg (by rw [zl_le (by omega) (by omega)]; exact h5)]
      exact ⟨fun _ => ⟨_, _, _, rfl⟩, fun s o d q => by cases q⟩
  · rw [if_neg h, decide_eq_false h, if_pos zl_f0]
    exact ⟨fun _ => ⟨_, _, _, rfl⟩, fun s o d q => by cases q⟩
theorem c_unit {op v l : Nat} {stage : Int32} {nu pa si : Nat → Int32} (hv : v ≤ 255) (hop : op ≤ 8) (hl : l < 200) (hst : stage = nI 0) :
    ((if v = 40 then (if 8 < op + 1 then none else some (0, op + 1, 0)) else if v = 107 ∨ v = 112 ∨ v = 115 ∨ v = 116 ∨ v = 121 then some (1, op, 0) else (none : Option (Nat × Nat × Nat))) = none → ∃ a b c d e f, fX5_takeUnit (nI l) (nI op) stage nu pa si (nI v) = some (false, a, b, c, d, e, f)) ∧
    (∀ s o d, (if v = 40 then (if 8 < op + 1 then none else some (0, op + 1, 0)) else if v = 107 ∨ v = 112 ∨ v = 115 ∨ v = 116 ∨ v = 121 then some (1, op, 0) else (none : Option (Nat × Nat × Nat))) = some (s, o, d) → (d = 0 ∧ o ≤ 8 ∧ (s = 0 ∨ s = 1)) ∧ ∃ l' nu' pa' si', l' ≤ l + 1 ∧ fX5_takeUnit (nI l) (nI op) stage nu pa si (nI v) = some (true, nI l', nI o, nI s, nu', pa', si')) := by
  obtain ⟨nu', pa', si', e⟩ := c_lay (x := nI v) (nu := nu) (pa := pa) (si := si) hl
  subst hst
  unfold fX5_takeUnit fX5_factNamed
  rw [e, Option.bind_some, Option.bind_some]
  dsimp only
  by_cases h40 : v = 40
  · rw [if_pos h40, if_pos (zeq_k h40), nI_add]
    by_cases h8 : 8 < op + 1
    · rw [if_pos h8, if_pos (by rw [zl_lt (by omega) (by omega)]; exact h8)]
      exact ⟨fun _ => ⟨_, _, _, _, _, _, rfl⟩, fun s o d q => by cases q⟩
    · rw [if_neg h8, if_neg (by rw [zl_lt (by omega) (by omega)]; exact h8)]
      exact ⟨fun q => (by cases q), fun s o d q => by cases q; exact ⟨⟨rfl, by omega, Or.inl rfl⟩, l + 1, nu', pa', si', by omega, rfl⟩⟩
  rw [if_neg h40, if_neg (zne_k hv (by omega) h40)]
  have yes : ∀ (f : Int32), ¬ f = -1 → (v = 107 ∨ v = 112 ∨ v = 115 ∨ v = 116 ∨ v = 121) → Option.bind (some f) (fun r7 => if r7 = -1 then some (false, nI (l + 1), nI op, nI 1, nu', pa', si') else some (true, nI (l + 1), nI op, nI 1, nu', pa', si')) = some (true, nI (l + 1), nI op, nI 1, nu', pa', si') := by
    intro f hf _
    rw [Option.bind_some, if_neg hf]
  by_cases k1 : v = 107
  · rw [if_pos (Or.inl k1), if_pos (zeq_k k1), yes _ (by decide) (Or.inl k1)]
    exact ⟨fun q => (by cases q), fun s o d q => by cases q; exact ⟨⟨rfl, hop, Or.inr rfl⟩, l + 1, nu', pa', si', by omega, rfl⟩⟩
  rw [if_neg (zne_k hv (by omega) k1)]
  by_cases k2 : v = 112
  · rw [if_pos (Or.inr (Or.inl k2)), if_pos (zeq_k k2), yes _ (by decide) (Or.inr (Or.inl k2))]
    exact ⟨fun q => (by cases q), fun s o d q => by cases q; exact ⟨⟨rfl, hop, Or.inr rfl⟩, l + 1, nu', pa', si', by omega, rfl⟩⟩
  rw [if_neg (zne_k hv (by omega) k2)]
  by_cases k3 : v = 115
  · rw [if_pos (Or.inr (Or.inr (Or.inl k3))), if_pos (zeq_k k3), yes _ (by decide) (Or.inr (Or.inr (Or.inl k3)))]
    exact ⟨fun q => (by cases q), fun s o d q => by cases q; exact ⟨⟨rfl, hop, Or.inr rfl⟩, l + 1, nu', pa', si', by omega, rfl⟩⟩
  rw [if_neg (zne_k hv (by omega) k3)]
  by_cases k4 : v = 116
  · rw [if_pos (Or.inr (Or.inr (Or.inr (Or.inl k4)))), if_pos (zeq_k k4), yes _ (by decide) (Or.inr (Or.inr (Or.inr (Or.inl k4))))]
    exact ⟨fun q => (by cases q), fun s o d q => by cases q; exact ⟨⟨rfl, hop, Or.inr rfl⟩, l + 1, nu', pa', si', by omega, rfl⟩⟩
  rw [if_neg (zne_k hv (by omega) k4)]
  by_cases k5 : v = 121
  · rw [if_pos (Or.inr (Or.inr (Or.inr (Or.inr k5)))), if_pos (zeq_k k5), yes _ (by decide) (Or.inr (Or.inr (Or.inr (Or.inr k5))))]
    exact ⟨fun q => (by cases q), fun s o d q => by cases q; exact ⟨⟨rfl, hop, Or.inr rfl⟩, l + 1, nu', pa', si', by omega, rfl⟩⟩
  rw [if_neg (zne_k hv (by omega) k5), if_neg (by omega), Option.bind_some, if_pos rfl]
  exact ⟨fun _ => ⟨_, _, _, _, _, _, rfl⟩, fun s o d q => by cases q⟩
theorem c_sig {op v l : Nat} {stage digits : Int32} {si : Nat → Int32} (hv : v ≤ 255) (hl : l ≤ 200) :
    ((if v = 61 ∨ v = 60 ∨ v = 62 then some (2, op, 0) else (none : Option (Nat × Nat × Nat))) = none → ∃ a b c, fX5_takeSign digits (nI l) stage si (nI v) = some (false, a, b, c)) ∧
    (∀ s o d, (if v = 61 ∨ v = 60 ∨ v = 62 then some (2, op, 0) else (none : Option (Nat × Nat × Nat))) = some (s, o, d) → (s = 2 ∧ o = op ∧ d = 0) ∧ ∃ si', fX5_takeSign digits (nI l) stage si (nI v) = some (true, nI 0, nI 2, si')) := by
  have key : ∃ si', fX5_takeSign digits (nI l) stage si (nI v) = if nI v = nI 61 then some (true, nI 0, nI 2, si') else if nI v = nI 60 then some (true, nI 0, nI 2, si') else if nI v = nI 62 then some (true, nI 0, nI 2, si') else some (false, nI 0, nI 2, si') := by
    unfold fX5_takeSign
    rw [zw_n (by omega) (by omega) (by omega), Option.bind_some]
    by_cases hl1 : 1 ≤ l ∧ l ≤ 200
    · have z : zin (nI l - nI 1) 200 := by rw [pk_sub hl1.1]; exact zin_k (by omega) (by omega)
      rw [decide_eq_true hl1, if_neg zl_t0, if_pos z]
      exact ⟨_, rfl⟩
    · rw [decide_eq_false hl1, if_pos zl_f0]
      exact ⟨_, rfl⟩
  obtain ⟨si', e⟩ := key
  rw [e]
  by_cases k1 : v = 61
  · rw [if_pos (Or.inl k1), if_pos (zeq_k k1)]
    exact ⟨fun q => (by cases q), fun s o d q => by cases q; exact ⟨⟨rfl, rfl, rfl⟩, si', rfl⟩⟩
  rw [if_neg (zne_k hv (by omega) k1)]
  by_cases k2 : v = 60
  · rw [if_pos (Or.inr (Or.inl k2)), if_pos (zeq_k k2)]
    exact ⟨fun q => (by cases q), fun s o d q => by cases q; exact ⟨⟨rfl, rfl, rfl⟩, si', rfl⟩⟩
  rw [if_neg (zne_k hv (by omega) k2)]
  by_cases k3 : v = 62
  · rw [if_pos (Or.inr (Or.inr k3)), if_pos (zeq_k k3)]
    exact ⟨fun q => (by cases q), fun s o d q => by cases q; exact ⟨⟨rfl, rfl, rfl⟩, si', rfl⟩⟩
  rw [if_neg (zne_k hv (by omega) k3), if_neg (by omega)]
  exact ⟨fun _ => ⟨_, _, _, rfl⟩, fun s o d q => by cases q⟩
theorem c_ord {op v : Nat} {stage digits order : Int32} (hv : v ≤ 255) :
    ((if v = 110 ∨ v = 103 then some (6, op, 0) else (none : Option (Nat × Nat × Nat))) = none → ∃ a b c, fX5_takeOrder digits order stage (nI v) = some (false, a, b, c)) ∧
    (∀ s o d, (if v = 110 ∨ v = 103 then some (6, op, 0) else (none : Option (Nat × Nat × Nat))) = some (s, o, d) → (s = 6 ∧ o = op ∧ d = 0) ∧ fX5_takeOrder digits order stage (nI v) = some (true, nI 0, nI v, nI 6)) := by
  unfold fX5_takeOrder
  by_cases k1 : v = 110
  · rw [if_pos (Or.inl k1), if_pos (zeq_k k1)]
    exact ⟨fun q => (by cases q), fun s o d q => by cases q; exact ⟨⟨rfl, rfl, rfl⟩, rfl⟩⟩
  rw [if_neg (zne_k hv (by omega) k1)]
  by_cases k2 : v = 103
  · rw [if_pos (Or.inr k2), if_pos (zeq_k k2)]
    exact ⟨fun q => (by cases q), fun s o d q => by cases q; exact ⟨⟨rfl, rfl, rfl⟩, rfl⟩⟩
  rw [if_neg (zne_k hv (by omega) k2), if_neg (by omega)]
  exact ⟨fun _ => ⟨_, _, _, rfl⟩, fun s o d q => by cases q⟩
theorem c_take {st op dg v l : Nat} {digits order prizes : Int32} {nu pa si : Nat → Int32} (hv : v ≤ 255) (hst : st ≤ 9) (hop : op ≤ 8) (hdg : dg ≤ 5) (hl : l < 200) (hD : zDg st dg digits) :
    (zA st op dg v = none → ∃ a b c d e f g h i, fX5_take digits (nI l) (nI op) order prizes (nI st) nu pa si (nI v) = some (false, a, b, c, d, e, f, g, h, i)) ∧
    (∀ s o d, zA st op dg v = some (s, o, d) → (s ≤ 9 ∧ o ≤ 8 ∧ d ≤ 5) ∧ ∃ di l' od pr nu' pa' si', l' ≤ l + 1 ∧ zDg s d di ∧ fX5_take digits (nI l) (nI op) order prizes (nI st) nu pa si (nI v) = some (true, di, nI l', nI o, od, pr, nI s, nu', pa', si')) := by
  have nodg : ∀ (s d : Nat) (x : Int32), (s = 0 ∨ s = 1 ∨ s = 4 ∨ s = 5 ∨ s = 9) → zDg s d x := fun s d x h q => by omega
  unfold fX5_take
  by_cases h32 : v = 32
  · rw [if_pos (zeq_k h32)]
    have k_ : st = 0 ∨ st = 1 ∨ st = 2 ∨ st = 3 ∨ st = 4 ∨ st = 5 ∨ st = 6 ∨ st = 7 ∨ st = 8 ∨ st = 9 := by omega
    unfold zA fX5_endNumber
    rw [if_pos h32]
    refine ⟨fun q => (by cases q), fun s o d q => ?_⟩
    rcases k_ with rfl | rfl | rfl | rfl | rfl | rfl | rfl | rfl | rfl | rfl
    · have q2 : some ((0 : Nat), op, dg) = some (s, o, d) := q
      cases q2
      rw [if_neg (show ¬ nI 0 = nI 3 by decide), if_neg (show ¬ nI 0 = nI 8 by decide), Option.bind_some]
      exact ⟨⟨by omega, hop, hdg⟩, digits, l, order, prizes, nu, pa, si, by omega, nodg _ _ _ (by omega), rfl⟩
    · have q2 : some ((1 : Nat), op, dg) = some (s, o, d) := q
      cases q2
      rw [if_neg (show ¬ nI 1 = nI 3 by decide), if_neg (show ¬ nI 1 = nI 8 by decide), Option.bind_some]
      exact ⟨⟨by omega, hop, hdg⟩, digits, l, order, prizes, nu, pa, si, by omega, nodg _ _ _ (by omega), rfl⟩
    · have q2 : some ((2 : Nat), op, dg) = some (s, o, d) := q
      cases q2
      rw [if_neg (show ¬ nI 2 = nI 3 by decide), if_neg (show ¬ nI 2 = nI 8 by decide), Option.bind_some]
      exact ⟨⟨by omega, hop, hdg⟩, digits, l, order, prizes, nu, pa, si, by omega, hD, rfl⟩
    · have q2 : some ((4 : Nat), op, (0 : Nat)) = some (s, o, d) := q
      cases q2
      rw [if_pos (show nI 3 = nI 3 from rfl), Option.bind_some]
      exact ⟨⟨by omega, hop, Nat.zero_le 5⟩, digits, l, order, prizes, nu, pa, si, by omega, nodg _ _ _ (by omega), rfl⟩
    · have q2 : some ((4 : Nat), op, dg) = some (s, o, d) := q
      cases q2
      rw [if_neg (show ¬ nI 4 = nI 3 by decide), if_neg (show ¬ nI 4 = nI 8 by decide), Option.bind_some]
      exact ⟨⟨by omega, hop, hdg⟩, digits, l, order, prizes, nu, pa, si, by omega, nodg _ _ _ (by omega), rfl⟩
    · have q2 : some ((5 : Nat), op, dg) = some (s, o, d) := q
      cases q2
      rw [if_neg (show ¬ nI 5 = nI 3 by decide), if_neg (show ¬ nI 5 = nI 8 by decide), Option.bind_some]
      exact ⟨⟨by omega, hop, hdg⟩, digits, l, order, prizes, nu, pa, si, by omega, nodg _ _ _ (by omega), rfl⟩
    · have q2 : some ((6 : Nat), op, dg) = some (s, o, d) := q
      cases q2
      rw [if_neg (show ¬ nI 6 = nI 3 by decide), if_neg (show ¬ nI 6 = nI 8 by decide), Option.bind_some]
      exact ⟨⟨by omega, hop, hdg⟩, digits, l, order, prizes, nu, pa, si, by omega, hD, rfl⟩
    · have q2 : some ((7 : Nat), op, dg) = some (s, o, d) := q
      cases q2
      rw [if_neg (show ¬ nI 7 = nI 3 by decide), if_neg (show ¬ nI 7 = nI 8 by decide), Option.bind_some]
      exact ⟨⟨by omega, hop, hdg⟩, digits, l, order, prizes, nu, pa, si, by omega, hD, rfl⟩
    · have q2 : some ((9 : Nat), op, dg) = some (s, o, d) := q
      cases q2
      rw [if_neg (show ¬ nI 8 = nI 3 by decide), if_pos (show nI 8 = nI 8 from rfl), Option.bind_some]
      exact ⟨⟨by omega, hop, hdg⟩, digits, l, order, prizes, nu, pa, si, by omega, nodg _ _ _ (by omega), rfl⟩
    · have q2 : some ((9 : Nat), op, dg) = some (s, o, d) := q
      cases q2
      rw [if_neg (show ¬ nI 9 = nI 3 by decide), if_neg (show ¬ nI 9 = nI 8 by decide), Option.bind_some]
      exact ⟨⟨by omega, hop, hdg⟩, digits, l, order, prizes, nu, pa, si, by omega, nodg _ _ _ (by omega), rfl⟩
  rw [if_neg (zne_k hv (by omega) h32)]
  have k_ : st = 0 ∨ st = 1 ∨ st = 2 ∨ st = 3 ∨ st = 4 ∨ st = 5 ∨ st = 6 ∨ st = 7 ∨ st = 8 ∨ st = 9 := by omega
  unfold zA
  rw [if_neg h32]
  rcases k_ with rfl | rfl | rfl | rfl | rfl | rfl | rfl | rfl | rfl | rfl
  · rw [if_pos (show (0 : Nat) = 0 from rfl), if_pos (show nI 0 = nI 0 from rfl)]
    obtain ⟨u1, u2⟩ := c_unit (stage := nI 0) (nu := nu) (pa := pa) (si := si) hv hop hl rfl
    refine ⟨fun q => ?_, fun s o d q => ?_⟩
    · obtain ⟨a, b, c, d, e, f, w⟩ := u1 q
      rw [w, Option.bind_some]
      exact ⟨_, _, _, _, _, _, _, _, _, rfl⟩
    · obtain ⟨⟨e1, e2, e3⟩, l', nu', pa', si', h1, w⟩ := u2 s o d q
      rw [w, Option.bind_some]
      exact ⟨⟨by omega, e2, by omega⟩, _, l', _, _, nu', pa', si', h1, nodg _ _ _ (by omega), rfl⟩
  · rw [if_neg (show ¬ (1 : Nat) = 0 by decide), if_pos (show (1 : Nat) = 1 from rfl), if_neg (show ¬ nI 1 = nI 0 by decide), if_pos (show nI 1 = nI 1 from rfl)]
    obtain ⟨u1, u2⟩ := c_sig (op := op) (stage := nI 1) (digits := digits) (si := si) (l := l) hv (by omega)
    refine ⟨fun q => ?_, fun s o d q => ?_⟩
    · obtain ⟨a, b, c, w⟩ := u1 q
      rw [w, Option.bind_some]
      exact ⟨_, _, _, _, _, _, _, _, _, rfl⟩
    · obtain ⟨⟨e1, e2, e3⟩, si', w⟩ := u2 s o d q
      subst e1; subst e2; subst e3
      rw [w, Option.bind_some]
      exact ⟨⟨by omega, hop, by omega⟩, _, l, _, _, nu, pa, si', by omega, fun _ => rfl, rfl⟩
  · rw [if_neg (show ¬ (2 : Nat) = 0 by decide), if_neg (show ¬ (2 : Nat) = 1 by decide), if_pos (show (2 : Nat) = 2 from rfl), if_neg (show ¬ nI 2 = nI 0 by decide), if_neg (show ¬ nI 2 = nI 1 by decide), if_pos (show nI 2 = nI 2 from rfl)]
    obtain ⟨u1, u2⟩ := c_dig (op := op) (stage := nI 2) (nu := nu) (l := l) hv hdg (hD (by omega)) (by omega)
    refine ⟨fun q => ?_, fun s o d q => ?_⟩
    · obtain ⟨a, b, c, w⟩ := u1 q
      rw [w, Option.bind_some]
      exact ⟨_, _, _, _, _, _, _, _, _, rfl⟩
    · obtain ⟨⟨e1, e2, e3, e4⟩, nu', w⟩ := u2 s o d q
      subst e1; subst e2
      rw [w, Option.bind_some]
      exact ⟨⟨by omega, hop, e4⟩, _, l, _, _, nu', pa, si, by omega, fun _ => rfl, rfl⟩
  · rw [if_neg (show ¬ (3 : Nat) = 0 by decide), if_neg (show ¬ (3 : Nat) = 1 by decide), if_neg (show ¬ (3 : Nat) = 2 by decide), if_pos (show (3 : Nat) = 3 from rfl), if_neg (show ¬ nI 3 = nI 0 by decide), if_neg (show ¬ nI 3 = nI 1 by decide), if_neg (show ¬ nI 3 = nI 2 by decide), if_pos (show nI 3 = nI 3 from rfl), c_digit5 hv, Option.bind_some]
    by_cases h : 48 ≤ v ∧ v ≤ 57
    · rw [if_pos h, decide_eq_true h, if_neg zl_t0]
      obtain ⟨u1, u2⟩ := c_dig (op := op) (stage := nI 3) (nu := nu) (l := l) hv hdg (hD (by omega)) (by omega)
      refine ⟨fun q => ?_, fun s o d q => ?_⟩
      · obtain ⟨a, b, c, w⟩ := u1 q
        rw [w, Option.bind_some]
        exact ⟨_, _, _, _, _, _, _, _, _, rfl⟩
      · obtain ⟨⟨e1, e2, e3, e4⟩, nu', w⟩ := u2 s o d q
        subst e1; subst e2
        rw [w, Option.bind_some]
        exact ⟨⟨by omega, hop, e4⟩, _, l, _, _, nu', pa, si, by omega, fun _ => rfl, rfl⟩
    · rw [if_neg h, decide_eq_false h, if_pos zl_f0]
      obtain ⟨u1, u2⟩ := c_joint (stage := nI 3) (nu := nu) (pa := pa) (si := si) hv hop hl
      refine ⟨fun q => ?_, fun s o d q => ?_⟩
      · obtain ⟨a, b, c, d, e, f, w⟩ := u1 q
        rw [w, Option.bind_some]
        exact ⟨_, _, _, _, _, _, _, _, _, rfl⟩
      · obtain ⟨⟨e1, e2, e3⟩, l', nu', pa', si', h1, w⟩ := u2 s o d q
        rw [w, Option.bind_some]
        exact ⟨⟨by omega, e2, by omega⟩, _, l', _, _, nu', pa', si', h1, nodg _ _ _ (by omega), rfl⟩
  · rw [if_neg (show ¬ (4 : Nat) = 0 by decide), if_neg (show ¬ (4 : Nat) = 1 by decide), if_neg (show ¬ (4 : Nat) = 2 by decide), if_neg (show ¬ (4 : Nat) = 3 by decide), if_pos (show (4 : Nat) = 4 from rfl), if_neg (show ¬ nI 4 = nI 0 by decide), if_neg (show ¬ nI 4 = nI 1 by decide), if_neg (show ¬ nI 4 = nI 2 by decide), if_neg (show ¬ nI 4 = nI 3 by decide), if_pos (show nI 4 = nI 4 from rfl)]
    obtain ⟨u1, u2⟩ := c_joint (stage := nI 4) (nu := nu) (pa := pa) (si := si) hv hop hl
    refine ⟨fun q => ?_, fun s o d q => ?_⟩
    · obtain ⟨a, b, c, d, e, f, w⟩ := u1 q
      rw [w, Option.bind_some]
      exact ⟨_, _, _, _, _, _, _, _, _, rfl⟩
    · obtain ⟨⟨e1, e2, e3⟩, l', nu', pa', si', h1, w⟩ := u2 s o d q
      rw [w, Option.bind_some]
      exact ⟨⟨by omega, e2, by omega⟩, _, l', _, _, nu', pa', si', h1, nodg _ _ _ (by omega), rfl⟩
  · rw [if_neg (show ¬ (5 : Nat) = 0 by decide), if_neg (show ¬ (5 : Nat) = 1 by decide), if_neg (show ¬ (5 : Nat) = 2 by decide), if_neg (show ¬ (5 : Nat) = 3 by decide), if_neg (show ¬ (5 : Nat) = 4 by decide), if_pos (show (5 : Nat) = 5 from rfl), if_neg (show ¬ nI 5 = nI 0 by decide), if_neg (show ¬ nI 5 = nI 1 by decide), if_neg (show ¬ nI 5 = nI 2 by decide), if_neg (show ¬ nI 5 = nI 3 by decide), if_neg (show ¬ nI 5 = nI 4 by decide), if_pos (show nI 5 = nI 5 from rfl)]
    obtain ⟨u1, u2⟩ := c_ord (op := op) (stage := nI 5) (digits := digits) (order := order) hv
    refine ⟨fun q => ?_, fun s o d q => ?_⟩
    · obtain ⟨a, b, c, w⟩ := u1 q
      rw [w, Option.bind_some]
      exact ⟨_, _, _, _, _, _, _, _, _, rfl⟩
    · obtain ⟨⟨e1, e2, e3⟩, w⟩ := u2 s o d q
      subst e1; subst e2; subst e3
      rw [w, Option.bind_some]
      exact ⟨⟨by omega, hop, by omega⟩, _, l, _, _, nu, pa, si, by omega, fun _ => rfl, rfl⟩
  · rw [if_neg (show ¬ (6 : Nat) = 0 by decide), if_neg (show ¬ (6 : Nat) = 1 by decide), if_neg (show ¬ (6 : Nat) = 2 by decide), if_neg (show ¬ (6 : Nat) = 3 by decide), if_neg (show ¬ (6 : Nat) = 4 by decide), if_neg (show ¬ (6 : Nat) = 5 by decide), if_pos (show (6 : Nat) = 6 from rfl), if_neg (show ¬ nI 6 = nI 0 by decide), if_neg (show ¬ nI 6 = nI 1 by decide), if_neg (show ¬ nI 6 = nI 2 by decide), if_neg (show ¬ nI 6 = nI 3 by decide), if_neg (show ¬ nI 6 = nI 4 by decide), if_neg (show ¬ nI 6 = nI 5 by decide), if_pos (show nI 6 = nI 6 from rfl)]
    by_cases h : v = 59
    · rw [if_pos h, if_pos (zeq_k h)]
      refine ⟨fun q => (by cases q), fun s o d q => ?_⟩
      cases q
      exact ⟨⟨by omega, hop, hdg⟩, _, l, _, _, nu, pa, si, by omega, fun _ => hD (by omega), rfl⟩
    · rw [if_neg h, if_neg (zne_k hv (by omega) h)]
      exact ⟨fun _ => ⟨_, _, _, _, _, _, _, _, _, rfl⟩, fun s o d q => by cases q⟩
  · rw [if_neg (show ¬ (7 : Nat) = 0 by decide), if_neg (show ¬ (7 : Nat) = 1 by decide), if_neg (show ¬ (7 : Nat) = 2 by decide), if_neg (show ¬ (7 : Nat) = 3 by decide), if_neg (show ¬ (7 : Nat) = 4 by decide), if_neg (show ¬ (7 : Nat) = 5 by decide), if_neg (show ¬ (7 : Nat) = 6 by decide), if_pos (show (7 : Nat) = 7 from rfl), if_neg (show ¬ nI 7 = nI 0 by decide), if_neg (show ¬ nI 7 = nI 1 by decide), if_neg (show ¬ nI 7 = nI 2 by decide), if_neg (show ¬ nI 7 = nI 3 by decide), if_neg (show ¬ nI 7 = nI 4 by decide), if_neg (show ¬ nI 7 = nI 5 by decide), if_neg (show ¬ nI 7 = nI 6 by decide), if_pos (show nI 7 = nI 7 from rfl)]
    obtain ⟨u1, u2⟩ := c_pdig (op := op) (stage := nI 7) (prizes := prizes) hv hdg (hD (by omega))
    refine ⟨fun q => ?_, fun s o d q => ?_⟩
    · obtain ⟨a, b, c, w⟩ := u1 q
      rw [w, Option.bind_some]
      exact ⟨_, _, _, _, _, _, _, _, _, rfl⟩
    · obtain ⟨⟨e1, e2, e3, e4⟩, pr', w⟩ := u2 s o d q
      subst e1; subst e2
      rw [w, Option.bind_some]
      exact ⟨⟨by omega, hop, e4⟩, _, l, _, _, nu, pa, si, by omega, fun _ => rfl, rfl⟩
  · rw [if_neg (show ¬ (8 : Nat) = 0 by decide), if_neg (show ¬ (8 : Nat) = 1 by decide), if_neg (show ¬ (8 : Nat) = 2 by decide), if_neg (show ¬ (8 : Nat) = 3 by decide), if_neg (show ¬ (8 : Nat) = 4 by decide), if_neg (show ¬ (8 : Nat) = 5 by decide), if_neg (show ¬ (8 : Nat) = 6 by decide), if_neg (show ¬ (8 : Nat) = 7 by decide), if_pos (show (8 : Nat) = 8 from rfl), if_neg (show ¬ nI 8 = nI 0 by decide), if_neg (show ¬ nI 8 = nI 1 by decide), if_neg (show ¬ nI 8 = nI 2 by decide), if_neg (show ¬ nI 8 = nI 3 by decide), if_neg (show ¬ nI 8 = nI 4 by decide), if_neg (show ¬ nI 8 = nI 5 by decide), if_neg (show ¬ nI 8 = nI 6 by decide), if_neg (show ¬ nI 8 = nI 7 by decide), if_pos (show nI 8 = nI 8 from rfl)]
    obtain ⟨u1, u2⟩ := c_pdig (op := op) (stage := nI 8) (prizes := prizes) hv hdg (hD (by omega))
    refine ⟨fun q => ?_, fun s o d q => ?_⟩
    · obtain ⟨a, b, c, w⟩ := u1 q
      rw [w, Option.bind_some]
      exact ⟨_, _, _, _, _, _, _, _, _, rfl⟩
    · obtain ⟨⟨e1, e2, e3, e4⟩, pr', w⟩ := u2 s o d q
      subst e1; subst e2
      rw [w, Option.bind_some]
      exact ⟨⟨by omega, hop, e4⟩, _, l, _, _, nu, pa, si, by omega, fun _ => rfl, rfl⟩
  · rw [if_neg (show ¬ (9 : Nat) = 0 by decide), if_neg (show ¬ (9 : Nat) = 1 by decide), if_neg (show ¬ (9 : Nat) = 2 by decide), if_neg (show ¬ (9 : Nat) = 3 by decide), if_neg (show ¬ (9 : Nat) = 4 by decide), if_neg (show ¬ (9 : Nat) = 5 by decide), if_neg (show ¬ (9 : Nat) = 6 by decide), if_neg (show ¬ (9 : Nat) = 7 by decide), if_neg (show ¬ (9 : Nat) = 8 by decide), if_neg (show ¬ nI 9 = nI 0 by decide), if_neg (show ¬ nI 9 = nI 1 by decide), if_neg (show ¬ nI 9 = nI 2 by decide), if_neg (show ¬ nI 9 = nI 3 by decide), if_neg (show ¬ nI 9 = nI 4 by decide), if_neg (show ¬ nI 9 = nI 5 by decide), if_neg (show ¬ nI 9 = nI 6 by decide), if_neg (show ¬ nI 9 = nI 7 by decide), if_neg (show ¬ nI 9 = nI 8 by decide)]
    exact ⟨fun _ => ⟨_, _, _, _, _, _, _, _, _, rfl⟩, fun s o d q => by cases q⟩
theorem c_readL {n : Nat} {V : Nat → Nat} {bytes text : Nat → Int32} (h : zVb n V bytes text) : ∀ (k p m st op dg l : Nat) (di od pr : Int32) (nu pa si : Nat → Int32), p + k = n → k + 1 ≤ m → st ≤ 9 → op ≤ 8 → dg ≤ 5 → l ≤ p → zDg st dg di →
    ∃ a b c d e f g i j, fX5_read_L32 (nI n) bytes (fun (v2_32 : Int32) (t_laid_l32 : Int32) (t_stage_l32 : Int32) (t_open_l32 : Int32) (t_digits_l32 : Int32) (t_order_l32 : Int32) (t_prizes_l32 : Int32) (t_numbers_l32 : Nat → Int32) (t_parts_l32 : Nat → Int32) (t_signs_l32 : Nat → Int32) => (if t_stage_l32 = (nI 6) then some ((-1 : Int32), t_digits_l32, t_laid_l32, t_open_l32, t_order_l32, t_prizes_l32, t_stage_l32, t_numbers_l32, t_parts_l32, t_signs_l32) else (if t_stage_l32 = (nI 8) then some ((-1 : Int32), t_digits_l32, t_laid_l32, t_open_l32, t_order_l32, t_prizes_l32, t_stage_l32, t_numbers_l32, t_parts_l32, t_signs_l32) else (if t_stage_l32 = (nI 9) then some ((-1 : Int32), t_digits_l32, t_laid_l32, t_open_l32, t_order_l32, t_prizes_l32, t_stage_l32, t_numbers_l32, t_parts_l32, t_signs_l32) else ((fX7_size (nI n)).bind (fun r4 => some (r4, t_digits_l32, t_laid_l32, t_open_l32, t_order_l32, t_prizes_l32, t_stage_l32, t_numbers_l32, t_parts_l32, t_signs_l32))))))) m (nI p) (nI l) (nI st) (nI op) di od pr nu pa si = some (zRe (zRn n V p st op dg), a, b, c, d, e, f, g, i, j) := by
  intro k
  have hn := h.1
  induction k with
  | zero =>
    intro p m st op dg l di od pr nu pa si h1 h2 hst hop hdg hl hD
    obtain rfl : p = n := by omega
    cases m with
    | zero => omega
    | succ m =>
      rw [fX5_read_L32, zRn_end]
      unfold fX7_size
      rw [Option.bind_some, Option.bind_some, if_pos (by rw [zl_le (by omega) (by omega)]; exact Nat.le_refl _)]
      by_cases a6 : st = 6
      · rw [if_pos (zeq_k a6), if_pos (Or.inl a6)]
        exact ⟨_, _, _, _, _, _, _, _, _, rfl⟩
      rw [if_neg (by rw [zl_eq (by omega) (by omega)]; exact a6)]
      by_cases a8 : st = 8
      · rw [if_pos (zeq_k a8), if_pos (Or.inr (Or.inl a8))]
        exact ⟨_, _, _, _, _, _, _, _, _, rfl⟩
      rw [if_neg (by rw [zl_eq (by omega) (by omega)]; exact a8)]
      by_cases a9 : st = 9
      · rw [if_pos (zeq_k a9), if_pos (Or.inr (Or.inr a9))]
        exact ⟨_, _, _, _, _, _, _, _, _, rfl⟩
      rw [if_neg (by rw [zl_eq (by omega) (by omega)]; exact a9), if_neg (by omega)]
      exact ⟨_, _, _, _, _, _, _, _, _, rfl⟩
  | succ k ih =>
    intro p m st op dg l di od pr nu pa si h1 h2 hst hop hdg hl hD
    cases m with
    | zero => omega
    | succ m =>
      have hp : p < n := by omega
      obtain ⟨u1, u2⟩ := c_take (order := od) (prizes := pr) (nu := nu) (pa := pa) (si := si) (l := l) (h.2 p hp).2.1 hst hop hdg (by omega) hD
      rw [fX5_read_L32, c_byteAt h hp]
      unfold fX7_size
      rw [Option.bind_some, if_neg (by rw [zl_le (by omega) (by omega)]; omega), Option.bind_some]
      cases hz : zA st op dg (V p) with
      | none =>
        obtain ⟨a, b, c, d, e, f, g, i, j, w⟩ := u1 hz
        rw [w, Option.bind_some, zRn_none hp hz]
        dsimp only
        rw [if_pos zl_f0]
        exact ⟨_, _, _, _, _, _, _, _, _, rfl⟩
      | some z =>
        obtain ⟨s, o, d⟩ := z
        obtain ⟨⟨e1, e2, e3⟩, di', l', od', pr', nu', pa', si', h3, h4, w⟩ := u2 s o d hz
        obtain ⟨a, b, c, dd, e, f, g, i, j, r⟩ := ih (p + 1) m s o d l' di' od' pr' nu' pa' si' (by omega) (by omega) e1 e2 e3 (by omega) h4
        rw [w, Option.bind_some, zRn_some hp hz]
        dsimp only
        rw [if_neg zl_t0, nI_add]
        exact ⟨a, b, c, dd, e, f, g, i, j, r⟩
theorem c_fault {N n : Nat} {V : Nat → Nat} {bytes text : Nat → Int32} {di la op od pr sg : Int32} {nu pa si : Nat → Int32} (hN : 10000 ≤ N) (h : zVb n V bytes text) : ∃ a b c d e f g i j, fX10_fault N di la op od pr sg nu pa si (nI n) bytes = some (zRe (zRn n V 0 0 0 0), a, b, c, d, e, f, g, i, j) := by
  have hn := h.1
  obtain ⟨a, b, c, d, e, f, g, i, j, r⟩ := c_readL h n 0 N 0 0 0 0 (nI 0) (-1) (nI 0) nu pa si (by omega) (by omega) (by omega) (by omega) (by omega) (by omega) (fun _ => rfl)
  refine ⟨a, b, c, d, e, f, g, i, j, ?_⟩
  unfold fX10_fault fX3_faultOf fX5_read
  rw [r, Option.bind_some]
  dsimp only
  rw [Option.bind_some]
