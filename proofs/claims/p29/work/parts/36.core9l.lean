/-! fault: the reference's reader -/
theorem g_v8 : ∀ v, v < 256 → ((nI v).toInt8.toInt32 = nI 32 ↔ v = 32) ∧ (nI v).toInt8.toInt32 &&& nI 255 = nI v ∧ fX11_isDigit ((nI v).toInt8.toInt32) = some (decide (48 ≤ v ∧ v ≤ 57)) ∧ fX11_isDigit (nI v) = some (decide (48 ≤ v ∧ v ≤ 57)) := by decide +kernel
def zCh (n : Nat) (V : Nat → Nat) (q : Nat) : Int32 := if q = n then -1 else nI (V q)
theorem g_lookL {n : Nat} {V : Nat → Nat} {bytes text : Nat → Int32} (h : zVb n V bytes text) : ∀ (k p m : Nat), p + k = n → k + 1 ≤ m → ∃ q, p ≤ q ∧ q ≤ n ∧ (∀ i, p ≤ i → i < q → V i = 32) ∧ (q < n → ¬ V q = 32) ∧ ∀ K, fX11_look_L0 (nI n) text K m (nI p) = K (nI q) := by
  intro k
  have hn := h.1
  induction k with
  | zero =>
    intro p m h1 h2
    obtain rfl : p = n := by omega
    cases m with
    | zero => omega
    | succ m =>
      refine ⟨p, Nat.le_refl p, Nat.le_refl p, fun i a b => by omega, fun a => by omega, fun K => ?_⟩
      rw [fX11_look_L0, if_pos (by rw [zl_le (by omega) (by omega)]; exact Nat.le_refl _)]
  | succ k ih =>
    intro p m h1 h2
    cases m with
    | zero => omega
    | succ m =>
      have hp : p < n := by omega
      obtain ⟨_, hv, _, ht⟩ := h.2 p hp
      have h8 := (g_v8 (V p) (by omega)).1
      by_cases q : V p = 32
      · obtain ⟨e, a1, a2, a3, a4, a5⟩ := ih (p + 1) m (by omega) (by omega)
        refine ⟨e, by omega, a2, fun i b c => ?_, a4, fun K => ?_⟩
        · by_cases hip : i = p
          · rw [hip]; exact q
          · exact a3 i (by omega) c
        · rw [fX11_look_L0, if_neg (by rw [zl_le (by omega) (by omega)]; omega), if_pos (zin_k (by omega) (by omega)), zl_c (by omega), ht, if_pos (h8.mpr q), nI_add]
          exact a5 K
      · refine ⟨p, Nat.le_refl p, by omega, fun i a b => by omega, fun _ => q, fun K => ?_⟩
        rw [fX11_look_L0, if_neg (by rw [zl_le (by omega) (by omega)]; omega), if_pos (zin_k (by omega) (by omega)), zl_c (by omega), ht, if_neg (fun z => q (h8.mp z))]
theorem g_look {N n p : Nat} {V : Nat → Nat} {bytes text : Nat → Int32} (hN : 10000 ≤ N) (h : zVb n V bytes text) (hp : p ≤ n) : ∃ q, p ≤ q ∧ q ≤ n ∧ (∀ i, p ≤ i → i < q → V i = 32) ∧ (q < n → ¬ V q = 32) ∧ fX11_look N (nI p) (nI n) text = some (zCh n V q, nI q) := by
  have hn := h.1
  obtain ⟨q, a1, a2, a3, a4, a5⟩ := g_lookL h (n - p) p N (by omega) (by omega)
  refine ⟨q, a1, a2, a3, a4, ?_⟩
  unfold fX11_look zCh
  rw [a5]
  by_cases z : q = n
  · rw [if_pos (by rw [zl_le (by omega) (by omega)]; omega), if_pos z]
  · obtain ⟨_, hv, _, ht⟩ := h.2 q (by omega)
    rw [if_neg (by rw [zl_le (by omega) (by omega)]; omega), if_neg z, if_pos (zin_k (by omega) (by omega)), zl_c (by omega), ht, (g_v8 (V q) (by omega)).2.1]
theorem zRn_look {n p q st op dg : Nat} {V : Nat → Nat} (h3 : ¬ st = 3) (h8 : ¬ st = 8) (a1 : p ≤ q) (a2 : q ≤ n) (a3 : ∀ i, p ≤ i → i < q → V i = 32) : zRn n V p st op dg = zRn n V q st op dg := by
  have e := zRn_skip (n := n) (V := V) (op := op) (dg := dg) h3 h8 (q - p) p (by omega) (fun i a b => a3 i a (by omega))
  rw [show p + (q - p) = q by omega] at e
  exact e
theorem zCh_eq {n q v : Nat} {V : Nat → Nat} {bytes text : Nat → Int32} (h : zVb n V bytes text) (hq : q ≤ n) (hv : v ≤ 255) : zCh n V q = nI v ↔ q < n ∧ V q = v := by
  unfold zCh
  by_cases z : q = n
  · rw [if_pos z]
    exact ⟨fun e => absurd e.symm (nm1 (by omega)), fun e => by omega⟩
  · obtain ⟨_, hw, _⟩ := h.2 q (by omega)
    rw [if_neg z, zl_eq (by omega) (by omega)]
    exact ⟨fun e => ⟨by omega, e⟩, fun e => e.2⟩
theorem g_wrong {x : Int32} : fX11_wrong x (-1) = some x := by
  unfold fX11_wrong
  rw [if_pos rfl]
theorem g_fine : fX11_isFine (-1) = some true := by
  unfold fX11_isFine
  rw [if_pos rfl]
theorem g_unfine {f : Nat} (hf : f < 2147483648) : fX11_isFine (nI f) = some false := by
  unfold fX11_isFine
  rw [if_neg (nm1 hf)]
theorem zA_dig {s1 s2 op dg v : Nat} (hs : (s1 = 2 ∧ s2 = 3) ∨ (s1 = 7 ∧ s2 = 8) ∨ (s1 = 3 ∧ s2 = 3) ∨ (s1 = 8 ∧ s2 = 8)) (hv : 48 ≤ v ∧ v ≤ 57) : zA s1 op dg v = zDi s2 op dg v := by
  have h32 : ¬ v = 32 := by omega
  unfold zA
  rw [if_neg h32]
  rcases hs with ⟨rfl, rfl⟩ | ⟨rfl, rfl⟩ | ⟨rfl, rfl⟩ | ⟨rfl, rfl⟩
  · rfl
  · rfl
  · show (if 48 ≤ v ∧ v ≤ 57 then zDi 3 op dg v else zJo op v) = _
    rw [if_pos hv]
  · rfl
theorem g_numL {n s2 op : Nat} {V : Nat → Nat} {bytes text : Nat → Int32} (h : zVb n V bytes text) (hs : s2 = 3 ∨ s2 = 8) : ∀ (k p m dg : Nat) (x : Int32), p + k = n → k + 1 ≤ m → dg ≤ 5 →
    (∃ f a y, fX11_number_L20 (nI n) text (fun (v1_20 : Int32) (v2_20 : Int32) (t_at_l20 : Int32) (t_fault_l20 : Int32) => some (v1_20, t_at_l20, t_fault_l20)) m x (nI dg) (nI p) (-1) = some (y, a, nI f) ∧ f ≤ n ∧ zRn n V p s2 op dg = some f) ∨
    (∃ e d y, p ≤ e ∧ e ≤ n ∧ (e < n → ¬ (48 ≤ V e ∧ V e ≤ 57)) ∧ fX11_number_L20 (nI n) text (fun (v1_20 : Int32) (v2_20 : Int32) (t_at_l20 : Int32) (t_fault_l20 : Int32) => some (v1_20, t_at_l20, t_fault_l20)) m x (nI dg) (nI p) (-1) = some (y, nI e, -1) ∧ zRn n V p s2 op dg = zRn n V e s2 op d) := by
  intro k
  have hn := h.1
  induction k with
  | zero =>
    intro p m dg x h1 h2 h3
    obtain rfl : p = n := by omega
    cases m with
    | zero => omega
    | succ m =>
      refine Or.inr ⟨p, dg, x, Nat.le_refl p, Nat.le_refl p, fun a => by omega, ?_, rfl⟩
      rw [fX11_number_L20, if_pos (by rw [zl_le (by omega) (by omega)]; exact Nat.le_refl _)]
  | succ k ih =>
    intro p m dg x h1 h2 h3
    cases m with
    | zero => omega
    | succ m =>
      have hp : p < n := by omega
      obtain ⟨_, hv, _, ht⟩ := h.2 p hp
      have hd := (g_v8 (V p) (by omega)).2.2.1
      have z : zin (nI p) 200 := zin_k (by omega) (by omega)
      rw [fX11_number_L20, if_neg (by rw [zl_le (by omega) (by omega)]; omega), if_pos z, if_pos z, zl_c (show p < 2 ^ 31 by omega), ht, hd, Option.bind_some]
      by_cases q : 48 ≤ V p ∧ V p ≤ 57
      · rw [decide_eq_true q, if_neg zl_t0]
        have eA : zA s2 op dg (V p) = zDi s2 op dg (V p) := zA_dig (by omega) q
        by_cases h5 : dg = 5
        · rw [if_pos (zeq_k h5), g_wrong, Option.bind_some]
          refine Or.inl ⟨p, _, _, rfl, by omega, zRn_none hp (eA.trans ?_)⟩
          unfold zDi
          rw [if_pos q, if_neg (by omega)]
        · rw [if_neg (show ¬ nI dg = nI 5 by rw [zl_eq (by omega) (by omega)]; exact h5), nI_add, nI_add]
          have eS : zRn n V p s2 op dg = zRn n V (p + 1) s2 op (dg + 1) := zRn_some hp (eA.trans (by
            unfold zDi
            rw [if_pos q, if_pos (by omega)]))
          rcases ih (p + 1) m (dg + 1) (nI 10 * x + (nI (V p)).toInt8.toInt32 - nI 48) (by omega) (by omega) (by omega) with ⟨f, a, y, e1, e2, e3⟩ | ⟨e, d, y, b1, b2, b3, b4, b5⟩
          · exact Or.inl ⟨f, a, y, e1, e2, eS.trans e3⟩
          · exact Or.inr ⟨e, d, y, by omega, b2, b3, b4, eS.trans b5⟩
      · rw [decide_eq_false q, if_pos zl_f0]
        exact Or.inr ⟨p, dg, x, Nat.le_refl p, by omega, fun _ => q, rfl, rfl⟩
theorem g_num {N n p s1 s2 op : Nat} {V : Nat → Nat} {bytes text : Nat → Int32} (hN : 10000 ≤ N) (h : zVb n V bytes text) (hs : (s1 = 2 ∧ s2 = 3) ∨ (s1 = 7 ∧ s2 = 8)) (hp : p ≤ n) :
    (∃ f a y, fX11_number N (nI p) (-1) (nI n) text = some (y, a, nI f) ∧ f ≤ n ∧ zRn n V p s1 op 0 = some f) ∨
    (∃ e d y, p ≤ e ∧ e ≤ n ∧ (e < n → ¬ (48 ≤ V e ∧ V e ≤ 57)) ∧ fX11_number N (nI p) (-1) (nI n) text = some (y, nI e, -1) ∧ zRn n V p s1 op 0 = zRn n V e s2 op d) := by
  have hn := h.1
  obtain ⟨q, a1, a2, a3, a4, a5⟩ := g_look hN h hp
  have eL : zRn n V p s1 op 0 = zRn n V q s1 op 0 := zRn_look (by omega) (by omega) a1 a2 a3
  unfold fX11_number
  rw [a5, Option.bind_some]
  dsimp only
  have bad : (q < n → ¬ (48 ≤ V q ∧ V q ≤ 57)) → zRn n V q s1 op 0 = some q := by
    intro hb
    rcases Nat.lt_or_ge q n with g | g
    · refine zRn_none g ?_
      have e : zA s1 op 0 (V q) = zDi s2 op 0 (V q) := by
        unfold zA
        rw [if_neg (a4 g)]
        rcases hs with ⟨rfl, rfl⟩ | ⟨rfl, rfl⟩ <;> rfl
      rw [e]
      unfold zDi
      rw [if_neg (hb g)]
    · obtain rfl : q = n := by omega
      rw [zRn_end, if_neg (by omega)]
  by_cases z : q = n
  · have e1 : fX11_isDigit (zCh n V q) = some false := by
      unfold zCh
      rw [if_pos z]
      decide
    rw [e1, Option.bind_some, if_pos zl_f0, g_wrong, Option.bind_some]
    exact Or.inl ⟨q, _, _, rfl, a2, eL.trans (bad (fun g => by omega))⟩
  · obtain ⟨_, hv, _, ht⟩ := h.2 q (by omega)
    have e1 : fX11_isDigit (zCh n V q) = some (decide (48 ≤ V q ∧ V q ≤ 57)) := by
      unfold zCh
      rw [if_neg z]
      exact (g_v8 (V q) (by omega)).2.2.2
    rw [e1, Option.bind_some]
    by_cases w : 48 ≤ V q ∧ V q ≤ 57
    · rw [decide_eq_true w, if_neg zl_t0]
      have e2 : zRn n V q s1 op 0 = zRn n V q s2 op 0 := by
        have x1 : zA s1 op 0 (V q) = zDi s2 op 0 (V q) := zA_dig (by omega) w
        have x2 : zA s2 op 0 (V q) = zDi s2 op 0 (V q) := zA_dig (by omega) w
        have x3 : zDi s2 op 0 (V q) = some (s2, op, 0 + 1) := by
          unfold zDi
          rw [if_pos w, if_pos (by omega)]
        rw [zRn_some (by omega) (x1.trans x3), zRn_some (by omega) (x2.trans x3)]
      rcases g_numL (s2 := s2) (op := op) h (by omega) (n - q) q N 0 (nI 0) (by omega) (by omega) (by omega) with ⟨f, a, y, c1, c2, c3⟩ | ⟨e, d, y, b1, b2, b3, b4, b5⟩
      · exact Or.inl ⟨f, a, y, c1, c2, eL.trans (e2.trans c3)⟩
      · exact Or.inr ⟨e, d, y, by omega, b2, b3, b4, eL.trans (e2.trans b5)⟩
    · rw [decide_eq_false w, if_pos zl_f0, g_wrong, Option.bind_some]
      exact Or.inl ⟨q, _, _, rfl, a2, eL.trans (bad (fun _ => w))⟩
/-- a reader's end: a fault where the automaton has it, or fine, the automaton standing behind a unit -/
def zOut (n : Nat) (V : Nat → Nat) (p : Nat) (start : Option Nat) (op : Nat) (Q : Nat → Prop) (res : Option (Bool × Int32 × Int32 × Int32)) : Prop :=
  (∃ (b : Bool) (a : Int32) (f : Nat) (o : Int32), res = some (b, a, nI f, o) ∧ f ≤ n ∧ start = some f) ∨ (∃ (b : Bool) (e : Nat), res = some (b, nI e, -1, nI op) ∧ p ≤ e ∧ e ≤ n ∧ start = zRn n V e 4 op 0 ∧ Q e)
theorem g_J171 {N n p op : Nat} {V : Nat → Nat} {bytes text now : Nat → Int32} {asked s0 r6 : Int32} (hN : 10000 ≤ N) (h : zVb n V bytes text) (hq : asked = -1 ∨ ∃ v, fX11_of now asked s0 = some v) (hp : p < n) : zOut n V (p + 1) (zRn n V (p + 1) 2 op 0) op (fun _ => True) (fX11_unit_J171 N (nI n) (-1) (nI op) asked now text s0 r6 (nI p)) := by
  have hn := h.1
  unfold fX11_unit_J171
  rw [nI_add]
  have fin : ∀ (y a f : Int32), ∃ b : Bool, (if asked = -1 then (if r6 = nI 61 then (if nI 0 = y then some (true, a, f, nI op) else some (false, a, f, nI op)) else (if r6 = nI 60 then (if y ≤ nI 0 then some (false, a, f, nI op) else some (true, a, f, nI op)) else (if nI 0 ≤ y then some (false, a, f, nI op) else some (true, a, f, nI op)))) else ((fX11_of now asked s0).bind (fun r14 => (if r6 = nI 61 then (if r14 = y then some (true, a, f, nI op) else some (false, a, f, nI op)) else (if r6 = nI 60 then (if y ≤ r14 then some (false, a, f, nI op) else some (true, a, f, nI op)) else (if r14 ≤ y then some (false, a, f, nI op) else some (true, a, f, nI op))))))) = some (b, a, f, nI op) := by
    intro y a f
    have two : ∀ (c : Prop) [Decidable c] (u v : Bool), ∃ b : Bool, (if c then some (u, a, f, nI op) else some (v, a, f, nI op)) = some (b, a, f, nI op) := by
      intro c _ u v
      by_cases w : c
      · rw [if_pos w]; exact ⟨_, rfl⟩
      · rw [if_neg w]; exact ⟨_, rfl⟩
    by_cases w : asked = -1
    · rw [if_pos w]
      by_cases w1 : r6 = nI 61
      · rw [if_pos w1]; exact two _ _ _
      · rw [if_neg w1]
        by_cases w2 : r6 = nI 60
        · rw [if_pos w2]; exact two _ _ _
        · rw [if_neg w2]; exact two _ _ _
    · rw [if_neg w]
      obtain ⟨v, ev⟩ := hq.resolve_left w
      rw [ev, Option.bind_some]
      by_cases w1 : r6 = nI 61
      · rw [if_pos w1]; exact two _ _ _
      · rw [if_neg w1]
        by_cases w2 : r6 = nI 60
        · rw [if_pos w2]; exact two _ _ _
        · rw [if_neg w2]; exact two _ _ _
  rcases g_num (op := op) hN h (Or.inl ⟨rfl, rfl⟩) (show p + 1 ≤ n by omega) with ⟨f, a, y, c1, c2, c3⟩ | ⟨e, d, y, b1, b2, b3, b4, b5⟩
  · obtain ⟨b, eb⟩ := fin y a (nI f)
    rw [c1, Option.bind_some]
    exact Or.inl ⟨b, a, f, _, eb, c2, c3⟩
  · obtain ⟨b, eb⟩ := fin y (nI e) (-1)
    rw [b4, Option.bind_some]
    exact Or.inr ⟨b, e, eb, b1, b2, b5.trans (zRn_3 b2 b3), trivial⟩
theorem g_J120 {N n p op : Nat} {V : Nat → Nat} {bytes text now : Nat → Int32} {asked s0 : Int32} (hN : 10000 ≤ N) (h : zVb n V bytes text) (hq : asked = -1 ∨ ∃ v, fX11_of now asked s0 = some v) (hp : p < n) (hs : ¬ s0 = -1) : zOut n V p (zRn n V (p + 1) 1 op 0) op (fun _ => True) (fX11_unit_J120 N (nI n) (-1) (nI op) asked now text (nI p) s0) := by
  have hn := h.1
  obtain ⟨q, a1, a2, a3, a4, a5⟩ := g_look hN h (show p + 1 ≤ n by omega)
  have eL : zRn n V (p + 1) 1 op 0 = zRn n V q 1 op 0 := zRn_look (by omega) (by omega) a1 a2 a3
  unfold fX11_unit_J120
  rw [if_neg hs, nI_add, a5, Option.bind_some]
  dsimp only
  have yes : ∀ v, (v = 61 ∨ v = 60 ∨ v = 62) → zCh n V q = nI v → zOut n V p (zRn n V (p + 1) 1 op 0) op (fun _ => True) (fX11_unit_J171 N (nI n) (-1) (nI op) asked now text s0 (zCh n V q) (nI q)) := by
    intro v hv ev
    obtain ⟨hqn, hVq⟩ := (zCh_eq h a2 (by omega)).mp ev
    have e2 : zRn n V q 1 op 0 = zRn n V (q + 1) 2 op 0 := zRn_some hqn (by
      unfold zA
      rw [if_neg (a4 hqn)]
      show (if V q = 61 ∨ V q = 60 ∨ V q = 62 then some (2, op, 0) else none) = _
      rw [if_pos (by omega)])
    rcases g_J171 (op := op) (r6 := zCh n V q) hN h hq hqn with ⟨b, a, f, o, c1, c2, c3⟩ | ⟨b, e, c1, c2, c3, c4, c5⟩
    · exact Or.inl ⟨b, a, f, o, c1, c2, eL.trans (e2.trans c3)⟩
    · exact Or.inr ⟨b, e, c1, by omega, c3, eL.trans (e2.trans c4), c5⟩
  by_cases k1 : zCh n V q = nI 61
  · rw [if_pos k1]; exact yes 61 (Or.inl rfl) k1
  rw [if_neg k1]
  by_cases k2 : zCh n V q = nI 60
  · rw [if_pos k2]; exact yes 60 (Or.inr (Or.inl rfl)) k2
  rw [if_neg k2]
  by_cases k3 : zCh n V q = nI 62
  · rw [if_pos k3]; exact yes 62 (Or.inr (Or.inr rfl)) k3
  rw [if_neg k3, g_wrong, Option.bind_some]
  refine Or.inl ⟨_, _, q, _, rfl, a2, eL.trans ?_⟩
  rcases Nat.lt_or_ge q n with g | g
  · refine zRn_none g ?_
    unfold zA
    rw [if_neg (a4 g)]
    show (if V q = 61 ∨ V q = 60 ∨ V q = 62 then some (2, op, 0) else none) = none
    refine if_neg (fun z => ?_)
    rcases z with z | z | z
    · exact k1 ((zCh_eq h a2 (by omega)).mpr ⟨g, z⟩)
    · exact k2 ((zCh_eq h a2 (by omega)).mpr ⟨g, z⟩)
    · exact k3 ((zCh_eq h a2 (by omega)).mpr ⟨g, z⟩)
  · obtain rfl : q = n := by omega
    rw [zRn_end, if_neg (by omega)]
def zQt (n : Nat) (V : Nat → Nat) (e : Nat) : Prop := e < n → ¬ V e = 32 ∧ ¬ V e = 38 ∧ ¬ V e = 124
def zQp (n : Nat) (V : Nat → Nat) (e : Nat) : Prop := e < n → ¬ V e = 32 ∧ ¬ V e = 38
theorem g_unit {N n p op : Nat} {V : Nat → Nat} {bytes text now : Nat → Int32} {asked : Int32} {T : Int32 → Int32 → Int32 → Int32 → Int32 → (Nat → Int32) → (Nat → Int32) → Option (Bool × Int32 × Int32 × Int32)} (hN : 10000 ≤ N) (h : zVb n V bytes text) (hq : asked = -1 ∨ ∀ k, k < 24 → ∃ v, fX11_of now asked (nI k) = some v) (hop : op ≤ 8)
    (hT : op < 8 → ∀ p, p ≤ n → zOut n V p (zRn n V p 0 (op + 1) 0) (op + 1) (zQt n V) (T asked (nI p) (-1) (nI n) (nI (op + 1)) now text)) (hp : p ≤ n) : zOut n V p (zRn n V p 0 op 0) op (fun _ => True) (fX11_unit T N asked (nI p) (-1) (nI n) (nI op) now text) := by
  have hn := h.1
  obtain ⟨q, a1, a2, a3, a4, a5⟩ := g_look hN h hp
  have eL : zRn n V p 0 op 0 = zRn n V q 0 op 0 := zRn_look (by omega) (by omega) a1 a2 a3
  unfold fX11_unit
  rw [a5, Option.bind_some]
  dsimp only
  by_cases k40 : zCh n V q = nI 40
  · obtain ⟨hqn, hVq⟩ := (zCh_eq h a2 (by omega)).mp k40
    rw [if_pos k40]
    by_cases h8 : op = 8
    · rw [if_pos (zeq_k h8), g_wrong, Option.bind_some]
      refine Or.inl ⟨_, _, q, _, rfl, a2, eL.trans (zRn_none hqn ?_)⟩
      unfold zA
      rw [if_neg (a4 hqn)]
      show (if V q = 40 then (if 8 < op + 1 then none else some (0, op + 1, 0)) else _) = none
      rw [if_pos hVq, if_pos (by omega)]
    · rw [if_neg (by rw [zl_eq (by omega) (by omega)]; exact h8), nI_add, nI_add]
      have e2 : zRn n V q 0 op 0 = zRn n V (q + 1) 0 (op + 1) 0 := zRn_some hqn (by
        unfold zA
        rw [if_neg (a4 hqn)]
        show (if V q = 40 then (if 8 < op + 1 then none else some (0, op + 1, 0)) else _) = _
        rw [if_pos hVq, if_neg (by omega)])
      rcases hT (by omega) (q + 1) (by omega) with ⟨b, a, f, o, c1, c2, c3⟩ | ⟨b, e, c1, c2, c3, c4, c5⟩
      · rw [c1, Option.bind_some]
        dsimp only
        unfold fX11_sign
        rw [g_unfine (by omega), Option.bind_some, if_pos zl_f0, Option.bind_some]
        exact Or.inl ⟨_, _, f, _, rfl, c2, eL.trans (e2.trans c3)⟩
      · obtain ⟨e2', b1, b2, b3, b4, b5⟩ := g_look hN h c3
        have hee : e2' = e := by
          rcases Nat.lt_or_ge e e2' with g | g
          · exact absurd (b3 e (Nat.le_refl e) g) ((c5 (by omega)).1)
          · omega
        subst hee
        rw [c1, Option.bind_some]
        dsimp only
        unfold fX11_sign
        rw [g_fine, Option.bind_some, if_neg zl_t0, b5, Option.bind_some]
        dsimp only
        by_cases k41 : zCh n V e2' = nI 41
        · obtain ⟨hen, hVe⟩ := (zCh_eq h b2 (by omega)).mp k41
          rw [if_pos k41, Option.bind_some, nI_add, pk_sub (by omega), show op + 1 - 1 = op by omega]
          refine Or.inr ⟨b, e2' + 1, rfl, by omega, by omega, eL.trans (e2.trans (c4.trans (zRn_some hen ?_))), trivial⟩
          unfold zA
          rw [if_neg (b4 hen)]
          show zJo (op + 1) (V e2') = _
          unfold zJo
          rw [if_neg (by omega), if_pos hVe, if_neg (by omega), show op + 1 - 1 = op by omega]
        · rw [if_neg k41, g_wrong, Option.bind_some, Option.bind_some]
          refine Or.inl ⟨_, _, e2', _, rfl, b2, eL.trans (e2.trans (c4.trans ?_))⟩
          rcases Nat.lt_or_ge e2' n with g | g
          · refine zRn_none g ?_
            have hne : ¬ V e2' = 41 := fun z => k41 ((zCh_eq h b2 (by omega)).mpr ⟨g, z⟩)
            obtain ⟨w1, w2, w3⟩ := c5 g
            unfold zA
            rw [if_neg w1]
            show zJo (op + 1) (V e2') = none
            unfold zJo
            rw [if_neg w2, if_neg hne]
            by_cases w4 : V e2' = 59
            · rw [if_pos w4, if_neg (by omega)]
            · rw [if_neg w4, if_neg w3]
          · obtain rfl : e2' = n := by omega
            rw [zRn_end, if_neg (by omega)]
  · rw [if_neg k40]
    have word : ∀ (v w : Nat), (v = 107 ∨ v = 112 ∨ v = 115 ∨ v = 116 ∨ v = 121) → w < 24 → zCh n V q = nI v → zOut n V p (zRn n V p 0 op 0) op (fun _ => True) (fX11_unit_J120 N (nI n) (-1) (nI op) asked now text (nI q) (nI w)) := by
      intro v w hv hw ev
      obtain ⟨hqn, hVq⟩ := (zCh_eq h a2 (by omega)).mp ev
      have e2 : zRn n V q 0 op 0 = zRn n V (q + 1) 1 op 0 := zRn_some hqn (by
        unfold zA
        rw [if_neg (a4 hqn)]
        show (if V q = 40 then (if 8 < op + 1 then none else some (0, op + 1, 0)) else if V q = 107 ∨ V q = 112 ∨ V q = 115 ∨ V q = 116 ∨ V q = 121 then some (1, op, 0) else none) = _
        rw [if_neg (by omega), if_pos (by omega)])
      have hq2 : asked = -1 ∨ ∃ v, fX11_of now asked (nI w) = some v := hq.elim Or.inl (fun z => Or.inr (z w hw))
      rcases g_J120 (op := op) hN h hq2 hqn (nm1 (show w < 2147483648 by omega)) with ⟨b, a, f, o, c1, c2, c3⟩ | ⟨b, e, c1, c2, c3, c4, c5⟩
      · exact Or.inl ⟨b, a, f, o, c1, c2, eL.trans (e2.trans c3)⟩
      · exact Or.inr ⟨b, e, c1, by omega, c3, eL.trans (e2.trans c4), c5⟩
    by_cases k1 : zCh n V q = nI 115
    · rw [if_pos k1]; exact word 115 3 (by omega) (by omega) k1
    rw [if_neg k1]
    by_cases k2 : zCh n V q = nI 121
    · rw [if_pos k2]; exact word 121 2 (by omega) (by omega) k2
    rw [if_neg k2]
    by_cases k3 : zCh n V q = nI 116
    · rw [if_pos k3]; exact word 116 4 (by omega) (by omega) k3
    rw [if_neg k3]
    by_cases k4 : zCh n V q = nI 112
    · rw [if_pos k4]; exact word 112 5 (by omega) (by omega) k4
    rw [if_neg k4]
    by_cases k5 : zCh n V q = nI 107
    · rw [if_pos k5]; exact word 107 0 (by omega) (by omega) k5
    rw [if_neg k5]
    unfold fX11_unit_J120
    rw [if_pos rfl, g_wrong, Option.bind_some]
    refine Or.inl ⟨_, _, q, _, rfl, a2, eL.trans ?_⟩
    rcases Nat.lt_or_ge q n with g | g
    · refine zRn_none g ?_
      unfold zA
      rw [if_neg (a4 g)]
      show (if V q = 40 then (if 8 < op + 1 then none else some (0, op + 1, 0)) else if V q = 107 ∨ V q = 112 ∨ V q = 115 ∨ V q = 116 ∨ V q = 121 then some (1, op, 0) else none) = none
      rw [if_neg (fun z => k40 ((zCh_eq h a2 (by omega)).mpr ⟨g, z⟩))]
      refine if_neg (fun z => ?_)
      rcases z with z | z | z | z | z
      · exact k5 ((zCh_eq h a2 (by omega)).mpr ⟨g, z⟩)
      · exact k4 ((zCh_eq h a2 (by omega)).mpr ⟨g, z⟩)
      · exact k1 ((zCh_eq h a2 (by omega)).mpr ⟨g, z⟩)
      · exact k3 ((zCh_eq h a2 (by omega)).mpr ⟨g, z⟩)
      · exact k2 ((zCh_eq h a2 (by omega)).mpr ⟨g, z⟩)
    · obtain rfl : q = n := by omega
      rw [zRn_end, if_neg (by omega)]
theorem g_pL5 {N n op : Nat} {V : Nat → Nat} {bytes text now : Nat → Int32} {asked : Int32} {T : Int32 → Int32 → Int32 → Int32 → Int32 → (Nat → Int32) → (Nat → Int32) → Option (Bool × Int32 × Int32 × Int32)} (hN : 10000 ≤ N) (h : zVb n V bytes text) (hq : asked = -1 ∨ ∀ k, k < 24 → ∃ v, fX11_of now asked (nI k) = some v) (hop : op ≤ 8)
    (hT : op < 8 → ∀ p, p ≤ n → zOut n V p (zRn n V p 0 (op + 1) 0) (op + 1) (zQt n V) (T asked (nI p) (-1) (nI n) (nI (op + 1)) now text)) : ∀ (k e m : Nat) (b : Bool), e + k = n → k + 2 ≤ m → zOut n V e (zRn n V e 4 op 0) op (zQp n V) (fX11_part_L5 N T (nI n) asked now text (fun (v1_5 : Bool) (t_at_l5 : Int32) (t_fault_l5 : Int32) (t_open_l5 : Int32) => some (v1_5, t_at_l5, t_fault_l5, t_open_l5)) m b (nI e) (-1) (nI op)) := by
  intro k
  have hn := h.1
  induction k using Nat.strongRecOn with
  | _ k ih =>
    intro e m b h1 h2
    have bad : ∀ (m f : Nat) (b : Bool) (a o : Int32), 1 ≤ m → f ≤ n → fX11_part_L5 N T (nI n) asked now text (fun (v1_5 : Bool) (t_at_l5 : Int32) (t_fault_l5 : Int32) (t_open_l5 : Int32) => some (v1_5, t_at_l5, t_fault_l5, t_open_l5)) m b a (nI f) o = some (b, a, nI f, o) := by
      intro m f b a o hm hf
      cases m with
      | zero => omega
      | succ m => rw [fX11_part_L5, g_unfine (by omega), Option.bind_some, if_pos zl_f0]
    cases m with
    | zero => omega
    | succ m =>
      obtain ⟨q, a1, a2, a3, a4, a5⟩ := g_look hN h (show e ≤ n by omega)
      have eL : zRn n V e 4 op 0 = zRn n V q 4 op 0 := zRn_look (by omega) (by omega) a1 a2 a3
      rw [fX11_part_L5, g_fine, Option.bind_some, if_neg zl_t0, a5, Option.bind_some]
      dsimp only
      by_cases k38 : zCh n V q = nI 38
      · obtain ⟨hqn, hVq⟩ := (zCh_eq h a2 (by omega)).mp k38
        have e2 : zRn n V q 4 op 0 = zRn n V (q + 1) 0 op 0 := zRn_some hqn (by
          unfold zA
          rw [if_neg (a4 hqn)]
          show zJo op (V q) = _
          unfold zJo
          rw [if_pos hVq])
        rw [if_pos k38, nI_add]
        rcases g_unit hN h hq hop hT (show q + 1 ≤ n by omega) with ⟨b', a, f, o, c1, c2, c3⟩ | ⟨b', e', c1, c2, c3, c4, _⟩
        · rw [c1, Option.bind_some]
          dsimp only
          rw [bad m f false a o (by omega) c2, bad m f true a o (by omega) c2]
          have st : zRn n V e 4 op 0 = some f := eL.trans (e2.trans c3)
          by_cases z1 : zb b = 0
          · rw [if_pos z1]; exact Or.inl ⟨_, _, f, _, rfl, c2, st⟩
          · rw [if_neg z1]
            by_cases z2 : zb b' = 0
            · rw [if_pos z2]; exact Or.inl ⟨_, _, f, _, rfl, c2, st⟩
            · rw [if_neg z2]; exact Or.inl ⟨_, _, f, _, rfl, c2, st⟩
        · rw [c1, Option.bind_some]
          dsimp only
          have rec_ : ∀ b, zOut n V e (zRn n V e 4 op 0) op (zQp n V) (fX11_part_L5 N T (nI n) asked now text (fun (v1_5 : Bool) (t_at_l5 : Int32) (t_fault_l5 : Int32) (t_open_l5 : Int32) => some (v1_5, t_at_l5, t_fault_l5, t_open_l5)) m b (nI e') (-1) (nI op)) := by
            intro b
            rcases ih (n - e') (by omega) e' m b (by omega) (by omega) with ⟨b2, x2, f2, o2, d1, d2, d3⟩ | ⟨b2, y2, d1, d2, d3, d4, d5⟩
            · exact Or.inl ⟨b2, x2, f2, o2, d1, d2, eL.trans (e2.trans (c4.trans d3))⟩
            · exact Or.inr ⟨b2, y2, d1, by omega, d3, eL.trans (e2.trans (c4.trans d4)), d5⟩
          by_cases z1 : zb b = 0
          · rw [if_pos z1]; exact rec_ _
          · rw [if_neg z1]
            by_cases z2 : zb b' = 0
            · rw [if_pos z2]; exact rec_ _
            · rw [if_neg z2]; exact rec_ _
      · rw [if_neg k38]
        exact Or.inr ⟨_, q, rfl, a1, a2, eL, fun g => ⟨a4 g, fun z => k38 ((zCh_eq h a2 (by omega)).mpr ⟨g, z⟩)⟩⟩
theorem g_part {N n p op : Nat} {V : Nat → Nat} {bytes text now : Nat → Int32} {asked : Int32} {T : Int32 → Int32 → Int32 → Int32 → Int32 → (Nat → Int32) → (Nat → Int32) → Option (Bool × Int32 × Int32 × Int32)} (hN : 10000 ≤ N) (h : zVb n V bytes text) (hq : asked = -1 ∨ ∀ k, k < 24 → ∃ v, fX11_of now asked (nI k) = some v) (hop : op ≤ 8)
    (hT : op < 8 → ∀ p, p ≤ n → zOut n V p (zRn n V p 0 (op + 1) 0) (op + 1) (zQt n V) (T asked (nI p) (-1) (nI n) (nI (op + 1)) now text)) (hp : p ≤ n) : zOut n V p (zRn n V p 0 op 0) op (zQp n V) (fX11_part T N asked (nI p) (-1) (nI n) (nI op) now text) := by
  have hn := h.1
  unfold fX11_part
  rcases g_unit hN h hq hop hT hp with ⟨b, a, f, o, c1, c2, c3⟩ | ⟨b, e, c1, c2, c3, c4, _⟩
  · rw [c1, Option.bind_some]
    dsimp only
    cases N with
    | zero => omega
    | succ N =>
      rw [fX11_part_L5, g_unfine (by omega), Option.bind_some, if_pos zl_f0]
      exact Or.inl ⟨_, _, f, _, rfl, c2, c3⟩
  · rw [c1, Option.bind_some]
    dsimp only
    rcases g_pL5 hN h hq hop hT (n - e) e N b (by omega) (by omega) with ⟨b2, x2, f2, o2, d1, d2, d3⟩ | ⟨b2, y2, d1, d2, d3, d4, d5⟩
    · exact Or.inl ⟨b2, x2, f2, o2, d1, d2, c4.trans d3⟩
    · exact Or.inr ⟨b2, y2, d1, by omega, d3, c4.trans d4, d5⟩
theorem g_tL5 {N n op : Nat} {V : Nat → Nat} {bytes text now : Nat → Int32} {asked : Int32} {T : Int32 → Int32 → Int32 → Int32 → Int32 → (Nat → Int32) → (Nat → Int32) → Option (Bool × Int32 × Int32 × Int32)} (hN : 10000 ≤ N) (h : zVb n V bytes text) (hq : asked = -1 ∨ ∀ k, k < 24 → ∃ v, fX11_of now asked (nI k) = some v) (hop : op ≤ 8)
    (hT : op < 8 → ∀ p, p ≤ n → zOut n V p (zRn n V p 0 (op + 1) 0) (op + 1) (zQt n V) (T asked (nI p) (-1) (nI n) (nI (op + 1)) now text)) : ∀ (k e m : Nat) (b : Bool), e + k = n → k + 2 ≤ m → zQp n V e → zOut n V e (zRn n V e 4 op 0) op (zQt n V) (fX11_tests_L5 N T (nI n) asked now text (fun (v1_5 : Bool) (t_at_l5 : Int32) (t_fault_l5 : Int32) (t_open_l5 : Int32) => some (v1_5, t_at_l5, t_fault_l5, t_open_l5)) m b (nI e) (-1) (nI op)) := by
  intro k
  have hn := h.1
  induction k using Nat.strongRecOn with
  | _ k ih =>
    intro e m b h1 h2 hQ
    have bad : ∀ (m f : Nat) (b : Bool) (a o : Int32), 1 ≤ m → f ≤ n → fX11_tests_L5 N T (nI n) asked now text (fun (v1_5 : Bool) (t_at_l5 : Int32) (t_fault_l5 : Int32) (t_open_l5 : Int32) => some (v1_5, t_at_l5, t_fault_l5, t_open_l5)) m b a (nI f) o = some (b, a, nI f, o) := by
      intro m f b a o hm hf
      cases m with
      | zero => omega
      | succ m => rw [fX11_tests_L5, g_unfine (by omega), Option.bind_some, if_pos zl_f0]
    cases m with
    | zero => omega
    | succ m =>
      obtain ⟨q, a1, a2, a3, a4, a5⟩ := g_look hN h (show e ≤ n by omega)
      have hqe : q = e := by
        rcases Nat.lt_or_ge e q with g | g
        · exact absurd (a3 e (Nat.le_refl e) g) ((hQ (by omega)).1)
        · omega
      subst hqe
      rw [fX11_tests_L5, g_fine, Option.bind_some, if_neg zl_t0, a5, Option.bind_some]
      dsimp only
      by_cases k124 : zCh n V q = nI 124
      · obtain ⟨hqn, hVq⟩ := (zCh_eq h a2 (by omega)).mp k124
        have e2 : zRn n V q 4 op 0 = zRn n V (q + 1) 0 op 0 := zRn_some hqn (by
          unfold zA
          rw [if_neg (a4 hqn)]
          show zJo op (V q) = _
          unfold zJo
          rw [if_neg (by omega), if_neg (by omega), if_neg (by omega), if_pos hVq])
        rw [if_pos k124, nI_add]
        rcases g_part hN h hq hop hT (show q + 1 ≤ n by omega) with ⟨b', a, f, o, c1, c2, c3⟩ | ⟨b', e', c1, c2, c3, c4, c5⟩
        · rw [c1, Option.bind_some]
          dsimp only
          rw [bad m f false a o (by omega) c2, bad m f true a o (by omega) c2]
          have st : zRn n V q 4 op 0 = some f := e2.trans c3
          by_cases z1 : zb b = 0
          · rw [if_pos z1]
            by_cases z2 : zb b' = 0
            · rw [if_pos z2]; exact Or.inl ⟨_, _, f, _, rfl, c2, st⟩
            · rw [if_neg z2]; exact Or.inl ⟨_, _, f, _, rfl, c2, st⟩
          · rw [if_neg z1]; exact Or.inl ⟨_, _, f, _, rfl, c2, st⟩
        · rw [c1, Option.bind_some]
          dsimp only
          have rec_ : ∀ b, zOut n V q (zRn n V q 4 op 0) op (zQt n V) (fX11_tests_L5 N T (nI n) asked now text (fun (v1_5 : Bool) (t_at_l5 : Int32) (t_fault_l5 : Int32) (t_open_l5 : Int32) => some (v1_5, t_at_l5, t_fault_l5, t_open_l5)) m b (nI e') (-1) (nI op)) := by
            intro b
            rcases ih (n - e') (by omega) e' m b (by omega) (by omega) c5 with ⟨b2, x2, f2, o2, d1, d2, d3⟩ | ⟨b2, y2, d1, d2, d3, d4, d5⟩
            · exact Or.inl ⟨b2, x2, f2, o2, d1, d2, e2.trans (c4.trans d3)⟩
            · exact Or.inr ⟨b2, y2, d1, by omega, d3, e2.trans (c4.trans d4), d5⟩
          by_cases z1 : zb b = 0
          · rw [if_pos z1]
            by_cases z2 : zb b' = 0
            · rw [if_pos z2]; exact rec_ _
            · rw [if_neg z2]; exact rec_ _
          · rw [if_neg z1]; exact rec_ _
      · rw [if_neg k124]
        exact Or.inr ⟨_, q, rfl, a1, a2, rfl, fun g => ⟨a4 g, (hQ g).2, fun z => k124 ((zCh_eq h a2 (by omega)).mpr ⟨g, z⟩)⟩⟩
theorem g_testsD {N n : Nat} {V : Nat → Nat} {bytes text now : Nat → Int32} {asked : Int32} (hN : 10000 ≤ N) (h : zVb n V bytes text) (hq : asked = -1 ∨ ∀ k, k < 24 → ∃ v, fX11_of now asked (nI k) = some v) : ∀ (d op p : Nat), 9 ≤ op + d → op ≤ 8 → p ≤ n → zOut n V p (zRn n V p 0 op 0) op (zQt n V) (fX11_testsD N d asked (nI p) (-1) (nI n) (nI op) now text) := by
  intro d
  have hn := h.1
  induction d with
  | zero => intro op p h1 h2 h3; omega
  | succ d ih =>
    intro op p h1 h2 h3
    have hT : op < 8 → ∀ p, p ≤ n → zOut n V p (zRn n V p 0 (op + 1) 0) (op + 1) (zQt n V) (fX11_testsD N d asked (nI p) (-1) (nI n) (nI (op + 1)) now text) := fun g p hp => ih (op + 1) p (by omega) (by omega) hp
    rw [fX11_testsD]
    unfold fX11_tests_
    rcases g_part hN h hq h2 hT h3 with ⟨b, a, f, o, c1, c2, c3⟩ | ⟨b, e, c1, c2, c3, c4, c5⟩
    · rw [c1, Option.bind_some]
      dsimp only
      cases N with
      | zero => omega
      | succ N =>
        rw [fX11_tests_L5, g_unfine (by omega), Option.bind_some, if_pos zl_f0]
        exact Or.inl ⟨_, _, f, _, rfl, c2, c3⟩
    · rw [c1, Option.bind_some]
      dsimp only
      rcases g_tL5 hN h hq h2 hT (n - e) e N b (by omega) (by omega) c5 with ⟨b2, x2, f2, o2, d1, d2, d3⟩ | ⟨b2, y2, d1, d2, d3, d4, d5⟩
      · exact Or.inl ⟨b2, x2, f2, o2, d1, d2, c4.trans d3⟩
      · exact Or.inr ⟨b2, y2, d1, by omega, d3, c4.trans d4, d5⟩
/-- a text without a fault ends fine; else the fault stands in the third place behind -/
theorem g_J125 {N n p : Nat} {V : Nat → Nat} {bytes text : Nat → Int32} {asked open_ pm : Int32} {b1 s1 : Bool} {start : Option Nat} (hN : 10000 ≤ N) (h : zVb n V bytes text) (hp : p ≤ n) (st : Nat) (op : Nat) (hst : st = 6 ∨ st = 9) (dg : Nat) (hs : start = zRn n V p st op dg) (hno : st = 6 → p < n → ¬ V p = 32 → ¬ V p = 59) (hno2 : st = 6 → p < n → ¬ V p = 32) : ∃ b a g o m, fX11_read_J125 N (nI n) text asked b1 open_ s1 (nI p) (-1) pm = some (b, asked, a, g, zRe start, o, m) := by
  have hn := h.1
  obtain ⟨q, a1, a2, a3, a4, a5⟩ := g_look hN h hp
  have eL : zRn n V p st op dg = zRn n V q st op dg := zRn_look (by omega) (by omega) a1 a2 a3
  unfold fX11_read_J125
  rw [g_fine, Option.bind_some, if_neg zl_t0, a5, Option.bind_some]
  dsimp only
  rcases Nat.lt_or_ge q n with g | g
  · have hz : zA st op dg (V q) = none := by
      unfold zA
      rw [if_neg (a4 g)]
      rcases hst with rfl | rfl
      · have hqp : q = p := by
          rcases Nat.lt_or_ge p q with g2 | g2
          · exact absurd (a3 p (Nat.le_refl p) g2) (hno2 rfl (by omega))
          · omega
        subst hqp
        show (if V q = 59 then some (7, op, dg) else none) = none
        rw [if_neg (hno rfl g (a4 g))]
      · rfl
    have hr : ¬ zCh n V q = -1 := by
      unfold zCh
      obtain ⟨_, hw, _⟩ := h.2 q g
      rw [if_neg (by omega)]
      exact nm1 (by omega)
    have e : zRe start = nI q := by rw [hs, eL, zRn_none g hz]; rfl
    rw [if_neg hr, g_wrong, Option.bind_some, e]
    by_cases z : zb b1 = 0
    · rw [if_pos z]; exact ⟨_, _, _, _, _, rfl⟩
    · rw [if_neg z, g_unfine (by omega), Option.bind_some, if_pos zl_f0]; exact ⟨_, _, _, _, _, rfl⟩
  · obtain rfl : q = n := by omega
    have hr : zCh q V q = -1 := if_pos rfl
    have e : zRe start = -1 := by
      rw [hs, eL, zRn_end, if_pos (by omega)]; rfl
    rw [if_pos hr, e]
    by_cases z : zb b1 = 0
    · rw [if_pos z]; exact ⟨_, _, _, _, _, rfl⟩
    · rw [if_neg z, Option.bind_some, if_neg zl_t0]; exact ⟨_, _, _, _, _, rfl⟩
theorem g_J125f {N n f : Nat} {text : Nat → Int32} {asked open_ pm at_ : Int32} {b1 s1 : Bool} (hf : f < 2147483648) : ∃ b a g o m, fX11_read_J125 N (nI n) text asked b1 open_ s1 at_ (nI f) pm = some (b, asked, a, g, nI f, o, m) := by
  unfold fX11_read_J125
  rw [g_unfine hf, Option.bind_some, if_pos zl_f0]
  by_cases z : zb b1 = 0
  · rw [if_pos z]; exact ⟨_, _, _, _, _, rfl⟩
  · rw [if_neg z, Option.bind_some, if_pos zl_f0]; exact ⟨_, _, _, _, _, rfl⟩
theorem g_J85 {N n p : Nat} {V : Nat → Nat} {bytes text : Nat → Int32} {asked open_ pm : Int32} {b1 s1 : Bool} (hN : 10000 ≤ N) (h : zVb n V bytes text) (hp : p < n) : ∃ b a g o m, fX11_read_J85 N (nI n) text asked b1 open_ (-1) (nI p) pm s1 = some (b, asked, a, g, zRe (zRn n V (p + 1) 6 0 0), o, m) := by
  have hn := h.1
  obtain ⟨q, a1, a2, a3, a4, a5⟩ := g_look hN h (show p + 1 ≤ n by omega)
  have eL : zRn n V (p + 1) 6 0 0 = zRn n V q 6 0 0 := zRn_look (by omega) (by omega) a1 a2 a3
  unfold fX11_read_J85
  rw [nI_add, a5, Option.bind_some]
  dsimp only
  by_cases k : zCh n V q = nI 59
  · obtain ⟨hqn, hVq⟩ := (zCh_eq h a2 (by omega)).mp k
    have e2 : zRn n V q 6 0 0 = zRn n V (q + 1) 7 0 0 := zRn_some hqn (by
      unfold zA
      rw [if_neg (a4 hqn)]
      show (if V q = 59 then some (7, 0, 0) else none) = _
      rw [if_pos hVq])
    rw [if_pos k, nI_add]
    rcases g_num (op := 0) hN h (Or.inr ⟨rfl, rfl⟩) (show q + 1 ≤ n by omega) with ⟨f, a, y, c1, c2, c3⟩ | ⟨e, d, y, c1, c2, c3, c4, c5⟩
    · rw [c1, Option.bind_some]
      dsimp only
      have e3 : zRe (zRn n V (p + 1) 6 0 0) = nI f := by rw [eL, e2, c3]; rfl
      rw [e3]
      exact g_J125f (by omega)
    · rw [c4, Option.bind_some]
      dsimp only
      exact g_J125 hN h c2 9 0 (Or.inr rfl) d (eL.trans (e2.trans (c5.trans (zRn_8 c2 c3)))) (fun z => by omega) (fun z => by omega)
  · rw [if_neg k]
    exact g_J125 hN h a2 6 0 (Or.inl rfl) 0 eL (fun _ g _ z => k ((zCh_eq h a2 (by omega)).mpr ⟨g, z⟩)) (fun _ g => a4 g)
theorem g_fault {N n : Nat} {V : Nat → Nat} {bytes text now : Nat → Int32} {as at_ by_ fa op pm T : Int32} (hN : 10000 ≤ N) (h : zVb n V bytes text) : ∃ a b c d e f, fX11_fault N as at_ by_ fa (nI n) op pm T now text = some (zRe (zRn n V 0 0 0 0), a, b, c, d, e, f, nI 0) := by
  have hn := h.1
  have key : ∃ b a g o m, fX11_read N as at_ by_ fa (nI n) op pm now text (-1) = some (b, -1, a, g, zRe (zRn n V 0 0 0 0), o, m) := by
    unfold fX11_read
    rcases g_testsD (asked := -1) (now := now) hN h (Or.inl rfl) 9 0 0 (by omega) (by omega) (by omega) with ⟨b, a, f, o, c1, c2, c3⟩ | ⟨b, e, c1, c2, c3, c4, c5⟩
    · rw [c1, Option.bind_some]
      dsimp only
      unfold fX11_sign
      rw [g_unfine (by omega), Option.bind_some, if_pos zl_f0, Option.bind_some]
      dsimp only
      rw [g_unfine (show f < 2147483648 by omega), Option.bind_some, if_pos zl_f0, c3]
      exact ⟨_, _, _, _, _, rfl⟩
    · obtain ⟨q, a1, a2, a3, a4, a5⟩ := g_look hN h c3
      have hqe : q = e := by
        rcases Nat.lt_or_ge e q with g | g
        · exact absurd (a3 e (Nat.le_refl e) g) ((c5 (by omega)).1)
        · omega
      subst hqe
      rw [c1, Option.bind_some]
      dsimp only
      unfold fX11_sign
      rw [g_fine, Option.bind_some, if_neg zl_t0, a5, Option.bind_some]
      dsimp only
      by_cases k59 : zCh n V q = nI 59
      · obtain ⟨hqn, hVq⟩ := (zCh_eq h a2 (by omega)).mp k59
        have e2 : zRn n V q 4 0 0 = zRn n V (q + 1) 5 0 0 := zRn_some hqn (by
          unfold zA
          rw [if_neg (a4 hqn)]
          show zJo 0 (V q) = _
          unfold zJo
          rw [if_neg (by omega), if_neg (by omega), if_pos hVq, if_pos rfl])
        obtain ⟨r, b1, b2, b3, b4, b5⟩ := g_look hN h (show q + 1 ≤ n by omega)
        have e3 : zRn n V (q + 1) 5 0 0 = zRn n V r 5 0 0 := zRn_look (by omega) (by omega) b1 b2 b3
        rw [if_pos k59, Option.bind_some, nI_add]
        dsimp only
        rw [g_fine, Option.bind_some, if_neg zl_t0, b5, Option.bind_some]
        dsimp only
        have order_ : ∀ v, (v = 110 ∨ v = 103) → zCh n V r = nI v → ∃ b' a g o m, fX11_read_J73 N (nI n) text (-1) b (nI 0) (-1) (zCh n V r) (nI r) (nI 0) (nI 0) = some (b', -1, a, g, zRe (zRn n V 0 0 0 0), o, m) := by
          intro v hv ev
          obtain ⟨hrn, hVr⟩ := (zCh_eq h b2 (by omega)).mp ev
          have e4 : zRn n V r 5 0 0 = zRn n V (r + 1) 6 0 0 := zRn_some hrn (by
            unfold zA
            rw [if_neg (b4 hrn)]
            show (if V r = 110 ∨ V r = 103 then some (6, 0, 0) else none) = _
            rw [if_pos (by omega)])
          have e5 : zRn n V 0 0 0 0 = zRn n V (r + 1) 6 0 0 := c4.trans (e2.trans (e3.trans e4))
          rw [e5]
          unfold fX11_read_J73
          by_cases z : zCh n V r = nI 103
          · rw [if_pos z]; exact g_J85 hN h hrn
          · rw [if_neg z]; exact g_J85 hN h hrn
        by_cases k1 : zCh n V r = nI 110
        · rw [if_pos k1]; exact order_ 110 (Or.inl rfl) k1
        rw [if_neg k1]
        by_cases k2 : zCh n V r = nI 103
        · rw [if_pos k2]; exact order_ 103 (Or.inr rfl) k2
        rw [if_neg k2, g_wrong, Option.bind_some]
        have e6 : zRn n V 0 0 0 0 = some r := by
          refine c4.trans (e2.trans (e3.trans ?_))
          rcases Nat.lt_or_ge r n with g | g
          · refine zRn_none g ?_
            unfold zA
            rw [if_neg (b4 g)]
            show (if V r = 110 ∨ V r = 103 then some (6, 0, 0) else none) = none
            refine if_neg (fun z => ?_)
            rcases z with z | z
            · exact k1 ((zCh_eq h b2 (by omega)).mpr ⟨g, z⟩)
            · exact k2 ((zCh_eq h b2 (by omega)).mpr ⟨g, z⟩)
          · obtain rfl : r = n := by omega
            rw [zRn_end, if_neg (by omega)]
        rw [e6]
        exact ⟨_, _, _, _, _, rfl⟩
      · rw [if_neg k59, g_wrong, Option.bind_some, Option.bind_some]
        dsimp only
        rw [g_unfine (by omega), Option.bind_some, if_pos zl_f0]
        have e6 : zRn n V 0 0 0 0 = some q := by
          refine c4.trans ?_
          rcases Nat.lt_or_ge q n with g | g
          · refine zRn_none g ?_
            have hne : ¬ V q = 59 := fun z => k59 ((zCh_eq h a2 (by omega)).mpr ⟨g, z⟩)
            obtain ⟨w1, w2, w3⟩ := c5 g
            unfold zA
            rw [if_neg w1]
            show zJo 0 (V q) = none
            unfold zJo
            rw [if_neg w2]
            by_cases w4 : V q = 41
            · rw [if_pos w4, if_pos rfl]
            · rw [if_neg w4, if_neg hne, if_neg w3]
          · obtain rfl : q = n := by omega
            rw [zRn_end, if_neg (by omega)]
        rw [e6]
        exact ⟨_, _, _, _, _, rfl⟩
  obtain ⟨b, a, g, o, m, e⟩ := key
  unfold fX11_fault
  rw [e, Option.bind_some]
  exact ⟨_, _, _, _, _, _, rfl⟩
theorem r_fault {N : Nat} {length mlength : Int32} {bytes text now : Nat → Int32} {di la op od pr sg as at_ by_ fa mo pm T : Int32} {nu pa si : Nat → Int32} (hN : 10000 ≤ N) (ht : zText length bytes mlength text) : ∃ r a b c d e f g i j a' b' c' d' e' f', fX10_fault N di la op od pr sg nu pa si length bytes = some (r, a, b, c, d, e, f, g, i, j) ∧ fX11_fault N as at_ by_ fa mlength mo pm T now text = some (r, a', b', c', d', e', f', nI 0) := by
  obtain ⟨n, V, e1, e2, h⟩ := zvb_of ht
  subst e1; subst e2
  obtain ⟨a, b, c, d, e, f, g, i, j, x⟩ := c_fault (di := di) (la := la) (op := op) (od := od) (pr := pr) (sg := sg) (nu := nu) (pa := pa) (si := si) hN h
  obtain ⟨a', b', c', d', e', f', y⟩ := g_fault (as := as) (at_ := at_) (by_ := by_) (fa := fa) (op := mo) (pm := pm) (T := T) (now := now) hN h
  exact ⟨_, _, _, _, _, _, _, _, _, _, _, _, _, _, _, _, x, y⟩
