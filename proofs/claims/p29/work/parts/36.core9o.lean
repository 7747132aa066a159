/-! lists: what a piece of the text says of a runner, on both sides -/
def zAg (l : Nat) (nu pa si NU PA SI : Nat → Int32) : Prop := ∀ i, i < l → NU i = nu i ∧ PA i = pa i ∧ SI i = si i
theorem zAg.refl {l : Nat} {nu pa si : Nat → Int32} : zAg l nu pa si nu pa si := fun _ _ => ⟨rfl, rfl, rfl⟩
theorem zAg.trans {l l1 : Nat} {nu pa si nu1 pa1 si1 nu2 pa2 si2 : Nat → Int32} (hl : l ≤ l1) (a : zAg l nu pa si nu1 pa1 si1) (b : zAg l1 nu1 pa1 si1 nu2 pa2 si2) : zAg l nu pa si nu2 pa2 si2 := fun i hi => by
  obtain ⟨a1, a2, a3⟩ := a i hi
  obtain ⟨b1, b2, b3⟩ := b i (by omega)
  exact ⟨b1.trans a1, b2.trans a2, b3.trans a3⟩
theorem zAg.sub {l l1 : Nat} {nu pa si nu1 pa1 si1 : Nat → Int32} (hl : l ≤ l1) (a : zAg l1 nu pa si nu1 pa1 si1) : zAg l nu pa si nu1 pa1 si1 := fun i hi => a i (by omega)
theorem zAg.lay {l : Nat} {x y z : Int32} {nu pa si : Nat → Int32} : zAg l nu pa si (upd nu l x) (upd pa l y) (upd si l z) := fun i hi => ⟨zup_n (by omega), zup_n (by omega), zup_n (by omega)⟩
/-- a unit's or a part's word on the two bits of its depth -/
def zFx (op : Nat) (b : Bool) (v4 v5 w4 w5 : Int32) : Prop := (∀ j, j < op → bt w4 j = bt v4 j ∧ bt w5 j = bt v5 j) ∧ bt w4 op = (bt v4 op || !b) ∧ bt w5 op = bt v5 op
/-- that of tests, begun with a part that hasn't failed -/
def zFt (op : Nat) (b : Bool) (v4 v5 w4 w5 : Int32) : Prop := (∀ j, j < op → bt w4 j = bt v4 j ∧ bt w5 j = bt v5 j) ∧ (bt v4 op = false → zHv w4 w5 op = (bt v5 op || b))
/-- the class reads from p (stage 0) to e, laying tokens that say b of runner r -/
def zSg (n : Nat) (V : Nat → Nat) (bytes : Nat → Int32) (R r : Nat) (facts : Nat → Int32) (E : Int32 → Int32 → Int32 → Int32 → Prop) (op p e : Nat) : Prop :=
  ∀ (l : Nat) (di od pr : Int32) (nu pa si : Nat → Int32), l ≤ p → ∃ (l' st' : Nat) (di' : Int32) (nu' pa' si' : Nat → Int32), zMv n bytes p 0 op l di od pr nu pa si e st' op l' di' od pr nu' pa' si' ∧ zSb n V e st' ∧ l ≤ l' ∧ l' ≤ e ∧ zAg l nu pa si nu' pa' si' ∧
    ∀ (L : Nat) (NU PA SI : Nat → Int32), l' ≤ L → L ≤ 200 → zAg l' nu' pa' si' NU PA SI → ∀ v4 v5 : Int32, ∃ w4 w5 : Int32, zEf L R r NU PA SI facts op l v4 v5 op l' w4 w5 ∧ E v4 v5 w4 w5
theorem g_v8d : ∀ v, 48 ≤ v → v ≤ 57 → (nI v).toInt8.toInt32 = nI v := by
  have k : ∀ v, v < 256 → 48 ≤ v → v ≤ 57 → (nI v).toInt8.toInt32 = nI v := by decide +kernel
  exact fun v a b => k v (by omega) a b
/-- numbers: the reference's value is the one that the class lays -/
theorem s_numL {n op l : Nat} {V : Nat → Nat} {bytes text : Nat → Int32} {od pr : Int32} {pa si : Nat → Int32} (h : zVb n V bytes text) (hl0 : 1 ≤ l) (hl : l ≤ 200) : ∀ (k p m dg : Nat) (x : Int32) (nu : Nat → Int32), p + k = n → k + 1 ≤ m → dg ≤ 5 → nu (l - 1) = x →
    (∃ f a y, fX11_number_L20 (nI n) text (fun (v1_20 : Int32) (v2_20 : Int32) (t_at_l20 : Int32) (t_fault_l20 : Int32) => some (v1_20, t_at_l20, t_fault_l20)) m x (nI dg) (nI p) (-1) = some (y, a, nI f) ∧ f ≤ n ∧ zRn n V p 3 op dg = some f) ∨
    (∃ e d y nu', p ≤ e ∧ e ≤ n ∧ (e < n → ¬ (48 ≤ V e ∧ V e ≤ 57)) ∧ fX11_number_L20 (nI n) text (fun (v1_20 : Int32) (v2_20 : Int32) (t_at_l20 : Int32) (t_fault_l20 : Int32) => some (v1_20, t_at_l20, t_fault_l20)) m x (nI dg) (nI p) (-1) = some (y, nI e, -1) ∧ zRn n V p 3 op dg = zRn n V e 3 op d ∧
      zMv n bytes p 3 op l (nI dg) od pr nu pa si e 3 op l (nI d) od pr nu' pa si ∧ nu' (l - 1) = y ∧ ∀ i, ¬ i = l - 1 → nu' i = nu i) := by
  intro k
  have hn := h.1
  induction k with
  | zero =>
    intro p m dg x nu h1 h2 h3 hx
    obtain rfl : p = n := by omega
    cases m with
    | zero => omega
    | succ m =>
      refine Or.inr ⟨p, dg, x, nu, Nat.le_refl p, Nat.le_refl p, fun a => by omega, ?_, rfl, zMv.refl, hx, fun i _ => rfl⟩
      rw [fX11_number_L20, if_pos (show nI p ≤ nI p by rw [zl_le (by omega) (by omega)]; exact Nat.le_refl _)]
  | succ k ih =>
    intro p m dg x nu h1 h2 h3 hx
    cases m with
    | zero => omega
    | succ m =>
      have hp : p < n := by omega
      obtain ⟨_, hv, _, ht⟩ := h.2 p hp
      have hd := (g_v8 (V p) (by omega)).2.2.1
      have z : zin (nI p) 200 := zin_k (by omega) (by omega)
      rw [fX11_number_L20, if_neg (show ¬ nI n ≤ nI p by rw [zl_le (by omega) (by omega)]; omega), if_pos z, if_pos z, zl_c (show p < 2 ^ 31 by omega), ht, hd, Option.bind_some]
      by_cases q : 48 ≤ V p ∧ V p ≤ 57
      · rw [decide_eq_true q, if_neg zl_t0]
        have eA : zA 3 op dg (V p) = zDi 3 op dg (V p) := zA_dig (by omega) q
        by_cases h5 : dg = 5
        · rw [if_pos (zeq_k h5), g_wrong, Option.bind_some]
          refine Or.inl ⟨p, _, _, rfl, by omega, zRn_none hp (eA.trans ?_)⟩
          unfold zDi
          rw [if_pos q, if_neg (by omega)]
        · have e8 : (nI (V p)).toInt8.toInt32 = nI (V p) := g_v8d (V p) q.1 q.2
          rw [if_neg (show ¬ nI dg = nI 5 by rw [zl_eq (by omega) (by omega)]; exact h5), nI_add, nI_add, e8]
          have eS : zRn n V p 3 op dg = zRn n V (p + 1) 3 op (dg + 1) := zRn_some hp (eA.trans (by
            unfold zDi
            rw [if_pos q, if_pos (by omega)]))
          have mv : zMv n bytes p 3 op l (nI dg) od pr nu pa si (p + 1) 3 op l (nI (dg + 1)) od pr (upd nu (l - 1) (nu (l - 1) * nI 10 + nI (V p) - nI 48)) pa si := m_step h hp (t_dig3 hl0 hl q (by omega))
          have hx2 : upd nu (l - 1) (nu (l - 1) * nI 10 + nI (V p) - nI 48) (l - 1) = nI 10 * x + nI (V p) - nI 48 := by
            rw [zup_s, hx, Int32.mul_comm x (nI 10)]
          rcases ih (p + 1) m (dg + 1) (nI 10 * x + nI (V p) - nI 48) _ (by omega) (by omega) (by omega) hx2 with ⟨f, a, y, e1, e2, e3⟩ | ⟨e, d, y, nu', b1, b2, b3, b4, b5, b6, b7, b8⟩
          · exact Or.inl ⟨f, a, y, e1, e2, eS.trans e3⟩
          · exact Or.inr ⟨e, d, y, nu', by omega, b2, b3, b4, eS.trans b5, mv.trans (by omega) (by omega) b6, b7, fun i hi => by rw [b8 i hi, zup_n hi]⟩
      · rw [decide_eq_false q, if_pos zl_f0]
        exact Or.inr ⟨p, dg, x, nu, Nat.le_refl p, by omega, fun _ => q, rfl, rfl, zMv.refl, hx, fun i _ => rfl⟩
theorem s_num {N n p op l : Nat} {V : Nat → Nat} {bytes text : Nat → Int32} {od pr : Int32} {nu pa si : Nat → Int32} (hN : 10000 ≤ N) (h : zVb n V bytes text) (hl0 : 1 ≤ l) (hl : l ≤ 200) (hp : p ≤ n) (hx : nu (l - 1) = nI 0) :
    (∃ f a y, fX11_number N (nI p) (-1) (nI n) text = some (y, a, nI f) ∧ f ≤ n ∧ zRn n V p 2 op 0 = some f) ∨
    (∃ e d y nu', p ≤ e ∧ e ≤ n ∧ (e < n → ¬ (48 ≤ V e ∧ V e ≤ 57)) ∧ fX11_number N (nI p) (-1) (nI n) text = some (y, nI e, -1) ∧ zRn n V p 2 op 0 = zRn n V e 3 op d ∧
      zMv n bytes p 2 op l (nI 0) od pr nu pa si e 3 op l (nI d) od pr nu' pa si ∧ nu' (l - 1) = y ∧ ∀ i, ¬ i = l - 1 → nu' i = nu i) := by
  have hn := h.1
  obtain ⟨q, a1, a2, a3, a4, a5⟩ := g_look hN h hp
  have eL : zRn n V p 2 op 0 = zRn n V q 2 op 0 := zRn_look (by omega) (by omega) a1 a2 a3
  have mB := m_blanks (op := op) (l := l) (di := nI 0) (od := od) (pr := pr) (nu := nu) (pa := pa) (si := si) h (show 2 ≤ 9 by omega) (by omega) (by omega) (q - p) p (by omega) (fun i a b => a3 i a (by omega))
  rw [show p + (q - p) = q by omega] at mB
  unfold fX11_number
  rw [a5, Option.bind_some]
  dsimp only
  have bad : (q < n → ¬ (48 ≤ V q ∧ V q ≤ 57)) → zRn n V q 2 op 0 = some q := by
    intro hb
    rcases Nat.lt_or_ge q n with g | g
    · refine zRn_none g ?_
      unfold zA
      rw [if_neg (a4 g)]
      show zDi 3 op 0 (V q) = none
      unfold zDi
      rw [if_neg (hb g)]
    · obtain rfl : q = n := by omega
      rw [zRn_end, if_neg (by omega)]
  by_cases z : q = n
  · have e1 : fX11_isDigit (zCh n V q) = some false := by
      unfold zCh
      rw [if_pos z]
      decide
    rw [e1, Option.bind_some, if_pos zl_f0, g_wrong, Option.bind_some]
    exact Or.inl ⟨q, _, _, rfl, a2, eL.trans (bad (fun g => by omega))⟩
  · obtain ⟨_, hv, _, ht⟩ := h.2 q (by omega)
    have e1 : fX11_isDigit (zCh n V q) = some (decide (48 ≤ V q ∧ V q ≤ 57)) := by
      unfold zCh
      rw [if_neg z]
      exact (g_v8 (V q) (by omega)).2.2.2
    rw [e1, Option.bind_some]
    by_cases w : 48 ≤ V q ∧ V q ≤ 57
    · rw [decide_eq_true w, if_neg zl_t0]
      have e2 : zRn n V q 2 op 0 = zRn n V q 3 op 0 := by
        have x1 : zA 2 op 0 (V q) = zDi 3 op 0 (V q) := zA_dig (by omega) w
        have x2 : zA 3 op 0 (V q) = zDi 3 op 0 (V q) := zA_dig (by omega) w
        have x3 : zDi 3 op 0 (V q) = some (3, op, 0 + 1) := by
          unfold zDi
          rw [if_pos w, if_pos (by omega)]
        rw [zRn_some (by omega) (x1.trans x3), zRn_some (by omega) (x2.trans x3)]
      rcases s_numL (op := op) (od := od) (pr := pr) (pa := pa) (si := si) h hl0 hl (n - q) q N 0 (nI 0) nu (by omega) (by omega) (by omega) hx with ⟨f, a, y, c1, c2, c3⟩ | ⟨e, d, y, nu', b1, b2, b3, b4, b5, b6, b7, b8⟩
      · exact Or.inl ⟨f, a, y, c1, c2, eL.trans (e2.trans c3)⟩
      · have hqe : q < e := by
          rcases Nat.lt_or_ge q e with g | g
          · exact g
          · have : e = q := by omega
            subst this
            exact absurd w (b3 (by omega))
        have s2 : zMv n bytes q 2 op l (nI 0) od pr nu pa si (q + 1) 3 op l (nI (0 + 1)) od pr (upd nu (l - 1) (nu (l - 1) * nI 10 + nI (V q) - nI 48)) pa si := m_step h (by omega) (t_dig2 hl0 hl w (by omega))
        have s3 : zMv n bytes q 3 op l (nI 0) od pr nu pa si (q + 1) 3 op l (nI (0 + 1)) od pr (upd nu (l - 1) (nu (l - 1) * nI 10 + nI (V q) - nI 48)) pa si := m_step h (by omega) (t_dig3 hl0 hl w (by omega))
        have mv : zMv n bytes q 2 op l (nI 0) od pr nu pa si e 3 op l (nI d) od pr nu' pa si := by
          intro K m
          have x2 := s2 K (m + (e - (q + 1)))
          have x3 := s3 K (m + (e - (q + 1)))
          rw [show m + (e - (q + 1)) + (q + 1 - q) = m + (e - q) by omega] at x2 x3
          rw [x2, ← x3]
          exact b6 K m
        exact Or.inr ⟨e, d, y, nu', by omega, b2, b3, b4, eL.trans (e2.trans b5), mB.trans (by omega) (by omega) mv, b7, b8⟩
    · rw [decide_eq_false w, if_pos zl_f0, g_wrong, Option.bind_some]
      exact Or.inl ⟨q, _, _, rfl, a2, eL.trans (bad (fun _ => w))⟩
def zOutS (n : Nat) (V : Nat → Nat) (bytes : Nat → Int32) (R r : Nat) (facts : Nat → Int32) (p : Nat) (start : Option Nat) (op : Nat) (Q : Nat → Prop) (E : Bool → Int32 → Int32 → Int32 → Int32 → Prop) (res : Option (Bool × Int32 × Int32 × Int32)) : Prop :=
  (∃ (b : Bool) (a : Int32) (f : Nat) (o : Int32), res = some (b, a, nI f, o) ∧ f ≤ n ∧ start = some f) ∨ (∃ (b : Bool) (e : Nat), res = some (b, nI e, -1, nI op) ∧ p ≤ e ∧ e ≤ n ∧ start = zRn n V e 4 op 0 ∧ Q e ∧ zSg n V bytes R r facts (E b) op p e)
theorem zUn_sg {facts : Nat → Int32} {r w v : Nat} {y : Int32} (hv : v = 61 ∨ v = 60 ∨ v = 62) (a f o : Int32) : (if nI v = nI 61 then (if facts (6 * r + w) = y then some (true, a, f, o) else some (false, a, f, o)) else (if nI v = nI 60 then (if y ≤ facts (6 * r + w) then some (false, a, f, o) else some (true, a, f, o)) else (if facts (6 * r + w) ≤ y then some (false, a, f, o) else some (true, a, f, o)))) = some (zUn facts r w (nI v) y, a, f, o) := by
  unfold zUn
  rcases hv with rfl | rfl | rfl
  · rw [if_pos (show nI 61 = nI 61 from rfl), if_neg (show ¬ nI 61 = nI 60 by decide), if_neg (show ¬ nI 61 = nI 62 by decide)]
    by_cases b : facts (6 * r + w) = y
    · rw [if_pos b, decide_eq_true b]
    · rw [if_neg b, decide_eq_false b]
  · rw [if_neg (show ¬ nI 60 = nI 61 by decide), if_pos (show nI 60 = nI 60 from rfl), if_pos (show nI 60 = nI 60 from rfl)]
    by_cases b : y ≤ facts (6 * r + w)
    · rw [if_pos b, decide_eq_true b]; rfl
    · rw [if_neg b, decide_eq_false b]; rfl
  · rw [if_neg (show ¬ nI 62 = nI 61 by decide), if_neg (show ¬ nI 62 = nI 60 by decide), if_neg (show ¬ nI 62 = nI 60 by decide), if_pos (show nI 62 = nI 62 from rfl)]
    by_cases b : facts (6 * r + w) ≤ y
    · rw [if_pos b, decide_eq_true b]; rfl
    · rw [if_neg b, decide_eq_false b]; rfl
/-- a word, a sign, a number -/
theorem s_word {N n p q op R r w : Nat} {V : Nat → Nat} {bytes text now facts : Nat → Int32} (hN : 10000 ≤ N) (h : zVb n V bytes text) (hR : R ≤ 60) (hr : r < R) (hop : op ≤ 8) (hw : w < 6) (hfa : ∀ k, k < 6 → fX11_of now (nI r) (nI k) = some (facts (6 * r + k)))
    (hpq : p ≤ q) (hbl : ∀ i, p ≤ i → i < q → V i = 32) (hqn : q < n) (hwd : V q = 107 ∨ V q = 112 ∨ V q = 115 ∨ V q = 116 ∨ V q = 121) (hfn : fX5_factNamed (nI (V q)) = some (nI w)) : zOutS n V bytes R r facts p (zRn n V p 0 op 0) op (fun _ => True) (zFx op) (fX11_unit_J120 N (nI n) (-1) (nI op) (nI r) now text (nI q) (nI w)) := by
  have hn := h.1
  obtain ⟨_, hv255, _, _⟩ := h.2 q hqn
  have e0 : zRn n V p 0 op 0 = zRn n V (q + 1) 1 op 0 := (zRn_look (by omega) (by omega) hpq (by omega) hbl).trans (zRn_some hqn (by
    unfold zA
    rw [if_neg (by omega)]
    show (if V q = 40 then (if 8 < op + 1 then none else some (0, op + 1, 0)) else if V q = 107 ∨ V q = 112 ∨ V q = 115 ∨ V q = 116 ∨ V q = 121 then some (1, op, 0) else none) = _
    rw [if_neg (by omega), if_pos hwd]))
  obtain ⟨t, a1, a2, a3, a4, a5⟩ := g_look hN h (show q + 1 ≤ n by omega)
  have eL : zRn n V (q + 1) 1 op 0 = zRn n V t 1 op 0 := zRn_look (by omega) (by omega) a1 a2 a3
  unfold fX11_unit_J120
  rw [if_neg (nm1 (show w < 2147483648 by omega)), nI_add, a5, Option.bind_some]
  dsimp only
  have yes : ∀ v, (v = 61 ∨ v = 60 ∨ v = 62) → zCh n V t = nI v → zOutS n V bytes R r facts p (zRn n V p 0 op 0) op (fun _ => True) (zFx op) (fX11_unit_J171 N (nI n) (-1) (nI op) (nI r) now text (nI w) (zCh n V t) (nI t)) := by
    intro v hv ev
    obtain ⟨htn, hVt⟩ := (zCh_eq h a2 (by omega)).mp ev
    have e2 : zRn n V t 1 op 0 = zRn n V (t + 1) 2 op 0 := zRn_some htn (by
      unfold zA
      rw [if_neg (a4 htn)]
      show (if V t = 61 ∨ V t = 60 ∨ V t = 62 then some (2, op, 0) else none) = _
      rw [if_pos (by omega)])
    unfold fX11_unit_J171
    rw [ev, nI_add]
    have numb : ∀ (l : Nat) (od pr : Int32) (nu pa si : Nat → Int32), 1 ≤ l → l ≤ 200 → nu (l - 1) = nI 0 → _ := fun l od pr nu pa si h1 h2 h3 => s_num (op := op) (od := od) (pr := pr) (pa := pa) (si := si) hN h h1 h2 (show t + 1 ≤ n by omega) h3
    -- the number's end is told by the reference's reader alone
    rcases numb 1 0 0 (fun _ => nI 0) (fun _ => 0) (fun _ => 0) (by omega) (by omega) rfl with ⟨f, a, y, c1, c2, c3⟩ | ⟨e, d, y, _, b1, b2, b3, b4, b5, _, _, _⟩
    · rw [c1, Option.bind_some]
      dsimp only
      rw [if_neg (nm1 (show r < 2147483648 by omega)), hfa w hw, Option.bind_some, zUn_sg hv]
      exact Or.inl ⟨_, _, f, _, rfl, c2, e0.trans (eL.trans (e2.trans c3))⟩
    · rw [b4, Option.bind_some]
      dsimp only
      rw [if_neg (nm1 (show r < 2147483648 by omega)), hfa w hw, Option.bind_some, zUn_sg hv]
      refine Or.inr ⟨_, e, rfl, by omega, b2, e0.trans (eL.trans (e2.trans (b5.trans (zRn_3 b2 b3)))), trivial, ?_⟩
      intro l di od pr nu pa si hlp
      have hl : l < 200 := by omega
      have m1 := m_blanks (op := op) (l := l) (di := di) (od := od) (pr := pr) (nu := nu) (pa := pa) (si := si) h (show 0 ≤ 9 by omega) (by omega) (by omega) (q - p) p (by omega) (fun i a b => hbl i a (by omega))
      rw [show p + (q - p) = q by omega] at m1
      have m2 : zMv n bytes q 0 op l di od pr nu pa si (q + 1) 1 op (l + 1) di od pr (upd nu l (nI 0)) (upd pa l (nI (V q))) (upd si l (-1)) := m_step h hqn (t_word hl hv255 (by omega) (by omega) hw hfn)
      have m3 := m_blanks (op := op) (l := l + 1) (di := di) (od := od) (pr := pr) (nu := upd nu l (nI 0)) (pa := upd pa l (nI (V q))) (si := upd si l (-1)) h (show 1 ≤ 9 by omega) (by omega) (by omega) (t - (q + 1)) (q + 1) (by omega) (fun i a b => a3 i a (by omega))
      rw [show q + 1 + (t - (q + 1)) = t by omega] at m3
      have m4 : zMv n bytes t 1 op (l + 1) di od pr (upd nu l (nI 0)) (upd pa l (nI (V q))) (upd si l (-1)) (t + 1) 2 op (l + 1) (nI 0) od pr (upd nu l (nI 0)) (upd pa l (nI (V q))) (upd (upd si l (-1)) (l + 1 - 1) (nI (V t))) := m_step h htn (t_sign (by omega) (by omega) (by omega))
      rcases numb (l + 1) od pr (upd nu l (nI 0)) (upd pa l (nI (V q))) (upd (upd si l (-1)) (l + 1 - 1) (nI (V t))) (by omega) (by omega) (by rw [show l + 1 - 1 = l by omega, zup_s]) with ⟨f, a, y2, c1, c2, c3⟩ | ⟨e', d', y', nu', u1, u2, u3, u4, u5, u6, u7, u8⟩
      · rw [c1] at b4
        have := congrArg (fun o => Option.map (fun s => s.2.2) o) b4
        exact absurd (Option.some.inj this) (nm1 (by omega))
      · rw [u4] at b4
        have p1 := Option.some.inj b4
        have q1 : y' = y := congrArg Prod.fst p1
        have q2 : nI e' = nI e := congrArg (fun s => s.2.1) p1
        rw [zl_eq (by omega) (by omega)] at q2
        subst q1
        subst q2
        refine ⟨l + 1, 3, nI d', nu', upd pa l (nI (V q)), upd (upd si l (-1)) (l + 1 - 1) (nI (V t)), ?_, Or.inr ⟨rfl, u3⟩, by omega, by omega, ?_, ?_⟩
        · exact m1.trans (by omega) (by omega) (m2.trans (by omega) (by omega) (m3.trans (by omega) (by omega) (m4.trans (by omega) (by omega) u6)))
        · intro i hi
          refine ⟨?_, zup_n (by omega), ?_⟩
          · rw [u8 i (by omega), zup_n (by omega)]
          · rw [zup_n (by omega), zup_n (by omega)]
        · intro L NU PA SI hL1 hL2 hag v4 v5
          obtain ⟨g1, g2, g3⟩ := hag l (by omega)
          have hPA : PA l = nI (V q) := by rw [g2, zup_s]
          have hSI : SI l = nI v := by rw [g3, show l + 1 - 1 = l by omega, zup_s, hVt]
          have hNU : NU l = y' := by
            rw [g1, ← u7, show l + 1 - 1 = l by omega]
          obtain ⟨w4, x1, x2⟩ := h_unit (k := op) (v4 := v4) (v5 := v5) (nu := NU) (pa := PA) (si := SI) (facts := facts) hL2 hR hr (show l < L by omega) (by omega) hw (by rw [hPA]; exact hfn) (by rw [hPA]; exact zne_k hv255 (by omega) (by omega)) (by rw [hPA]; exact zne_k hv255 (by omega) (by omega)) (by rw [hPA]; exact zne_k hv255 (by omega) (by omega))
          rw [hSI, hNU] at x2
          refine ⟨w4, v5, x1, fun j hj => ⟨?_, rfl⟩, ?_, rfl⟩
          · rw [x2 j (by omega), decide_eq_false (by omega), Bool.false_and, Bool.or_false]
          · rw [x2 op (by omega), decide_eq_true rfl, Bool.true_and]
  by_cases k1 : zCh n V t = nI 61
  · rw [if_pos k1]; exact yes 61 (Or.inl rfl) k1
  rw [if_neg k1]
  by_cases k2 : zCh n V t = nI 60
  · rw [if_pos k2]; exact yes 60 (Or.inr (Or.inl rfl)) k2
  rw [if_neg k2]
  by_cases k3 : zCh n V t = nI 62
  · rw [if_pos k3]; exact yes 62 (Or.inr (Or.inr rfl)) k3
  rw [if_neg k3, g_wrong, Option.bind_some]
  refine Or.inl ⟨_, _, t, _, rfl, a2, e0.trans (eL.trans ?_)⟩
  rcases Nat.lt_or_ge t n with g | g
  · refine zRn_none g ?_
    unfold zA
    rw [if_neg (a4 g)]
    show (if V t = 61 ∨ V t = 60 ∨ V t = 62 then some (2, op, 0) else none) = none
    refine if_neg (fun z => ?_)
    rcases z with z | z | z
    · exact k1 ((zCh_eq h a2 (by omega)).mpr ⟨g, z⟩)
    · exact k2 ((zCh_eq h a2 (by omega)).mpr ⟨g, z⟩)
    · exact k3 ((zCh_eq h a2 (by omega)).mpr ⟨g, z⟩)
  · obtain rfl : t = n := by omega
    rw [zRn_end, if_neg (by omega)]
