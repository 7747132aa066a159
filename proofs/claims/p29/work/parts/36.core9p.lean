/-! lists: units, parts and tests -/
theorem zFx_ft {op : Nat} {b : Bool} {v4 v5 w4 w5 : Int32} (h : zFx op b v4 v5 w4 w5) : zFt op b v4 v5 w4 w5 := by
  obtain ⟨h1, h2, h3⟩ := h
  refine ⟨h1, fun h4 => ?_⟩
  unfold zHv
  rw [h2, h3, h4, Bool.false_or, Bool.not_not]
theorem zSg.mono {n : Nat} {V : Nat → Nat} {bytes : Nat → Int32} {R r : Nat} {facts : Nat → Int32} {E E' : Int32 → Int32 → Int32 → Int32 → Prop} {op p e : Nat} (hE : ∀ v4 v5 w4 w5, E v4 v5 w4 w5 → E' v4 v5 w4 w5) (h : zSg n V bytes R r facts E op p e) : zSg n V bytes R r facts E' op p e := by
  intro l di od pr nu pa si hl
  obtain ⟨l', st', di', nu', pa', si', h1, h2, h3, h4, h5, h6⟩ := h l di od pr nu pa si hl
  refine ⟨l', st', di', nu', pa', si', h1, h2, h3, h4, h5, fun L NU PA SI a b c v4 v5 => ?_⟩
  obtain ⟨w4, w5, x, y⟩ := h6 L NU PA SI a b c v4 v5
  exact ⟨w4, w5, x, hE _ _ _ _ y⟩
/-- blanks behind -/
theorem zSg.look {n : Nat} {V : Nat → Nat} {bytes text : Nat → Int32} {R r : Nat} {facts : Nat → Int32} {E : Int32 → Int32 → Int32 → Int32 → Prop} {op p e q : Nat} (hz : zVb n V bytes text) (h : zSg n V bytes R r facts E op p e) (hpe : p ≤ e) (a1 : e ≤ q) (a2 : q ≤ n) (a3 : ∀ i, e ≤ i → i < q → V i = 32) : zSg n V bytes R r facts E op p q := by
  intro l di od pr nu pa si hl
  obtain ⟨l', st', di', nu', pa', si', h1, h2, h3, h4, h5, h6⟩ := h l di od pr nu pa si hl
  obtain ⟨st2, k1, k2⟩ := m_look (op := op) (l := l') (di := di') (od := od) (pr := pr) (nu := nu') (pa := pa') (si := si') hz h2 a1 a2 a3
  exact ⟨l', st2, di', nu', pa', si', h1.trans hpe a1 k2, k1, h3, by omega, h5, h6⟩
/-- stage behind a unit, the next byte no blank and no digit: 3 or 4 -/
theorem zSb_ok {n e st : Nat} {V : Nat → Nat} (h : zSb n V e st) : st = 3 ∨ st = 4 := h.elim Or.inr (fun z => Or.inl z.1)
/-- and: no token -/
theorem zSg.and {n : Nat} {V : Nat → Nat} {bytes text : Nat → Int32} {R r : Nat} {facts : Nat → Int32} {op p e q e' : Nat} {b b2 : Bool} (hz : zVb n V bytes text) (h : zSg n V bytes R r facts (zFx op b) op p e) (hpe : p ≤ e) (a1 : e ≤ q) (a2 : q < n) (a3 : ∀ i, e ≤ i → i < q → V i = 32) (hq : V q = 38) (hqe : q + 1 ≤ e') (h2 : zSg n V bytes R r facts (zFx op b2) op (q + 1) e') : zSg n V bytes R r facts (zFx op (b && b2)) op p e' := by
  intro l di od pr nu pa si hl
  obtain ⟨l1, st1, di1, nu1, pa1, si1, x1, x2, x3, x4, x5, x6⟩ := (h.look hz hpe a1 (by omega) a3) l di od pr nu pa si hl
  have m : zMv n bytes q st1 op l1 di1 od pr nu1 pa1 si1 (q + 1) 0 op l1 di1 od pr nu1 pa1 si1 := m_step hz a2 (by
    rw [hq]
    exact t_and (zSb_ok x2))
  obtain ⟨l2, st2, di2, nu2, pa2, si2, y1, y2, y3, y4, y5, y6⟩ := h2 l1 di1 od pr nu1 pa1 si1 (by omega)
  refine ⟨l2, st2, di2, nu2, pa2, si2, x1.trans (by omega) (by omega) (m.trans (by omega) (by omega) y1), y2, by omega, y4, x5.trans x3 y5, fun L NU PA SI c1 c2 c3 v4 v5 => ?_⟩
  obtain ⟨w4, w5, k1, k2, k3, k4⟩ := x6 L NU PA SI (by omega) c2 (y5.trans (Nat.le_refl l1) (c3.sub y3)) v4 v5
  obtain ⟨u4, u5, j1, j2, j3, j4⟩ := y6 L NU PA SI c1 c2 c3 w4 w5
  refine ⟨u4, u5, k1.trans x3 y3 j1, fun j hj => ⟨(j2 j hj).1.trans (k2 j hj).1, (j2 j hj).2.trans (k2 j hj).2⟩, ?_, j4.trans k4⟩
  rw [j3, k3]
  cases bt v4 op <;> cases b <;> cases b2 <;> rfl
/-- or: a token of its own -/
theorem zSg.or {n : Nat} {V : Nat → Nat} {bytes text : Nat → Int32} {R r : Nat} {facts : Nat → Int32} {op p e q e' : Nat} {b b2 : Bool} (hz : zVb n V bytes text) (hop : op ≤ 8) (h : zSg n V bytes R r facts (zFt op b) op p e) (hpe : p ≤ e) (a1 : e ≤ q) (a2 : q < n) (a3 : ∀ i, e ≤ i → i < q → V i = 32) (hq : V q = 124) (hqe : q + 1 ≤ e') (h2 : zSg n V bytes R r facts (zFx op b2) op (q + 1) e') : zSg n V bytes R r facts (zFt op (b || b2)) op p e' := by
  have hn := hz.1
  intro l di od pr nu pa si hl
  obtain ⟨l1, st1, di1, nu1, pa1, si1, x1, x2, x3, x4, x5, x6⟩ := (h.look hz hpe a1 (by omega) a3) l di od pr nu pa si hl
  have m : zMv n bytes q st1 op l1 di1 od pr nu1 pa1 si1 (q + 1) 0 op (l1 + 1) di1 od pr (upd nu1 l1 (nI 0)) (upd pa1 l1 (nI 124)) (upd si1 l1 (-1)) := m_step hz a2 (by
    rw [hq]
    exact t_or (zSb_ok x2) (by omega))
  obtain ⟨l2, st2, di2, nu2, pa2, si2, y1, y2, y3, y4, y5, y6⟩ := h2 (l1 + 1) di1 od pr (upd nu1 l1 (nI 0)) (upd pa1 l1 (nI 124)) (upd si1 l1 (-1)) (by omega)
  have ag : zAg l1 nu1 pa1 si1 nu2 pa2 si2 := zAg.lay.trans (Nat.le_refl l1) (y5.sub (by omega))
  refine ⟨l2, st2, di2, nu2, pa2, si2, x1.trans (by omega) (by omega) (m.trans (by omega) (by omega) y1), y2, by omega, y4, x5.trans x3 ag, fun L NU PA SI c1 c2 c3 v4 v5 => ?_⟩
  obtain ⟨w4, w5, k1, k2, k3⟩ := x6 L NU PA SI (by omega) c2 (ag.trans (Nat.le_refl l1) (c3.sub (by omega))) v4 v5
  have hPA : PA l1 = nI 124 := by rw [(c3 l1 (by omega)).2.1, (y5 l1 (by omega)).2.1, zup_s]
  obtain ⟨t4, t5, i1, i2, i3⟩ := h_or (R := R) (r := r) (facts := facts) (nu := NU) (si := SI) (v4 := w4) (v5 := w5) c2 (show l1 < L by omega) (show op < 10 by omega) hPA
  obtain ⟨u4, u5, j1, j2, j3, j4⟩ := y6 L NU PA SI c1 c2 c3 t4 t5
  refine ⟨u4, u5, k1.trans x3 (by omega) (i1.trans (by omega) y3 j1), fun j hj => ?_, fun h0 => ?_⟩
  · constructor
    · rw [(j2 j hj).1, i2 j (by omega), decide_eq_false (by omega), Bool.not_false, Bool.and_true, (k2 j hj).1]
    · rw [(j2 j hj).2, i3 j (by omega), decide_eq_false (by omega), Bool.false_and, Bool.or_false, (k2 j hj).2]
  · have e1 := k3 h0
    unfold zHv at e1 ⊢
    rw [j3, j4, i2 op (by omega), i3 op (by omega), decide_eq_true rfl, Bool.true_and, e1]
    cases bt w4 op <;> cases bt v5 op <;> cases b <;> cases b2 <;> rfl
/-- a pair of brackets -/
theorem zSg.paren {n : Nat} {V : Nat → Nat} {bytes text : Nat → Int32} {R r : Nat} {facts : Nat → Int32} {op p q e : Nat} {b : Bool} (hz : zVb n V bytes text) (hop : op < 8) (a1 : p ≤ q) (a2 : q < n) (a3 : ∀ i, p ≤ i → i < q → V i = 32) (hq : V q = 40) (hqe : q + 1 ≤ e) (he : e < n) (hc : V e = 41) (h2 : zSg n V bytes R r facts (zFt (op + 1) b) (op + 1) (q + 1) e) : zSg n V bytes R r facts (zFx op b) op p (e + 1) := by
  have hn := hz.1
  intro l di od pr nu pa si hl
  have m1 := m_blanks (op := op) (l := l) (di := di) (od := od) (pr := pr) (nu := nu) (pa := pa) (si := si) hz (show 0 ≤ 9 by omega) (by omega) (by omega) (q - p) p (by omega) (fun i a b => a3 i a (by omega))
  rw [show p + (q - p) = q by omega] at m1
  have m2 : zMv n bytes q 0 op l di od pr nu pa si (q + 1) 0 (op + 1) (l + 1) di od pr (upd nu l (nI 0)) (upd pa l (nI 40)) (upd si l (-1)) := m_step hz a2 (by
    rw [hq]
    exact t_open (by omega) hop)
  obtain ⟨l1, st1, di1, nu1, pa1, si1, x1, x2, x3, x4, x5, x6⟩ := h2 (l + 1) di od pr (upd nu l (nI 0)) (upd pa l (nI 40)) (upd si l (-1)) (by omega)
  have m3 : zMv n bytes e st1 (op + 1) l1 di1 od pr nu1 pa1 si1 (e + 1) 4 op (l1 + 1) di1 od pr (upd nu1 l1 (nI 0)) (upd pa1 l1 (nI 41)) (upd si1 l1 (-1)) := m_step hz he (by
    rw [hc]
    exact t_close (zSb_ok x2) (by omega) (by omega))
  have ag1 : zAg l nu pa si nu1 pa1 si1 := zAg.lay.trans (Nat.le_refl l) (x5.sub (by omega))
  have ag2 : zAg l1 nu1 pa1 si1 (upd nu1 l1 (nI 0)) (upd pa1 l1 (nI 41)) (upd si1 l1 (-1)) := zAg.lay
  refine ⟨l1 + 1, 4, di1, upd nu1 l1 (nI 0), upd pa1 l1 (nI 41), upd si1 l1 (-1), m1.trans (by omega) (by omega) (m2.trans (by omega) (by omega) (x1.trans (by omega) (by omega) m3)), Or.inl rfl, by omega, by omega, ag1.trans (by omega) ag2, fun L NU PA SI c1 c2 c3 v4 v5 => ?_⟩
  have c4 : zAg l1 nu1 pa1 si1 NU PA SI := ag2.trans (Nat.le_refl l1) (c3.sub (by omega))
  have hP1 : PA l = nI 40 := by rw [(c4 l (by omega)).2.1, (x5 l (by omega)).2.1, zup_s]
  have hP2 : PA l1 = nI 41 := by rw [(c3 l1 (by omega)).2.1, zup_s]
  obtain ⟨w4, w5, i1, i2, i3⟩ := h_open (R := R) (r := r) (facts := facts) (nu := NU) (si := SI) (v4 := v4) (v5 := v5) c2 (show l < L by omega) (show op < 9 by omega) hP1
  obtain ⟨u4, u5, j1, j2, j3⟩ := x6 L NU PA SI (by omega) c2 c4 w4 w5
  obtain ⟨y4, k1, k2⟩ := h_close (R := R) (r := r) (facts := facts) (nu := NU) (si := SI) (v4 := u4) (v5 := u5) c2 (show l1 < L by omega) (show op < 9 by omega) hP2
  have h0 : bt w4 (op + 1) = false := by rw [i2 (op + 1) (by omega), decide_eq_true rfl, Bool.not_true, Bool.and_false]
  have h1 : bt w5 (op + 1) = false := by rw [i3 (op + 1) (by omega), decide_eq_true rfl, Bool.not_true, Bool.and_false]
  have hv := j3 h0
  rw [h1, Bool.false_or] at hv
  have low : ∀ j, j < op + 1 → bt u4 j = bt v4 j ∧ bt u5 j = bt v5 j := fun j hj => by
    constructor
    · rw [(j2 j hj).1, i2 j (by omega), decide_eq_false (by omega), Bool.not_false, Bool.and_true]
    · rw [(j2 j hj).2, i3 j (by omega), decide_eq_false (by omega), Bool.not_false, Bool.and_true]
  refine ⟨y4, u5, i1.trans (by omega) (by omega) (j1.trans x3 (by omega) k1), fun j hj => ⟨?_, (low j (by omega)).2⟩, ?_, (low op (by omega)).2⟩
  · rw [k2 j (by omega), decide_eq_false (by omega), Bool.false_and, Bool.or_false, (low j (by omega)).1]
  · rw [k2 op (by omega), decide_eq_true rfl, Bool.true_and, hv, (low op (by omega)).1]
