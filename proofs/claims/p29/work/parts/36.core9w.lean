/-! lists: both sides' rows of a text -/
theorem zR_le {V : Nat → Nat} : ∀ (k p st op dg f : Nat), zR V k p st op dg = some f → f ≤ p + k
  | 0, p, st, op, dg, f, h => by
    have e : (if st = 6 ∨ st = 8 ∨ st = 9 then none else some p) = some f := h
    by_cases q : st = 6 ∨ st = 8 ∨ st = 9
    · rw [if_pos q] at e
      cases e
    · rw [if_neg q] at e
      have := Option.some.inj e
      omega
  | k + 1, p, st, op, dg, f, h => by
    have e : (match zA st op dg (V p) with | none => some p | some (s, o, d) => zR V k (p + 1) s o d) = some f := h
    cases hz : zA st op dg (V p) with
    | none =>
      rw [hz] at e
      have e2 : some p = some f := e
      have := Option.some.inj e2
      omega
    | some z =>
      obtain ⟨s, o, d⟩ := z
      rw [hz] at e
      have := zR_le k (p + 1) s o d f e
      omega
theorem zRn_le {n f : Nat} {V : Nat → Nat} (h : zRn n V 0 0 0 0 = some f) : f ≤ n := by
  have := zR_le (n - 0) 0 0 0 0 f h
  omega
theorem l_cread {N n : Nat} {V : Nat → Nat} {bytes text : Nat → Int32} {di la op od pr sg : Int32} {nu pa si : Nat → Int32} (hN : 10000 ≤ N) (h : zVb n V bytes text) : ∃ a b c d e f g i j, fX5_read N di la op od pr sg nu pa si (nI n) bytes = some (zRe (zRn n V 0 0 0 0), a, b, c, d, e, f, g, i, j) := by
  have hn := h.1
  obtain ⟨a, b, c, d, e, f, g, i, j, r⟩ := c_readL h n 0 N 0 0 0 0 (nI 0) (-1) (nI 0) nu pa si (by omega) (by omega) (by omega) (by omega) (by omega) (by omega) (fun _ => rfl)
  refine ⟨a, b, c, d, e, f, g, i, j, ?_⟩
  unfold fX5_read
  exact r
theorem l_gread {N n : Nat} {V : Nat → Nat} {bytes text now : Nat → Int32} {as at_ by_ fa op pm : Int32} (hN : 10000 ≤ N) (h : zVb n V bytes text) : ∃ b a1 a2 a3 o m, fX11_read N as at_ by_ fa (nI n) op pm now text (-1) = some (b, a1, a2, a3, zRe (zRn n V 0 0 0 0), o, m) := by
  obtain ⟨a, b, c, d, e, f, y⟩ := g_fault (as := as) (at_ := at_) (by_ := by_) (fa := fa) (op := op) (pm := pm) (T := 0) (now := now) hN h
  unfold fX11_fault at y
  cases hx : fX11_read N as at_ by_ fa (nI n) op pm now text (-1) with
  | none =>
    rw [hx] at y
    have y2 : none = some (zRe (zRn n V 0 0 0 0), a, b, c, d, e, f, nI 0) := y
    cases y2
  | some z =>
    obtain ⟨b, a1, a2, a3, a4, o, m⟩ := z
    rw [hx, Option.bind_some] at y
    have e4 : a4 = zRe (zRn n V 0 0 0 0) := congrArg Prod.fst (Option.some.inj y)
    rw [e4]
    exact ⟨b, a1, a2, a3, o, m, rfl⟩
/-- a text with a fault: nothing is listed -/
theorem l_bad {N n f : Nat} {V : Nat → Nat} {bytes text now times listT ordT : Nat → Int32} {di la op od pr sg as at_ by_ fa mo pm li R M : Int32} {nu pa si ticks dropped facts splits struck waved cuts : Nat → Int32} (hN : 10000 ≤ N) (h : zVb n V bytes text) (hf : zRn n V 0 0 0 0 = some f) :
    (∃ d a b e p st nu' pa' si' t', fX3_gather N di la op od pr sg nu pa si times (nI n) bytes ticks R dropped facts splits struck waved M cuts = some (false, d, a, b, e, p, st, nu', pa', si', t')) ∧
    (∃ a1 a2 a3 a4 a5 a6 a7 o' t', fX11_list N as at_ by_ fa (nI n) li mo pm now ordT text listT = some (false, a1, a2, a3, a4, a5, a6, a7, o', t')) := by
  have hn := h.1
  have hl := zRn_le hf
  have hne : ¬ zRe (zRn n V 0 0 0 0) = -1 := by
    rw [hf]
    exact of_eq_false (zl_ne1 (show f < 2 ^ 31 by omega))
  constructor
  · obtain ⟨a, b, c, d, e, f, g, i, j, r⟩ := l_cread (di := di) (la := la) (op := op) (od := od) (pr := pr) (sg := sg) (nu := nu) (pa := pa) (si := si) hN h
    unfold fX3_gather
    rw [r, Option.bind_some]
    dsimp only
    rw [if_neg hne]
    exact ⟨_, _, _, _, _, _, _, _, _, _, rfl⟩
  · obtain ⟨b, a1, a2, a3, o, m, r⟩ := l_gread (as := as) (at_ := at_) (by_ := by_) (fa := fa) (op := mo) (pm := pm) (now := now) hN h
    unfold fX11_list
    rw [r, Option.bind_some]
    dsimp only
    rw [if_neg hne]
    exact ⟨_, _, _, _, _, _, _, _, _, rfl⟩
theorem zSq_n {tm : Nat → Int32} {i c : Nat} {s : Nat → Nat} (h : zSq tm i c s) : zcb (fun r => zls tm r) i = c := by
  have e : zcb (fun r => zls tm r && true) i = zcb (fun _ : Nat => true) c := h.2.2 (fun _ => true)
  have a := zcb_congr (d := fun r => zls tm r && true) (d' := fun r => zls tm r) i (fun k _ => Bool.and_true _)
  have b := zcb_congr (d := fun _ : Nat => true) (d' := fun j => decide (j < c)) c (fun k hk => by
    show true = decide (k < c)
    rw [decide_eq_true hk])
  rw [zcb_below c (Nat.le_refl c)] at b
  rw [← a, e, b]
theorem l_all {N n R : Nat} {V : Nat → Nat} {bytes text now facts : Nat → Int32} {nu0 pa0 si0 : Nat → Int32} {di0 la0 op0 od0 pr0 sg0 : Int32} (hN : 10000 ≤ N) (h : zVb n V bytes text) (hR : R ≤ 60) (h0 : 0 < R) (hfa : ∀ r, r < R → ∀ k, k < 6 → fX11_of now (nI r) (nI k) = some (facts (6 * r + k))) (hgood : zRn n V 0 0 0 0 = none) :
    ∃ (L st : Nat) (di pr : Int32) (v : Nat) (NU PA SI : Nat → Int32) (ho : Nat → Bool), (v = 110 ∨ v = 103) ∧ fX5_read N di0 la0 op0 od0 pr0 sg0 nu0 pa0 si0 (nI n) bytes = some (-1, di, nI L, nI 0, nI v, pr, nI st, NU, PA, SI) ∧
      (∀ r, r < R → fX5_holdsFor N (nI L) NU PA SI (nI R) facts (nI r) = some (ho r)) ∧
      ∀ r, r < R → ∀ as at_ by_ fa op pm, ∃ a1 o1, fX11_read N as at_ by_ fa (nI n) op pm now text (nI r) = some (ho r, nI r, a1, zb (decide (v = 103)), -1, o1, pr) := by
  obtain ⟨_, _, _, L, st, di, pr, v, NU, PA, SI, hv, _, _, _, hc⟩ := s_read (as := 0) (at_ := 0) (by_ := 0) (fa := 0) (op := 0) (pm := 0) (nu0 := nu0) (pa0 := pa0) (si0 := si0) hN h hR h0 (hfa 0 h0) hgood
  have key : ∀ r, r < R → ∀ as at_ by_ fa op pm, ∃ b a1 o1, fX5_holdsFor N (nI L) NU PA SI (nI R) facts (nI r) = some b ∧ fX11_read N as at_ by_ fa (nI n) op pm now text (nI r) = some (b, nI r, a1, zb (decide (v = 103)), -1, o1, pr) := by
    intro r hr as at_ by_ fa op pm
    obtain ⟨b, a1, o1, L', st', di', pr', v', NU', PA', SI', hv', hL', e1, e2, hc'⟩ := s_read (as := as) (at_ := at_) (by_ := by_) (fa := fa) (op := op) (pm := pm) (nu0 := nu0) (pa0 := pa0) (si0 := si0) hN h hR hr (hfa r hr) hgood
    have e := (hc di0 la0 op0 od0 pr0 sg0).symm.trans (hc' di0 la0 op0 od0 pr0 sg0)
    have e' := Option.some.inj e
    have eL : nI L = nI L' := congrArg (fun z => z.2.2.1) e'
    have ev : nI v = nI v' := congrArg (fun z => z.2.2.2.2.1) e'
    have ep : pr = pr' := congrArg (fun z => z.2.2.2.2.2.1) e'
    have eN : NU = NU' := congrArg (fun z => z.2.2.2.2.2.2.2.1) e'
    have eP : PA = PA' := congrArg (fun z => z.2.2.2.2.2.2.2.2.1) e'
    have eS : SI = SI' := congrArg (fun z => z.2.2.2.2.2.2.2.2.2) e'
    rw [zl_eq (by omega) (by omega)] at ev
    subst ev; subst ep; subst eN; subst eP; subst eS
    rw [eL]
    exact ⟨b, a1, o1, e2, e1⟩
  refine ⟨L, st, di, pr, v, NU, PA, SI, fun r => (fX5_holdsFor N (nI L) NU PA SI (nI R) facts (nI r)).getD false, hv, hc di0 la0 op0 od0 pr0 sg0, fun r hr => ?_, fun r hr as at_ by_ fa op pm => ?_⟩
  · obtain ⟨b, _, _, e, _⟩ := key r hr 0 0 0 0 0 0
    simp only [e, Option.getD_some]
  · obtain ⟨b, a1, o1, e, e2⟩ := key r hr as at_ by_ fa op pm
    refine ⟨a1, o1, ?_⟩
    simp only [e, e2, Option.getD_some]
theorem zSq_0 {tm : Nat → Int32} : zSq tm 0 0 (fun _ => 0) := ⟨fun k hk => by omega, fun k k' a b => by omega, fun _ => rfl⟩
/-- what both sides gather of a text without a fault -/
def zGa (R : Nat) (tm : Nat → Int32) (c : Nat) (s : Nat → Nat) (o t : Nat → Int32) (PR pm : Int32) : Prop :=
  zSq tm 60 c s ∧ c ≤ 60 ∧ (∀ k, k < c → o k = nI (s k) ∧ t k = tm (s k)) ∧ (c = 0 ∨ pm = PR) ∧ ∀ r, R ≤ r → r < 60 → tm r = -1
theorem l_good {N n M R S : Nat} {V : Nat → Nat} {bytes text now times listT ordT : Nat → Int32} {di la op od pr sg as at_ by_ fa mo pm li : Int32} {nu pa si ticks dropped facts splits order struck torn waved bearings cuts deaths places : Nat → Int32} {entered strikings mats : Int32} (hN : 10000 ≤ N) (hz : zRaceN M R S ticks entered strikings dropped facts splits order struck torn waved mats bearings cuts deaths places now) (h : zVb n V bytes text) (hgood : zRn n V 0 0 0 0 = none) :
    ∃ (tm : Nat → Int32) (c : Nat) (s : Nat → Nat) (o t : Nat → Int32) (PR pm' : Int32), zGa R tm c s o t PR pm' ∧
    (∃ d a b e st nu' pa' si', fX3_gather N di la op od pr sg nu pa si times (nI n) bytes ticks (nI R) dropped facts splits struck waved (nI M) cuts = some (true, d, a, b, e, PR, st, nu', pa', si', tm)) ∧
    (∃ a1 a2 a3 a4 a6, fX11_list N as at_ by_ fa (nI n) li mo pm now ordT text listT = some (true, a1, a2, a3, a4, nI c, a6, pm', o, t)) := by
  have hn := h.1
  obtain ⟨⟨_, hM, hR, _⟩, _, _, _, n0, n1, _⟩ := hz.1
  obtain ⟨gb, g1, g2, g3, go, gm, gr⟩ := l_gread (as := as) (at_ := at_) (by_ := by_) (fa := fa) (op := mo) (pm := pm) (now := now) hN h
  have hre : zRe (zRn n V 0 0 0 0) = -1 := by rw [hgood]; rfl
  obtain ⟨fl, ef, hf⟩ := c_fill60 (x := -1) N 0 times (by omega) (by omega)
  have efill : fJ7_fill_53178 60 N times (-1) = some fl := by
    unfold fJ7_fill_53178
    exact ef
  by_cases h0 : R = 0
  · subst h0
    obtain ⟨a, b, c, d, e, f, g, i, j, r⟩ := l_cread (di := di) (la := la) (op := op) (od := od) (pr := pr) (sg := sg) (nu := nu) (pa := pa) (si := si) hN h
    have hz0 : zSq fl 60 0 (fun _ => 0) := by
      have := zSq_ext (zSq_0 (tm := fl)) 60 (fun r a b => (hf r).1 ⟨by omega, by omega⟩)
      rw [show 0 + 60 = 60 from rfl] at this
      exact this
    refine ⟨fl, 0, fun _ => 0, ordT, listT, e, gm, ⟨hz0, by omega, fun k hk => by omega, Or.inl rfl, fun r _ b => (hf r).1 ⟨by omega, b⟩⟩, ⟨a, b, c, d, f, g, i, j, ?_⟩, ⟨g1, g2, g3, -1, go, ?_⟩⟩
    · unfold fX3_gather
      rw [r, Option.bind_some]
      dsimp only
      rw [hre, if_pos (show (-1 : Int32) = -1 from rfl), efill, Option.bind_some, show N = (N - 1) + 1 by omega, fX3_gather_L24]
      unfold fX6_size
      rw [Option.bind_some, if_pos (show nI 0 ≤ nI 0 by decide)]
    · unfold fX11_list
      rw [gr, Option.bind_some]
      dsimp only
      rw [hre, if_pos (show (-1 : Int32) = -1 from rfl), show N = (N - 1) + 1 by omega, fX11_list_L23, g_runners, Option.bind_some, n1, if_pos (show nI 0 ≤ nI 0 by decide)]
  · have hq : ∀ r, r < R → zQr M R r ticks facts splits dropped waved struck torn now := fun r hr => zqr_of hz hr
    have hcu := zcu_of hz
    obtain ⟨L, st, dj, PR, v, NU, PA, SI, ho, hv, hrd, hH, hG⟩ := l_all (di0 := di) (la0 := la) (op0 := op) (od0 := od) (pr0 := pr) (sg0 := sg) (nu0 := nu) (pa0 := pa) (si0 := si) hN h hR (show 0 < R by omega) (fun r hr k hk => by rw [g_of (by omega) (by omega)]; exact congrArg some ((hq r hr).2.2.1 k hk)) hgood
    obtain ⟨tvf, hSF⟩ : ∃ tvf : Nat → Int32, ∀ r, r < R → fX4_timeSince N ticks (nI R) dropped facts splits struck waved (nI M) cuts (nI r) (if v = 103 then ticks (facts (6 * r + 5)).toNatClampNeg else zSt ticks facts splits r) = some (tvf r) ∧ fX11_timeFrom N now (nI r) (if v = 103 then ticks (facts (6 * r + 5)).toNatClampNeg else zSt ticks facts splits r) = some (tvf r) := by
      refine ⟨fun r => (fX4_timeSince N ticks (nI R) dropped facts splits struck waved (nI M) cuts (nI r) (if v = 103 then ticks (facts (6 * r + 5)).toNatClampNeg else zSt ticks facts splits r)).getD 0, fun r hr => ?_⟩
      obtain ⟨w, w1, w2, _⟩ := q_time (x := (if v = 103 then ticks (facts (6 * r + 5)).toNatClampNeg else zSt ticks facts splits r)) hN (hq r hr) hcu
      simp only [w1, w2, Option.getD_some, and_self]
    have hS := fun r hr => (hSF r hr).1
    have hF := fun r hr => (hSF r hr).2
    have htime : ∀ r, r < R → fX11_timeOf N now (nI r) (zb (decide (v = 103))) = some (tvf r) := by
      intro r hr
      have e := hF r hr
      obtain ⟨_, _, hfa, ⟨c, hc, ec⟩, ht, _⟩ := hq r hr
      unfold fX11_timeOf
      rcases hv with rfl | rfl
      · rw [decide_eq_false (show ¬ (110 : Nat) = 103 by decide), if_pos zl_f0, g_start (hq r hr), Option.bind_some]
        rw [if_neg (show ¬ (110 : Nat) = 103 by decide)] at e
        rw [e, Option.bind_some]
      · rw [decide_eq_true (show (103 : Nat) = 103 from rfl), if_neg zl_t0, g_of (by omega) (by omega), Option.bind_some, hfa 5 (by omega), ec, g_gunOf hc, Option.bind_some, ht c hc]
        rw [if_pos (show (103 : Nat) = 103 from rfl), ec, zl_c (by omega)] at e
        rw [e, Option.bind_some]
    obtain ⟨tm, eC, t1, t2⟩ := c_gatherL (nu := NU) (pa := PA) (si := SI) (L := L) hR hv hq hH hS R 0 N fl (by omega) (by omega)
    have htm : ∀ r, r < R → tm r = if ho r = true then tvf r else -1 := by
      intro r hr
      rw [t1 r (by omega) hr, (hf r).1 ⟨by omega, by omega⟩]
    obtain ⟨at', fa', op', as', by', pm', c', o', t', s', eG, z1, z2, z3⟩ := g_L23 (text := text) (now := now) (n := n) hN hR n1 hG htime (fun r hr => by
        obtain ⟨w, _, w2, _⟩ := q_state hN (hq r hr) hcu
        exact ⟨w, w2⟩) (fun r hr hn => q_tst hN (hq r hr) hcu (hF r hr) hn) htm R 0 N 0 g2 (-1) go g1 g3 gm ordT listT (fun _ => 0) (by omega) (by omega) zSq_0 (fun k hk => by omega) (Or.inl rfl)
    have hrest : ∀ r, R ≤ r → r < 60 → tm r = -1 := fun r a b => by rw [t2 r (Or.inr a), (hf r).1 ⟨by omega, b⟩]
    have z4 := zSq_ext z1 (60 - R) (fun r a b => hrest r a (by omega))
    rw [show R + (60 - R) = 60 by omega] at z4
    have hc60 : c' ≤ 60 := by
      have e := zSq_n z4
      have b := zcb_le (d := fun r => zls tm r) 60
      omega
    refine ⟨tm, c', s', o', t', PR, pm', ⟨z4, hc60, z2, z3, hrest⟩, ⟨dj, nI L, nI 0, nI v, nI st, NU, PA, SI, ?_⟩, ⟨as', at', by', fa', op', ?_⟩⟩
    · unfold fX3_gather
      rw [hrd, Option.bind_some]
      dsimp only
      rw [if_pos (show (-1 : Int32) = -1 from rfl), efill, Option.bind_some]
      exact eC _
    · unfold fX11_list
      rw [gr, Option.bind_some]
      dsimp only
      rw [hre, if_pos (show (-1 : Int32) = -1 from rfl)]
      exact eG _
