/-! lists: the whole text -/
theorem t_order {op l v : Nat} {di od pr : Int32} {nu pa si : Nat → Int32} (hv : v = 110 ∨ v = 103) : fX5_take di (nI l) (nI op) od pr (nI 5) nu pa si (nI v) = some (true, nI 0, nI l, nI op, nI v, pr, nI 6, nu, pa, si) := by
  unfold fX5_take fX5_takeOrder
  rw [if_neg (show ¬ nI v = nI 32 by rw [zl_eq (by omega) (by omega)]; omega), if_neg (show ¬ nI 5 = nI 0 by decide), if_neg (show ¬ nI 5 = nI 1 by decide), if_neg (show ¬ nI 5 = nI 2 by decide), if_neg (show ¬ nI 5 = nI 3 by decide), if_neg (show ¬ nI 5 = nI 4 by decide), if_pos (show nI 5 = nI 5 from rfl)]
  rcases hv with rfl | rfl
  · rw [if_pos (show nI 110 = nI 110 from rfl), Option.bind_some]
  · rw [if_neg (show ¬ nI 103 = nI 110 by decide), if_pos (show nI 103 = nI 103 from rfl), Option.bind_some]
theorem t_semi2 {op l : Nat} {di od pr : Int32} {nu pa si : Nat → Int32} : fX5_take di (nI l) (nI op) od pr (nI 6) nu pa si (nI 59) = some (true, di, nI l, nI op, od, pr, nI 7, nu, pa, si) := by
  unfold fX5_take
  rw [if_neg (show ¬ nI 59 = nI 32 by decide), if_neg (show ¬ nI 6 = nI 0 by decide), if_neg (show ¬ nI 6 = nI 1 by decide), if_neg (show ¬ nI 6 = nI 2 by decide), if_neg (show ¬ nI 6 = nI 3 by decide), if_neg (show ¬ nI 6 = nI 4 by decide), if_neg (show ¬ nI 6 = nI 5 by decide), if_pos (show nI 6 = nI 6 from rfl), if_pos (show nI 59 = nI 59 from rfl)]
theorem t_pdig {st op l v dg : Nat} {od pr : Int32} {nu pa si : Nat → Int32} (hs : st = 7 ∨ st = 8) (hv : 48 ≤ v ∧ v ≤ 57) (hd : dg + 1 ≤ 5) : fX5_take (nI dg) (nI l) (nI op) od pr (nI st) nu pa si (nI v) = some (true, nI (dg + 1), nI l, nI op, od, pr * nI 10 + nI v - nI 48, nI 8, nu, pa, si) := by
  have e : ∀ stage : Int32, fX5_takePrizeDigit (nI dg) pr stage (nI v) = some (true, nI (dg + 1), pr * nI 10 + nI v - nI 48, nI 8) := fun stage => by
    unfold fX5_takePrizeDigit
    rw [c_digit5 (by omega), Option.bind_some, decide_eq_true hv, if_neg zl_t0, nI_add, if_pos (show nI (dg + 1) ≤ nI 5 by rw [zl_le (by omega) (by omega)]; exact hd)]
  unfold fX5_take
  rcases hs with rfl | rfl
  · rw [if_neg (zne_k (by omega) (by omega) (show ¬ v = 32 by omega)), if_neg (show ¬ nI 7 = nI 0 by decide), if_neg (show ¬ nI 7 = nI 1 by decide), if_neg (show ¬ nI 7 = nI 2 by decide), if_neg (show ¬ nI 7 = nI 3 by decide), if_neg (show ¬ nI 7 = nI 4 by decide), if_neg (show ¬ nI 7 = nI 5 by decide), if_neg (show ¬ nI 7 = nI 6 by decide), if_pos (show nI 7 = nI 7 from rfl), e, Option.bind_some]
  · rw [if_neg (zne_k (by omega) (by omega) (show ¬ v = 32 by omega)), if_neg (show ¬ nI 8 = nI 0 by decide), if_neg (show ¬ nI 8 = nI 1 by decide), if_neg (show ¬ nI 8 = nI 2 by decide), if_neg (show ¬ nI 8 = nI 3 by decide), if_neg (show ¬ nI 8 = nI 4 by decide), if_neg (show ¬ nI 8 = nI 5 by decide), if_neg (show ¬ nI 8 = nI 6 by decide), if_neg (show ¬ nI 8 = nI 7 by decide), if_pos (show nI 8 = nI 8 from rfl), e, Option.bind_some]
theorem t_blank8 {op l : Nat} {di od pr : Int32} {nu pa si : Nat → Int32} : fX5_take di (nI l) (nI op) od pr (nI 8) nu pa si (nI 32) = some (true, di, nI l, nI op, od, pr, nI 9, nu, pa, si) := by
  unfold fX5_take fX5_endNumber
  rw [if_pos (show nI 32 = nI 32 from rfl), if_neg (show ¬ nI 8 = nI 3 by decide), if_pos (show nI 8 = nI 8 from rfl), Option.bind_some]
/-- the prize's number, digit by digit -/
theorem s_pnumL {n op l : Nat} {V : Nat → Nat} {bytes text : Nat → Int32} {od : Int32} {nu pa si : Nat → Int32} (h : zVb n V bytes text) : ∀ (k p m dg : Nat) (x : Int32), p + k = n → k + 1 ≤ m → dg ≤ 5 →
    (∃ f a y, fX11_number_L20 (nI n) text (fun (v1_20 : Int32) (v2_20 : Int32) (t_at_l20 : Int32) (t_fault_l20 : Int32) => some (v1_20, t_at_l20, t_fault_l20)) m x (nI dg) (nI p) (-1) = some (y, a, nI f) ∧ f ≤ n ∧ zRn n V p 8 op dg = some f) ∨
    (∃ e d y, p ≤ e ∧ e ≤ n ∧ (e < n → ¬ (48 ≤ V e ∧ V e ≤ 57)) ∧ fX11_number_L20 (nI n) text (fun (v1_20 : Int32) (v2_20 : Int32) (t_at_l20 : Int32) (t_fault_l20 : Int32) => some (v1_20, t_at_l20, t_fault_l20)) m x (nI dg) (nI p) (-1) = some (y, nI e, -1) ∧ zRn n V p 8 op dg = zRn n V e 8 op d ∧
      zMv n bytes p 8 op l (nI dg) od x nu pa si e 8 op l (nI d) od y nu pa si) := by
  intro k
  have hn := h.1
  induction k with
  | zero =>
    intro p m dg x h1 h2 h3
    obtain rfl : p = n := by omega
    cases m with
    | zero => omega
    | succ m =>
      refine Or.inr ⟨p, dg, x, Nat.le_refl p, Nat.le_refl p, fun a => by omega, ?_, rfl, zMv.refl⟩
      rw [fX11_number_L20, if_pos (show nI p ≤ nI p by rw [zl_le (by omega) (by omega)]; exact Nat.le_refl _)]
  | succ k ih =>
    intro p m dg x h1 h2 h3
    cases m with
    | zero => omega
    | succ m =>
      have hp : p < n := by omega
      obtain ⟨_, hv, _, ht⟩ := h.2 p hp
      have hd := (g_v8 (V p) (by omega)).2.2.1
      have z : zin (nI p) 200 := zin_k (by omega) (by omega)
      rw [fX11_number_L20, if_neg (show ¬ nI n ≤ nI p by rw [zl_le (by omega) (by omega)]; omega), if_pos z, if_pos z, zl_c (show p < 2 ^ 31 by omega), ht, hd, Option.bind_some]
      by_cases q : 48 ≤ V p ∧ V p ≤ 57
      · rw [decide_eq_true q, if_neg zl_t0]
        have eA : zA 8 op dg (V p) = zDi 8 op dg (V p) := zA_dig (by omega) q
        by_cases h5 : dg = 5
        · rw [if_pos (zeq_k h5), g_wrong, Option.bind_some]
          refine Or.inl ⟨p, _, _, rfl, by omega, zRn_none hp (eA.trans ?_)⟩
          unfold zDi
          rw [if_pos q, if_neg (by omega)]
        · have e8 : (nI (V p)).toInt8.toInt32 = nI (V p) := g_v8d (V p) q.1 q.2
          rw [if_neg (show ¬ nI dg = nI 5 by rw [zl_eq (by omega) (by omega)]; exact h5), nI_add, nI_add, e8, Int32.mul_comm (nI 10) x]
          have eS : zRn n V p 8 op dg = zRn n V (p + 1) 8 op (dg + 1) := zRn_some hp (eA.trans (by
            unfold zDi
            rw [if_pos q, if_pos (by omega)]))
          have mv : zMv n bytes p 8 op l (nI dg) od x nu pa si (p + 1) 8 op l (nI (dg + 1)) od (x * nI 10 + nI (V p) - nI 48) nu pa si := m_step h hp (t_pdig (Or.inr rfl) q (by omega))
          rcases ih (p + 1) m (dg + 1) (x * nI 10 + nI (V p) - nI 48) (by omega) (by omega) (by omega) with ⟨f, a, y, e1, e2, e3⟩ | ⟨e, d, y, b1, b2, b3, b4, b5, b6⟩
          · exact Or.inl ⟨f, a, y, e1, e2, eS.trans e3⟩
          · exact Or.inr ⟨e, d, y, by omega, b2, b3, b4, eS.trans b5, mv.trans (by omega) (by omega) b6⟩
      · rw [decide_eq_false q, if_pos zl_f0]
        exact Or.inr ⟨p, dg, x, Nat.le_refl p, by omega, fun _ => q, rfl, rfl, zMv.refl⟩
theorem h_holds {N L R r : Nat} {nu pa si facts : Nat → Int32} {b : Bool} {w4 w5 : Int32} (hN : 10000 ≤ N) (hL : L ≤ 200) (h : zEf L R r nu pa si facts 0 0 (nI 0) (nI 0) 0 L w4 w5) (hv : zHv w4 w5 0 = b) : fX5_holdsFor N (nI L) nu pa si (nI R) facts (nI r) = some b := by
  have e := h (fun (v3_11 : Int32) (v4_11 : Int32) (v5_11 : Int32) (v6_11 : Int32) => (if (v3_11 &&& (v5_11 ||| (v4_11 ^^^ (-1 : Int32)))) = 0 then some (false) else some (true))) (N - L)
  rw [Nat.sub_zero, show N - L + L = N by omega] at e
  unfold fX5_holdsFor
  refine Eq.trans e ?_
  rw [show N - L = (N - L - 1) + 1 by omega, fX5_holdsFor_L11, if_pos (show nI L ≤ nI L by rw [zl_le (by omega) (by omega)]; exact Nat.le_refl _)]
  by_cases q : (nI (2 ^ 0) &&& (w5 ||| (w4 ^^^ (-1)))) = 0
  · rw [if_pos q, ← hv, (b_val (show 0 < 10 by omega)).mp q]
  · rw [if_neg q]
    cases hz : zHv w4 w5 0 with
    | true => rw [← hv, hz]
    | false => exact absurd ((b_val (show 0 < 10 by omega)).mpr hz) q
theorem s_pnum {N n p op l : Nat} {V : Nat → Nat} {bytes text : Nat → Int32} {od : Int32} {nu pa si : Nat → Int32} (hN : 10000 ≤ N) (h : zVb n V bytes text) (hp : p ≤ n) :
    (∃ f a y, fX11_number N (nI p) (-1) (nI n) text = some (y, a, nI f) ∧ f ≤ n ∧ zRn n V p 7 op 0 = some f) ∨
    (∃ e d y, p ≤ e ∧ e ≤ n ∧ (e < n → ¬ (48 ≤ V e ∧ V e ≤ 57)) ∧ fX11_number N (nI p) (-1) (nI n) text = some (y, nI e, -1) ∧ zRn n V p 7 op 0 = zRn n V e 8 op d ∧
      zMv n bytes p 7 op l (nI 0) od (nI 0) nu pa si e 8 op l (nI d) od y nu pa si) := by
  have hn := h.1
  obtain ⟨q, a1, a2, a3, a4, a5⟩ := g_look hN h hp
  have eL : zRn n V p 7 op 0 = zRn n V q 7 op 0 := zRn_look (by omega) (by omega) a1 a2 a3
  have mB := m_blanks (op := op) (l := l) (di := nI 0) (od := od) (pr := nI 0) (nu := nu) (pa := pa) (si := si) h (show 7 ≤ 9 by omega) (by omega) (by omega) (q - p) p (by omega) (fun i a b => a3 i a (by omega))
  rw [show p + (q - p) = q by omega] at mB
  unfold fX11_number
  rw [a5, Option.bind_some]
  dsimp only
  have bad : (q < n → ¬ (48 ≤ V q ∧ V q ≤ 57)) → zRn n V q 7 op 0 = some q := by
    intro hb
    rcases Nat.lt_or_ge q n with g | g
    · refine zRn_none g ?_
      unfold zA
      rw [if_neg (a4 g)]
      show zDi 8 op 0 (V q) = none
      unfold zDi
      rw [if_neg (hb g)]
    · obtain rfl : q = n := by omega
      rw [zRn_end, if_neg (by omega)]
  by_cases z : q = n
  · have e1 : fX11_isDigit (zCh n V q) = some false := by
      unfold zCh
      rw [if_pos z]
      decide
    rw [e1, Option.bind_some, if_pos zl_f0, g_wrong, Option.bind_some]
    exact Or.inl ⟨q, _, _, rfl, a2, eL.trans (bad (fun g => by omega))⟩
  · obtain ⟨_, hv, _, ht⟩ := h.2 q (by omega)
    have e1 : fX11_isDigit (zCh n V q) = some (decide (48 ≤ V q ∧ V q ≤ 57)) := by
      unfold zCh
      rw [if_neg z]
      exact (g_v8 (V q) (by omega)).2.2.2
    rw [e1, Option.bind_some]
    by_cases w : 48 ≤ V q ∧ V q ≤ 57
    · rw [decide_eq_true w, if_neg zl_t0]
      have e2 : zRn n V q 7 op 0 = zRn n V q 8 op 0 := by
        have x1 : zA 7 op 0 (V q) = zDi 8 op 0 (V q) := zA_dig (by omega) w
        have x2 : zA 8 op 0 (V q) = zDi 8 op 0 (V q) := zA_dig (by omega) w
        have x3 : zDi 8 op 0 (V q) = some (8, op, 0 + 1) := by
          unfold zDi
          rw [if_pos w, if_pos (by omega)]
        rw [zRn_some (by omega) (x1.trans x3), zRn_some (by omega) (x2.trans x3)]
      rcases s_pnumL (op := op) (l := l) (od := od) (nu := nu) (pa := pa) (si := si) h (n - q) q N 0 (nI 0) (by omega) (by omega) (by omega) with ⟨f, a, y, c1, c2, c3⟩ | ⟨e, d, y, b1, b2, b3, b4, b5, b6⟩
      · exact Or.inl ⟨f, a, y, c1, c2, eL.trans (e2.trans c3)⟩
      · have hqe : q < e := by
          rcases Nat.lt_or_ge q e with g | g
          · exact g
          · have : e = q := by omega
            subst this
            exact absurd w (b3 (by omega))
        have s2 : zMv n bytes q 7 op l (nI 0) od (nI 0) nu pa si (q + 1) 8 op l (nI (0 + 1)) od (nI 0 * nI 10 + nI (V q) - nI 48) nu pa si := m_step h (by omega) (t_pdig (Or.inl rfl) w (by omega))
        have s3 : zMv n bytes q 8 op l (nI 0) od (nI 0) nu pa si (q + 1) 8 op l (nI (0 + 1)) od (nI 0 * nI 10 + nI (V q) - nI 48) nu pa si := m_step h (by omega) (t_pdig (Or.inr rfl) w (by omega))
        have mv : zMv n bytes q 7 op l (nI 0) od (nI 0) nu pa si e 8 op l (nI d) od y nu pa si := by
          intro K m
          have x2 := s2 K (m + (e - (q + 1)))
          have x3 := s3 K (m + (e - (q + 1)))
          rw [show m + (e - (q + 1)) + (q + 1 - q) = m + (e - q) by omega] at x2 x3
          rw [x2, ← x3]
          exact b6 K m
        exact Or.inr ⟨e, d, y, by omega, b2, b3, b4, eL.trans (e2.trans b5), mB.trans (by omega) (by omega) mv⟩
    · rw [decide_eq_false w, if_pos zl_f0, g_wrong, Option.bind_some]
      exact Or.inl ⟨q, _, _, rfl, a2, eL.trans (bad (fun _ => w))⟩
theorem s_J125 {N n p : Nat} {text : Nat → Int32} {asked open_ pm a : Int32} {b1 s1 : Bool} (e : fX11_look N (nI p) (nI n) text = some (-1, a)) : fX11_read_J125 N (nI n) text asked b1 open_ s1 (nI p) (-1) pm = some (b1, asked, a, zb s1, -1, open_, pm) := by
  unfold fX11_read_J125
  rw [g_fine, Option.bind_some, if_neg zl_t0, e, Option.bind_some]
  dsimp only
  rw [if_pos (show (-1 : Int32) = -1 from rfl)]
  cases b1 with
  | false => rw [if_pos zl_f0]
  | true => rw [if_neg zl_t0, Option.bind_some, if_neg zl_t0]
/-- the class's end of a text that stands -/
theorem m_end {N n l st op : Nat} {bytes : Nat → Int32} {di od pr di0 la0 op0 od0 pr0 sg0 : Int32} {nu pa si nu0 pa0 si0 : Nat → Int32} (hN : 10000 ≤ N) (hn : n ≤ 200) (hs : st = 6 ∨ st = 8 ∨ st = 9) (m : zMv n bytes 0 0 0 0 (nI 0) (-1) (nI 0) nu0 pa0 si0 n st op l di od pr nu pa si) : fX5_read N di0 la0 op0 od0 pr0 sg0 nu0 pa0 si0 (nI n) bytes = some (-1, di, nI l, nI op, od, pr, nI st, nu, pa, si) := by
  unfold fX5_read
  have e := m (fun (v2_32 : Int32) (t_laid_l32 : Int32) (t_stage_l32 : Int32) (t_open_l32 : Int32) (t_digits_l32 : Int32) (t_order_l32 : Int32) (t_prizes_l32 : Int32) (t_numbers_l32 : Nat → Int32) (t_parts_l32 : Nat → Int32) (t_signs_l32 : Nat → Int32) => (if t_stage_l32 = (nI 6) then some ((-1 : Int32), t_digits_l32, t_laid_l32, t_open_l32, t_order_l32, t_prizes_l32, t_stage_l32, t_numbers_l32, t_parts_l32, t_signs_l32) else (if t_stage_l32 = (nI 8) then some ((-1 : Int32), t_digits_l32, t_laid_l32, t_open_l32, t_order_l32, t_prizes_l32, t_stage_l32, t_numbers_l32, t_parts_l32, t_signs_l32) else (if t_stage_l32 = (nI 9) then some ((-1 : Int32), t_digits_l32, t_laid_l32, t_open_l32, t_order_l32, t_prizes_l32, t_stage_l32, t_numbers_l32, t_parts_l32, t_signs_l32) else ((fX7_size (nI n)).bind (fun r4 => some (r4, t_digits_l32, t_laid_l32, t_open_l32, t_order_l32, t_prizes_l32, t_stage_l32, t_numbers_l32, t_parts_l32, t_signs_l32))))))) (N - n)
  rw [Nat.sub_zero, show N - n + n = N by omega] at e
  refine Eq.trans e ?_
  rw [show N - n = (N - n - 1) + 1 by omega, fX5_read_L32]
  unfold fX7_size
  rw [Option.bind_some, if_pos (show nI n ≤ nI n by rw [zl_le (by omega) (by omega)]; exact Nat.le_refl _)]
  rcases hs with rfl | rfl | rfl
  · rw [if_pos (show nI 6 = nI 6 from rfl)]
  · rw [if_neg (show ¬ nI 8 = nI 6 by decide), if_pos (show nI 8 = nI 8 from rfl)]
  · rw [if_neg (show ¬ nI 9 = nI 6 by decide), if_neg (show ¬ nI 9 = nI 8 by decide), if_pos (show nI 9 = nI 9 from rfl)]
theorem zCh_end {n : Nat} {V : Nat → Nat} : zCh n V n = -1 := if_pos rfl
/-- a text without a fault: what both readers say of runner r -/
theorem s_read {N n R r : Nat} {V : Nat → Nat} {bytes text now facts : Nat → Int32} {as at_ by_ fa op pm : Int32} {nu0 pa0 si0 : Nat → Int32} (hN : 10000 ≤ N) (h : zVb n V bytes text) (hR : R ≤ 60) (hr : r < R) (hfa : ∀ k, k < 6 → fX11_of now (nI r) (nI k) = some (facts (6 * r + k))) (hgood : zRn n V 0 0 0 0 = none) :
    ∃ (b : Bool) (a1 o1 : Int32) (L st : Nat) (di pr : Int32) (v : Nat) (NU PA SI : Nat → Int32), (v = 110 ∨ v = 103) ∧ L ≤ 200 ∧ fX11_read N as at_ by_ fa (nI n) op pm now text (nI r) = some (b, nI r, a1, zb (decide (v = 103)), -1, o1, pr) ∧ fX5_holdsFor N (nI L) NU PA SI (nI R) facts (nI r) = some b ∧
      ∀ di0 la0 op0 od0 pr0 sg0, fX5_read N di0 la0 op0 od0 pr0 sg0 nu0 pa0 si0 (nI n) bytes = some (-1, di, nI L, nI 0, nI v, pr, nI st, NU, PA, SI) := by
  have hn := h.1
  unfold fX11_read
  rcases s_testsD hN h hR hr hfa 9 0 0 (by omega) (by omega) (by omega) with ⟨b, a, f, o, c1, c2, c3⟩ | ⟨b, e, c1, c2, c3, c4, c5, c6⟩
  · rw [hgood] at c3
    cases c3
  · obtain ⟨l', st', di', nu', pa', si', m0, hsb, _, hle, _, hT⟩ := c6 0 (nI 0) (-1) (nI 0) nu0 pa0 si0 (Nat.le_refl 0)
    obtain ⟨w4, w5, x1, _, x3⟩ := hT l' nu' pa' si' (Nat.le_refl l') (by omega) zAg.refl (nI 0) (nI 0)
    have hb0 : bt (nI 0) 0 = false := by decide
    have hb : zHv w4 w5 0 = b := by rw [x3 hb0, hb0, Bool.false_or]
    have hH := h_holds hN (show l' ≤ 200 by omega) x1 hb
    have hg : zRn n V e 4 0 0 = none := c4.symm.trans hgood
    obtain ⟨q, a1, a2, a3, a4, a5⟩ := g_look hN h c3
    have hqe : q = e := by
      rcases Nat.lt_or_ge e q with g | g
      · exact absurd (a3 e (Nat.le_refl e) g) ((c5 (by omega)).1)
      · omega
    subst hqe
    rw [c1, Option.bind_some]
    dsimp only
    unfold fX11_sign
    rw [g_fine, Option.bind_some, if_neg zl_t0, a5, Option.bind_some]
    dsimp only
    by_cases k59 : zCh n V q = nI 59
    case neg =>
      have e6 : zRn n V q 4 0 0 = some q := by
        rcases Nat.lt_or_ge q n with g | g
        · refine zRn_none g ?_
          have hne : ¬ V q = 59 := fun z => k59 ((zCh_eq h a2 (by omega)).mpr ⟨g, z⟩)
          obtain ⟨w1, w2, w3⟩ := c5 g
          unfold zA
          rw [if_neg w1]
          show zJo 0 (V q) = none
          unfold zJo
          rw [if_neg w2]
          by_cases w4 : V q = 41
          · rw [if_pos w4, if_pos rfl]
          · rw [if_neg w4, if_neg hne, if_neg w3]
        · obtain rfl : q = n := by omega
          rw [zRn_end, if_neg (by omega)]
      rw [e6] at hg
      cases hg
    obtain ⟨hqn, hVq⟩ := (zCh_eq h a2 (by omega)).mp k59
    have e2 : zRn n V q 4 0 0 = zRn n V (q + 1) 5 0 0 := zRn_some hqn (by
      unfold zA
      rw [if_neg (a4 hqn)]
      show zJo 0 (V q) = _
      unfold zJo
      rw [if_neg (by omega), if_neg (by omega), if_pos hVq, if_pos rfl])
    have m1 : zMv n bytes q st' 0 l' di' (-1) (nI 0) nu' pa' si' (q + 1) 5 0 l' di' (-1) (nI 0) nu' pa' si' := m_step h hqn (by
      rw [hVq]
      exact t_semi (zSb_ok hsb))
    obtain ⟨t, b1, b2, b3, b4, b5⟩ := g_look hN h (show q + 1 ≤ n by omega)
    have e3 : zRn n V (q + 1) 5 0 0 = zRn n V t 5 0 0 := zRn_look (by omega) (by omega) b1 b2 b3
    have m2 := m_blanks (op := 0) (l := l') (di := di') (od := -1) (pr := nI 0) (nu := nu') (pa := pa') (si := si') h (show 5 ≤ 9 by omega) (by omega) (by omega) (t - (q + 1)) (q + 1) (by omega) (fun i a b => b3 i a (by omega))
    rw [show q + 1 + (t - (q + 1)) = t by omega] at m2
    rw [if_pos k59, Option.bind_some, nI_add]
    dsimp only
    rw [g_fine, Option.bind_some, if_neg zl_t0, b5, Option.bind_some]
    dsimp only
    have hg5 : zRn n V t 5 0 0 = none := (e2.trans e3).symm.trans hg
    have order_ : ∀ v, (v = 110 ∨ v = 103) → zCh n V t = nI v → ∃ (b' : Bool) (a1 o1 : Int32) (L st : Nat) (di pr : Int32) (NU PA SI : Nat → Int32), L ≤ 200 ∧ fX11_read_J73 N (nI n) text (nI r) b (nI 0) (-1) (zCh n V t) (nI t) (nI 0) (nI 0) = some (b', nI r, a1, zb (decide (v = 103)), -1, o1, pr) ∧ fX5_holdsFor N (nI L) NU PA SI (nI R) facts (nI r) = some b' ∧ ∀ di0 la0 op0 od0 pr0 sg0, fX5_read N di0 la0 op0 od0 pr0 sg0 nu0 pa0 si0 (nI n) bytes = some (-1, di, nI L, nI 0, nI v, pr, nI st, NU, PA, SI) := by
      intro v hv ev
      obtain ⟨htn, hVt⟩ := (zCh_eq h b2 (by omega)).mp ev
      have e4 : zRn n V t 5 0 0 = zRn n V (t + 1) 6 0 0 := zRn_some htn (by
        unfold zA
        rw [if_neg (b4 htn)]
        show (if V t = 110 ∨ V t = 103 then some (6, 0, 0) else none) = _
        rw [if_pos (by omega)])
      have m3 : zMv n bytes t 5 0 l' di' (-1) (nI 0) nu' pa' si' (t + 1) 6 0 l' (nI 0) (nI v) (nI 0) nu' pa' si' := m_step h htn (by
        rw [hVt]
        exact t_order hv)
      have hg6 : zRn n V (t + 1) 6 0 0 = none := e4.symm.trans hg5
      have m03 : zMv n bytes 0 0 0 0 (nI 0) (-1) (nI 0) nu0 pa0 si0 (t + 1) 6 0 l' (nI 0) (nI v) (nI 0) nu' pa' si' := m0.trans (by omega) (by omega) (m1.trans (by omega) (by omega) (m2.trans (by omega) (by omega) m3))
      obtain ⟨u, d1, d2, d3, d4, d5⟩ := g_look hN h (show t + 1 ≤ n by omega)
      have e5 : zRn n V (t + 1) 6 0 0 = zRn n V u 6 0 0 := zRn_look (by omega) (by omega) d1 d2 d3
      have m4 := m_blanks (op := 0) (l := l') (di := nI 0) (od := nI v) (pr := nI 0) (nu := nu') (pa := pa') (si := si') h (show 6 ≤ 9 by omega) (by omega) (by omega) (u - (t + 1)) (t + 1) (by omega) (fun i a b => d3 i a (by omega))
      rw [show t + 1 + (u - (t + 1)) = u by omega] at m4
      have j85 : ∃ (b' : Bool) (a1 o1 : Int32) (L st : Nat) (di pr : Int32) (NU PA SI : Nat → Int32), L ≤ 200 ∧ fX11_read_J85 N (nI n) text (nI r) b (nI 0) (-1) (nI t) (nI 0) (decide (v = 103)) = some (b', nI r, a1, zb (decide (v = 103)), -1, o1, pr) ∧ fX5_holdsFor N (nI L) NU PA SI (nI R) facts (nI r) = some b' ∧ ∀ di0 la0 op0 od0 pr0 sg0, fX5_read N di0 la0 op0 od0 pr0 sg0 nu0 pa0 si0 (nI n) bytes = some (-1, di, nI L, nI 0, nI v, pr, nI st, NU, PA, SI) := by
        unfold fX11_read_J85
        rw [nI_add, d5, Option.bind_some]
        dsimp only
        by_cases k : zCh n V u = nI 59
        · obtain ⟨hun, hVu⟩ := (zCh_eq h d2 (by omega)).mp k
          have e6 : zRn n V u 6 0 0 = zRn n V (u + 1) 7 0 0 := zRn_some hun (by
            unfold zA
            rw [if_neg (d4 hun)]
            show (if V u = 59 then some (7, 0, 0) else none) = _
            rw [if_pos hVu])
          have m5 : zMv n bytes u 6 0 l' (nI 0) (nI v) (nI 0) nu' pa' si' (u + 1) 7 0 l' (nI 0) (nI v) (nI 0) nu' pa' si' := m_step h hun (by
            rw [hVu]
            exact t_semi2)
          have hg7 : zRn n V (u + 1) 7 0 0 = none := (e5.trans e6).symm.trans hg6
          rw [if_pos k, nI_add]
          rcases s_pnum (op := 0) (l := l') (od := nI v) (nu := nu') (pa := pa') (si := si') hN h (show u + 1 ≤ n by omega) with ⟨f, a, y, f1, f2, f3⟩ | ⟨e', d, y, f1, f2, f3, f4, f5, f6⟩
          · rw [hg7] at f3
            cases f3
          · have hg8 : zRn n V e' 8 0 d = none := f5.symm.trans hg7
            obtain ⟨x, i1, i2, i3, i4, i5⟩ := g_look hN h f2
            have hxn : x = n := by
              rcases Nat.lt_or_ge x n with g | g
              · exfalso
                have hx : zRn n V e' 8 0 d = some x := by
                  rw [zRn_8 f2 f3, zRn_look (by omega) (by omega) i1 i2 i3]
                  refine zRn_none g ?_
                  unfold zA
                  rw [if_neg (i4 g)]
                  rfl
                rw [hx] at hg8
                cases hg8
              · omega
            subst hxn
            rw [zCh_end] at i5
            have m7 : ∃ st, (st = 6 ∨ st = 8 ∨ st = 9) ∧ zMv x bytes e' 8 0 l' (nI d) (nI v) y nu' pa' si' x st 0 l' (nI d) (nI v) y nu' pa' si' := by
              rcases Nat.lt_or_ge e' x with g | g
              · have s1 : zMv x bytes e' 8 0 l' (nI d) (nI v) y nu' pa' si' (e' + 1) 9 0 l' (nI d) (nI v) y nu' pa' si' := m_step h g (by
                  rw [i3 e' (Nat.le_refl e') g]
                  exact t_blank8)
                have s2 := m_blanks (op := 0) (l := l') (di := nI d) (od := nI v) (pr := y) (nu := nu') (pa := pa') (si := si') h (show 9 ≤ 9 by omega) (by omega) (by omega) (x - (e' + 1)) (e' + 1) (by omega) (fun i a b => i3 i (by omega) (by omega))
                rw [show e' + 1 + (x - (e' + 1)) = x by omega] at s2
                exact ⟨9, by omega, s1.trans (by omega) (by omega) s2⟩
              · obtain rfl : e' = x := by omega
                exact ⟨8, by omega, zMv.refl⟩
            obtain ⟨st, hst, m7⟩ := m7
            rw [f4, Option.bind_some]
            dsimp only
            rw [s_J125 i5]
            refine ⟨b, _, _, l', st, nI d, y, nu', pa', si', by omega, rfl, hH, fun di0 la0 op0 od0 pr0 sg0 => ?_⟩
            exact m_end hN hn hst (m03.trans (by omega) (by omega) (m4.trans (by omega) (by omega) (m5.trans (by omega) (by omega) (f6.trans (by omega) (by omega) m7))))
        · have hun : u = n := by
            rcases Nat.lt_or_ge u n with g | g
            · exfalso
              have hx : zRn n V u 6 0 0 = some u := by
                refine zRn_none g ?_
                unfold zA
                rw [if_neg (d4 g)]
                show (if V u = 59 then some (7, 0, 0) else none) = none
                rw [if_neg (fun z => k ((zCh_eq h d2 (by omega)).mpr ⟨g, z⟩))]
              rw [e5.trans hx] at hg6
              cases hg6
            · omega
          subst hun
          rw [if_neg k]
          have i5 : fX11_look N (nI u) (nI u) text = some (-1, nI u) := by
            obtain ⟨x, i1, i2, i3, i4, i5⟩ := g_look hN h (Nat.le_refl u)
            have hxu : x = u := by omega
            subst hxu
            rw [zCh_end] at i5
            exact i5
          rw [s_J125 i5]
          refine ⟨b, _, _, l', 6, nI 0, nI 0, nu', pa', si', by omega, rfl, hH, fun di0 la0 op0 od0 pr0 sg0 => ?_⟩
          exact m_end hN hn (Or.inl rfl) (m03.trans (by omega) (by omega) m4)
      unfold fX11_read_J73
      rw [ev]
      rcases hv with rfl | rfl
      · rw [if_neg (show ¬ nI 110 = nI 103 by decide)]
        exact j85
      · rw [if_pos (show nI 103 = nI 103 from rfl)]
        exact j85
    by_cases k1 : zCh n V t = nI 110
    · rw [if_pos k1]
      obtain ⟨b', a1', o1, L, st, di, pr, NU, PA, SI, z1, z2, z3, z4⟩ := order_ 110 (Or.inl rfl) k1
      exact ⟨b', a1', o1, L, st, di, pr, 110, NU, PA, SI, Or.inl rfl, z1, z2, z3, z4⟩
    rw [if_neg k1]
    by_cases k2 : zCh n V t = nI 103
    · rw [if_pos k2]
      obtain ⟨b', a1', o1, L, st, di, pr, NU, PA, SI, z1, z2, z3, z4⟩ := order_ 103 (Or.inr rfl) k2
      exact ⟨b', a1', o1, L, st, di, pr, 103, NU, PA, SI, Or.inr rfl, z1, z2, z3, z4⟩
    have e6 : zRn n V t 5 0 0 = some t := by
      rcases Nat.lt_or_ge t n with g | g
      · refine zRn_none g ?_
        unfold zA
        rw [if_neg (b4 g)]
        show (if V t = 110 ∨ V t = 103 then some (6, 0, 0) else none) = none
        refine if_neg (fun z => ?_)
        rcases z with z | z
        · exact k1 ((zCh_eq h b2 (by omega)).mpr ⟨g, z⟩)
        · exact k2 ((zCh_eq h b2 (by omega)).mpr ⟨g, z⟩)
      · obtain rfl : t = n := by omega
        rw [zRn_end, if_neg (by omega)]
    rw [e6] at hg5
    cases hg5
