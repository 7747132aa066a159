/-! lists: the class's counts -/
theorem zSq_ext {tm : Nat → Int32} {i c : Nat} {s : Nat → Nat} (h : zSq tm i c s) : ∀ d, (∀ r, i ≤ r → r < i + d → tm r = -1) → zSq tm (i + d) c s
  | 0, _ => h
  | d + 1, hd => zSq_skip (zSq_ext h d (fun r a b => hd r a (by omega))) (hd (i + d) (by omega) (by omega))
theorem c_howL {t : Nat → Int32} {x : Int32} : ∀ (d v n c : Nat), v + d = 60 → d + 1 ≤ n → c = zcb (fun r => zls t r && decide (t r < x)) v → fX3_howManyBelow_L4 t x (fun (v2_4 : Int32) (v3_4 : Int32) => some (v2_4)) n (nI c) (nI v) = some (nI (zcb (fun r => zls t r && decide (t r < x)) 60)) := by
  intro d
  induction d with
  | zero =>
    intro v n c h1 h2 h3
    obtain rfl : v = 60 := by omega
    cases n with
    | zero => omega
    | succ n => rw [fX3_howManyBelow_L4, if_pos (show nI 60 ≤ nI 60 by rw [zl_le (by omega) (by omega)]; exact Nat.le_refl _), h3]
  | succ d ih =>
    intro v n c h1 h2 h3
    cases n with
    | zero => omega
    | succ n =>
      have z : zin (nI v) 60 := zin_k (by omega) (by omega)
      rw [fX3_howManyBelow_L4, if_neg (show ¬ nI 60 ≤ nI v by rw [zl_le (by omega) (by omega)]; omega), if_pos z, if_pos z, zl_c (show v < 2 ^ 31 by omega), nI_add, nI_add]
      by_cases a : t v = -1
      · rw [if_pos a]
        refine ih (v + 1) n c (by omega) (by omega) (h3.trans (zcb_f ?_).symm)
        show ¬ (zls t v && decide (t v < x)) = true
        unfold zls
        rw [decide_eq_false (fun q => q a), Bool.false_and]
        decide
      · rw [if_neg a]
        by_cases b : x ≤ t v
        · rw [if_pos b]
          refine ih (v + 1) n c (by omega) (by omega) (h3.trans (zcb_f ?_).symm)
          show ¬ (zls t v && decide (t v < x)) = true
          have hb : ¬ t v < x := fun q => by
            have h1 := zq_le b
            have h2 := zq_lt q
            omega
          rw [decide_eq_false hb, Bool.and_false]
          decide
        · rw [if_neg b]
          have hb : t v < x := Int32.lt_iff_toInt_lt.mpr (zq_nle b)
          refine ih (v + 1) n (c + 1) (by omega) (by omega) ?_
          rw [h3]
          refine (zcb_t ?_).symm
          show (zls t v && decide (t v < x)) = true
          unfold zls
          rw [decide_eq_true a, decide_eq_true hb]; rfl
theorem c_how {N : Nat} {t : Nat → Int32} {x : Int32} (hN : 10000 ≤ N) : fX3_howManyBelow N t x = some (nI (zcb (fun r => zls t r && decide (t r < x)) 60)) := by
  unfold fX3_howManyBelow
  exact c_howL 60 0 N 0 (by omega) (by omega) rfl
theorem c_timeIn {t : Nat → Int32} {r : Nat} (hr : r < 60) : fX3_timeIn t (nI r) = some (t r) := by
  unfold fX3_timeIn
  rw [zw_n (by omega) (by omega) (by omega), Option.bind_some, decide_eq_true (show 0 ≤ r ∧ r ≤ 59 by omega), if_neg zl_t0, if_pos (zin_k hr (by omega)), zl_c (by omega)]
theorem c_idxL {t : Nat → Int32} {r : Nat} {x : Int32} (hr : r < 60) : ∀ (d v n c0 : Nat), v + d = r → d + 1 ≤ n → fX3_indexOf_L15 t (nI r) x (fun (v3_15 : Int32) (v4_15 : Int32) => some (v3_15)) n (nI (c0 + zcb (fun j => decide (t j = x)) v)) (nI v) = some (nI (c0 + zcb (fun j => decide (t j = x)) r)) := by
  intro d
  induction d with
  | zero =>
    intro v n c0 h1 h2
    obtain rfl : v = r := by omega
    cases n with
    | zero => omega
    | succ n => rw [fX3_indexOf_L15, if_pos (show nI v ≤ nI v by rw [zl_le (by omega) (by omega)]; exact Nat.le_refl _)]
  | succ d ih =>
    intro v n c0 h1 h2
    cases n with
    | zero => omega
    | succ n =>
      have e := ih (v + 1) n c0 (by omega) (by omega)
      rw [fX3_indexOf_L15, if_neg (show ¬ nI r ≤ nI v by rw [zl_le (by omega) (by omega)]; omega), c_timeIn (by omega), Option.bind_some, nI_add, nI_add]
      by_cases a : t v = x
      · rw [if_pos a]
        rw [zcb_t (show decide (t v = x) = true from decide_eq_true a)] at e
        rw [show c0 + zcb (fun j => decide (t j = x)) v + 1 = c0 + (zcb (fun j => decide (t j = x)) v + 1) by omega]
        exact e
      · rw [if_neg a]
        rw [zcb_f (show ¬ decide (t v = x) = true by rw [decide_eq_false a]; decide)] at e
        exact e
/-- a listed runner's index is its place -/
theorem c_idx {N c k : Nat} {t : Nat → Int32} {s : Nat → Nat} (hN : 10000 ≤ N) (h : zSq t 60 c s) (hk : k < c) : fX3_indexOf N t (nI (s k)) = some (nI k) := by
  obtain ⟨hs, hl⟩ := h.1 k hk
  unfold fX3_indexOf
  rw [c_timeIn hs, Option.bind_some, c_how hN, Option.bind_some]
  have e0 := c_idxL (t := t) (x := t (s k)) hs (s k) 0 N (zcb (fun r => zls t r && decide (t r < t (s k))) 60) (by omega) (by omega)
  rw [show zcb (fun j => decide (t j = t (s k))) 0 = 0 from rfl, Nat.add_zero] at e0
  rw [e0]
  have e1 : zcb (fun j => decide (t j = t (s k))) (s k) = zcb (fun r => zls t r && (decide (t r = t (s k)) && decide (r < s k))) 60 := by
    have e2 := zcb_congr (d := fun j => decide (t j = t (s k))) (d' := fun r => zls t r && (decide (t r = t (s k)) && decide (r < s k))) (s k) (fun j hj => by
      show decide (t j = t (s k)) = (zls t j && (decide (t j = t (s k)) && decide (j < s k)))
      by_cases a : t j = t (s k)
      · unfold zls
        rw [decide_eq_true a, decide_eq_true hj, decide_eq_true (show ¬ t j = -1 by rw [a]; exact hl)]; rfl
      · rw [decide_eq_false a, Bool.false_and, Bool.and_false])
    have e3 := zcb_flat (d := fun r => zls t r && (decide (t r = t (s k)) && decide (r < s k))) (a := s k) (60 - s k) (fun j a b => by
      show (zls t j && (decide (t j = t (s k)) && decide (j < s k))) = false
      rw [decide_eq_false (show ¬ j < s k by omega), Bool.and_false, Bool.and_false])
    rw [show s k + (60 - s k) = 60 by omega] at e3
    rw [e2, e3]
  have e4 : zcb (fun r => zls t r && decide (t r < t (s k))) 60 + zcb (fun r => zls t r && (decide (t r = t (s k)) && decide (r < s k))) 60 = zcb (fun r => zls t r && (decide (t r < t (s k)) || (decide (t r = t (s k)) && decide (r < s k)))) 60 := zcb_add 60 (fun j hj => by
    constructor
    · show (zls t j && (decide (t j < t (s k)) || (decide (t j = t (s k)) && decide (j < s k)))) = ((zls t j && decide (t j < t (s k))) || (zls t j && (decide (t j = t (s k)) && decide (j < s k))))
      cases zls t j <;> rfl
    · show ((zls t j && decide (t j < t (s k))) && (zls t j && (decide (t j = t (s k)) && decide (j < s k)))) = false
      by_cases a : t j < t (s k)
      · have b : ¬ t j = t (s k) := fun q => by
          have h1 := zq_lt a
          rw [q] at h1
          omega
        rw [decide_eq_false b, Bool.false_and, Bool.and_false, Bool.and_false]
      · rw [decide_eq_false a, Bool.and_false, Bool.false_and])
  rw [e1, e4]
  refine congrArg (fun x => some (nI x)) (zSq_rank h hk _ (fun r => ?_))
  constructor
  · intro q
    by_cases a : t r < t (s k)
    · exact Or.inl a
    · rw [decide_eq_false a, Bool.false_or] at q
      have q2 := Bool.and_eq_true_iff.mp q
      exact Or.inr ⟨of_decide_eq_true q2.1, of_decide_eq_true q2.2⟩
  · intro q
    rcases q with a | ⟨a, b⟩
    · rw [decide_eq_true a, Bool.true_or]
    · rw [decide_eq_true a, decide_eq_true b, Bool.and_self, Bool.or_true]
