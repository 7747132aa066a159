/-! lists: the class's tests of one runner, token by token -/
theorem b_mk : ∀ k, k < 10 → ∀ j, j < 32 → bt (nI (2 ^ k)) j = decide (j = k) := by decide +kernel
theorem b_up : ∀ k, k < 9 → nI (2 ^ k) <<< (nI 1 &&& 31) = nI (2 ^ (k + 1)) := by decide +kernel
theorem b_dn : ∀ k, k < 9 → nI (2 ^ (k + 1)) >>> (nI 1 &&& 31) = nI (2 ^ k) := by decide +kernel
theorem b_not {x : Int32} {j : Nat} (hj : j < 32) : bt (x ^^^ (-1)) j = !bt x j := by
  rw [b_xor, b_m1 j hj]
  cases bt x j <;> rfl
/-- what a depth's two bits say: a part that holds stands, or the part that is read hasn't failed -/
def zHv (v4 v5 : Int32) (k : Nat) : Bool := bt v5 k || !bt v4 k
theorem b_val {v4 v5 : Int32} {k : Nat} (hk : k < 10) : (nI (2 ^ k) &&& (v5 ||| (v4 ^^^ (-1))) = 0) ↔ zHv v4 v5 k = false := by
  have e : ∀ j, j < 32 → bt (nI (2 ^ k) &&& (v5 ||| (v4 ^^^ (-1)))) j = (decide (j = k) && (bt v5 j || !bt v4 j)) := fun j hj => by
    rw [b_and, b_mk k hk j hj, b_or, b_not hj]
  constructor
  · intro h
    have h1 := e k (by omega)
    rw [h, b_0, decide_eq_true rfl, Bool.true_and] at h1
    exact h1.symm
  · intro h
    refine b_ext (fun j hj => ?_)
    rw [e j hj, b_0]
    by_cases q : j = k
    · subst q
      unfold zHv at h
      rw [h, Bool.and_false]
    · rw [decide_eq_false q, Bool.false_and]
/-- the fold over the tokens goes from one place and state to another -/
def zEf (L R r : Nat) (nu pa si facts : Nat → Int32) (k i : Nat) (v4 v5 : Int32) (k' i' : Nat) (v4' v5' : Int32) : Prop :=
  ∀ (K : Int32 → Int32 → Int32 → Int32 → Option Bool) (m : Nat), fX5_holdsFor_L11 (nI L) nu pa si (nI R) facts (nI r) K (m + (i' - i)) (nI (2 ^ k)) v4 v5 (nI i) = fX5_holdsFor_L11 (nI L) nu pa si (nI R) facts (nI r) K m (nI (2 ^ k')) v4' v5' (nI i')
theorem zEf.refl {L R r : Nat} {nu pa si facts : Nat → Int32} {k i : Nat} {v4 v5 : Int32} : zEf L R r nu pa si facts k i v4 v5 k i v4 v5 := by
  intro K m
  rw [Nat.sub_self]; rfl
theorem zEf.trans {L R r : Nat} {nu pa si facts : Nat → Int32} {k i k1 i1 k2 i2 : Nat} {v4 v5 w4 w5 x4 x5 : Int32} (h1 : i ≤ i1) (h2 : i1 ≤ i2) (a : zEf L R r nu pa si facts k i v4 v5 k1 i1 w4 w5) (b : zEf L R r nu pa si facts k1 i1 w4 w5 k2 i2 x4 x5) : zEf L R r nu pa si facts k i v4 v5 k2 i2 x4 x5 := by
  intro K m
  have e1 := a K (m + (i2 - i1))
  rw [show m + (i2 - i1) + (i1 - i) = m + (i2 - i) by omega] at e1
  rw [e1, b K m]
theorem h_open {L R r k i : Nat} {nu pa si facts : Nat → Int32} {v4 v5 : Int32} (hL : L ≤ 200) (hi : i < L) (hk : k < 9) (hp : pa i = nI 40) : ∃ w4 w5, zEf L R r nu pa si facts k i v4 v5 (k + 1) (i + 1) w4 w5 ∧ (∀ j, j < 32 → bt w4 j = (bt v4 j && !decide (j = k + 1))) ∧ ∀ j, j < 32 → bt w5 j = (bt v5 j && !decide (j = k + 1)) := by
  refine ⟨v4 &&& (nI (2 ^ (k + 1)) ^^^ (-1)), v5 &&& (nI (2 ^ (k + 1)) ^^^ (-1)), fun K m => ?_, fun j hj => ?_, fun j hj => ?_⟩
  · rw [show m + (i + 1 - i) = m + 1 by omega, fX5_holdsFor_L11, if_neg (show ¬ nI L ≤ nI i by rw [zl_le (by omega) (by omega)]; omega), if_neg (show ¬ nI 200 ≤ nI i by rw [zl_le (by omega) (by omega)]; omega), if_pos (zin_k (by omega) (by omega)), if_pos (show pa (nI i).toNatClampNeg = nI 40 by rw [zl_c (show i < 2 ^ 31 by omega)]; exact hp), b_up k hk, nI_add]
  · rw [b_and, b_not hj, b_mk (k + 1) (by omega) j hj]
  · rw [b_and, b_not hj, b_mk (k + 1) (by omega) j hj]
theorem h_or {L R r k i : Nat} {nu pa si facts : Nat → Int32} {v4 v5 : Int32} (hL : L ≤ 200) (hi : i < L) (hk : k < 10) (hp : pa i = nI 124) : ∃ w4 w5, zEf L R r nu pa si facts k i v4 v5 k (i + 1) w4 w5 ∧ (∀ j, j < 32 → bt w4 j = (bt v4 j && !decide (j = k))) ∧ ∀ j, j < 32 → bt w5 j = (bt v5 j || (decide (j = k) && !bt v4 j)) := by
  have z : zin (nI i) 200 := zin_k (by omega) (by omega)
  refine ⟨v4 &&& (nI (2 ^ k) ^^^ (-1)), v5 ||| (nI (2 ^ k) &&& (v4 ^^^ (-1))), fun K m => ?_, fun j hj => ?_, fun j hj => ?_⟩
  · have n40 : ¬ pa i = nI 40 := by rw [hp]; decide
    rw [show m + (i + 1 - i) = m + 1 by omega, fX5_holdsFor_L11, if_neg (show ¬ nI L ≤ nI i by rw [zl_le (by omega) (by omega)]; omega), if_neg (show ¬ nI 200 ≤ nI i by rw [zl_le (by omega) (by omega)]; omega), if_pos z, if_pos z, if_pos z, zl_c (show i < 2 ^ 31 by omega), if_neg n40, if_pos hp, nI_add]
  · rw [b_and, b_not hj, b_mk k hk j hj]
  · rw [b_or, b_and, b_not hj, b_mk k hk j hj]
theorem h_close {L R r k i : Nat} {nu pa si facts : Nat → Int32} {v4 v5 : Int32} (hL : L ≤ 200) (hi : i < L) (hk : k < 9) (hp : pa i = nI 41) : ∃ w4, zEf L R r nu pa si facts (k + 1) i v4 v5 k (i + 1) w4 v5 ∧ ∀ j, j < 32 → bt w4 j = (bt v4 j || (decide (j = k) && !zHv v4 v5 (k + 1))) := by
  have z : zin (nI i) 200 := zin_k (by omega) (by omega)
  have n40 : ¬ pa i = nI 40 := by rw [hp]; decide
  have n124 : ¬ pa i = nI 124 := by rw [hp]; decide
  have go : ∀ (K : Int32 → Int32 → Int32 → Int32 → Option Bool) (m : Nat), fX5_holdsFor_L11 (nI L) nu pa si (nI R) facts (nI r) K (m + (i + 1 - i)) (nI (2 ^ (k + 1))) v4 v5 (nI i) = if (nI (2 ^ (k + 1)) &&& (v5 ||| (v4 ^^^ (-1)))) = 0 then fX5_holdsFor_L11 (nI L) nu pa si (nI R) facts (nI r) K m (nI (2 ^ k)) (v4 ||| nI (2 ^ k)) v5 (nI (i + 1)) else fX5_holdsFor_L11 (nI L) nu pa si (nI R) facts (nI r) K m (nI (2 ^ k)) (v4 ||| nI 0) v5 (nI (i + 1)) := by
    intro K m
    rw [show m + (i + 1 - i) = m + 1 by omega, fX5_holdsFor_L11, if_neg (show ¬ nI L ≤ nI i by rw [zl_le (by omega) (by omega)]; omega), if_neg (show ¬ nI 200 ≤ nI i by rw [zl_le (by omega) (by omega)]; omega), if_pos z, if_pos z, if_pos z, zl_c (show i < 2 ^ 31 by omega), if_neg n40, if_neg n124, if_pos hp, b_dn k hk, nI_add]
  by_cases q : (nI (2 ^ (k + 1)) &&& (v5 ||| (v4 ^^^ (-1)))) = 0
  · have hv := (b_val (show k + 1 < 10 by omega)).mp q
    refine ⟨v4 ||| nI (2 ^ k), fun K m => by rw [go K m, if_pos q], fun j hj => ?_⟩
    rw [b_or, b_mk k (by omega) j hj, hv, Bool.not_false, Bool.and_true]
  · have hv : zHv v4 v5 (k + 1) = true := by
      cases hz : zHv v4 v5 (k + 1) with
      | true => rfl
      | false => exact absurd ((b_val (show k + 1 < 10 by omega)).mpr hz) q
    refine ⟨v4 ||| nI 0, fun K m => by rw [go K m, if_neg q], fun j hj => ?_⟩
    rw [b_or, p_zero, b_0, hv, Bool.not_true, Bool.and_false]
/-- what one test says of a runner -/
def zUn (facts : Nat → Int32) (r w : Nat) (sg num : Int32) : Bool := if sg = nI 60 then !decide (num ≤ facts (6 * r + w)) else if sg = nI 62 then !decide (facts (6 * r + w) ≤ num) else decide (facts (6 * r + w) = num)
theorem h_uh {R r w i : Nat} {nu pa si facts : Nat → Int32} (hR : R ≤ 60) (hr : r < R) (hi : i < 200) (hw : w < 6) (hp : fX5_factNamed (pa i) = some (nI w)) : fX5_unitHolds nu pa si (nI R) facts (nI r) (nI i) = some (zUn facts r w (si i) (nu i)) := by
  have z : zin (nI i) 200 := zin_k hi (by omega)
  unfold fX5_unitHolds zUn
  rw [zw_n (by omega) (by omega) (by omega), Option.bind_some, decide_eq_true (show 0 ≤ i ∧ i ≤ 199 by omega), if_neg zl_t0, if_pos z]
  simp only [zl_c (show i < 2 ^ 31 by omega)]
  rw [hp, Option.bind_some, c_factOf hR hr hw, Option.bind_some, if_pos z, if_pos z, if_pos z, if_pos z]
  by_cases a : si i = nI 60
  · rw [if_pos a, if_pos a]
    by_cases b : nu i ≤ facts (6 * r + w)
    · rw [if_pos b, decide_eq_true b]; rfl
    · rw [if_neg b, decide_eq_false b]; rfl
  · rw [if_neg a, if_neg a]
    by_cases a2 : si i = nI 62
    · rw [if_pos a2, if_pos a2]
      by_cases b : facts (6 * r + w) ≤ nu i
      · rw [if_pos b, decide_eq_true b]; rfl
      · rw [if_neg b, decide_eq_false b]; rfl
    · rw [if_neg a2, if_neg a2]
      by_cases b : facts (6 * r + w) = nu i
      · rw [if_pos b, decide_eq_true b]
      · rw [if_neg b, decide_eq_false b]
theorem h_unit {L R r k i w : Nat} {nu pa si facts : Nat → Int32} {v4 v5 : Int32} (hL : L ≤ 200) (hR : R ≤ 60) (hr : r < R) (hi : i < L) (hk : k < 10) (hw : w < 6) (hp : fX5_factNamed (pa i) = some (nI w)) (n40 : ¬ pa i = nI 40) (n124 : ¬ pa i = nI 124) (n41 : ¬ pa i = nI 41) : ∃ w4, zEf L R r nu pa si facts k i v4 v5 k (i + 1) w4 v5 ∧ ∀ j, j < 32 → bt w4 j = (bt v4 j || (decide (j = k) && !zUn facts r w (si i) (nu i))) := by
  have z : zin (nI i) 200 := zin_k (by omega) (by omega)
  have go : ∀ (K : Int32 → Int32 → Int32 → Int32 → Option Bool) (m : Nat), fX5_holdsFor_L11 (nI L) nu pa si (nI R) facts (nI r) K (m + (i + 1 - i)) (nI (2 ^ k)) v4 v5 (nI i) = if (zb (zUn facts r w (si i) (nu i))) = 0 then fX5_holdsFor_L11 (nI L) nu pa si (nI R) facts (nI r) K m (nI (2 ^ k)) (v4 ||| nI (2 ^ k)) v5 (nI (i + 1)) else fX5_holdsFor_L11 (nI L) nu pa si (nI R) facts (nI r) K m (nI (2 ^ k)) v4 v5 (nI (i + 1)) := by
    intro K m
    rw [show m + (i + 1 - i) = m + 1 by omega, fX5_holdsFor_L11, if_neg (show ¬ nI L ≤ nI i by rw [zl_le (by omega) (by omega)]; omega), if_neg (show ¬ nI 200 ≤ nI i by rw [zl_le (by omega) (by omega)]; omega), if_pos z, if_pos z, if_pos z, zl_c (show i < 2 ^ 31 by omega), if_neg n40, if_neg n124, if_neg n41, h_uh hR hr (by omega) hw hp, Option.bind_some, nI_add]
  cases hu : zUn facts r w (si i) (nu i) with
  | false =>
    refine ⟨v4 ||| nI (2 ^ k), fun K m => by rw [go K m, hu, if_pos zl_f0], fun j hj => ?_⟩
    rw [b_or, b_mk k hk j hj, Bool.not_false, Bool.and_true]
  | true =>
    refine ⟨v4, fun K m => by rw [go K m, hu, if_neg zl_t0], fun j hj => ?_⟩
    rw [Bool.not_true, Bool.and_false, Bool.or_false]
